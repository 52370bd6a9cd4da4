section
-- ===== PART A: goes FIRST, ahead of the names: the tables' words, and 'selects' of the private methods out of them =====
/-- a private method of a class that the tables say can be made, by its rows of tables_1 -/
def lw_okq (q : MethodName × Nat) : Prop := (q.1.cls ≠ "java/lang/invoke/MethodHandle" ∧ q.1.cls ≠ "java/lang/invoke/VarHandle") ∧ Cond.instantiable q.1.cls q.2 ∈ tables_1 ∧ Cond.privateMethod q.1 ∈ tables_1 ∧ Cond.instanceMethod q.1 ∈ tables_1
theorem lw_p0 : lw_okq (⟨"java/lang/Throwable", "fillInStackTrace", "(I)Ljava/lang/Throwable;"⟩, 6) := ⟨⟨by decide +kernel, by decide +kernel⟩, List.mem_of_getElem? (i := 423) (by decide +kernel), List.mem_of_getElem? (i := 421) (by decide +kernel), List.mem_of_getElem? (i := 422) (by decide +kernel)⟩
theorem lw_p1 : lw_okq (⟨"CacheRules", "perform", "(IIZ)I"⟩, 12) := ⟨⟨by decide +kernel, by decide +kernel⟩, List.mem_of_getElem? (i := 24) (by decide +kernel), List.mem_of_getElem? (i := 453) (by decide +kernel), List.mem_of_getElem? (i := 454) (by decide +kernel)⟩
theorem lw_p2 : lw_okq (⟨"CacheRules", "reach", "(IIZ)I"⟩, 12) := ⟨⟨by decide +kernel, by decide +kernel⟩, List.mem_of_getElem? (i := 24) (by decide +kernel), List.mem_of_getElem? (i := 462) (by decide +kernel), List.mem_of_getElem? (i := 463) (by decide +kernel)⟩
theorem lw_p3 : lw_okq (⟨"CacheRules", "useWay", "(III)I"⟩, 12) := ⟨⟨by decide +kernel, by decide +kernel⟩, List.mem_of_getElem? (i := 24) (by decide +kernel), List.mem_of_getElem? (i := 467) (by decide +kernel), List.mem_of_getElem? (i := 468) (by decide +kernel)⟩
theorem lw_p4 : lw_okq (⟨"CacheRules$LatelyRule", "setMark", "(II)V"⟩, 2) := ⟨⟨by decide +kernel, by decide +kernel⟩, List.mem_of_getElem? (i := 162) (by decide +kernel), List.mem_of_getElem? (i := 483) (by decide +kernel), List.mem_of_getElem? (i := 484) (by decide +kernel)⟩
theorem lw_p5 : lw_okq (⟨"CacheRules$TreeRule", "pointAway", "(II)V"⟩, 3) := ⟨⟨by decide +kernel, by decide +kernel⟩, List.mem_of_getElem? (i := 148) (by decide +kernel), List.mem_of_getElem? (i := 496) (by decide +kernel), List.mem_of_getElem? (i := 497) (by decide +kernel)⟩
theorem lw_p6 : lw_okq (⟨"CacheRules", "recall", "(II)I"⟩, 12) := ⟨⟨by decide +kernel, by decide +kernel⟩, List.mem_of_getElem? (i := 24) (by decide +kernel), List.mem_of_getElem? (i := 500) (by decide +kernel), List.mem_of_getElem? (i := 501) (by decide +kernel)⟩
theorem lw_p7 : lw_okq (⟨"CacheRules", "place", "(III)V"⟩, 12) := ⟨⟨by decide +kernel, by decide +kernel⟩, List.mem_of_getElem? (i := 24) (by decide +kernel), List.mem_of_getElem? (i := 508) (by decide +kernel), List.mem_of_getElem? (i := 509) (by decide +kernel)⟩
theorem lw_p8 : lw_okq (⟨"CacheRules$RoundRule", "wayFromHand", "(II)I"⟩, 3) := ⟨⟨by decide +kernel, by decide +kernel⟩, List.mem_of_getElem? (i := 134) (by decide +kernel), List.mem_of_getElem? (i := 532) (by decide +kernel), List.mem_of_getElem? (i := 533) (by decide +kernel)⟩
theorem lw_p9 : lw_okq (⟨"CacheRules$TimeRule", "goesSooner", "(II)Z"⟩, 7) := ⟨⟨by decide +kernel, by decide +kernel⟩, List.mem_of_getElem? (i := 184) (by decide +kernel), List.mem_of_getElem? (i := 539) (by decide +kernel), List.mem_of_getElem? (i := 540) (by decide +kernel)⟩
theorem lw_p10 : lw_okq (⟨"CacheRules", "putOut", "(I)V"⟩, 12) := ⟨⟨by decide +kernel, by decide +kernel⟩, List.mem_of_getElem? (i := 24) (by decide +kernel), List.mem_of_getElem? (i := 569) (by decide +kernel), List.mem_of_getElem? (i := 570) (by decide +kernel)⟩
theorem lw_p11 : lw_okq (⟨"CacheRules", "writePart", "(II)V"⟩, 12) := ⟨⟨by decide +kernel, by decide +kernel⟩, List.mem_of_getElem? (i := 24) (by decide +kernel), List.mem_of_getElem? (i := 602) (by decide +kernel), List.mem_of_getElem? (i := 603) (by decide +kernel)⟩
theorem lw_p12 : lw_okq (⟨"CacheRulesModel", "accessOf", "(IIZ)I"⟩, 36) := ⟨⟨by decide +kernel, by decide +kernel⟩, List.mem_of_getElem? (i := 731) (by decide +kernel), List.mem_of_getElem? (i := 864) (by decide +kernel), List.mem_of_getElem? (i := 865) (by decide +kernel)⟩
theorem lw_p13 : lw_okq (⟨"CacheRulesModel", "reach", "(IIZ)I"⟩, 36) := ⟨⟨by decide +kernel, by decide +kernel⟩, List.mem_of_getElem? (i := 731) (by decide +kernel), List.mem_of_getElem? (i := 868) (by decide +kernel), List.mem_of_getElem? (i := 869) (by decide +kernel)⟩
theorem lw_p14 : lw_okq (⟨"CacheRulesModel", "find", "(I)I"⟩, 36) := ⟨⟨by decide +kernel, by decide +kernel⟩, List.mem_of_getElem? (i := 731) (by decide +kernel), List.mem_of_getElem? (i := 872) (by decide +kernel), List.mem_of_getElem? (i := 873) (by decide +kernel)⟩
theorem lw_p15 : lw_okq (⟨"CacheRulesModel", "setOf", "(I)I"⟩, 36) := ⟨⟨by decide +kernel, by decide +kernel⟩, List.mem_of_getElem? (i := 731) (by decide +kernel), List.mem_of_getElem? (i := 876) (by decide +kernel), List.mem_of_getElem? (i := 877) (by decide +kernel)⟩
def lw_privs_1 : List (MethodName × Nat) := [(⟨"java/lang/Throwable", "fillInStackTrace", "(I)Ljava/lang/Throwable;"⟩, 6), (⟨"CacheRules", "perform", "(IIZ)I"⟩, 12), (⟨"CacheRules", "reach", "(IIZ)I"⟩, 12), (⟨"CacheRules", "useWay", "(III)I"⟩, 12), (⟨"CacheRules$LatelyRule", "setMark", "(II)V"⟩, 2), (⟨"CacheRules$TreeRule", "pointAway", "(II)V"⟩, 3), (⟨"CacheRules", "recall", "(II)I"⟩, 12), (⟨"CacheRules", "place", "(III)V"⟩, 12), (⟨"CacheRules$RoundRule", "wayFromHand", "(II)I"⟩, 3), (⟨"CacheRules$TimeRule", "goesSooner", "(II)Z"⟩, 7), (⟨"CacheRules", "putOut", "(I)V"⟩, 12), (⟨"CacheRules", "writePart", "(II)V"⟩, 12), (⟨"CacheRulesModel", "accessOf", "(IIZ)I"⟩, 36), (⟨"CacheRulesModel", "reach", "(IIZ)I"⟩, 36), (⟨"CacheRulesModel", "find", "(I)I"⟩, 36), (⟨"CacheRulesModel", "setOf", "(I)I"⟩, 36)]
theorem lw_r1 : ∀ q ∈ lw_privs_1, lw_okq q := List.forall_mem_cons.mpr ⟨lw_p0, List.forall_mem_cons.mpr ⟨lw_p1, List.forall_mem_cons.mpr ⟨lw_p2, List.forall_mem_cons.mpr ⟨lw_p3, List.forall_mem_cons.mpr ⟨lw_p4, List.forall_mem_cons.mpr ⟨lw_p5, List.forall_mem_cons.mpr ⟨lw_p6, List.forall_mem_cons.mpr ⟨lw_p7, List.forall_mem_cons.mpr ⟨lw_p8, List.forall_mem_cons.mpr ⟨lw_p9, List.forall_mem_cons.mpr ⟨lw_p10, List.forall_mem_cons.mpr ⟨lw_p11, List.forall_mem_cons.mpr ⟨lw_p12, List.forall_mem_cons.mpr ⟨lw_p13, List.forall_mem_cons.mpr ⟨lw_p14, List.forall_mem_cons.mpr ⟨lw_p15, fun _ h => absurd h List.not_mem_nil⟩⟩⟩⟩⟩⟩⟩⟩⟩⟩⟩⟩⟩⟩⟩⟩
theorem lw_p16 : lw_okq (⟨"CacheRulesModel", "putNear", "(I)V"⟩, 36) := ⟨⟨by decide +kernel, by decide +kernel⟩, List.mem_of_getElem? (i := 731) (by decide +kernel), List.mem_of_getElem? (i := 880) (by decide +kernel), List.mem_of_getElem? (i := 881) (by decide +kernel)⟩
theorem lw_p17 : lw_okq (⟨"CacheRulesModel", "distanceOf", "(I)I"⟩, 36) := ⟨⟨by decide +kernel, by decide +kernel⟩, List.mem_of_getElem? (i := 731) (by decide +kernel), List.mem_of_getElem? (i := 884) (by decide +kernel), List.mem_of_getElem? (i := 885) (by decide +kernel)⟩
theorem lw_p18 : lw_okq (⟨"CacheRulesModel", "takeWay", "(IIZ)V"⟩, 36) := ⟨⟨by decide +kernel, by decide +kernel⟩, List.mem_of_getElem? (i := 731) (by decide +kernel), List.mem_of_getElem? (i := 888) (by decide +kernel), List.mem_of_getElem? (i := 889) (by decide +kernel)⟩
theorem lw_p19 : lw_okq (⟨"CacheRulesModel", "tellUse", "(I)V"⟩, 36) := ⟨⟨by decide +kernel, by decide +kernel⟩, List.mem_of_getElem? (i := 731) (by decide +kernel), List.mem_of_getElem? (i := 892) (by decide +kernel), List.mem_of_getElem? (i := 893) (by decide +kernel)⟩
theorem lw_p20 : lw_okq (⟨"CacheRulesModel", "turnAway", "(I)V"⟩, 36) := ⟨⟨by decide +kernel, by decide +kernel⟩, List.mem_of_getElem? (i := 731) (by decide +kernel), List.mem_of_getElem? (i := 896) (by decide +kernel), List.mem_of_getElem? (i := 897) (by decide +kernel)⟩
theorem lw_p21 : lw_okq (⟨"CacheRulesModel", "treeSize", "()I"⟩, 36) := ⟨⟨by decide +kernel, by decide +kernel⟩, List.mem_of_getElem? (i := 731) (by decide +kernel), List.mem_of_getElem? (i := 900) (by decide +kernel), List.mem_of_getElem? (i := 901) (by decide +kernel)⟩
theorem lw_p22 : lw_okq (⟨"CacheRulesModel", "markLately", "(I)V"⟩, 36) := ⟨⟨by decide +kernel, by decide +kernel⟩, List.mem_of_getElem? (i := 731) (by decide +kernel), List.mem_of_getElem? (i := 904) (by decide +kernel), List.mem_of_getElem? (i := 905) (by decide +kernel)⟩
theorem lw_p23 : lw_okq (⟨"CacheRulesModel", "findRow", "(I)I"⟩, 36) := ⟨⟨by decide +kernel, by decide +kernel⟩, List.mem_of_getElem? (i := 731) (by decide +kernel), List.mem_of_getElem? (i := 908) (by decide +kernel), List.mem_of_getElem? (i := 909) (by decide +kernel)⟩
theorem lw_p24 : lw_okq (⟨"CacheRulesModel", "reachRow", "(IIIZ)I"⟩, 36) := ⟨⟨by decide +kernel, by decide +kernel⟩, List.mem_of_getElem? (i := 731) (by decide +kernel), List.mem_of_getElem? (i := 912) (by decide +kernel), List.mem_of_getElem? (i := 913) (by decide +kernel)⟩
theorem lw_p25 : lw_okq (⟨"CacheRulesModel", "canPlace", "(I)Z"⟩, 36) := ⟨⟨by decide +kernel, by decide +kernel⟩, List.mem_of_getElem? (i := 731) (by decide +kernel), List.mem_of_getElem? (i := 916) (by decide +kernel), List.mem_of_getElem? (i := 917) (by decide +kernel)⟩
theorem lw_p26 : lw_okq (⟨"CacheRulesModel", "takeRow", "(I)V"⟩, 36) := ⟨⟨by decide +kernel, by decide +kernel⟩, List.mem_of_getElem? (i := 731) (by decide +kernel), List.mem_of_getElem? (i := 920) (by decide +kernel), List.mem_of_getElem? (i := 921) (by decide +kernel)⟩
theorem lw_p27 : lw_okq (⟨"CacheRulesModel", "place", "(III)I"⟩, 36) := ⟨⟨by decide +kernel, by decide +kernel⟩, List.mem_of_getElem? (i := 731) (by decide +kernel), List.mem_of_getElem? (i := 924) (by decide +kernel), List.mem_of_getElem? (i := 925) (by decide +kernel)⟩
theorem lw_p28 : lw_okq (⟨"CacheRulesModel", "pick", "(IZ)I"⟩, 36) := ⟨⟨by decide +kernel, by decide +kernel⟩, List.mem_of_getElem? (i := 731) (by decide +kernel), List.mem_of_getElem? (i := 928) (by decide +kernel), List.mem_of_getElem? (i := 929) (by decide +kernel)⟩
theorem lw_p29 : lw_okq (⟨"CacheRulesModel", "byChance", "(IZ)I"⟩, 36) := ⟨⟨by decide +kernel, by decide +kernel⟩, List.mem_of_getElem? (i := 731) (by decide +kernel), List.mem_of_getElem? (i := 932) (by decide +kernel), List.mem_of_getElem? (i := 933) (by decide +kernel)⟩
theorem lw_p30 : lw_okq (⟨"CacheRulesModel", "byHand", "(IZ)I"⟩, 36) := ⟨⟨by decide +kernel, by decide +kernel⟩, List.mem_of_getElem? (i := 731) (by decide +kernel), List.mem_of_getElem? (i := 939) (by decide +kernel), List.mem_of_getElem? (i := 940) (by decide +kernel)⟩
theorem lw_p31 : lw_okq (⟨"CacheRulesModel", "byTree", "(I)I"⟩, 36) := ⟨⟨by decide +kernel, by decide +kernel⟩, List.mem_of_getElem? (i := 731) (by decide +kernel), List.mem_of_getElem? (i := 943) (by decide +kernel), List.mem_of_getElem? (i := 944) (by decide +kernel)⟩
def lw_privs_2 : List (MethodName × Nat) := [(⟨"CacheRulesModel", "putNear", "(I)V"⟩, 36), (⟨"CacheRulesModel", "distanceOf", "(I)I"⟩, 36), (⟨"CacheRulesModel", "takeWay", "(IIZ)V"⟩, 36), (⟨"CacheRulesModel", "tellUse", "(I)V"⟩, 36), (⟨"CacheRulesModel", "turnAway", "(I)V"⟩, 36), (⟨"CacheRulesModel", "treeSize", "()I"⟩, 36), (⟨"CacheRulesModel", "markLately", "(I)V"⟩, 36), (⟨"CacheRulesModel", "findRow", "(I)I"⟩, 36), (⟨"CacheRulesModel", "reachRow", "(IIIZ)I"⟩, 36), (⟨"CacheRulesModel", "canPlace", "(I)Z"⟩, 36), (⟨"CacheRulesModel", "takeRow", "(I)V"⟩, 36), (⟨"CacheRulesModel", "place", "(III)I"⟩, 36), (⟨"CacheRulesModel", "pick", "(IZ)I"⟩, 36), (⟨"CacheRulesModel", "byChance", "(IZ)I"⟩, 36), (⟨"CacheRulesModel", "byHand", "(IZ)I"⟩, 36), (⟨"CacheRulesModel", "byTree", "(I)I"⟩, 36)]
theorem lw_r2 : ∀ q ∈ lw_privs_2, lw_okq q := List.forall_mem_cons.mpr ⟨lw_p16, List.forall_mem_cons.mpr ⟨lw_p17, List.forall_mem_cons.mpr ⟨lw_p18, List.forall_mem_cons.mpr ⟨lw_p19, List.forall_mem_cons.mpr ⟨lw_p20, List.forall_mem_cons.mpr ⟨lw_p21, List.forall_mem_cons.mpr ⟨lw_p22, List.forall_mem_cons.mpr ⟨lw_p23, List.forall_mem_cons.mpr ⟨lw_p24, List.forall_mem_cons.mpr ⟨lw_p25, List.forall_mem_cons.mpr ⟨lw_p26, List.forall_mem_cons.mpr ⟨lw_p27, List.forall_mem_cons.mpr ⟨lw_p28, List.forall_mem_cons.mpr ⟨lw_p29, List.forall_mem_cons.mpr ⟨lw_p30, List.forall_mem_cons.mpr ⟨lw_p31, fun _ h => absurd h List.not_mem_nil⟩⟩⟩⟩⟩⟩⟩⟩⟩⟩⟩⟩⟩⟩⟩⟩
theorem lw_p32 : lw_okq (⟨"CacheRulesModel", "unmarked", "(I)I"⟩, 36) := ⟨⟨by decide +kernel, by decide +kernel⟩, List.mem_of_getElem? (i := 731) (by decide +kernel), List.mem_of_getElem? (i := 947) (by decide +kernel), List.mem_of_getElem? (i := 948) (by decide +kernel)⟩
theorem lw_p33 : lw_okq (⟨"CacheRulesModel", "byAge", "(IZ)I"⟩, 36) := ⟨⟨by decide +kernel, by decide +kernel⟩, List.mem_of_getElem? (i := 731) (by decide +kernel), List.mem_of_getElem? (i := 951) (by decide +kernel), List.mem_of_getElem? (i := 952) (by decide +kernel)⟩
theorem lw_p34 : lw_okq (⟨"CacheRulesModel", "best", "(I)I"⟩, 36) := ⟨⟨by decide +kernel, by decide +kernel⟩, List.mem_of_getElem? (i := 731) (by decide +kernel), List.mem_of_getElem? (i := 955) (by decide +kernel), List.mem_of_getElem? (i := 956) (by decide +kernel)⟩
theorem lw_p35 : lw_okq (⟨"CacheRulesModel", "isBetter", "(II)Z"⟩, 36) := ⟨⟨by decide +kernel, by decide +kernel⟩, List.mem_of_getElem? (i := 731) (by decide +kernel), List.mem_of_getElem? (i := 959) (by decide +kernel), List.mem_of_getElem? (i := 960) (by decide +kernel)⟩
theorem lw_p36 : lw_okq (⟨"CacheRulesModel", "catchRow", "(III)V"⟩, 36) := ⟨⟨by decide +kernel, by decide +kernel⟩, List.mem_of_getElem? (i := 731) (by decide +kernel), List.mem_of_getElem? (i := 963) (by decide +kernel), List.mem_of_getElem? (i := 964) (by decide +kernel)⟩
theorem lw_p37 : lw_okq (⟨"CacheRulesModel", "writeAll", "(I)V"⟩, 36) := ⟨⟨by decide +kernel, by decide +kernel⟩, List.mem_of_getElem? (i := 731) (by decide +kernel), List.mem_of_getElem? (i := 967) (by decide +kernel), List.mem_of_getElem? (i := 968) (by decide +kernel)⟩
theorem lw_p38 : lw_okq (⟨"CacheRulesModel", "tellComing", "(I)V"⟩, 36) := ⟨⟨by decide +kernel, by decide +kernel⟩, List.mem_of_getElem? (i := 731) (by decide +kernel), List.mem_of_getElem? (i := 974) (by decide +kernel), List.mem_of_getElem? (i := 975) (by decide +kernel)⟩
theorem lw_p39 : lw_okq (⟨"CacheRulesModel", "fail", "(I)I"⟩, 36) := ⟨⟨by decide +kernel, by decide +kernel⟩, List.mem_of_getElem? (i := 731) (by decide +kernel), List.mem_of_getElem? (i := 978) (by decide +kernel), List.mem_of_getElem? (i := 979) (by decide +kernel)⟩
theorem lw_p40 : lw_okq (⟨"CacheRulesModel", "lines", "()I"⟩, 36) := ⟨⟨by decide +kernel, by decide +kernel⟩, List.mem_of_getElem? (i := 731) (by decide +kernel), List.mem_of_getElem? (i := 986) (by decide +kernel), List.mem_of_getElem? (i := 987) (by decide +kernel)⟩
theorem lw_p41 : lw_okq (⟨"CacheRulesModel", "cleanWay", "(I)I"⟩, 36) := ⟨⟨by decide +kernel, by decide +kernel⟩, List.mem_of_getElem? (i := 731) (by decide +kernel), List.mem_of_getElem? (i := 1006) (by decide +kernel), List.mem_of_getElem? (i := 1007) (by decide +kernel)⟩
theorem lw_p42 : lw_okq (⟨"CacheRulesModel", "cleanRow", "(I)I"⟩, 36) := ⟨⟨by decide +kernel, by decide +kernel⟩, List.mem_of_getElem? (i := 731) (by decide +kernel), List.mem_of_getElem? (i := 1010) (by decide +kernel), List.mem_of_getElem? (i := 1011) (by decide +kernel)⟩
def lw_privs_3 : List (MethodName × Nat) := [(⟨"CacheRulesModel", "unmarked", "(I)I"⟩, 36), (⟨"CacheRulesModel", "byAge", "(IZ)I"⟩, 36), (⟨"CacheRulesModel", "best", "(I)I"⟩, 36), (⟨"CacheRulesModel", "isBetter", "(II)Z"⟩, 36), (⟨"CacheRulesModel", "catchRow", "(III)V"⟩, 36), (⟨"CacheRulesModel", "writeAll", "(I)V"⟩, 36), (⟨"CacheRulesModel", "tellComing", "(I)V"⟩, 36), (⟨"CacheRulesModel", "fail", "(I)I"⟩, 36), (⟨"CacheRulesModel", "lines", "()I"⟩, 36), (⟨"CacheRulesModel", "cleanWay", "(I)I"⟩, 36), (⟨"CacheRulesModel", "cleanRow", "(I)I"⟩, 36)]
theorem lw_r3 : ∀ q ∈ lw_privs_3, lw_okq q := List.forall_mem_cons.mpr ⟨lw_p32, List.forall_mem_cons.mpr ⟨lw_p33, List.forall_mem_cons.mpr ⟨lw_p34, List.forall_mem_cons.mpr ⟨lw_p35, List.forall_mem_cons.mpr ⟨lw_p36, List.forall_mem_cons.mpr ⟨lw_p37, List.forall_mem_cons.mpr ⟨lw_p38, List.forall_mem_cons.mpr ⟨lw_p39, List.forall_mem_cons.mpr ⟨lw_p40, List.forall_mem_cons.mpr ⟨lw_p41, List.forall_mem_cons.mpr ⟨lw_p42, fun _ h => absurd h List.not_mem_nil⟩⟩⟩⟩⟩⟩⟩⟩⟩⟩⟩
def lw_privs : List (MethodName × Nat) := lw_privs_1 ++ (lw_privs_2 ++ (lw_privs_3))
def lw_tbl : List Cond := k2_sels lw_privs ++ tables_1
theorem lw_privs_ok : ∀ q ∈ lw_privs, lw_okq q := by
  show ∀ q ∈ lw_privs_1 ++ (lw_privs_2 ++ (lw_privs_3)), lw_okq q
  exact List.forall_mem_append.mpr ⟨lw_r1, List.forall_mem_append.mpr ⟨lw_r2, lw_r3⟩⟩
-- ===== end of PART A; then your names; then what follows =====
end
section
/-! NAMES, by program: the good words of the tables; classes and fields; the words by their places. -/
def GT : List Cond := lw_tbl.filter goodWord
theorem gt_of {w : Cond} (h : w ∈ lw_tbl) (hg : goodWord w = true) : w ∈ GT := List.mem_filter.mpr ⟨h, hg⟩
theorem gt_good : ∀ w ∈ GT, (w.onTables && w.keeps) = true ∨ ∃ ty, w = .arrayClass ty := fun _ h => good_of_word (List.mem_filter.mp h).2
theorem gt_tbl : ∀ w ∈ GT, w ∈ lw_tbl := fun _ h => (List.mem_filter.mp h).1
theorem gt_at {w : Cond} (i : Nat) (h : tables_1[i]? = some w) (hg : goodWord w = true) : w ∈ GT := gt_of (List.mem_append_right _ (List.mem_of_getElem? h)) hg
theorem gt_sel {w : Cond} (i : Nat) (h : (k2_sels lw_privs)[i]? = some w) (hg : goodWord w = true) : w ∈ GT := gt_of (List.mem_append_left _ (List.mem_of_getElem? h)) hg
abbrev R_C : String := "CacheRules"
def T_C : u_T := fun k => match k with
  | 0 => ("CacheRules", "ways", "LCacheRules$Ways;", true)
  | 1 => ("CacheRules", "rows", "LCacheRules$CatchingRows;", true)
  | 2 => ("CacheRules", "rule", "LCacheRules$Rule;", true)
  | 3 => ("CacheRules", "asks", "LCacheRules$Asks;", true)
  | 4 => ("CacheRules", "history", "LCacheRules$History;", true)
  | 5 => ("CacheRules", "kinds", "[I", true)
  | 6 => ("CacheRules", "through", "Z", false)
  | 7 => ("CacheRules", "places", "Z", false)
  | 8 => ("CacheRules", "accesses", "I", false)
  | 9 => ("CacheRules", "fetched", "I", false)
  | 10 => ("CacheRules", "writes", "I", false)
  | _ => ("CacheRules", "wentOut", "I", false)
def ty_C : Nat → FieldType := fun k => match k with
  | 0 => .object "CacheRules$Ways"
  | 1 => .object "CacheRules$CatchingRows"
  | 2 => .object "CacheRules$Rule"
  | 3 => .object "CacheRules$Asks"
  | 4 => .object "CacheRules$History"
  | 5 => .array .int
  | 6 => .boolean
  | 7 => .boolean
  | 8 => .int
  | 9 => .int
  | 10 => .int
  | _ => .int
theorem nm_C : ∀ a, a < 12 → ∀ b, b < 12 → a ≠ b → (T_C a).2.1 ≠ (T_C b).2.1 := by decide +kernel
theorem tk_C : ∀ k, k < 12 → parseFieldDescriptor (T_C k).2.2.1 = some (ty_C k) := by decide +kernel
theorem in_C : ∀ w ∈ u_ws R_C T_C 12, w ∈ GT := by decide +kernel
abbrev R_Ways : String := "CacheRules$Ways"
def T_Ways : u_T := fun k => match k with
  | 0 => ("CacheRules$Ways", "sets", "I", true)
  | 1 => ("CacheRules$Ways", "width", "I", true)
  | 2 => ("CacheRules$Ways", "slots", "I", true)
  | 3 => ("CacheRules$Ways", "line", "[I", true)
  | 4 => ("CacheRules$Ways", "has", "[Z", true)
  | 5 => ("CacheRules$Ways", "there", "[I", true)
  | 6 => ("CacheRules$Ways", "changed", "[I", true)
  | _ => ("CacheRules$Ways", "locked", "[Z", true)
def ty_Ways : Nat → FieldType := fun k => match k with
  | 0 => .int
  | 1 => .int
  | 2 => .int
  | 3 => .array .int
  | 4 => .array .boolean
  | 5 => .array .int
  | 6 => .array .int
  | _ => .array .boolean
theorem nm_Ways : ∀ a, a < 8 → ∀ b, b < 8 → a ≠ b → (T_Ways a).2.1 ≠ (T_Ways b).2.1 := by decide +kernel
theorem tk_Ways : ∀ k, k < 8 → parseFieldDescriptor (T_Ways k).2.2.1 = some (ty_Ways k) := by decide +kernel
theorem in_Ways : ∀ w ∈ u_ws R_Ways T_Ways 8, w ∈ GT := by decide +kernel
abbrev R_Rows : String := "CacheRules$CatchingRows"
def T_Rows : u_T := fun k => match k with
  | 0 => ("CacheRules$CatchingRows", "room", "I", true)
  | 1 => ("CacheRules$CatchingRows", "line", "[I", true)
  | 2 => ("CacheRules$CatchingRows", "there", "[I", true)
  | 3 => ("CacheRules$CatchingRows", "changed", "[I", true)
  | _ => ("CacheRules$CatchingRows", "size", "I", false)
def ty_Rows : Nat → FieldType := fun k => match k with
  | 0 => .int
  | 1 => .array .int
  | 2 => .array .int
  | 3 => .array .int
  | _ => .int
theorem nm_Rows : ∀ a, a < 5 → ∀ b, b < 5 → a ≠ b → (T_Rows a).2.1 ≠ (T_Rows b).2.1 := by decide +kernel
theorem tk_Rows : ∀ k, k < 5 → parseFieldDescriptor (T_Rows k).2.2.1 = some (ty_Rows k) := by decide +kernel
theorem in_Rows : ∀ w ∈ u_ws R_Rows T_Rows 5, w ∈ GT := by decide +kernel
abbrev R_Asks : String := "CacheRules$Asks"
def T_Asks : u_T := fun k => match k with
  | 0 => ("CacheRules$Asks", "lineOf", "[I", true)
  | 1 => ("CacheRules$Asks", "partOf", "[I", true)
  | 2 => ("CacheRules$Asks", "waiting", "[I", true)
  | 3 => ("CacheRules$Asks", "donePart", "[I", true)
  | 4 => ("CacheRules$Asks", "doneKind", "[I", true)
  | 5 => ("CacheRules$Asks", "size", "I", false)
  | 6 => ("CacheRules$Asks", "lineCount", "I", false)
  | _ => ("CacheRules$Asks", "doneCount", "I", false)
def ty_Asks : Nat → FieldType := fun k => match k with
  | 0 => .array .int
  | 1 => .array .int
  | 2 => .array .int
  | 3 => .array .int
  | 4 => .array .int
  | 5 => .int
  | 6 => .int
  | _ => .int
theorem nm_Asks : ∀ a, a < 8 → ∀ b, b < 8 → a ≠ b → (T_Asks a).2.1 ≠ (T_Asks b).2.1 := by decide +kernel
theorem tk_Asks : ∀ k, k < 8 → parseFieldDescriptor (T_Asks k).2.2.1 = some (ty_Asks k) := by decide +kernel
theorem in_Asks : ∀ w ∈ u_ws R_Asks T_Asks 8, w ∈ GT := by decide +kernel
abbrev R_Hist : String := "CacheRules$History"
def T_Hist : u_T := fun k => match k with
  | 0 => ("CacheRules$History", "latest", "[I", true)
  | 1 => ("CacheRules$History", "seen", "[I", true)
  | 2 => ("CacheRules$History", "size", "I", false)
  | _ => ("CacheRules$History", "seenNone", "I", false)
def ty_Hist : Nat → FieldType := fun k => match k with
  | 0 => .array .int
  | 1 => .array .int
  | 2 => .int
  | _ => .int
theorem nm_Hist : ∀ a, a < 4 → ∀ b, b < 4 → a ≠ b → (T_Hist a).2.1 ≠ (T_Hist b).2.1 := by decide +kernel
theorem tk_Hist : ∀ k, k < 4 → parseFieldDescriptor (T_Hist k).2.2.1 = some (ty_Hist k) := by decide +kernel
theorem in_Hist : ∀ w ∈ u_ws R_Hist T_Hist 4, w ∈ GT := by decide +kernel
abbrev R_Time : String := "CacheRules$TimeRule"
def T_Time : u_T := fun k => match k with
  | 0 => ("CacheRules$Rule", "width", "I", true)
  | 1 => ("CacheRules$TimeRule", "number", "I", true)
  | 2 => ("CacheRules$TimeRule", "last", "[I", true)
  | 3 => ("CacheRules$TimeRule", "came", "[I", true)
  | 4 => ("CacheRules$TimeRule", "uses", "[I", true)
  | 5 => ("CacheRules$TimeRule", "now", "I", false)
  | _ => ("CacheRules$TimeRule", "beforeAll", "I", false)
def ty_Time : Nat → FieldType := fun k => match k with
  | 0 => .int
  | 1 => .int
  | 2 => .array .int
  | 3 => .array .int
  | 4 => .array .int
  | 5 => .int
  | _ => .int
theorem nm_Time : ∀ a, a < 7 → ∀ b, b < 7 → a ≠ b → (T_Time a).2.1 ≠ (T_Time b).2.1 := by decide +kernel
theorem tk_Time : ∀ k, k < 7 → parseFieldDescriptor (T_Time k).2.2.1 = some (ty_Time k) := by decide +kernel
theorem in_Time : ∀ w ∈ u_ws R_Time T_Time 7, w ∈ GT := by decide +kernel
abbrev R_Chance : String := "CacheRules$ChanceRule"
def T_Chance : u_T := fun k => match k with
  | 0 => ("CacheRules$Rule", "width", "I", true)
  | _ => ("CacheRules$ChanceRule", "x", "I", false)
def ty_Chance : Nat → FieldType := fun k => match k with
  | 0 => .int
  | _ => .int
theorem nm_Chance : ∀ a, a < 2 → ∀ b, b < 2 → a ≠ b → (T_Chance a).2.1 ≠ (T_Chance b).2.1 := by decide +kernel
theorem tk_Chance : ∀ k, k < 2 → parseFieldDescriptor (T_Chance k).2.2.1 = some (ty_Chance k) := by decide +kernel
theorem in_Chance : ∀ w ∈ u_ws R_Chance T_Chance 2, w ∈ GT := by decide +kernel
abbrev R_Round : String := "CacheRules$RoundRule"
def T_Round : u_T := fun k => match k with
  | 0 => ("CacheRules$Rule", "width", "I", true)
  | 1 => ("CacheRules$RoundRule", "mark", "[Z", true)
  | _ => ("CacheRules$RoundRule", "hand", "[I", true)
def ty_Round : Nat → FieldType := fun k => match k with
  | 0 => .int
  | 1 => .array .boolean
  | _ => .array .int
theorem nm_Round : ∀ a, a < 3 → ∀ b, b < 3 → a ≠ b → (T_Round a).2.1 ≠ (T_Round b).2.1 := by decide +kernel
theorem tk_Round : ∀ k, k < 3 → parseFieldDescriptor (T_Round k).2.2.1 = some (ty_Round k) := by decide +kernel
theorem in_Round : ∀ w ∈ u_ws R_Round T_Round 3, w ∈ GT := by decide +kernel
abbrev R_Tree : String := "CacheRules$TreeRule"
def T_Tree : u_T := fun k => match k with
  | 0 => ("CacheRules$Rule", "width", "I", true)
  | 1 => ("CacheRules$TreeRule", "leaves", "I", true)
  | _ => ("CacheRules$TreeRule", "tree", "[I", true)
def ty_Tree : Nat → FieldType := fun k => match k with
  | 0 => .int
  | 1 => .int
  | _ => .array .int
theorem nm_Tree : ∀ a, a < 3 → ∀ b, b < 3 → a ≠ b → (T_Tree a).2.1 ≠ (T_Tree b).2.1 := by decide +kernel
theorem tk_Tree : ∀ k, k < 3 → parseFieldDescriptor (T_Tree k).2.2.1 = some (ty_Tree k) := by decide +kernel
theorem in_Tree : ∀ w ∈ u_ws R_Tree T_Tree 3, w ∈ GT := by decide +kernel
abbrev R_Lately : String := "CacheRules$LatelyRule"
def T_Lately : u_T := fun k => match k with
  | 0 => ("CacheRules$Rule", "width", "I", true)
  | _ => ("CacheRules$LatelyRule", "mark", "[Z", true)
def ty_Lately : Nat → FieldType := fun k => match k with
  | 0 => .int
  | _ => .array .boolean
theorem nm_Lately : ∀ a, a < 2 → ∀ b, b < 2 → a ≠ b → (T_Lately a).2.1 ≠ (T_Lately b).2.1 := by decide +kernel
theorem tk_Lately : ∀ k, k < 2 → parseFieldDescriptor (T_Lately k).2.2.1 = some (ty_Lately k) := by decide +kernel
theorem in_Lately : ∀ w ∈ u_ws R_Lately T_Lately 2, w ∈ GT := by decide +kernel
abbrev R_Age : String := "CacheRules$AgeRule"
def T_Age : u_T := fun k => match k with
  | 0 => ("CacheRules$Rule", "width", "I", true)
  | _ => ("CacheRules$AgeRule", "age", "[I", true)
def ty_Age : Nat → FieldType := fun k => match k with
  | 0 => .int
  | _ => .array .int
theorem nm_Age : ∀ a, a < 2 → ∀ b, b < 2 → a ≠ b → (T_Age a).2.1 ≠ (T_Age b).2.1 := by decide +kernel
theorem tk_Age : ∀ k, k < 2 → parseFieldDescriptor (T_Age k).2.2.1 = some (ty_Age k) := by decide +kernel
theorem in_Age : ∀ w ∈ u_ws R_Age T_Age 2, w ∈ GT := by decide +kernel
abbrev R_M : String := "CacheRulesModel"
def T_M : u_T := fun k => match k with
  | 0 => ("CacheRulesModel", "thrown", "I", false)
  | 1 => ("CacheRulesModel", "sets", "I", true)
  | 2 => ("CacheRulesModel", "ways", "I", true)
  | 3 => ("CacheRulesModel", "rule", "I", true)
  | 4 => ("CacheRulesModel", "room", "I", true)
  | 5 => ("CacheRulesModel", "through", "Z", false)
  | 6 => ("CacheRulesModel", "places", "Z", false)
  | 7 => ("CacheRulesModel", "has", "[Z", true)
  | 8 => ("CacheRulesModel", "line", "[I", true)
  | 9 => ("CacheRulesModel", "parts", "[I", true)
  | 10 => ("CacheRulesModel", "changed", "[I", true)
  | 11 => ("CacheRulesModel", "locked", "[Z", true)
  | 12 => ("CacheRulesModel", "time", "I", false)
  | 13 => ("CacheRulesModel", "last", "[I", true)
  | 14 => ("CacheRulesModel", "came", "[I", true)
  | 15 => ("CacheRulesModel", "uses", "[I", true)
  | 16 => ("CacheRulesModel", "mark", "[Z", true)
  | 17 => ("CacheRulesModel", "age", "[I", true)
  | 18 => ("CacheRulesModel", "hand", "[I", true)
  | 19 => ("CacheRulesModel", "tree", "[Z", true)
  | 20 => ("CacheRulesModel", "chance", "I", false)
  | 21 => ("CacheRulesModel", "caught", "I", false)
  | 22 => ("CacheRulesModel", "rowLine", "[I", true)
  | 23 => ("CacheRulesModel", "rowParts", "[I", true)
  | 24 => ("CacheRulesModel", "rowChanged", "[I", true)
  | 25 => ("CacheRulesModel", "asks", "I", false)
  | 26 => ("CacheRulesModel", "askLine", "[I", true)
  | 27 => ("CacheRulesModel", "askPart", "[I", true)
  | 28 => ("CacheRulesModel", "answered", "I", false)
  | 29 => ("CacheRulesModel", "answerPart", "[I", true)
  | 30 => ("CacheRulesModel", "answerHow", "[I", true)
  | 31 => ("CacheRulesModel", "near", "I", false)
  | 32 => ("CacheRulesModel", "nearLine", "[I", true)
  | 33 => ("CacheRulesModel", "far", "[I", true)
  | 34 => ("CacheRulesModel", "counts", "[I", true)
  | _ => ("CacheRulesModel", "mark2", "[Z", true)
def ty_M : Nat → FieldType := fun k => match k with
  | 0 => .int
  | 1 => .int
  | 2 => .int
  | 3 => .int
  | 4 => .int
  | 5 => .boolean
  | 6 => .boolean
  | 7 => .array .boolean
  | 8 => .array .int
  | 9 => .array .int
  | 10 => .array .int
  | 11 => .array .boolean
  | 12 => .int
  | 13 => .array .int
  | 14 => .array .int
  | 15 => .array .int
  | 16 => .array .boolean
  | 17 => .array .int
  | 18 => .array .int
  | 19 => .array .boolean
  | 20 => .int
  | 21 => .int
  | 22 => .array .int
  | 23 => .array .int
  | 24 => .array .int
  | 25 => .int
  | 26 => .array .int
  | 27 => .array .int
  | 28 => .int
  | 29 => .array .int
  | 30 => .array .int
  | 31 => .int
  | 32 => .array .int
  | 33 => .array .int
  | 34 => .array .int
  | _ => .array .boolean
theorem nm_M : ∀ a, a < 36 → ∀ b, b < 36 → a ≠ b → (T_M a).2.1 ≠ (T_M b).2.1 := by decide +kernel
theorem tk_M : ∀ k, k < 36 → parseFieldDescriptor (T_M k).2.2.1 = some (ty_M k) := by decide +kernel
theorem in_M : ∀ w ∈ u_ws R_M T_M 36, w ∈ GT := by decide +kernel
abbrev R_Rule : String := "CacheRules$Rule"
abbrev KL : List vw_C := [(R_C, T_C, 12), (R_Ways, T_Ways, 8), (R_Rows, T_Rows, 5), (R_Asks, T_Asks, 8), (R_Hist, T_Hist, 4), (R_Time, T_Time, 7), (R_Chance, T_Chance, 2), (R_Round, T_Round, 3), (R_Tree, T_Tree, 3), (R_Lately, T_Lately, 2), (R_Age, T_Age, 2), (R_M, T_M, 36)]
theorem g0 : (Jvm.Cond.initialized "CacheRulesLaw") ∈ GT := gt_at 0 (by decide +kernel) (by decide +kernel)
theorem g1 : (Jvm.Cond.initialized "CacheRules") ∈ GT := gt_at 1 (by decide +kernel) (by decide +kernel)
theorem g2 : (Jvm.Cond.initialized "java/lang/Math") ∈ GT := gt_at 2 (by decide +kernel) (by decide +kernel)
theorem g3 : (Jvm.Cond.initialized "CacheRules$Ways") ∈ GT := gt_at 3 (by decide +kernel) (by decide +kernel)
theorem g4 : (Jvm.Cond.initialized "CacheRules$CatchingRows") ∈ GT := gt_at 4 (by decide +kernel) (by decide +kernel)
theorem g5 : (Jvm.Cond.initialized "CacheRules$Rule") ∈ GT := gt_at 5 (by decide +kernel) (by decide +kernel)
theorem g6 : (Jvm.Cond.initialized "CacheRules$ChanceRule") ∈ GT := gt_at 6 (by decide +kernel) (by decide +kernel)
theorem g7 : (Jvm.Cond.initialized "CacheRules$RoundRule") ∈ GT := gt_at 7 (by decide +kernel) (by decide +kernel)
theorem g8 : (Jvm.Cond.initialized "CacheRules$TreeRule") ∈ GT := gt_at 8 (by decide +kernel) (by decide +kernel)
theorem g9 : (Jvm.Cond.initialized "CacheRules$LatelyRule") ∈ GT := gt_at 9 (by decide +kernel) (by decide +kernel)
theorem g10 : (Jvm.Cond.initialized "CacheRules$AgeRule") ∈ GT := gt_at 10 (by decide +kernel) (by decide +kernel)
theorem g11 : (Jvm.Cond.initialized "CacheRules$TimeRule") ∈ GT := gt_at 11 (by decide +kernel) (by decide +kernel)
theorem g12 : (Jvm.Cond.initialized "CacheRules$Asks") ∈ GT := gt_at 12 (by decide +kernel) (by decide +kernel)
theorem g13 : (Jvm.Cond.initialized "CacheRules$History") ∈ GT := gt_at 13 (by decide +kernel) (by decide +kernel)
theorem g14 : (Jvm.Cond.initialized "CacheRulesModel") ∈ GT := gt_at 14 (by decide +kernel) (by decide +kernel)
theorem g15 : (Jvm.Cond.initialized "java/lang/Throwable") ∈ GT := gt_at 15 (by decide +kernel) (by decide +kernel)
theorem g16 : (Jvm.Cond.initialized "java/lang/Exception") ∈ GT := gt_at 16 (by decide +kernel) (by decide +kernel)
theorem g17 : (Jvm.Cond.initialized "java/lang/RuntimeException") ∈ GT := gt_at 17 (by decide +kernel) (by decide +kernel)
theorem g18 : (Jvm.Cond.initialized "java/lang/IndexOutOfBoundsException") ∈ GT := gt_at 18 (by decide +kernel) (by decide +kernel)
theorem g19 : (Jvm.Cond.initialized "java/lang/Integer") ∈ GT := gt_at 19 (by decide +kernel) (by decide +kernel)
theorem g20 : (Jvm.Cond.initialized "java/lang/UnsupportedOperationException") ∈ GT := gt_at 20 (by decide +kernel) (by decide +kernel)
theorem g21 : (Jvm.Cond.initialized "java/util/NoSuchElementException") ∈ GT := gt_at 21 (by decide +kernel) (by decide +kernel)
theorem g22 : (Jvm.Cond.initialized "java/lang/IllegalArgumentException") ∈ GT := gt_at 22 (by decide +kernel) (by decide +kernel)
theorem g23 : (Jvm.Cond.classLink "CacheRulesLaw" (8 : Nat) "CacheRules") ∈ GT := gt_at 23 (by decide +kernel) (by decide +kernel)
theorem g24 : (Jvm.Cond.instantiable "CacheRules" (12 : Nat)) ∈ GT := gt_at 24 (by decide +kernel) (by decide +kernel)
theorem g25 : (Jvm.Cond.methodLink "CacheRulesLaw" (52 : Nat) ({ cls := "CacheRules", name := "<init>", desc := "(IIII)V" } : Jvm.MethodName)) ∈ GT := gt_at 25 (by decide +kernel) (by decide +kernel)
theorem g26 : (Jvm.Cond.instanceMethod ({ cls := "CacheRules", name := "<init>", desc := "(IIII)V" } : Jvm.MethodName)) ∈ GT := gt_at 26 (by decide +kernel) (by decide +kernel)
theorem g27 : (Jvm.Cond.code ({ cls := "CacheRules", name := "<init>", desc := "(IIII)V" } : Jvm.MethodName) prog_1_method_1_code (7 : Nat) (Option.none : Option Jvm.ClassFile.FieldType)) ∈ GT := gt_at 27 (by decide +kernel) (by decide +kernel)
theorem g28 : (Jvm.Cond.methodLink "CacheRules" (1 : Nat) ({ cls := "java/lang/Object", name := "<init>", desc := "()V" } : Jvm.MethodName)) ∈ GT := gt_at 28 (by decide +kernel) (by decide +kernel)
theorem g29 : (Jvm.Cond.instanceMethod ({ cls := "java/lang/Object", name := "<init>", desc := "()V" } : Jvm.MethodName)) ∈ GT := gt_at 29 (by decide +kernel) (by decide +kernel)
theorem g30 : (Jvm.Cond.code ({ cls := "java/lang/Object", name := "<init>", desc := "()V" } : Jvm.MethodName) object_method_1_code (1 : Nat) (Option.none : Option Jvm.ClassFile.FieldType)) ∈ GT := gt_at 30 (by decide +kernel) (by decide +kernel)
theorem g31 : (Jvm.Cond.methodLink "CacheRules" (7 : Nat) ({ cls := "java/lang/Math", name := "floorMod", desc := "(II)I" } : Jvm.MethodName)) ∈ GT := gt_at 31 (by decide +kernel) (by decide +kernel)
theorem g32 : (Jvm.Cond.static ({ cls := "java/lang/Math", name := "floorMod", desc := "(II)I" } : Jvm.MethodName)) ∈ GT := gt_at 32 (by decide +kernel) (by decide +kernel)
theorem g33 : (Jvm.Cond.code ({ cls := "java/lang/Math", name := "floorMod", desc := "(II)I" } : Jvm.MethodName) prog_19_method_50_code (3 : Nat) (Option.some Jvm.ClassFile.FieldType.int)) ∈ GT := gt_at 33 (by decide +kernel) (by decide +kernel)
theorem g34 : (Jvm.Cond.classLink "CacheRules" (13 : Nat) "CacheRules$Ways") ∈ GT := gt_at 34 (by decide +kernel) (by decide +kernel)
theorem g35 : (Jvm.Cond.instantiable "CacheRules$Ways" (8 : Nat)) ∈ GT := gt_at 35 (by decide +kernel) (by decide +kernel)
theorem g36 : (Jvm.Cond.methodLink "CacheRules" (15 : Nat) ({ cls := "CacheRules$Ways", name := "<init>", desc := "(II)V" } : Jvm.MethodName)) ∈ GT := gt_at 36 (by decide +kernel) (by decide +kernel)
theorem g37 : (Jvm.Cond.instanceMethod ({ cls := "CacheRules$Ways", name := "<init>", desc := "(II)V" } : Jvm.MethodName)) ∈ GT := gt_at 37 (by decide +kernel) (by decide +kernel)
theorem g38 : (Jvm.Cond.code ({ cls := "CacheRules$Ways", name := "<init>", desc := "(II)V" } : Jvm.MethodName) prog_12_method_1_code (3 : Nat) (Option.none : Option Jvm.ClassFile.FieldType)) ∈ GT := gt_at 38 (by decide +kernel) (by decide +kernel)
theorem g39 : (Jvm.Cond.methodLink "CacheRules$Ways" (3 : Nat) ({ cls := "java/lang/Object", name := "<init>", desc := "()V" } : Jvm.MethodName)) ∈ GT := gt_at 39 (by decide +kernel) (by decide +kernel)
theorem g40 : (Jvm.Cond.fieldLink "CacheRules$Ways" (9 : Nat) "CacheRules$Ways" "sets" "I") ∈ GT := gt_at 40 (by decide +kernel) (by decide +kernel)
theorem g41 : (Jvm.Cond.fieldLink "CacheRules" (179 : Nat) "CacheRules$Ways" "sets" "I") ∈ GT := gt_at 41 (by decide +kernel) (by decide +kernel)
theorem g42 : (Jvm.Cond.fieldLink "CacheRules$Ways" (15 : Nat) "CacheRules$Ways" "width" "I") ∈ GT := gt_at 42 (by decide +kernel) (by decide +kernel)
theorem g43 : (Jvm.Cond.fieldLink "CacheRules" (182 : Nat) "CacheRules$Ways" "width" "I") ∈ GT := gt_at 43 (by decide +kernel) (by decide +kernel)
theorem g44 : (Jvm.Cond.fieldLink "CacheRules$Ways" (18 : Nat) "CacheRules$Ways" "slots" "I") ∈ GT := gt_at 44 (by decide +kernel) (by decide +kernel)
theorem g45 : (Jvm.Cond.fieldLink "CacheRules" (158 : Nat) "CacheRules$Ways" "slots" "I") ∈ GT := gt_at 45 (by decide +kernel) (by decide +kernel)
theorem g46 : (Jvm.Cond.fieldLink "CacheRules$Ways" (21 : Nat) "CacheRules$Ways" "line" "[I") ∈ GT := gt_at 46 (by decide +kernel) (by decide +kernel)
theorem g47 : (Jvm.Cond.fieldLink "CacheRules" (187 : Nat) "CacheRules$Ways" "line" "[I") ∈ GT := gt_at 47 (by decide +kernel) (by decide +kernel)
theorem g48 : (Jvm.Cond.fieldLink "CacheRules$Ways" (25 : Nat) "CacheRules$Ways" "has" "[Z") ∈ GT := gt_at 48 (by decide +kernel) (by decide +kernel)
theorem g49 : (Jvm.Cond.fieldLink "CacheRules" (190 : Nat) "CacheRules$Ways" "has" "[Z") ∈ GT := gt_at 49 (by decide +kernel) (by decide +kernel)
theorem g50 : (Jvm.Cond.fieldLink "CacheRules$Ways" (29 : Nat) "CacheRules$Ways" "there" "[I") ∈ GT := gt_at 50 (by decide +kernel) (by decide +kernel)
theorem g51 : (Jvm.Cond.fieldLink "CacheRules" (105 : Nat) "CacheRules$Ways" "there" "[I") ∈ GT := gt_at 51 (by decide +kernel) (by decide +kernel)
theorem g52 : (Jvm.Cond.fieldLink "CacheRules$Ways" (32 : Nat) "CacheRules$Ways" "changed" "[I") ∈ GT := gt_at 52 (by decide +kernel) (by decide +kernel)
theorem g53 : (Jvm.Cond.fieldLink "CacheRules" (164 : Nat) "CacheRules$Ways" "changed" "[I") ∈ GT := gt_at 53 (by decide +kernel) (by decide +kernel)
theorem g54 : (Jvm.Cond.fieldLink "CacheRules$Ways" (35 : Nat) "CacheRules$Ways" "locked" "[Z") ∈ GT := gt_at 54 (by decide +kernel) (by decide +kernel)
theorem g55 : (Jvm.Cond.fieldLink "CacheRules" (144 : Nat) "CacheRules$Ways" "locked" "[Z") ∈ GT := gt_at 55 (by decide +kernel) (by decide +kernel)
theorem g73 : (Jvm.Cond.arrayClass Jvm.ClassFile.FieldType.int) ∈ GT := gt_at 73 (by decide +kernel) (by decide +kernel)
theorem g74 : (Jvm.Cond.arrayClass Jvm.ClassFile.FieldType.boolean) ∈ GT := gt_at 74 (by decide +kernel) (by decide +kernel)
theorem g75 : (Jvm.Cond.classLink "CacheRules" (24 : Nat) "CacheRules$CatchingRows") ∈ GT := gt_at 75 (by decide +kernel) (by decide +kernel)
theorem g76 : (Jvm.Cond.instantiable "CacheRules$CatchingRows" (5 : Nat)) ∈ GT := gt_at 76 (by decide +kernel) (by decide +kernel)
theorem g77 : (Jvm.Cond.methodLink "CacheRules" (26 : Nat) ({ cls := "CacheRules$CatchingRows", name := "<init>", desc := "(I)V" } : Jvm.MethodName)) ∈ GT := gt_at 77 (by decide +kernel) (by decide +kernel)
theorem g78 : (Jvm.Cond.instanceMethod ({ cls := "CacheRules$CatchingRows", name := "<init>", desc := "(I)V" } : Jvm.MethodName)) ∈ GT := gt_at 78 (by decide +kernel) (by decide +kernel)
theorem g79 : (Jvm.Cond.code ({ cls := "CacheRules$CatchingRows", name := "<init>", desc := "(I)V" } : Jvm.MethodName) prog_4_method_1_code (2 : Nat) (Option.none : Option Jvm.ClassFile.FieldType)) ∈ GT := gt_at 79 (by decide +kernel) (by decide +kernel)
theorem g80 : (Jvm.Cond.methodLink "CacheRules$CatchingRows" (3 : Nat) ({ cls := "java/lang/Object", name := "<init>", desc := "()V" } : Jvm.MethodName)) ∈ GT := gt_at 80 (by decide +kernel) (by decide +kernel)
theorem g81 : (Jvm.Cond.fieldLink "CacheRules$CatchingRows" (9 : Nat) "CacheRules$CatchingRows" "room" "I") ∈ GT := gt_at 81 (by decide +kernel) (by decide +kernel)
theorem g82 : (Jvm.Cond.fieldLink "CacheRules" (271 : Nat) "CacheRules$CatchingRows" "room" "I") ∈ GT := gt_at 82 (by decide +kernel) (by decide +kernel)
theorem g83 : (Jvm.Cond.fieldLink "CacheRules$CatchingRows" (15 : Nat) "CacheRules$CatchingRows" "line" "[I") ∈ GT := gt_at 83 (by decide +kernel) (by decide +kernel)
theorem g84 : (Jvm.Cond.fieldLink "CacheRules" (197 : Nat) "CacheRules$CatchingRows" "line" "[I") ∈ GT := gt_at 84 (by decide +kernel) (by decide +kernel)
theorem g85 : (Jvm.Cond.fieldLink "CacheRules$CatchingRows" (19 : Nat) "CacheRules$CatchingRows" "there" "[I") ∈ GT := gt_at 85 (by decide +kernel) (by decide +kernel)
theorem g86 : (Jvm.Cond.fieldLink "CacheRules" (198 : Nat) "CacheRules$CatchingRows" "there" "[I") ∈ GT := gt_at 86 (by decide +kernel) (by decide +kernel)
theorem g87 : (Jvm.Cond.fieldLink "CacheRules$CatchingRows" (22 : Nat) "CacheRules$CatchingRows" "changed" "[I") ∈ GT := gt_at 87 (by decide +kernel) (by decide +kernel)
theorem g88 : (Jvm.Cond.fieldLink "CacheRules" (175 : Nat) "CacheRules$CatchingRows" "changed" "[I") ∈ GT := gt_at 88 (by decide +kernel) (by decide +kernel)
theorem g89 : (Jvm.Cond.fieldLink "CacheRules$CatchingRows" (25 : Nat) "CacheRules$CatchingRows" "size" "I") ∈ GT := gt_at 89 (by decide +kernel) (by decide +kernel)
theorem g90 : (Jvm.Cond.fieldLink "CacheRules" (161 : Nat) "CacheRules$CatchingRows" "size" "I") ∈ GT := gt_at 90 (by decide +kernel) (by decide +kernel)
theorem g102 : (Jvm.Cond.methodLink "CacheRules" (33 : Nat) ({ cls := "CacheRules", name := "ruleOf", desc := "(III)LCacheRules$Rule;" } : Jvm.MethodName)) ∈ GT := gt_at 102 (by decide +kernel) (by decide +kernel)
theorem g103 : (Jvm.Cond.static ({ cls := "CacheRules", name := "ruleOf", desc := "(III)LCacheRules$Rule;" } : Jvm.MethodName)) ∈ GT := gt_at 103 (by decide +kernel) (by decide +kernel)
theorem g104 : (Jvm.Cond.code ({ cls := "CacheRules", name := "ruleOf", desc := "(III)LCacheRules$Rule;" } : Jvm.MethodName) prog_1_method_2_code (3 : Nat) (Option.some (Jvm.ClassFile.FieldType.object "CacheRules$Rule"))) ∈ GT := gt_at 104 (by decide +kernel) (by decide +kernel)
theorem g105 : (Jvm.Cond.classLink "CacheRules" (66 : Nat) "CacheRules$ChanceRule") ∈ GT := gt_at 105 (by decide +kernel) (by decide +kernel)
theorem g106 : (Jvm.Cond.instantiable "CacheRules$ChanceRule" (2 : Nat)) ∈ GT := gt_at 106 (by decide +kernel) (by decide +kernel)
theorem g107 : (Jvm.Cond.methodLink "CacheRules" (68 : Nat) ({ cls := "CacheRules$ChanceRule", name := "<init>", desc := "(I)V" } : Jvm.MethodName)) ∈ GT := gt_at 107 (by decide +kernel) (by decide +kernel)
theorem g108 : (Jvm.Cond.instanceMethod ({ cls := "CacheRules$ChanceRule", name := "<init>", desc := "(I)V" } : Jvm.MethodName)) ∈ GT := gt_at 108 (by decide +kernel) (by decide +kernel)
theorem g109 : (Jvm.Cond.code ({ cls := "CacheRules$ChanceRule", name := "<init>", desc := "(I)V" } : Jvm.MethodName) prog_5_method_1_code (2 : Nat) (Option.none : Option Jvm.ClassFile.FieldType)) ∈ GT := gt_at 109 (by decide +kernel) (by decide +kernel)
theorem g110 : (Jvm.Cond.methodLink "CacheRules$ChanceRule" (3 : Nat) ({ cls := "CacheRules$Rule", name := "<init>", desc := "(I)V" } : Jvm.MethodName)) ∈ GT := gt_at 110 (by decide +kernel) (by decide +kernel)
theorem g111 : (Jvm.Cond.instanceMethod ({ cls := "CacheRules$Rule", name := "<init>", desc := "(I)V" } : Jvm.MethodName)) ∈ GT := gt_at 111 (by decide +kernel) (by decide +kernel)
theorem g112 : (Jvm.Cond.code ({ cls := "CacheRules$Rule", name := "<init>", desc := "(I)V" } : Jvm.MethodName) prog_9_method_1_code (2 : Nat) (Option.none : Option Jvm.ClassFile.FieldType)) ∈ GT := gt_at 112 (by decide +kernel) (by decide +kernel)
theorem g113 : (Jvm.Cond.methodLink "CacheRules$Rule" (1 : Nat) ({ cls := "java/lang/Object", name := "<init>", desc := "()V" } : Jvm.MethodName)) ∈ GT := gt_at 113 (by decide +kernel) (by decide +kernel)
theorem g114 : (Jvm.Cond.fieldLink "CacheRules$ChanceRule" (9 : Nat) "CacheRules$ChanceRule" "x" "I") ∈ GT := gt_at 114 (by decide +kernel) (by decide +kernel)
theorem g115 : (Jvm.Cond.fieldLink "CacheRules$Rule" (7 : Nat) "CacheRules$Rule" "width" "I") ∈ GT := gt_at 115 (by decide +kernel) (by decide +kernel)
theorem g116 : (Jvm.Cond.fieldLink "CacheRules$LatelyRule" (15 : Nat) "CacheRules$LatelyRule" "width" "I") ∈ GT := gt_at 116 (by decide +kernel) (by decide +kernel)
theorem g117 : (Jvm.Cond.sameField "CacheRules$LatelyRule" "CacheRules$Rule" "width" "I") ∈ GT := gt_at 117 (by decide +kernel) (by decide +kernel)
theorem g118 : (Jvm.Cond.fieldLink "CacheRules$TimeRule" (25 : Nat) "CacheRules$TimeRule" "width" "I") ∈ GT := gt_at 118 (by decide +kernel) (by decide +kernel)
theorem g119 : (Jvm.Cond.sameField "CacheRules$TimeRule" "CacheRules$Rule" "width" "I") ∈ GT := gt_at 119 (by decide +kernel) (by decide +kernel)
theorem g120 : (Jvm.Cond.fieldLink "CacheRules$AgeRule" (15 : Nat) "CacheRules$AgeRule" "width" "I") ∈ GT := gt_at 120 (by decide +kernel) (by decide +kernel)
theorem g121 : (Jvm.Cond.sameField "CacheRules$AgeRule" "CacheRules$Rule" "width" "I") ∈ GT := gt_at 121 (by decide +kernel) (by decide +kernel)
theorem g122 : (Jvm.Cond.fieldLink "CacheRules$RoundRule" (19 : Nat) "CacheRules$RoundRule" "width" "I") ∈ GT := gt_at 122 (by decide +kernel) (by decide +kernel)
theorem g123 : (Jvm.Cond.sameField "CacheRules$RoundRule" "CacheRules$Rule" "width" "I") ∈ GT := gt_at 123 (by decide +kernel) (by decide +kernel)
theorem g124 : (Jvm.Cond.fieldLink "CacheRules$ChanceRule" (15 : Nat) "CacheRules$ChanceRule" "width" "I") ∈ GT := gt_at 124 (by decide +kernel) (by decide +kernel)
theorem g125 : (Jvm.Cond.sameField "CacheRules$ChanceRule" "CacheRules$Rule" "width" "I") ∈ GT := gt_at 125 (by decide +kernel) (by decide +kernel)
theorem g126 : (Jvm.Cond.fieldLink "CacheRules$TreeRule" (23 : Nat) "CacheRules$TreeRule" "width" "I") ∈ GT := gt_at 126 (by decide +kernel) (by decide +kernel)
theorem g127 : (Jvm.Cond.sameField "CacheRules$TreeRule" "CacheRules$Rule" "width" "I") ∈ GT := gt_at 127 (by decide +kernel) (by decide +kernel)
theorem g133 : (Jvm.Cond.classLink "CacheRules" (69 : Nat) "CacheRules$RoundRule") ∈ GT := gt_at 133 (by decide +kernel) (by decide +kernel)
theorem g134 : (Jvm.Cond.instantiable "CacheRules$RoundRule" (3 : Nat)) ∈ GT := gt_at 134 (by decide +kernel) (by decide +kernel)
theorem g135 : (Jvm.Cond.methodLink "CacheRules" (71 : Nat) ({ cls := "CacheRules$RoundRule", name := "<init>", desc := "(II)V" } : Jvm.MethodName)) ∈ GT := gt_at 135 (by decide +kernel) (by decide +kernel)
theorem g136 : (Jvm.Cond.instanceMethod ({ cls := "CacheRules$RoundRule", name := "<init>", desc := "(II)V" } : Jvm.MethodName)) ∈ GT := gt_at 136 (by decide +kernel) (by decide +kernel)
theorem g137 : (Jvm.Cond.code ({ cls := "CacheRules$RoundRule", name := "<init>", desc := "(II)V" } : Jvm.MethodName) prog_8_method_1_code (3 : Nat) (Option.none : Option Jvm.ClassFile.FieldType)) ∈ GT := gt_at 137 (by decide +kernel) (by decide +kernel)
theorem g138 : (Jvm.Cond.methodLink "CacheRules$RoundRule" (3 : Nat) ({ cls := "CacheRules$Rule", name := "<init>", desc := "(I)V" } : Jvm.MethodName)) ∈ GT := gt_at 138 (by decide +kernel) (by decide +kernel)
theorem g139 : (Jvm.Cond.fieldLink "CacheRules$RoundRule" (9 : Nat) "CacheRules$RoundRule" "mark" "[Z") ∈ GT := gt_at 139 (by decide +kernel) (by decide +kernel)
theorem g140 : (Jvm.Cond.fieldLink "CacheRules$RoundRule" (15 : Nat) "CacheRules$RoundRule" "hand" "[I") ∈ GT := gt_at 140 (by decide +kernel) (by decide +kernel)
theorem g147 : (Jvm.Cond.classLink "CacheRules" (72 : Nat) "CacheRules$TreeRule") ∈ GT := gt_at 147 (by decide +kernel) (by decide +kernel)
theorem g148 : (Jvm.Cond.instantiable "CacheRules$TreeRule" (3 : Nat)) ∈ GT := gt_at 148 (by decide +kernel) (by decide +kernel)
theorem g149 : (Jvm.Cond.methodLink "CacheRules" (74 : Nat) ({ cls := "CacheRules$TreeRule", name := "<init>", desc := "(II)V" } : Jvm.MethodName)) ∈ GT := gt_at 149 (by decide +kernel) (by decide +kernel)
theorem g150 : (Jvm.Cond.instanceMethod ({ cls := "CacheRules$TreeRule", name := "<init>", desc := "(II)V" } : Jvm.MethodName)) ∈ GT := gt_at 150 (by decide +kernel) (by decide +kernel)
theorem g151 : (Jvm.Cond.code ({ cls := "CacheRules$TreeRule", name := "<init>", desc := "(II)V" } : Jvm.MethodName) prog_11_method_1_code (3 : Nat) (Option.none : Option Jvm.ClassFile.FieldType)) ∈ GT := gt_at 151 (by decide +kernel) (by decide +kernel)
theorem g152 : (Jvm.Cond.methodLink "CacheRules$TreeRule" (3 : Nat) ({ cls := "CacheRules$Rule", name := "<init>", desc := "(I)V" } : Jvm.MethodName)) ∈ GT := gt_at 152 (by decide +kernel) (by decide +kernel)
theorem g153 : (Jvm.Cond.fieldLink "CacheRules$TreeRule" (9 : Nat) "CacheRules$TreeRule" "leaves" "I") ∈ GT := gt_at 153 (by decide +kernel) (by decide +kernel)
theorem g154 : (Jvm.Cond.fieldLink "CacheRules$TreeRule" (15 : Nat) "CacheRules$TreeRule" "tree" "[I") ∈ GT := gt_at 154 (by decide +kernel) (by decide +kernel)
theorem g161 : (Jvm.Cond.classLink "CacheRules" (75 : Nat) "CacheRules$LatelyRule") ∈ GT := gt_at 161 (by decide +kernel) (by decide +kernel)
theorem g162 : (Jvm.Cond.instantiable "CacheRules$LatelyRule" (2 : Nat)) ∈ GT := gt_at 162 (by decide +kernel) (by decide +kernel)
theorem g163 : (Jvm.Cond.methodLink "CacheRules" (77 : Nat) ({ cls := "CacheRules$LatelyRule", name := "<init>", desc := "(II)V" } : Jvm.MethodName)) ∈ GT := gt_at 163 (by decide +kernel) (by decide +kernel)
theorem g164 : (Jvm.Cond.instanceMethod ({ cls := "CacheRules$LatelyRule", name := "<init>", desc := "(II)V" } : Jvm.MethodName)) ∈ GT := gt_at 164 (by decide +kernel) (by decide +kernel)
theorem g165 : (Jvm.Cond.code ({ cls := "CacheRules$LatelyRule", name := "<init>", desc := "(II)V" } : Jvm.MethodName) prog_7_method_1_code (3 : Nat) (Option.none : Option Jvm.ClassFile.FieldType)) ∈ GT := gt_at 165 (by decide +kernel) (by decide +kernel)
theorem g166 : (Jvm.Cond.methodLink "CacheRules$LatelyRule" (3 : Nat) ({ cls := "CacheRules$Rule", name := "<init>", desc := "(I)V" } : Jvm.MethodName)) ∈ GT := gt_at 166 (by decide +kernel) (by decide +kernel)
theorem g167 : (Jvm.Cond.fieldLink "CacheRules$LatelyRule" (9 : Nat) "CacheRules$LatelyRule" "mark" "[Z") ∈ GT := gt_at 167 (by decide +kernel) (by decide +kernel)
theorem g172 : (Jvm.Cond.classLink "CacheRules" (78 : Nat) "CacheRules$AgeRule") ∈ GT := gt_at 172 (by decide +kernel) (by decide +kernel)
theorem g173 : (Jvm.Cond.instantiable "CacheRules$AgeRule" (2 : Nat)) ∈ GT := gt_at 173 (by decide +kernel) (by decide +kernel)
theorem g174 : (Jvm.Cond.methodLink "CacheRules" (80 : Nat) ({ cls := "CacheRules$AgeRule", name := "<init>", desc := "(II)V" } : Jvm.MethodName)) ∈ GT := gt_at 174 (by decide +kernel) (by decide +kernel)
theorem g175 : (Jvm.Cond.instanceMethod ({ cls := "CacheRules$AgeRule", name := "<init>", desc := "(II)V" } : Jvm.MethodName)) ∈ GT := gt_at 175 (by decide +kernel) (by decide +kernel)
theorem g176 : (Jvm.Cond.code ({ cls := "CacheRules$AgeRule", name := "<init>", desc := "(II)V" } : Jvm.MethodName) prog_2_method_1_code (3 : Nat) (Option.none : Option Jvm.ClassFile.FieldType)) ∈ GT := gt_at 176 (by decide +kernel) (by decide +kernel)
theorem g177 : (Jvm.Cond.methodLink "CacheRules$AgeRule" (3 : Nat) ({ cls := "CacheRules$Rule", name := "<init>", desc := "(I)V" } : Jvm.MethodName)) ∈ GT := gt_at 177 (by decide +kernel) (by decide +kernel)
theorem g178 : (Jvm.Cond.fieldLink "CacheRules$AgeRule" (9 : Nat) "CacheRules$AgeRule" "age" "[I") ∈ GT := gt_at 178 (by decide +kernel) (by decide +kernel)
theorem g183 : (Jvm.Cond.classLink "CacheRules" (81 : Nat) "CacheRules$TimeRule") ∈ GT := gt_at 183 (by decide +kernel) (by decide +kernel)
theorem g184 : (Jvm.Cond.instantiable "CacheRules$TimeRule" (7 : Nat)) ∈ GT := gt_at 184 (by decide +kernel) (by decide +kernel)
theorem g185 : (Jvm.Cond.methodLink "CacheRules" (83 : Nat) ({ cls := "CacheRules$TimeRule", name := "<init>", desc := "(III)V" } : Jvm.MethodName)) ∈ GT := gt_at 185 (by decide +kernel) (by decide +kernel)
theorem g186 : (Jvm.Cond.instanceMethod ({ cls := "CacheRules$TimeRule", name := "<init>", desc := "(III)V" } : Jvm.MethodName)) ∈ GT := gt_at 186 (by decide +kernel) (by decide +kernel)
theorem g187 : (Jvm.Cond.code ({ cls := "CacheRules$TimeRule", name := "<init>", desc := "(III)V" } : Jvm.MethodName) prog_10_method_1_code (4 : Nat) (Option.none : Option Jvm.ClassFile.FieldType)) ∈ GT := gt_at 187 (by decide +kernel) (by decide +kernel)
theorem g188 : (Jvm.Cond.methodLink "CacheRules$TimeRule" (3 : Nat) ({ cls := "CacheRules$Rule", name := "<init>", desc := "(I)V" } : Jvm.MethodName)) ∈ GT := gt_at 188 (by decide +kernel) (by decide +kernel)
theorem g189 : (Jvm.Cond.fieldLink "CacheRules$TimeRule" (9 : Nat) "CacheRules$TimeRule" "number" "I") ∈ GT := gt_at 189 (by decide +kernel) (by decide +kernel)
theorem g190 : (Jvm.Cond.fieldLink "CacheRules$TimeRule" (15 : Nat) "CacheRules$TimeRule" "last" "[I") ∈ GT := gt_at 190 (by decide +kernel) (by decide +kernel)
theorem g191 : (Jvm.Cond.fieldLink "CacheRules$TimeRule" (19 : Nat) "CacheRules$TimeRule" "came" "[I") ∈ GT := gt_at 191 (by decide +kernel) (by decide +kernel)
theorem g192 : (Jvm.Cond.fieldLink "CacheRules$TimeRule" (22 : Nat) "CacheRules$TimeRule" "uses" "[I") ∈ GT := gt_at 192 (by decide +kernel) (by decide +kernel)
theorem g193 : (Jvm.Cond.fieldLink "CacheRules$TimeRule" (28 : Nat) "CacheRules$TimeRule" "now" "I") ∈ GT := gt_at 193 (by decide +kernel) (by decide +kernel)
theorem g194 : (Jvm.Cond.fieldLink "CacheRules$TimeRule" (31 : Nat) "CacheRules$TimeRule" "beforeAll" "I") ∈ GT := gt_at 194 (by decide +kernel) (by decide +kernel)
theorem g209 : (Jvm.Cond.classLink "CacheRules" (41 : Nat) "CacheRules$Asks") ∈ GT := gt_at 209 (by decide +kernel) (by decide +kernel)
theorem g210 : (Jvm.Cond.instantiable "CacheRules$Asks" (8 : Nat)) ∈ GT := gt_at 210 (by decide +kernel) (by decide +kernel)
theorem g211 : (Jvm.Cond.methodLink "CacheRules" (43 : Nat) ({ cls := "CacheRules$Asks", name := "<init>", desc := "()V" } : Jvm.MethodName)) ∈ GT := gt_at 211 (by decide +kernel) (by decide +kernel)
theorem g212 : (Jvm.Cond.instanceMethod ({ cls := "CacheRules$Asks", name := "<init>", desc := "()V" } : Jvm.MethodName)) ∈ GT := gt_at 212 (by decide +kernel) (by decide +kernel)
theorem g213 : (Jvm.Cond.code ({ cls := "CacheRules$Asks", name := "<init>", desc := "()V" } : Jvm.MethodName) prog_3_method_1_code (1 : Nat) (Option.none : Option Jvm.ClassFile.FieldType)) ∈ GT := gt_at 213 (by decide +kernel) (by decide +kernel)
theorem g214 : (Jvm.Cond.methodLink "CacheRules$Asks" (1 : Nat) ({ cls := "java/lang/Object", name := "<init>", desc := "()V" } : Jvm.MethodName)) ∈ GT := gt_at 214 (by decide +kernel) (by decide +kernel)
theorem g215 : (Jvm.Cond.fieldLink "CacheRules$Asks" (9 : Nat) "CacheRules$Asks" "lineOf" "[I") ∈ GT := gt_at 215 (by decide +kernel) (by decide +kernel)
theorem g216 : (Jvm.Cond.fieldLink "CacheRules$Asks" (13 : Nat) "CacheRules$Asks" "partOf" "[I") ∈ GT := gt_at 216 (by decide +kernel) (by decide +kernel)
theorem g217 : (Jvm.Cond.fieldLink "CacheRules$Asks" (16 : Nat) "CacheRules$Asks" "waiting" "[I") ∈ GT := gt_at 217 (by decide +kernel) (by decide +kernel)
theorem g218 : (Jvm.Cond.fieldLink "CacheRules$Asks" (19 : Nat) "CacheRules$Asks" "donePart" "[I") ∈ GT := gt_at 218 (by decide +kernel) (by decide +kernel)
theorem g219 : (Jvm.Cond.fieldLink "CacheRules" (139 : Nat) "CacheRules$Asks" "donePart" "[I") ∈ GT := gt_at 219 (by decide +kernel) (by decide +kernel)
theorem g220 : (Jvm.Cond.fieldLink "CacheRules$Asks" (22 : Nat) "CacheRules$Asks" "doneKind" "[I") ∈ GT := gt_at 220 (by decide +kernel) (by decide +kernel)
theorem g221 : (Jvm.Cond.fieldLink "CacheRules" (136 : Nat) "CacheRules$Asks" "doneKind" "[I") ∈ GT := gt_at 221 (by decide +kernel) (by decide +kernel)
theorem g222 : (Jvm.Cond.fieldLink "CacheRules$Asks" (29 : Nat) "CacheRules$Asks" "size" "I") ∈ GT := gt_at 222 (by decide +kernel) (by decide +kernel)
theorem g223 : (Jvm.Cond.fieldLink "CacheRules" (228 : Nat) "CacheRules$Asks" "size" "I") ∈ GT := gt_at 223 (by decide +kernel) (by decide +kernel)
theorem g224 : (Jvm.Cond.fieldLink "CacheRules$Asks" (25 : Nat) "CacheRules$Asks" "lineCount" "I") ∈ GT := gt_at 224 (by decide +kernel) (by decide +kernel)
theorem g225 : (Jvm.Cond.fieldLink "CacheRules" (120 : Nat) "CacheRules$Asks" "lineCount" "I") ∈ GT := gt_at 225 (by decide +kernel) (by decide +kernel)
theorem g226 : (Jvm.Cond.fieldLink "CacheRules$Asks" (36 : Nat) "CacheRules$Asks" "doneCount" "I") ∈ GT := gt_at 226 (by decide +kernel) (by decide +kernel)
theorem g227 : (Jvm.Cond.fieldLink "CacheRules" (133 : Nat) "CacheRules$Asks" "doneCount" "I") ∈ GT := gt_at 227 (by decide +kernel) (by decide +kernel)
theorem g245 : (Jvm.Cond.classLink "CacheRules" (48 : Nat) "CacheRules$History") ∈ GT := gt_at 245 (by decide +kernel) (by decide +kernel)
theorem g246 : (Jvm.Cond.instantiable "CacheRules$History" (4 : Nat)) ∈ GT := gt_at 246 (by decide +kernel) (by decide +kernel)
theorem g247 : (Jvm.Cond.methodLink "CacheRules" (50 : Nat) ({ cls := "CacheRules$History", name := "<init>", desc := "()V" } : Jvm.MethodName)) ∈ GT := gt_at 247 (by decide +kernel) (by decide +kernel)
theorem g248 : (Jvm.Cond.instanceMethod ({ cls := "CacheRules$History", name := "<init>", desc := "()V" } : Jvm.MethodName)) ∈ GT := gt_at 248 (by decide +kernel) (by decide +kernel)
theorem g249 : (Jvm.Cond.code ({ cls := "CacheRules$History", name := "<init>", desc := "()V" } : Jvm.MethodName) prog_6_method_1_code (1 : Nat) (Option.none : Option Jvm.ClassFile.FieldType)) ∈ GT := gt_at 249 (by decide +kernel) (by decide +kernel)
theorem g250 : (Jvm.Cond.methodLink "CacheRules$History" (3 : Nat) ({ cls := "java/lang/Object", name := "<init>", desc := "()V" } : Jvm.MethodName)) ∈ GT := gt_at 250 (by decide +kernel) (by decide +kernel)
theorem g251 : (Jvm.Cond.fieldLink "CacheRules$History" (11 : Nat) "CacheRules$History" "latest" "[I") ∈ GT := gt_at 251 (by decide +kernel) (by decide +kernel)
theorem g252 : (Jvm.Cond.fieldLink "CacheRules$History" (15 : Nat) "CacheRules$History" "seen" "[I") ∈ GT := gt_at 252 (by decide +kernel) (by decide +kernel)
theorem g253 : (Jvm.Cond.fieldLink "CacheRules$History" (18 : Nat) "CacheRules$History" "size" "I") ∈ GT := gt_at 253 (by decide +kernel) (by decide +kernel)
theorem g254 : (Jvm.Cond.fieldLink "CacheRules$History" (26 : Nat) "CacheRules$History" "seenNone" "I") ∈ GT := gt_at 254 (by decide +kernel) (by decide +kernel)
theorem g264 : (Jvm.Cond.fieldLink "CacheRules" (18 : Nat) "CacheRules" "ways" "LCacheRules$Ways;") ∈ GT := gt_at 264 (by decide +kernel) (by decide +kernel)
theorem g265 : (Jvm.Cond.fieldLink "CacheRules" (29 : Nat) "CacheRules" "rows" "LCacheRules$CatchingRows;") ∈ GT := gt_at 265 (by decide +kernel) (by decide +kernel)
theorem g266 : (Jvm.Cond.fieldLink "CacheRules" (37 : Nat) "CacheRules" "rule" "LCacheRules$Rule;") ∈ GT := gt_at 266 (by decide +kernel) (by decide +kernel)
theorem g267 : (Jvm.Cond.fieldLink "CacheRules" (44 : Nat) "CacheRules" "asks" "LCacheRules$Asks;") ∈ GT := gt_at 267 (by decide +kernel) (by decide +kernel)
theorem g268 : (Jvm.Cond.fieldLink "CacheRules" (51 : Nat) "CacheRules" "history" "LCacheRules$History;") ∈ GT := gt_at 268 (by decide +kernel) (by decide +kernel)
theorem g269 : (Jvm.Cond.fieldLink "CacheRules" (55 : Nat) "CacheRules" "kinds" "[I") ∈ GT := gt_at 269 (by decide +kernel) (by decide +kernel)
theorem g270 : (Jvm.Cond.fieldLink "CacheRules" (59 : Nat) "CacheRules" "through" "Z") ∈ GT := gt_at 270 (by decide +kernel) (by decide +kernel)
theorem g271 : (Jvm.Cond.fieldLink "CacheRules" (63 : Nat) "CacheRules" "places" "Z") ∈ GT := gt_at 271 (by decide +kernel) (by decide +kernel)
theorem g272 : (Jvm.Cond.fieldLink "CacheRules" (219 : Nat) "CacheRules" "accesses" "I") ∈ GT := gt_at 272 (by decide +kernel) (by decide +kernel)
theorem g273 : (Jvm.Cond.fieldLink "CacheRules" (222 : Nat) "CacheRules" "fetched" "I") ∈ GT := gt_at 273 (by decide +kernel) (by decide +kernel)
theorem g274 : (Jvm.Cond.fieldLink "CacheRules" (155 : Nat) "CacheRules" "writes" "I") ∈ GT := gt_at 274 (by decide +kernel) (by decide +kernel)
theorem g275 : (Jvm.Cond.fieldLink "CacheRules" (225 : Nat) "CacheRules" "wentOut" "I") ∈ GT := gt_at 275 (by decide +kernel) (by decide +kernel)
theorem g301 : (Jvm.Cond.methodLink "CacheRulesLaw" (58 : Nat) ({ cls := "CacheRules", name := "mode", desc := "(ZZ)I" } : Jvm.MethodName)) ∈ GT := gt_at 301 (by decide +kernel) (by decide +kernel)
theorem g302 : (Jvm.Cond.instanceMethod ({ cls := "CacheRules", name := "mode", desc := "(ZZ)I" } : Jvm.MethodName)) ∈ GT := gt_at 302 (by decide +kernel) (by decide +kernel)
theorem g303 : (Jvm.Cond.selects "CacheRules" ({ cls := "CacheRules", name := "mode", desc := "(ZZ)I" } : Jvm.MethodName) ({ cls := "CacheRules", name := "mode", desc := "(ZZ)I" } : Jvm.MethodName)) ∈ GT := gt_at 303 (by decide +kernel) (by decide +kernel)
theorem g304 : (Jvm.Cond.code ({ cls := "CacheRules", name := "mode", desc := "(ZZ)I" } : Jvm.MethodName) prog_1_method_3_code (4 : Nat) (Option.some Jvm.ClassFile.FieldType.int)) ∈ GT := gt_at 304 (by decide +kernel) (by decide +kernel)
theorem g305 : (Jvm.Cond.methodLink "CacheRulesLaw" (81 : Nat) ({ cls := "CacheRules", name := "lock", desc := "(IZ)Z" } : Jvm.MethodName)) ∈ GT := gt_at 305 (by decide +kernel) (by decide +kernel)
theorem g306 : (Jvm.Cond.instanceMethod ({ cls := "CacheRules", name := "lock", desc := "(IZ)Z" } : Jvm.MethodName)) ∈ GT := gt_at 306 (by decide +kernel) (by decide +kernel)
theorem g307 : (Jvm.Cond.selects "CacheRules" ({ cls := "CacheRules", name := "lock", desc := "(IZ)Z" } : Jvm.MethodName) ({ cls := "CacheRules", name := "lock", desc := "(IZ)Z" } : Jvm.MethodName)) ∈ GT := gt_at 307 (by decide +kernel) (by decide +kernel)
theorem g308 : (Jvm.Cond.code ({ cls := "CacheRules", name := "lock", desc := "(IZ)Z" } : Jvm.MethodName) prog_1_method_8_code (4 : Nat) (Option.some Jvm.ClassFile.FieldType.boolean)) ∈ GT := gt_at 308 (by decide +kernel) (by decide +kernel)
theorem g309 : (Jvm.Cond.methodLink "CacheRules" (101 : Nat) ({ cls := "CacheRules$Ways", name := "find", desc := "(I)I" } : Jvm.MethodName)) ∈ GT := gt_at 309 (by decide +kernel) (by decide +kernel)
theorem g310 : (Jvm.Cond.instanceMethod ({ cls := "CacheRules$Ways", name := "find", desc := "(I)I" } : Jvm.MethodName)) ∈ GT := gt_at 310 (by decide +kernel) (by decide +kernel)
theorem g311 : (Jvm.Cond.selects "CacheRules$Ways" ({ cls := "CacheRules$Ways", name := "find", desc := "(I)I" } : Jvm.MethodName) ({ cls := "CacheRules$Ways", name := "find", desc := "(I)I" } : Jvm.MethodName)) ∈ GT := gt_at 311 (by decide +kernel) (by decide +kernel)
theorem g312 : (Jvm.Cond.code ({ cls := "CacheRules$Ways", name := "find", desc := "(I)I" } : Jvm.MethodName) prog_12_method_3_code (4 : Nat) (Option.some Jvm.ClassFile.FieldType.int)) ∈ GT := gt_at 312 (by decide +kernel) (by decide +kernel)
theorem g313 : (Jvm.Cond.methodLink "CacheRules$Ways" (38 : Nat) ({ cls := "CacheRules$Ways", name := "setOf", desc := "(I)I" } : Jvm.MethodName)) ∈ GT := gt_at 313 (by decide +kernel) (by decide +kernel)
theorem g314 : (Jvm.Cond.instanceMethod ({ cls := "CacheRules$Ways", name := "setOf", desc := "(I)I" } : Jvm.MethodName)) ∈ GT := gt_at 314 (by decide +kernel) (by decide +kernel)
theorem g315 : (Jvm.Cond.selects "CacheRules$Ways" ({ cls := "CacheRules$Ways", name := "setOf", desc := "(I)I" } : Jvm.MethodName) ({ cls := "CacheRules$Ways", name := "setOf", desc := "(I)I" } : Jvm.MethodName)) ∈ GT := gt_at 315 (by decide +kernel) (by decide +kernel)
theorem g316 : (Jvm.Cond.code ({ cls := "CacheRules$Ways", name := "setOf", desc := "(I)I" } : Jvm.MethodName) prog_12_method_2_code (2 : Nat) (Option.some Jvm.ClassFile.FieldType.int)) ∈ GT := gt_at 316 (by decide +kernel) (by decide +kernel)
theorem g317 : (Jvm.Cond.methodLink "CacheRulesLaw" (86 : Nat) ({ cls := "CacheRules", name := "clean", desc := "(I)I" } : Jvm.MethodName)) ∈ GT := gt_at 317 (by decide +kernel) (by decide +kernel)
theorem g318 : (Jvm.Cond.instanceMethod ({ cls := "CacheRules", name := "clean", desc := "(I)I" } : Jvm.MethodName)) ∈ GT := gt_at 318 (by decide +kernel) (by decide +kernel)
theorem g319 : (Jvm.Cond.selects "CacheRules" ({ cls := "CacheRules", name := "clean", desc := "(I)I" } : Jvm.MethodName) ({ cls := "CacheRules", name := "clean", desc := "(I)I" } : Jvm.MethodName)) ∈ GT := gt_at 319 (by decide +kernel) (by decide +kernel)
theorem g320 : (Jvm.Cond.code ({ cls := "CacheRules", name := "clean", desc := "(I)I" } : Jvm.MethodName) prog_1_method_9_code (5 : Nat) (Option.some Jvm.ClassFile.FieldType.int)) ∈ GT := gt_at 320 (by decide +kernel) (by decide +kernel)
theorem g321 : (Jvm.Cond.methodLink "CacheRules" (148 : Nat) ({ cls := "CacheRules$CatchingRows", name := "find", desc := "(I)I" } : Jvm.MethodName)) ∈ GT := gt_at 321 (by decide +kernel) (by decide +kernel)
theorem g322 : (Jvm.Cond.instanceMethod ({ cls := "CacheRules$CatchingRows", name := "find", desc := "(I)I" } : Jvm.MethodName)) ∈ GT := gt_at 322 (by decide +kernel) (by decide +kernel)
theorem g323 : (Jvm.Cond.selects "CacheRules$CatchingRows" ({ cls := "CacheRules$CatchingRows", name := "find", desc := "(I)I" } : Jvm.MethodName) ({ cls := "CacheRules$CatchingRows", name := "find", desc := "(I)I" } : Jvm.MethodName)) ∈ GT := gt_at 323 (by decide +kernel) (by decide +kernel)
theorem g324 : (Jvm.Cond.code ({ cls := "CacheRules$CatchingRows", name := "find", desc := "(I)I" } : Jvm.MethodName) prog_4_method_2_code (3 : Nat) (Option.some Jvm.ClassFile.FieldType.int)) ∈ GT := gt_at 324 (by decide +kernel) (by decide +kernel)
theorem g325 : (Jvm.Cond.methodLink "CacheRules" (149 : Nat) ({ cls := "CacheRules$Ways", name := "cleanSlot", desc := "(I)I" } : Jvm.MethodName)) ∈ GT := gt_at 325 (by decide +kernel) (by decide +kernel)
theorem g326 : (Jvm.Cond.instanceMethod ({ cls := "CacheRules$Ways", name := "cleanSlot", desc := "(I)I" } : Jvm.MethodName)) ∈ GT := gt_at 326 (by decide +kernel) (by decide +kernel)
theorem g327 : (Jvm.Cond.selects "CacheRules$Ways" ({ cls := "CacheRules$Ways", name := "cleanSlot", desc := "(I)I" } : Jvm.MethodName) ({ cls := "CacheRules$Ways", name := "cleanSlot", desc := "(I)I" } : Jvm.MethodName)) ∈ GT := gt_at 327 (by decide +kernel) (by decide +kernel)
theorem g328 : (Jvm.Cond.code ({ cls := "CacheRules$Ways", name := "cleanSlot", desc := "(I)I" } : Jvm.MethodName) prog_12_method_8_code (3 : Nat) (Option.some Jvm.ClassFile.FieldType.int)) ∈ GT := gt_at 328 (by decide +kernel) (by decide +kernel)
theorem g329 : (Jvm.Cond.methodLink "CacheRules$Ways" (42 : Nat) ({ cls := "java/lang/Integer", name := "bitCount", desc := "(I)I" } : Jvm.MethodName)) ∈ GT := gt_at 329 (by decide +kernel) (by decide +kernel)
theorem g330 : (Jvm.Cond.static ({ cls := "java/lang/Integer", name := "bitCount", desc := "(I)I" } : Jvm.MethodName)) ∈ GT := gt_at 330 (by decide +kernel) (by decide +kernel)
theorem g331 : (Jvm.Cond.code ({ cls := "java/lang/Integer", name := "bitCount", desc := "(I)I" } : Jvm.MethodName) prog_18_method_49_code (1 : Nat) (Option.some Jvm.ClassFile.FieldType.int)) ∈ GT := gt_at 331 (by decide +kernel) (by decide +kernel)
theorem g332 : (Jvm.Cond.constant "java/lang/Integer" (265 : Nat) (1431655765 : Int32)) ∈ GT := gt_at 332 (by decide +kernel) (by decide +kernel)
theorem g333 : (Jvm.Cond.constant "java/lang/Integer" (266 : Nat) (858993459 : Int32)) ∈ GT := gt_at 333 (by decide +kernel) (by decide +kernel)
theorem g334 : (Jvm.Cond.constant "java/lang/Integer" (267 : Nat) (252645135 : Int32)) ∈ GT := gt_at 334 (by decide +kernel) (by decide +kernel)
theorem g335 : (Jvm.Cond.methodLink "CacheRules" (152 : Nat) ({ cls := "CacheRules$CatchingRows", name := "cleanRow", desc := "(I)I" } : Jvm.MethodName)) ∈ GT := gt_at 335 (by decide +kernel) (by decide +kernel)
theorem g336 : (Jvm.Cond.instanceMethod ({ cls := "CacheRules$CatchingRows", name := "cleanRow", desc := "(I)I" } : Jvm.MethodName)) ∈ GT := gt_at 336 (by decide +kernel) (by decide +kernel)
theorem g337 : (Jvm.Cond.selects "CacheRules$CatchingRows" ({ cls := "CacheRules$CatchingRows", name := "cleanRow", desc := "(I)I" } : Jvm.MethodName) ({ cls := "CacheRules$CatchingRows", name := "cleanRow", desc := "(I)I" } : Jvm.MethodName)) ∈ GT := gt_at 337 (by decide +kernel) (by decide +kernel)
theorem g338 : (Jvm.Cond.code ({ cls := "CacheRules$CatchingRows", name := "cleanRow", desc := "(I)I" } : Jvm.MethodName) prog_4_method_5_code (3 : Nat) (Option.some Jvm.ClassFile.FieldType.int)) ∈ GT := gt_at 338 (by decide +kernel) (by decide +kernel)
theorem g339 : (Jvm.Cond.methodLink "CacheRules$CatchingRows" (28 : Nat) ({ cls := "java/lang/Integer", name := "bitCount", desc := "(I)I" } : Jvm.MethodName)) ∈ GT := gt_at 339 (by decide +kernel) (by decide +kernel)
theorem g340 : (Jvm.Cond.methodLink "CacheRulesLaw" (90 : Nat) ({ cls := "CacheRules", name := "cleanAll", desc := "()I" } : Jvm.MethodName)) ∈ GT := gt_at 340 (by decide +kernel) (by decide +kernel)
theorem g341 : (Jvm.Cond.instanceMethod ({ cls := "CacheRules", name := "cleanAll", desc := "()I" } : Jvm.MethodName)) ∈ GT := gt_at 341 (by decide +kernel) (by decide +kernel)
theorem g342 : (Jvm.Cond.selects "CacheRules" ({ cls := "CacheRules", name := "cleanAll", desc := "()I" } : Jvm.MethodName) ({ cls := "CacheRules", name := "cleanAll", desc := "()I" } : Jvm.MethodName)) ∈ GT := gt_at 342 (by decide +kernel) (by decide +kernel)
theorem g343 : (Jvm.Cond.code ({ cls := "CacheRules", name := "cleanAll", desc := "()I" } : Jvm.MethodName) prog_1_method_10_code (3 : Nat) (Option.some Jvm.ClassFile.FieldType.int)) ∈ GT := gt_at 343 (by decide +kernel) (by decide +kernel)
theorem g344 : (Jvm.Cond.methodLink "CacheRulesLaw" (94 : Nat) ({ cls := "CacheRules", name := "drop", desc := "(I)I" } : Jvm.MethodName)) ∈ GT := gt_at 344 (by decide +kernel) (by decide +kernel)
theorem g345 : (Jvm.Cond.instanceMethod ({ cls := "CacheRules", name := "drop", desc := "(I)I" } : Jvm.MethodName)) ∈ GT := gt_at 345 (by decide +kernel) (by decide +kernel)
theorem g346 : (Jvm.Cond.selects "CacheRules" ({ cls := "CacheRules", name := "drop", desc := "(I)I" } : Jvm.MethodName) ({ cls := "CacheRules", name := "drop", desc := "(I)I" } : Jvm.MethodName)) ∈ GT := gt_at 346 (by decide +kernel) (by decide +kernel)
theorem g347 : (Jvm.Cond.code ({ cls := "CacheRules", name := "drop", desc := "(I)I" } : Jvm.MethodName) prog_1_method_11_code (5 : Nat) (Option.some Jvm.ClassFile.FieldType.int)) ∈ GT := gt_at 347 (by decide +kernel) (by decide +kernel)
theorem g348 : (Jvm.Cond.methodLink "CacheRules" (167 : Nat) ({ cls := "java/lang/Integer", name := "bitCount", desc := "(I)I" } : Jvm.MethodName)) ∈ GT := gt_at 348 (by decide +kernel) (by decide +kernel)
theorem g349 : (Jvm.Cond.methodLink "CacheRules" (172 : Nat) ({ cls := "CacheRules$Ways", name := "empty", desc := "(I)V" } : Jvm.MethodName)) ∈ GT := gt_at 349 (by decide +kernel) (by decide +kernel)
theorem g350 : (Jvm.Cond.instanceMethod ({ cls := "CacheRules$Ways", name := "empty", desc := "(I)V" } : Jvm.MethodName)) ∈ GT := gt_at 350 (by decide +kernel) (by decide +kernel)
theorem g351 : (Jvm.Cond.selects "CacheRules$Ways" ({ cls := "CacheRules$Ways", name := "empty", desc := "(I)V" } : Jvm.MethodName) ({ cls := "CacheRules$Ways", name := "empty", desc := "(I)V" } : Jvm.MethodName)) ∈ GT := gt_at 351 (by decide +kernel) (by decide +kernel)
theorem g352 : (Jvm.Cond.code ({ cls := "CacheRules$Ways", name := "empty", desc := "(I)V" } : Jvm.MethodName) prog_12_method_7_code (2 : Nat) (Option.none : Option Jvm.ClassFile.FieldType)) ∈ GT := gt_at 352 (by decide +kernel) (by decide +kernel)
theorem g353 : (Jvm.Cond.methodLink "CacheRules" (176 : Nat) ({ cls := "CacheRules$CatchingRows", name := "remove", desc := "(I)V" } : Jvm.MethodName)) ∈ GT := gt_at 353 (by decide +kernel) (by decide +kernel)
theorem g354 : (Jvm.Cond.instanceMethod ({ cls := "CacheRules$CatchingRows", name := "remove", desc := "(I)V" } : Jvm.MethodName)) ∈ GT := gt_at 354 (by decide +kernel) (by decide +kernel)
theorem g355 : (Jvm.Cond.selects "CacheRules$CatchingRows" ({ cls := "CacheRules$CatchingRows", name := "remove", desc := "(I)V" } : Jvm.MethodName) ({ cls := "CacheRules$CatchingRows", name := "remove", desc := "(I)V" } : Jvm.MethodName)) ∈ GT := gt_at 355 (by decide +kernel) (by decide +kernel)
theorem g356 : (Jvm.Cond.code ({ cls := "CacheRules$CatchingRows", name := "remove", desc := "(I)V" } : Jvm.MethodName) prog_4_method_4_code (3 : Nat) (Option.none : Option Jvm.ClassFile.FieldType)) ∈ GT := gt_at 356 (by decide +kernel) (by decide +kernel)
theorem g357 : (Jvm.Cond.methodLink "CacheRulesLaw" (112 : Nat) ({ cls := "CacheRules", name := "distance", desc := "(I)I" } : Jvm.MethodName)) ∈ GT := gt_at 357 (by decide +kernel) (by decide +kernel)
theorem g358 : (Jvm.Cond.instanceMethod ({ cls := "CacheRules", name := "distance", desc := "(I)I" } : Jvm.MethodName)) ∈ GT := gt_at 358 (by decide +kernel) (by decide +kernel)
theorem g359 : (Jvm.Cond.selects "CacheRules" ({ cls := "CacheRules", name := "distance", desc := "(I)I" } : Jvm.MethodName) ({ cls := "CacheRules", name := "distance", desc := "(I)I" } : Jvm.MethodName)) ∈ GT := gt_at 359 (by decide +kernel) (by decide +kernel)
theorem g360 : (Jvm.Cond.code ({ cls := "CacheRules", name := "distance", desc := "(I)I" } : Jvm.MethodName) prog_1_method_16_code (2 : Nat) (Option.some Jvm.ClassFile.FieldType.int)) ∈ GT := gt_at 360 (by decide +kernel) (by decide +kernel)
theorem g361 : (Jvm.Cond.methodLink "CacheRules" (218 : Nat) ({ cls := "CacheRules$History", name := "find", desc := "(I)I" } : Jvm.MethodName)) ∈ GT := gt_at 361 (by decide +kernel) (by decide +kernel)
theorem g362 : (Jvm.Cond.instanceMethod ({ cls := "CacheRules$History", name := "find", desc := "(I)I" } : Jvm.MethodName)) ∈ GT := gt_at 362 (by decide +kernel) (by decide +kernel)
theorem g363 : (Jvm.Cond.selects "CacheRules$History" ({ cls := "CacheRules$History", name := "find", desc := "(I)I" } : Jvm.MethodName) ({ cls := "CacheRules$History", name := "find", desc := "(I)I" } : Jvm.MethodName)) ∈ GT := gt_at 363 (by decide +kernel) (by decide +kernel)
theorem g364 : (Jvm.Cond.code ({ cls := "CacheRules$History", name := "find", desc := "(I)I" } : Jvm.MethodName) prog_6_method_2_code (3 : Nat) (Option.some Jvm.ClassFile.FieldType.int)) ∈ GT := gt_at 364 (by decide +kernel) (by decide +kernel)
theorem g365 : (Jvm.Cond.methodLink "CacheRulesLaw" (116 : Nat) ({ cls := "CacheRules", name := "count", desc := "(I)I" } : Jvm.MethodName)) ∈ GT := gt_at 365 (by decide +kernel) (by decide +kernel)
theorem g366 : (Jvm.Cond.instanceMethod ({ cls := "CacheRules", name := "count", desc := "(I)I" } : Jvm.MethodName)) ∈ GT := gt_at 366 (by decide +kernel) (by decide +kernel)
theorem g367 : (Jvm.Cond.selects "CacheRules" ({ cls := "CacheRules", name := "count", desc := "(I)I" } : Jvm.MethodName) ({ cls := "CacheRules", name := "count", desc := "(I)I" } : Jvm.MethodName)) ∈ GT := gt_at 367 (by decide +kernel) (by decide +kernel)
theorem g368 : (Jvm.Cond.code ({ cls := "CacheRules", name := "count", desc := "(I)I" } : Jvm.MethodName) prog_1_method_17_code (2 : Nat) (Option.some Jvm.ClassFile.FieldType.int)) ∈ GT := gt_at 368 (by decide +kernel) (by decide +kernel)
theorem g369 : (Jvm.Cond.methodLink "CacheRulesLaw" (46 : Nat) ({ cls := "CacheRulesLaw", name := "cell", desc := "([II)I" } : Jvm.MethodName)) ∈ GT := gt_at 369 (by decide +kernel) (by decide +kernel)
theorem g370 : (Jvm.Cond.static ({ cls := "CacheRulesLaw", name := "cell", desc := "([II)I" } : Jvm.MethodName)) ∈ GT := gt_at 370 (by decide +kernel) (by decide +kernel)
theorem g371 : (Jvm.Cond.code ({ cls := "CacheRulesLaw", name := "cell", desc := "([II)I" } : Jvm.MethodName) method_2_code (2 : Nat) (Option.some Jvm.ClassFile.FieldType.int)) ∈ GT := gt_at 371 (by decide +kernel) (by decide +kernel)
theorem g372 : (Jvm.Cond.methodLink "CacheRulesLaw" (63 : Nat) ({ cls := "CacheRulesLaw", name := "access", desc := "(LCacheRules;IIZ[J)I" } : Jvm.MethodName)) ∈ GT := gt_at 372 (by decide +kernel) (by decide +kernel)
theorem g373 : (Jvm.Cond.static ({ cls := "CacheRulesLaw", name := "access", desc := "(LCacheRules;IIZ[J)I" } : Jvm.MethodName)) ∈ GT := gt_at 373 (by decide +kernel) (by decide +kernel)
theorem g375 : (Jvm.Cond.classLink "CacheRulesLaw" (13 : Nat) "java/lang/IndexOutOfBoundsException") ∈ GT := gt_at 375 (by decide +kernel) (by decide +kernel)
theorem g376 : (Jvm.Cond.methodLink "CacheRulesLaw" (7 : Nat) ({ cls := "CacheRules", name := "access", desc := "(IIZ)I" } : Jvm.MethodName)) ∈ GT := gt_at 376 (by decide +kernel) (by decide +kernel)
theorem g377 : (Jvm.Cond.instanceMethod ({ cls := "CacheRules", name := "access", desc := "(IIZ)I" } : Jvm.MethodName)) ∈ GT := gt_at 377 (by decide +kernel) (by decide +kernel)
theorem g378 : (Jvm.Cond.selects "CacheRules" ({ cls := "CacheRules", name := "access", desc := "(IIZ)I" } : Jvm.MethodName) ({ cls := "CacheRules", name := "access", desc := "(IIZ)I" } : Jvm.MethodName)) ∈ GT := gt_at 378 (by decide +kernel) (by decide +kernel)
theorem g379 : (Jvm.Cond.code ({ cls := "CacheRules", name := "access", desc := "(IIZ)I" } : Jvm.MethodName) prog_1_method_4_code (4 : Nat) (Option.some Jvm.ClassFile.FieldType.int)) ∈ GT := gt_at 379 (by decide +kernel) (by decide +kernel)
theorem g380 : (Jvm.Cond.methodLink "CacheRules" (86 : Nat) ({ cls := "CacheRules", name := "isNoPart", desc := "(I)Z" } : Jvm.MethodName)) ∈ GT := gt_at 380 (by decide +kernel) (by decide +kernel)
theorem g381 : (Jvm.Cond.static ({ cls := "CacheRules", name := "isNoPart", desc := "(I)Z" } : Jvm.MethodName)) ∈ GT := gt_at 381 (by decide +kernel) (by decide +kernel)
theorem g382 : (Jvm.Cond.code ({ cls := "CacheRules", name := "isNoPart", desc := "(I)Z" } : Jvm.MethodName) prog_1_method_18_code (1 : Nat) (Option.some Jvm.ClassFile.FieldType.boolean)) ∈ GT := gt_at 382 (by decide +kernel) (by decide +kernel)
theorem g383 : (Jvm.Cond.classLink "CacheRules" (90 : Nat) "java/lang/IndexOutOfBoundsException") ∈ GT := gt_at 383 (by decide +kernel) (by decide +kernel)
theorem g384 : (Jvm.Cond.instantiable "java/lang/IndexOutOfBoundsException" (6 : Nat)) ∈ GT := gt_at 384 (by decide +kernel) (by decide +kernel)
theorem g392 : (Jvm.Cond.selects "java/lang/IndexOutOfBoundsException" ({ cls := "java/lang/Throwable", name := "fillInStackTrace", desc := "(I)Ljava/lang/Throwable;" } : Jvm.MethodName) ({ cls := "java/lang/Throwable", name := "fillInStackTrace", desc := "(I)Ljava/lang/Throwable;" } : Jvm.MethodName)) ∈ GT := gt_at 392 (by decide +kernel) (by decide +kernel)
theorem g393 : (Jvm.Cond.selects "java/lang/IndexOutOfBoundsException" ({ cls := "java/lang/Throwable", name := "fillInStackTrace", desc := "()Ljava/lang/Throwable;" } : Jvm.MethodName) ({ cls := "java/lang/Throwable", name := "fillInStackTrace", desc := "()Ljava/lang/Throwable;" } : Jvm.MethodName)) ∈ GT := gt_at 393 (by decide +kernel) (by decide +kernel)
theorem g404 : (Jvm.Cond.fieldLink "java/lang/Throwable" (198 : Nat) "java/lang/Throwable" "backtrace" "Ljava/lang/Object;") ∈ GT := gt_at 404 (by decide +kernel) (by decide +kernel)
theorem g406 : (Jvm.Cond.instanceMethod ({ cls := "java/lang/Throwable", name := "<init>", desc := "()V" } : Jvm.MethodName)) ∈ GT := gt_at 406 (by decide +kernel) (by decide +kernel)
theorem g407 : (Jvm.Cond.code ({ cls := "java/lang/Throwable", name := "<init>", desc := "()V" } : Jvm.MethodName) prog_22_method_1_code (1 : Nat) (Option.none : Option Jvm.ClassFile.FieldType)) ∈ GT := gt_at 407 (by decide +kernel) (by decide +kernel)
theorem g408 : (Jvm.Cond.methodLink "java/lang/Throwable" (1 : Nat) ({ cls := "java/lang/Object", name := "<init>", desc := "()V" } : Jvm.MethodName)) ∈ GT := gt_at 408 (by decide +kernel) (by decide +kernel)
theorem g409 : (Jvm.Cond.fieldLink "java/lang/Throwable" (13 : Nat) "java/lang/Throwable" "UNASSIGNED_STACK" "[Ljava/lang/StackTraceElement;") ∈ GT := gt_at 409 (by decide +kernel) (by decide +kernel)
theorem g411 : (Jvm.Cond.fieldLink "java/lang/Throwable" (20 : Nat) "java/lang/Throwable" "SUPPRESSED_SENTINEL" "Ljava/util/List;") ∈ GT := gt_at 411 (by decide +kernel) (by decide +kernel)
theorem g413 : (Jvm.Cond.methodLink "java/lang/Throwable" (27 : Nat) ({ cls := "java/lang/Throwable", name := "fillInStackTrace", desc := "()Ljava/lang/Throwable;" } : Jvm.MethodName)) ∈ GT := gt_at 413 (by decide +kernel) (by decide +kernel)
theorem g414 : (Jvm.Cond.instanceMethod ({ cls := "java/lang/Throwable", name := "fillInStackTrace", desc := "()Ljava/lang/Throwable;" } : Jvm.MethodName)) ∈ GT := gt_at 414 (by decide +kernel) (by decide +kernel)
theorem g415 : (Jvm.Cond.sameMethod "java/lang/Throwable" "java/lang/Throwable" "fillInStackTrace" "()Ljava/lang/Throwable;") ∈ GT := gt_at 415 (by decide +kernel) (by decide +kernel)
theorem g416 : (Jvm.Cond.selects "java/lang/IllegalArgumentException" ({ cls := "java/lang/Throwable", name := "fillInStackTrace", desc := "()Ljava/lang/Throwable;" } : Jvm.MethodName) ({ cls := "java/lang/Throwable", name := "fillInStackTrace", desc := "()Ljava/lang/Throwable;" } : Jvm.MethodName)) ∈ GT := gt_at 416 (by decide +kernel) (by decide +kernel)
theorem g417 : (Jvm.Cond.selects "java/lang/UnsupportedOperationException" ({ cls := "java/lang/Throwable", name := "fillInStackTrace", desc := "()Ljava/lang/Throwable;" } : Jvm.MethodName) ({ cls := "java/lang/Throwable", name := "fillInStackTrace", desc := "()Ljava/lang/Throwable;" } : Jvm.MethodName)) ∈ GT := gt_at 417 (by decide +kernel) (by decide +kernel)
theorem g418 : (Jvm.Cond.selects "java/util/NoSuchElementException" ({ cls := "java/lang/Throwable", name := "fillInStackTrace", desc := "()Ljava/lang/Throwable;" } : Jvm.MethodName) ({ cls := "java/lang/Throwable", name := "fillInStackTrace", desc := "()Ljava/lang/Throwable;" } : Jvm.MethodName)) ∈ GT := gt_at 418 (by decide +kernel) (by decide +kernel)
theorem g420 : (Jvm.Cond.methodLink "java/lang/Throwable" (202 : Nat) ({ cls := "java/lang/Throwable", name := "fillInStackTrace", desc := "(I)Ljava/lang/Throwable;" } : Jvm.MethodName)) ∈ GT := gt_at 420 (by decide +kernel) (by decide +kernel)
theorem g422 : (Jvm.Cond.instanceMethod ({ cls := "java/lang/Throwable", name := "fillInStackTrace", desc := "(I)Ljava/lang/Throwable;" } : Jvm.MethodName)) ∈ GT := gt_at 422 (by decide +kernel) (by decide +kernel)
theorem g423 : (Jvm.Cond.instantiable "java/lang/Throwable" (6 : Nat)) ∈ GT := gt_at 423 (by decide +kernel) (by decide +kernel)
theorem g426 : (Jvm.Cond.methodLink "CacheRules" (94 : Nat) ({ cls := "java/lang/IndexOutOfBoundsException", name := "<init>", desc := "(Ljava/lang/String;)V" } : Jvm.MethodName)) ∈ GT := gt_at 426 (by decide +kernel) (by decide +kernel)
theorem g427 : (Jvm.Cond.instanceMethod ({ cls := "java/lang/IndexOutOfBoundsException", name := "<init>", desc := "(Ljava/lang/String;)V" } : Jvm.MethodName)) ∈ GT := gt_at 427 (by decide +kernel) (by decide +kernel)
theorem g428 : (Jvm.Cond.code ({ cls := "java/lang/IndexOutOfBoundsException", name := "<init>", desc := "(Ljava/lang/String;)V" } : Jvm.MethodName) prog_17_method_2_code (2 : Nat) (Option.none : Option Jvm.ClassFile.FieldType)) ∈ GT := gt_at 428 (by decide +kernel) (by decide +kernel)
theorem g429 : (Jvm.Cond.methodLink "java/lang/IndexOutOfBoundsException" (7 : Nat) ({ cls := "java/lang/RuntimeException", name := "<init>", desc := "(Ljava/lang/String;)V" } : Jvm.MethodName)) ∈ GT := gt_at 429 (by decide +kernel) (by decide +kernel)
theorem g430 : (Jvm.Cond.instanceMethod ({ cls := "java/lang/RuntimeException", name := "<init>", desc := "(Ljava/lang/String;)V" } : Jvm.MethodName)) ∈ GT := gt_at 430 (by decide +kernel) (by decide +kernel)
theorem g431 : (Jvm.Cond.code ({ cls := "java/lang/RuntimeException", name := "<init>", desc := "(Ljava/lang/String;)V" } : Jvm.MethodName) prog_20_method_2_code (2 : Nat) (Option.none : Option Jvm.ClassFile.FieldType)) ∈ GT := gt_at 431 (by decide +kernel) (by decide +kernel)
theorem g432 : (Jvm.Cond.methodLink "java/lang/RuntimeException" (7 : Nat) ({ cls := "java/lang/Exception", name := "<init>", desc := "(Ljava/lang/String;)V" } : Jvm.MethodName)) ∈ GT := gt_at 432 (by decide +kernel) (by decide +kernel)
theorem g433 : (Jvm.Cond.instanceMethod ({ cls := "java/lang/Exception", name := "<init>", desc := "(Ljava/lang/String;)V" } : Jvm.MethodName)) ∈ GT := gt_at 433 (by decide +kernel) (by decide +kernel)
theorem g434 : (Jvm.Cond.code ({ cls := "java/lang/Exception", name := "<init>", desc := "(Ljava/lang/String;)V" } : Jvm.MethodName) prog_15_method_2_code (2 : Nat) (Option.none : Option Jvm.ClassFile.FieldType)) ∈ GT := gt_at 434 (by decide +kernel) (by decide +kernel)
theorem g435 : (Jvm.Cond.methodLink "java/lang/Exception" (7 : Nat) ({ cls := "java/lang/Throwable", name := "<init>", desc := "(Ljava/lang/String;)V" } : Jvm.MethodName)) ∈ GT := gt_at 435 (by decide +kernel) (by decide +kernel)
theorem g436 : (Jvm.Cond.instanceMethod ({ cls := "java/lang/Throwable", name := "<init>", desc := "(Ljava/lang/String;)V" } : Jvm.MethodName)) ∈ GT := gt_at 436 (by decide +kernel) (by decide +kernel)
theorem g437 : (Jvm.Cond.code ({ cls := "java/lang/Throwable", name := "<init>", desc := "(Ljava/lang/String;)V" } : Jvm.MethodName) prog_22_method_2_code (2 : Nat) (Option.none : Option Jvm.ClassFile.FieldType)) ∈ GT := gt_at 437 (by decide +kernel) (by decide +kernel)
theorem g438 : (Jvm.Cond.fieldLink "java/lang/Throwable" (198 : Nat) "java/lang/Throwable" "backtrace" "Ljava/lang/Object;") ∈ GT := gt_at 438 (by decide +kernel) (by decide +kernel)
theorem g439 : (Jvm.Cond.fieldLink "java/lang/Throwable" (31 : Nat) "java/lang/Throwable" "detailMessage" "Ljava/lang/String;") ∈ GT := gt_at 439 (by decide +kernel) (by decide +kernel)
theorem g440 : (Jvm.Cond.fieldLink "java/lang/Throwable" (7 : Nat) "java/lang/Throwable" "cause" "Ljava/lang/Throwable;") ∈ GT := gt_at 440 (by decide +kernel) (by decide +kernel)
theorem g441 : (Jvm.Cond.fieldLink "java/lang/Throwable" (17 : Nat) "java/lang/Throwable" "stackTrace" "[Ljava/lang/StackTraceElement;") ∈ GT := gt_at 441 (by decide +kernel) (by decide +kernel)
theorem g442 : (Jvm.Cond.fieldLink "java/lang/Throwable" (24 : Nat) "java/lang/Throwable" "suppressedExceptions" "Ljava/util/List;") ∈ GT := gt_at 442 (by decide +kernel) (by decide +kernel)
theorem g451 : (Jvm.Cond.arrayClass Jvm.ClassFile.FieldType.byte) ∈ GT := gt_at 451 (by decide +kernel) (by decide +kernel)
theorem g452 : (Jvm.Cond.methodLink "CacheRules" (97 : Nat) ({ cls := "CacheRules", name := "perform", desc := "(IIZ)I" } : Jvm.MethodName)) ∈ GT := gt_at 452 (by decide +kernel) (by decide +kernel)
theorem g454 : (Jvm.Cond.instanceMethod ({ cls := "CacheRules", name := "perform", desc := "(IIZ)I" } : Jvm.MethodName)) ∈ GT := gt_at 454 (by decide +kernel) (by decide +kernel)
theorem g455 : (Jvm.Cond.code ({ cls := "CacheRules", name := "perform", desc := "(IIZ)I" } : Jvm.MethodName) prog_1_method_19_code (6 : Nat) (Option.some Jvm.ClassFile.FieldType.int)) ∈ GT := gt_at 455 (by decide +kernel) (by decide +kernel)
theorem g456 : (Jvm.Cond.methodLink "CacheRules" (229 : Nat) ({ cls := "CacheRules$History", name := "note", desc := "(I)V" } : Jvm.MethodName)) ∈ GT := gt_at 456 (by decide +kernel) (by decide +kernel)
theorem g457 : (Jvm.Cond.instanceMethod ({ cls := "CacheRules$History", name := "note", desc := "(I)V" } : Jvm.MethodName)) ∈ GT := gt_at 457 (by decide +kernel) (by decide +kernel)
theorem g458 : (Jvm.Cond.selects "CacheRules$History" ({ cls := "CacheRules$History", name := "note", desc := "(I)V" } : Jvm.MethodName) ({ cls := "CacheRules$History", name := "note", desc := "(I)V" } : Jvm.MethodName)) ∈ GT := gt_at 458 (by decide +kernel) (by decide +kernel)
theorem g459 : (Jvm.Cond.code ({ cls := "CacheRules$History", name := "note", desc := "(I)V" } : Jvm.MethodName) prog_6_method_3_code (4 : Nat) (Option.none : Option Jvm.ClassFile.FieldType)) ∈ GT := gt_at 459 (by decide +kernel) (by decide +kernel)
theorem g460 : (Jvm.Cond.methodLink "CacheRules$History" (22 : Nat) ({ cls := "CacheRules$History", name := "find", desc := "(I)I" } : Jvm.MethodName)) ∈ GT := gt_at 460 (by decide +kernel) (by decide +kernel)
theorem g461 : (Jvm.Cond.methodLink "CacheRules" (232 : Nat) ({ cls := "CacheRules", name := "reach", desc := "(IIZ)I" } : Jvm.MethodName)) ∈ GT := gt_at 461 (by decide +kernel) (by decide +kernel)
theorem g463 : (Jvm.Cond.instanceMethod ({ cls := "CacheRules", name := "reach", desc := "(IIZ)I" } : Jvm.MethodName)) ∈ GT := gt_at 463 (by decide +kernel) (by decide +kernel)
theorem g464 : (Jvm.Cond.code ({ cls := "CacheRules", name := "reach", desc := "(IIZ)I" } : Jvm.MethodName) prog_1_method_20_code (6 : Nat) (Option.some Jvm.ClassFile.FieldType.int)) ∈ GT := gt_at 464 (by decide +kernel) (by decide +kernel)
theorem g465 : (Jvm.Cond.methodLink "CacheRules" (238 : Nat) ({ cls := "CacheRules$Ways", name := "setOf", desc := "(I)I" } : Jvm.MethodName)) ∈ GT := gt_at 465 (by decide +kernel) (by decide +kernel)
theorem g466 : (Jvm.Cond.methodLink "CacheRules" (241 : Nat) ({ cls := "CacheRules", name := "useWay", desc := "(III)I" } : Jvm.MethodName)) ∈ GT := gt_at 466 (by decide +kernel) (by decide +kernel)
theorem g468 : (Jvm.Cond.instanceMethod ({ cls := "CacheRules", name := "useWay", desc := "(III)I" } : Jvm.MethodName)) ∈ GT := gt_at 468 (by decide +kernel) (by decide +kernel)
theorem g469 : (Jvm.Cond.code ({ cls := "CacheRules", name := "useWay", desc := "(III)I" } : Jvm.MethodName) prog_1_method_21_code (4 : Nat) (Option.some Jvm.ClassFile.FieldType.int)) ∈ GT := gt_at 469 (by decide +kernel) (by decide +kernel)
theorem g470 : (Jvm.Cond.methodLink "CacheRules" (254 : Nat) ({ cls := "CacheRules$Rule", name := "use", desc := "(II)V" } : Jvm.MethodName)) ∈ GT := gt_at 470 (by decide +kernel) (by decide +kernel)
theorem g472 : (Jvm.Cond.sameMethod "CacheRules$Rule" "CacheRules$Rule" "use" "(II)V") ∈ GT := gt_at 472 (by decide +kernel) (by decide +kernel)
theorem g473 : (Jvm.Cond.selects "CacheRules$AgeRule" ({ cls := "CacheRules$Rule", name := "use", desc := "(II)V" } : Jvm.MethodName) ({ cls := "CacheRules$AgeRule", name := "use", desc := "(II)V" } : Jvm.MethodName)) ∈ GT := gt_at 473 (by decide +kernel) (by decide +kernel)
theorem g474 : (Jvm.Cond.instanceMethod ({ cls := "CacheRules$AgeRule", name := "use", desc := "(II)V" } : Jvm.MethodName)) ∈ GT := gt_at 474 (by decide +kernel) (by decide +kernel)
theorem g475 : (Jvm.Cond.code ({ cls := "CacheRules$AgeRule", name := "use", desc := "(II)V" } : Jvm.MethodName) prog_2_method_2_code (3 : Nat) (Option.none : Option Jvm.ClassFile.FieldType)) ∈ GT := gt_at 475 (by decide +kernel) (by decide +kernel)
theorem g476 : (Jvm.Cond.selects "CacheRules$ChanceRule" ({ cls := "CacheRules$Rule", name := "use", desc := "(II)V" } : Jvm.MethodName) ({ cls := "CacheRules$ChanceRule", name := "use", desc := "(II)V" } : Jvm.MethodName)) ∈ GT := gt_at 476 (by decide +kernel) (by decide +kernel)
theorem g477 : (Jvm.Cond.instanceMethod ({ cls := "CacheRules$ChanceRule", name := "use", desc := "(II)V" } : Jvm.MethodName)) ∈ GT := gt_at 477 (by decide +kernel) (by decide +kernel)
theorem g478 : (Jvm.Cond.code ({ cls := "CacheRules$ChanceRule", name := "use", desc := "(II)V" } : Jvm.MethodName) prog_5_method_2_code (3 : Nat) (Option.none : Option Jvm.ClassFile.FieldType)) ∈ GT := gt_at 478 (by decide +kernel) (by decide +kernel)
theorem g479 : (Jvm.Cond.selects "CacheRules$LatelyRule" ({ cls := "CacheRules$Rule", name := "use", desc := "(II)V" } : Jvm.MethodName) ({ cls := "CacheRules$LatelyRule", name := "use", desc := "(II)V" } : Jvm.MethodName)) ∈ GT := gt_at 479 (by decide +kernel) (by decide +kernel)
theorem g480 : (Jvm.Cond.instanceMethod ({ cls := "CacheRules$LatelyRule", name := "use", desc := "(II)V" } : Jvm.MethodName)) ∈ GT := gt_at 480 (by decide +kernel) (by decide +kernel)
theorem g481 : (Jvm.Cond.code ({ cls := "CacheRules$LatelyRule", name := "use", desc := "(II)V" } : Jvm.MethodName) prog_7_method_3_code (3 : Nat) (Option.none : Option Jvm.ClassFile.FieldType)) ∈ GT := gt_at 481 (by decide +kernel) (by decide +kernel)
theorem g482 : (Jvm.Cond.methodLink "CacheRules$LatelyRule" (19 : Nat) ({ cls := "CacheRules$LatelyRule", name := "setMark", desc := "(II)V" } : Jvm.MethodName)) ∈ GT := gt_at 482 (by decide +kernel) (by decide +kernel)
theorem g484 : (Jvm.Cond.instanceMethod ({ cls := "CacheRules$LatelyRule", name := "setMark", desc := "(II)V" } : Jvm.MethodName)) ∈ GT := gt_at 484 (by decide +kernel) (by decide +kernel)
theorem g485 : (Jvm.Cond.code ({ cls := "CacheRules$LatelyRule", name := "setMark", desc := "(II)V" } : Jvm.MethodName) prog_7_method_2_code (5 : Nat) (Option.none : Option Jvm.ClassFile.FieldType)) ∈ GT := gt_at 485 (by decide +kernel) (by decide +kernel)
theorem g486 : (Jvm.Cond.selects "CacheRules$RoundRule" ({ cls := "CacheRules$Rule", name := "use", desc := "(II)V" } : Jvm.MethodName) ({ cls := "CacheRules$RoundRule", name := "use", desc := "(II)V" } : Jvm.MethodName)) ∈ GT := gt_at 486 (by decide +kernel) (by decide +kernel)
theorem g487 : (Jvm.Cond.instanceMethod ({ cls := "CacheRules$RoundRule", name := "use", desc := "(II)V" } : Jvm.MethodName)) ∈ GT := gt_at 487 (by decide +kernel) (by decide +kernel)
theorem g488 : (Jvm.Cond.code ({ cls := "CacheRules$RoundRule", name := "use", desc := "(II)V" } : Jvm.MethodName) prog_8_method_2_code (3 : Nat) (Option.none : Option Jvm.ClassFile.FieldType)) ∈ GT := gt_at 488 (by decide +kernel) (by decide +kernel)
theorem g489 : (Jvm.Cond.selects "CacheRules$TimeRule" ({ cls := "CacheRules$Rule", name := "use", desc := "(II)V" } : Jvm.MethodName) ({ cls := "CacheRules$TimeRule", name := "use", desc := "(II)V" } : Jvm.MethodName)) ∈ GT := gt_at 489 (by decide +kernel) (by decide +kernel)
theorem g490 : (Jvm.Cond.instanceMethod ({ cls := "CacheRules$TimeRule", name := "use", desc := "(II)V" } : Jvm.MethodName)) ∈ GT := gt_at 490 (by decide +kernel) (by decide +kernel)
theorem g491 : (Jvm.Cond.code ({ cls := "CacheRules$TimeRule", name := "use", desc := "(II)V" } : Jvm.MethodName) prog_10_method_2_code (4 : Nat) (Option.none : Option Jvm.ClassFile.FieldType)) ∈ GT := gt_at 491 (by decide +kernel) (by decide +kernel)
theorem g492 : (Jvm.Cond.selects "CacheRules$TreeRule" ({ cls := "CacheRules$Rule", name := "use", desc := "(II)V" } : Jvm.MethodName) ({ cls := "CacheRules$TreeRule", name := "use", desc := "(II)V" } : Jvm.MethodName)) ∈ GT := gt_at 492 (by decide +kernel) (by decide +kernel)
theorem g493 : (Jvm.Cond.instanceMethod ({ cls := "CacheRules$TreeRule", name := "use", desc := "(II)V" } : Jvm.MethodName)) ∈ GT := gt_at 493 (by decide +kernel) (by decide +kernel)
theorem g494 : (Jvm.Cond.code ({ cls := "CacheRules$TreeRule", name := "use", desc := "(II)V" } : Jvm.MethodName) prog_11_method_3_code (3 : Nat) (Option.none : Option Jvm.ClassFile.FieldType)) ∈ GT := gt_at 494 (by decide +kernel) (by decide +kernel)
theorem g495 : (Jvm.Cond.methodLink "CacheRules$TreeRule" (19 : Nat) ({ cls := "CacheRules$TreeRule", name := "pointAway", desc := "(II)V" } : Jvm.MethodName)) ∈ GT := gt_at 495 (by decide +kernel) (by decide +kernel)
theorem g497 : (Jvm.Cond.instanceMethod ({ cls := "CacheRules$TreeRule", name := "pointAway", desc := "(II)V" } : Jvm.MethodName)) ∈ GT := gt_at 497 (by decide +kernel) (by decide +kernel)
theorem g498 : (Jvm.Cond.code ({ cls := "CacheRules$TreeRule", name := "pointAway", desc := "(II)V" } : Jvm.MethodName) prog_11_method_2_code (6 : Nat) (Option.none : Option Jvm.ClassFile.FieldType)) ∈ GT := gt_at 498 (by decide +kernel) (by decide +kernel)
theorem g499 : (Jvm.Cond.methodLink "CacheRules" (245 : Nat) ({ cls := "CacheRules", name := "recall", desc := "(II)I" } : Jvm.MethodName)) ∈ GT := gt_at 499 (by decide +kernel) (by decide +kernel)
theorem g501 : (Jvm.Cond.instanceMethod ({ cls := "CacheRules", name := "recall", desc := "(II)I" } : Jvm.MethodName)) ∈ GT := gt_at 501 (by decide +kernel) (by decide +kernel)
theorem g502 : (Jvm.Cond.code ({ cls := "CacheRules", name := "recall", desc := "(II)I" } : Jvm.MethodName) prog_1_method_22_code (6 : Nat) (Option.some Jvm.ClassFile.FieldType.int)) ∈ GT := gt_at 502 (by decide +kernel) (by decide +kernel)
theorem g503 : (Jvm.Cond.methodLink "CacheRules" (248 : Nat) ({ cls := "CacheRules$Ways", name := "allLocked", desc := "(I)Z" } : Jvm.MethodName)) ∈ GT := gt_at 503 (by decide +kernel) (by decide +kernel)
theorem g504 : (Jvm.Cond.instanceMethod ({ cls := "CacheRules$Ways", name := "allLocked", desc := "(I)Z" } : Jvm.MethodName)) ∈ GT := gt_at 504 (by decide +kernel) (by decide +kernel)
theorem g505 : (Jvm.Cond.selects "CacheRules$Ways" ({ cls := "CacheRules$Ways", name := "allLocked", desc := "(I)Z" } : Jvm.MethodName) ({ cls := "CacheRules$Ways", name := "allLocked", desc := "(I)Z" } : Jvm.MethodName)) ∈ GT := gt_at 505 (by decide +kernel) (by decide +kernel)
theorem g506 : (Jvm.Cond.code ({ cls := "CacheRules$Ways", name := "allLocked", desc := "(I)Z" } : Jvm.MethodName) prog_12_method_5_code (3 : Nat) (Option.some Jvm.ClassFile.FieldType.boolean)) ∈ GT := gt_at 506 (by decide +kernel) (by decide +kernel)
theorem g507 : (Jvm.Cond.methodLink "CacheRules" (251 : Nat) ({ cls := "CacheRules", name := "place", desc := "(III)V" } : Jvm.MethodName)) ∈ GT := gt_at 507 (by decide +kernel) (by decide +kernel)
theorem g509 : (Jvm.Cond.instanceMethod ({ cls := "CacheRules", name := "place", desc := "(III)V" } : Jvm.MethodName)) ∈ GT := gt_at 509 (by decide +kernel) (by decide +kernel)
theorem g510 : (Jvm.Cond.code ({ cls := "CacheRules", name := "place", desc := "(III)V" } : Jvm.MethodName) prog_1_method_23_code (6 : Nat) (Option.none : Option Jvm.ClassFile.FieldType)) ∈ GT := gt_at 510 (by decide +kernel) (by decide +kernel)
theorem g511 : (Jvm.Cond.methodLink "CacheRules" (201 : Nat) ({ cls := "CacheRules$Ways", name := "emptyWay", desc := "(I)I" } : Jvm.MethodName)) ∈ GT := gt_at 511 (by decide +kernel) (by decide +kernel)
theorem g512 : (Jvm.Cond.instanceMethod ({ cls := "CacheRules$Ways", name := "emptyWay", desc := "(I)I" } : Jvm.MethodName)) ∈ GT := gt_at 512 (by decide +kernel) (by decide +kernel)
theorem g513 : (Jvm.Cond.selects "CacheRules$Ways" ({ cls := "CacheRules$Ways", name := "emptyWay", desc := "(I)I" } : Jvm.MethodName) ({ cls := "CacheRules$Ways", name := "emptyWay", desc := "(I)I" } : Jvm.MethodName)) ∈ GT := gt_at 513 (by decide +kernel) (by decide +kernel)
theorem g514 : (Jvm.Cond.code ({ cls := "CacheRules$Ways", name := "emptyWay", desc := "(I)I" } : Jvm.MethodName) prog_12_method_4_code (3 : Nat) (Option.some Jvm.ClassFile.FieldType.int)) ∈ GT := gt_at 514 (by decide +kernel) (by decide +kernel)
theorem g515 : (Jvm.Cond.methodLink "CacheRules" (204 : Nat) ({ cls := "CacheRules$Rule", name := "choose", desc := "(I[Z)I" } : Jvm.MethodName)) ∈ GT := gt_at 515 (by decide +kernel) (by decide +kernel)
theorem g517 : (Jvm.Cond.sameMethod "CacheRules$Rule" "CacheRules$Rule" "choose" "(I[Z)I") ∈ GT := gt_at 517 (by decide +kernel) (by decide +kernel)
theorem g518 : (Jvm.Cond.selects "CacheRules$AgeRule" ({ cls := "CacheRules$Rule", name := "choose", desc := "(I[Z)I" } : Jvm.MethodName) ({ cls := "CacheRules$AgeRule", name := "choose", desc := "(I[Z)I" } : Jvm.MethodName)) ∈ GT := gt_at 518 (by decide +kernel) (by decide +kernel)
theorem g519 : (Jvm.Cond.instanceMethod ({ cls := "CacheRules$AgeRule", name := "choose", desc := "(I[Z)I" } : Jvm.MethodName)) ∈ GT := gt_at 519 (by decide +kernel) (by decide +kernel)
theorem g520 : (Jvm.Cond.code ({ cls := "CacheRules$AgeRule", name := "choose", desc := "(I[Z)I" } : Jvm.MethodName) prog_2_method_4_code (6 : Nat) (Option.some Jvm.ClassFile.FieldType.int)) ∈ GT := gt_at 520 (by decide +kernel) (by decide +kernel)
theorem g521 : (Jvm.Cond.selects "CacheRules$ChanceRule" ({ cls := "CacheRules$Rule", name := "choose", desc := "(I[Z)I" } : Jvm.MethodName) ({ cls := "CacheRules$ChanceRule", name := "choose", desc := "(I[Z)I" } : Jvm.MethodName)) ∈ GT := gt_at 521 (by decide +kernel) (by decide +kernel)
theorem g522 : (Jvm.Cond.instanceMethod ({ cls := "CacheRules$ChanceRule", name := "choose", desc := "(I[Z)I" } : Jvm.MethodName)) ∈ GT := gt_at 522 (by decide +kernel) (by decide +kernel)
theorem g523 : (Jvm.Cond.code ({ cls := "CacheRules$ChanceRule", name := "choose", desc := "(I[Z)I" } : Jvm.MethodName) prog_5_method_4_code (6 : Nat) (Option.some Jvm.ClassFile.FieldType.int)) ∈ GT := gt_at 523 (by decide +kernel) (by decide +kernel)
theorem g524 : (Jvm.Cond.constant "CacheRules$ChanceRule" (18 : Nat) (65536 : Int32)) ∈ GT := gt_at 524 (by decide +kernel) (by decide +kernel)
theorem g525 : (Jvm.Cond.selects "CacheRules$LatelyRule" ({ cls := "CacheRules$Rule", name := "choose", desc := "(I[Z)I" } : Jvm.MethodName) ({ cls := "CacheRules$LatelyRule", name := "choose", desc := "(I[Z)I" } : Jvm.MethodName)) ∈ GT := gt_at 525 (by decide +kernel) (by decide +kernel)
theorem g526 : (Jvm.Cond.instanceMethod ({ cls := "CacheRules$LatelyRule", name := "choose", desc := "(I[Z)I" } : Jvm.MethodName)) ∈ GT := gt_at 526 (by decide +kernel) (by decide +kernel)
theorem g527 : (Jvm.Cond.code ({ cls := "CacheRules$LatelyRule", name := "choose", desc := "(I[Z)I" } : Jvm.MethodName) prog_7_method_5_code (5 : Nat) (Option.some Jvm.ClassFile.FieldType.int)) ∈ GT := gt_at 527 (by decide +kernel) (by decide +kernel)
theorem g528 : (Jvm.Cond.selects "CacheRules$RoundRule" ({ cls := "CacheRules$Rule", name := "choose", desc := "(I[Z)I" } : Jvm.MethodName) ({ cls := "CacheRules$RoundRule", name := "choose", desc := "(I[Z)I" } : Jvm.MethodName)) ∈ GT := gt_at 528 (by decide +kernel) (by decide +kernel)
theorem g529 : (Jvm.Cond.instanceMethod ({ cls := "CacheRules$RoundRule", name := "choose", desc := "(I[Z)I" } : Jvm.MethodName)) ∈ GT := gt_at 529 (by decide +kernel) (by decide +kernel)
theorem g530 : (Jvm.Cond.code ({ cls := "CacheRules$RoundRule", name := "choose", desc := "(I[Z)I" } : Jvm.MethodName) prog_8_method_5_code (6 : Nat) (Option.some Jvm.ClassFile.FieldType.int)) ∈ GT := gt_at 530 (by decide +kernel) (by decide +kernel)
theorem g531 : (Jvm.Cond.methodLink "CacheRules$RoundRule" (23 : Nat) ({ cls := "CacheRules$RoundRule", name := "wayFromHand", desc := "(II)I" } : Jvm.MethodName)) ∈ GT := gt_at 531 (by decide +kernel) (by decide +kernel)
theorem g533 : (Jvm.Cond.instanceMethod ({ cls := "CacheRules$RoundRule", name := "wayFromHand", desc := "(II)I" } : Jvm.MethodName)) ∈ GT := gt_at 533 (by decide +kernel) (by decide +kernel)
theorem g534 : (Jvm.Cond.code ({ cls := "CacheRules$RoundRule", name := "wayFromHand", desc := "(II)I" } : Jvm.MethodName) prog_8_method_4_code (4 : Nat) (Option.some Jvm.ClassFile.FieldType.int)) ∈ GT := gt_at 534 (by decide +kernel) (by decide +kernel)
theorem g535 : (Jvm.Cond.selects "CacheRules$TimeRule" ({ cls := "CacheRules$Rule", name := "choose", desc := "(I[Z)I" } : Jvm.MethodName) ({ cls := "CacheRules$TimeRule", name := "choose", desc := "(I[Z)I" } : Jvm.MethodName)) ∈ GT := gt_at 535 (by decide +kernel) (by decide +kernel)
theorem g536 : (Jvm.Cond.instanceMethod ({ cls := "CacheRules$TimeRule", name := "choose", desc := "(I[Z)I" } : Jvm.MethodName)) ∈ GT := gt_at 536 (by decide +kernel) (by decide +kernel)
theorem g537 : (Jvm.Cond.code ({ cls := "CacheRules$TimeRule", name := "choose", desc := "(I[Z)I" } : Jvm.MethodName) prog_10_method_4_code (6 : Nat) (Option.some Jvm.ClassFile.FieldType.int)) ∈ GT := gt_at 537 (by decide +kernel) (by decide +kernel)
theorem g538 : (Jvm.Cond.methodLink "CacheRules$TimeRule" (34 : Nat) ({ cls := "CacheRules$TimeRule", name := "goesSooner", desc := "(II)Z" } : Jvm.MethodName)) ∈ GT := gt_at 538 (by decide +kernel) (by decide +kernel)
theorem g540 : (Jvm.Cond.instanceMethod ({ cls := "CacheRules$TimeRule", name := "goesSooner", desc := "(II)Z" } : Jvm.MethodName)) ∈ GT := gt_at 540 (by decide +kernel) (by decide +kernel)
theorem g541 : (Jvm.Cond.code ({ cls := "CacheRules$TimeRule", name := "goesSooner", desc := "(II)Z" } : Jvm.MethodName) prog_10_method_5_code (3 : Nat) (Option.some Jvm.ClassFile.FieldType.boolean)) ∈ GT := gt_at 541 (by decide +kernel) (by decide +kernel)
theorem g542 : (Jvm.Cond.selects "CacheRules$TreeRule" ({ cls := "CacheRules$Rule", name := "choose", desc := "(I[Z)I" } : Jvm.MethodName) ({ cls := "CacheRules$TreeRule", name := "choose", desc := "(I[Z)I" } : Jvm.MethodName)) ∈ GT := gt_at 542 (by decide +kernel) (by decide +kernel)
theorem g543 : (Jvm.Cond.instanceMethod ({ cls := "CacheRules$TreeRule", name := "choose", desc := "(I[Z)I" } : Jvm.MethodName)) ∈ GT := gt_at 543 (by decide +kernel) (by decide +kernel)
theorem g544 : (Jvm.Cond.code ({ cls := "CacheRules$TreeRule", name := "choose", desc := "(I[Z)I" } : Jvm.MethodName) prog_11_method_5_code (6 : Nat) (Option.some Jvm.ClassFile.FieldType.int)) ∈ GT := gt_at 544 (by decide +kernel) (by decide +kernel)
theorem g545 : (Jvm.Cond.methodLink "CacheRules" (257 : Nat) ({ cls := "CacheRules$Rule", name := "settle", desc := "(II[Z)V" } : Jvm.MethodName)) ∈ GT := gt_at 545 (by decide +kernel) (by decide +kernel)
theorem g547 : (Jvm.Cond.sameMethod "CacheRules$Rule" "CacheRules$Rule" "settle" "(II[Z)V") ∈ GT := gt_at 547 (by decide +kernel) (by decide +kernel)
theorem g548 : (Jvm.Cond.selects "CacheRules$AgeRule" ({ cls := "CacheRules$Rule", name := "settle", desc := "(II[Z)V" } : Jvm.MethodName) ({ cls := "CacheRules$AgeRule", name := "settle", desc := "(II[Z)V" } : Jvm.MethodName)) ∈ GT := gt_at 548 (by decide +kernel) (by decide +kernel)
theorem g549 : (Jvm.Cond.instanceMethod ({ cls := "CacheRules$AgeRule", name := "settle", desc := "(II[Z)V" } : Jvm.MethodName)) ∈ GT := gt_at 549 (by decide +kernel) (by decide +kernel)
theorem g550 : (Jvm.Cond.code ({ cls := "CacheRules$AgeRule", name := "settle", desc := "(II[Z)V" } : Jvm.MethodName) prog_2_method_5_code (6 : Nat) (Option.none : Option Jvm.ClassFile.FieldType)) ∈ GT := gt_at 550 (by decide +kernel) (by decide +kernel)
theorem g551 : (Jvm.Cond.selects "CacheRules$ChanceRule" ({ cls := "CacheRules$Rule", name := "settle", desc := "(II[Z)V" } : Jvm.MethodName) ({ cls := "CacheRules$ChanceRule", name := "settle", desc := "(II[Z)V" } : Jvm.MethodName)) ∈ GT := gt_at 551 (by decide +kernel) (by decide +kernel)
theorem g552 : (Jvm.Cond.instanceMethod ({ cls := "CacheRules$ChanceRule", name := "settle", desc := "(II[Z)V" } : Jvm.MethodName)) ∈ GT := gt_at 552 (by decide +kernel) (by decide +kernel)
theorem g553 : (Jvm.Cond.code ({ cls := "CacheRules$ChanceRule", name := "settle", desc := "(II[Z)V" } : Jvm.MethodName) prog_5_method_5_code (4 : Nat) (Option.none : Option Jvm.ClassFile.FieldType)) ∈ GT := gt_at 553 (by decide +kernel) (by decide +kernel)
theorem g554 : (Jvm.Cond.constant "CacheRules$ChanceRule" (19 : Nat) (1103515245 : Int32)) ∈ GT := gt_at 554 (by decide +kernel) (by decide +kernel)
theorem g555 : (Jvm.Cond.constant "CacheRules$ChanceRule" (20 : Nat) (2147483647 : Int32)) ∈ GT := gt_at 555 (by decide +kernel) (by decide +kernel)
theorem g556 : (Jvm.Cond.selects "CacheRules$LatelyRule" ({ cls := "CacheRules$Rule", name := "settle", desc := "(II[Z)V" } : Jvm.MethodName) ({ cls := "CacheRules$LatelyRule", name := "settle", desc := "(II[Z)V" } : Jvm.MethodName)) ∈ GT := gt_at 556 (by decide +kernel) (by decide +kernel)
theorem g557 : (Jvm.Cond.instanceMethod ({ cls := "CacheRules$LatelyRule", name := "settle", desc := "(II[Z)V" } : Jvm.MethodName)) ∈ GT := gt_at 557 (by decide +kernel) (by decide +kernel)
theorem g558 : (Jvm.Cond.code ({ cls := "CacheRules$LatelyRule", name := "settle", desc := "(II[Z)V" } : Jvm.MethodName) prog_7_method_6_code (4 : Nat) (Option.none : Option Jvm.ClassFile.FieldType)) ∈ GT := gt_at 558 (by decide +kernel) (by decide +kernel)
theorem g559 : (Jvm.Cond.selects "CacheRules$RoundRule" ({ cls := "CacheRules$Rule", name := "settle", desc := "(II[Z)V" } : Jvm.MethodName) ({ cls := "CacheRules$RoundRule", name := "settle", desc := "(II[Z)V" } : Jvm.MethodName)) ∈ GT := gt_at 559 (by decide +kernel) (by decide +kernel)
theorem g560 : (Jvm.Cond.instanceMethod ({ cls := "CacheRules$RoundRule", name := "settle", desc := "(II[Z)V" } : Jvm.MethodName)) ∈ GT := gt_at 560 (by decide +kernel) (by decide +kernel)
theorem g561 : (Jvm.Cond.code ({ cls := "CacheRules$RoundRule", name := "settle", desc := "(II[Z)V" } : Jvm.MethodName) prog_8_method_6_code (7 : Nat) (Option.none : Option Jvm.ClassFile.FieldType)) ∈ GT := gt_at 561 (by decide +kernel) (by decide +kernel)
theorem g562 : (Jvm.Cond.selects "CacheRules$TimeRule" ({ cls := "CacheRules$Rule", name := "settle", desc := "(II[Z)V" } : Jvm.MethodName) ({ cls := "CacheRules$TimeRule", name := "settle", desc := "(II[Z)V" } : Jvm.MethodName)) ∈ GT := gt_at 562 (by decide +kernel) (by decide +kernel)
theorem g563 : (Jvm.Cond.instanceMethod ({ cls := "CacheRules$TimeRule", name := "settle", desc := "(II[Z)V" } : Jvm.MethodName)) ∈ GT := gt_at 563 (by decide +kernel) (by decide +kernel)
theorem g564 : (Jvm.Cond.code ({ cls := "CacheRules$TimeRule", name := "settle", desc := "(II[Z)V" } : Jvm.MethodName) prog_10_method_6_code (4 : Nat) (Option.none : Option Jvm.ClassFile.FieldType)) ∈ GT := gt_at 564 (by decide +kernel) (by decide +kernel)
theorem g565 : (Jvm.Cond.selects "CacheRules$TreeRule" ({ cls := "CacheRules$Rule", name := "settle", desc := "(II[Z)V" } : Jvm.MethodName) ({ cls := "CacheRules$TreeRule", name := "settle", desc := "(II[Z)V" } : Jvm.MethodName)) ∈ GT := gt_at 565 (by decide +kernel) (by decide +kernel)
theorem g566 : (Jvm.Cond.instanceMethod ({ cls := "CacheRules$TreeRule", name := "settle", desc := "(II[Z)V" } : Jvm.MethodName)) ∈ GT := gt_at 566 (by decide +kernel) (by decide +kernel)
theorem g567 : (Jvm.Cond.code ({ cls := "CacheRules$TreeRule", name := "settle", desc := "(II[Z)V" } : Jvm.MethodName) prog_11_method_6_code (4 : Nat) (Option.none : Option Jvm.ClassFile.FieldType)) ∈ GT := gt_at 567 (by decide +kernel) (by decide +kernel)
theorem g568 : (Jvm.Cond.methodLink "CacheRules" (261 : Nat) ({ cls := "CacheRules", name := "putOut", desc := "(I)V" } : Jvm.MethodName)) ∈ GT := gt_at 568 (by decide +kernel) (by decide +kernel)
theorem g570 : (Jvm.Cond.instanceMethod ({ cls := "CacheRules", name := "putOut", desc := "(I)V" } : Jvm.MethodName)) ∈ GT := gt_at 570 (by decide +kernel) (by decide +kernel)
theorem g571 : (Jvm.Cond.code ({ cls := "CacheRules", name := "putOut", desc := "(I)V" } : Jvm.MethodName) prog_1_method_24_code (2 : Nat) (Option.none : Option Jvm.ClassFile.FieldType)) ∈ GT := gt_at 571 (by decide +kernel) (by decide +kernel)
theorem g572 : (Jvm.Cond.methodLink "CacheRules" (274 : Nat) ({ cls := "CacheRules$CatchingRows", name := "add", desc := "(III)V" } : Jvm.MethodName)) ∈ GT := gt_at 572 (by decide +kernel) (by decide +kernel)
theorem g573 : (Jvm.Cond.instanceMethod ({ cls := "CacheRules$CatchingRows", name := "add", desc := "(III)V" } : Jvm.MethodName)) ∈ GT := gt_at 573 (by decide +kernel) (by decide +kernel)
theorem g574 : (Jvm.Cond.selects "CacheRules$CatchingRows" ({ cls := "CacheRules$CatchingRows", name := "add", desc := "(III)V" } : Jvm.MethodName) ({ cls := "CacheRules$CatchingRows", name := "add", desc := "(III)V" } : Jvm.MethodName)) ∈ GT := gt_at 574 (by decide +kernel) (by decide +kernel)
theorem g575 : (Jvm.Cond.code ({ cls := "CacheRules$CatchingRows", name := "add", desc := "(III)V" } : Jvm.MethodName) prog_4_method_3_code (4 : Nat) (Option.none : Option Jvm.ClassFile.FieldType)) ∈ GT := gt_at 575 (by decide +kernel) (by decide +kernel)
theorem g576 : (Jvm.Cond.methodLink "CacheRules" (264 : Nat) ({ cls := "CacheRules$Ways", name := "put", desc := "(IIII)V" } : Jvm.MethodName)) ∈ GT := gt_at 576 (by decide +kernel) (by decide +kernel)
theorem g577 : (Jvm.Cond.instanceMethod ({ cls := "CacheRules$Ways", name := "put", desc := "(IIII)V" } : Jvm.MethodName)) ∈ GT := gt_at 577 (by decide +kernel) (by decide +kernel)
theorem g578 : (Jvm.Cond.selects "CacheRules$Ways" ({ cls := "CacheRules$Ways", name := "put", desc := "(IIII)V" } : Jvm.MethodName) ({ cls := "CacheRules$Ways", name := "put", desc := "(IIII)V" } : Jvm.MethodName)) ∈ GT := gt_at 578 (by decide +kernel) (by decide +kernel)
theorem g579 : (Jvm.Cond.code ({ cls := "CacheRules$Ways", name := "put", desc := "(IIII)V" } : Jvm.MethodName) prog_12_method_6_code (5 : Nat) (Option.none : Option Jvm.ClassFile.FieldType)) ∈ GT := gt_at 579 (by decide +kernel) (by decide +kernel)
theorem g580 : (Jvm.Cond.methodLink "CacheRules" (268 : Nat) ({ cls := "CacheRules$Rule", name := "come", desc := "(II)V" } : Jvm.MethodName)) ∈ GT := gt_at 580 (by decide +kernel) (by decide +kernel)
theorem g582 : (Jvm.Cond.sameMethod "CacheRules$Rule" "CacheRules$Rule" "come" "(II)V") ∈ GT := gt_at 582 (by decide +kernel) (by decide +kernel)
theorem g583 : (Jvm.Cond.selects "CacheRules$AgeRule" ({ cls := "CacheRules$Rule", name := "come", desc := "(II)V" } : Jvm.MethodName) ({ cls := "CacheRules$AgeRule", name := "come", desc := "(II)V" } : Jvm.MethodName)) ∈ GT := gt_at 583 (by decide +kernel) (by decide +kernel)
theorem g584 : (Jvm.Cond.instanceMethod ({ cls := "CacheRules$AgeRule", name := "come", desc := "(II)V" } : Jvm.MethodName)) ∈ GT := gt_at 584 (by decide +kernel) (by decide +kernel)
theorem g585 : (Jvm.Cond.code ({ cls := "CacheRules$AgeRule", name := "come", desc := "(II)V" } : Jvm.MethodName) prog_2_method_3_code (3 : Nat) (Option.none : Option Jvm.ClassFile.FieldType)) ∈ GT := gt_at 585 (by decide +kernel) (by decide +kernel)
theorem g586 : (Jvm.Cond.selects "CacheRules$ChanceRule" ({ cls := "CacheRules$Rule", name := "come", desc := "(II)V" } : Jvm.MethodName) ({ cls := "CacheRules$ChanceRule", name := "come", desc := "(II)V" } : Jvm.MethodName)) ∈ GT := gt_at 586 (by decide +kernel) (by decide +kernel)
theorem g587 : (Jvm.Cond.instanceMethod ({ cls := "CacheRules$ChanceRule", name := "come", desc := "(II)V" } : Jvm.MethodName)) ∈ GT := gt_at 587 (by decide +kernel) (by decide +kernel)
theorem g588 : (Jvm.Cond.code ({ cls := "CacheRules$ChanceRule", name := "come", desc := "(II)V" } : Jvm.MethodName) prog_5_method_3_code (3 : Nat) (Option.none : Option Jvm.ClassFile.FieldType)) ∈ GT := gt_at 588 (by decide +kernel) (by decide +kernel)
theorem g589 : (Jvm.Cond.selects "CacheRules$LatelyRule" ({ cls := "CacheRules$Rule", name := "come", desc := "(II)V" } : Jvm.MethodName) ({ cls := "CacheRules$LatelyRule", name := "come", desc := "(II)V" } : Jvm.MethodName)) ∈ GT := gt_at 589 (by decide +kernel) (by decide +kernel)
theorem g590 : (Jvm.Cond.instanceMethod ({ cls := "CacheRules$LatelyRule", name := "come", desc := "(II)V" } : Jvm.MethodName)) ∈ GT := gt_at 590 (by decide +kernel) (by decide +kernel)
theorem g591 : (Jvm.Cond.code ({ cls := "CacheRules$LatelyRule", name := "come", desc := "(II)V" } : Jvm.MethodName) prog_7_method_4_code (3 : Nat) (Option.none : Option Jvm.ClassFile.FieldType)) ∈ GT := gt_at 591 (by decide +kernel) (by decide +kernel)
theorem g592 : (Jvm.Cond.selects "CacheRules$RoundRule" ({ cls := "CacheRules$Rule", name := "come", desc := "(II)V" } : Jvm.MethodName) ({ cls := "CacheRules$RoundRule", name := "come", desc := "(II)V" } : Jvm.MethodName)) ∈ GT := gt_at 592 (by decide +kernel) (by decide +kernel)
theorem g593 : (Jvm.Cond.instanceMethod ({ cls := "CacheRules$RoundRule", name := "come", desc := "(II)V" } : Jvm.MethodName)) ∈ GT := gt_at 593 (by decide +kernel) (by decide +kernel)
theorem g594 : (Jvm.Cond.code ({ cls := "CacheRules$RoundRule", name := "come", desc := "(II)V" } : Jvm.MethodName) prog_8_method_3_code (3 : Nat) (Option.none : Option Jvm.ClassFile.FieldType)) ∈ GT := gt_at 594 (by decide +kernel) (by decide +kernel)
theorem g595 : (Jvm.Cond.selects "CacheRules$TimeRule" ({ cls := "CacheRules$Rule", name := "come", desc := "(II)V" } : Jvm.MethodName) ({ cls := "CacheRules$TimeRule", name := "come", desc := "(II)V" } : Jvm.MethodName)) ∈ GT := gt_at 595 (by decide +kernel) (by decide +kernel)
theorem g596 : (Jvm.Cond.instanceMethod ({ cls := "CacheRules$TimeRule", name := "come", desc := "(II)V" } : Jvm.MethodName)) ∈ GT := gt_at 596 (by decide +kernel) (by decide +kernel)
theorem g597 : (Jvm.Cond.code ({ cls := "CacheRules$TimeRule", name := "come", desc := "(II)V" } : Jvm.MethodName) prog_10_method_3_code (4 : Nat) (Option.none : Option Jvm.ClassFile.FieldType)) ∈ GT := gt_at 597 (by decide +kernel) (by decide +kernel)
theorem g598 : (Jvm.Cond.selects "CacheRules$TreeRule" ({ cls := "CacheRules$Rule", name := "come", desc := "(II)V" } : Jvm.MethodName) ({ cls := "CacheRules$TreeRule", name := "come", desc := "(II)V" } : Jvm.MethodName)) ∈ GT := gt_at 598 (by decide +kernel) (by decide +kernel)
theorem g599 : (Jvm.Cond.instanceMethod ({ cls := "CacheRules$TreeRule", name := "come", desc := "(II)V" } : Jvm.MethodName)) ∈ GT := gt_at 599 (by decide +kernel) (by decide +kernel)
theorem g600 : (Jvm.Cond.code ({ cls := "CacheRules$TreeRule", name := "come", desc := "(II)V" } : Jvm.MethodName) prog_11_method_4_code (3 : Nat) (Option.none : Option Jvm.ClassFile.FieldType)) ∈ GT := gt_at 600 (by decide +kernel) (by decide +kernel)
theorem g601 : (Jvm.Cond.methodLink "CacheRules" (235 : Nat) ({ cls := "CacheRules", name := "writePart", desc := "(II)V" } : Jvm.MethodName)) ∈ GT := gt_at 601 (by decide +kernel) (by decide +kernel)
theorem g603 : (Jvm.Cond.instanceMethod ({ cls := "CacheRules", name := "writePart", desc := "(II)V" } : Jvm.MethodName)) ∈ GT := gt_at 603 (by decide +kernel) (by decide +kernel)
theorem g604 : (Jvm.Cond.code ({ cls := "CacheRules", name := "writePart", desc := "(II)V" } : Jvm.MethodName) prog_1_method_25_code (5 : Nat) (Option.none : Option Jvm.ClassFile.FieldType)) ∈ GT := gt_at 604 (by decide +kernel) (by decide +kernel)
theorem g605 : (Jvm.Cond.methodLink "CacheRulesLaw" (70 : Nat) ({ cls := "CacheRulesLaw", name := "ask", desc := "(LCacheRules;II[J)I" } : Jvm.MethodName)) ∈ GT := gt_at 605 (by decide +kernel) (by decide +kernel)
theorem g606 : (Jvm.Cond.static ({ cls := "CacheRulesLaw", name := "ask", desc := "(LCacheRules;II[J)I" } : Jvm.MethodName)) ∈ GT := gt_at 606 (by decide +kernel) (by decide +kernel)
theorem g608 : (Jvm.Cond.classLink "CacheRulesLaw" (19 : Nat) "java/lang/UnsupportedOperationException") ∈ GT := gt_at 608 (by decide +kernel) (by decide +kernel)
theorem g609 : (Jvm.Cond.methodLink "CacheRulesLaw" (15 : Nat) ({ cls := "CacheRules", name := "ask", desc := "(II)I" } : Jvm.MethodName)) ∈ GT := gt_at 609 (by decide +kernel) (by decide +kernel)
theorem g610 : (Jvm.Cond.instanceMethod ({ cls := "CacheRules", name := "ask", desc := "(II)I" } : Jvm.MethodName)) ∈ GT := gt_at 610 (by decide +kernel) (by decide +kernel)
theorem g611 : (Jvm.Cond.selects "CacheRules" ({ cls := "CacheRules", name := "ask", desc := "(II)I" } : Jvm.MethodName) ({ cls := "CacheRules", name := "ask", desc := "(II)I" } : Jvm.MethodName)) ∈ GT := gt_at 611 (by decide +kernel) (by decide +kernel)
theorem g612 : (Jvm.Cond.code ({ cls := "CacheRules", name := "ask", desc := "(II)I" } : Jvm.MethodName) prog_1_method_5_code (4 : Nat) (Option.some Jvm.ClassFile.FieldType.int)) ∈ GT := gt_at 612 (by decide +kernel) (by decide +kernel)
theorem g613 : (Jvm.Cond.methodLink "CacheRules" (108 : Nat) ({ cls := "CacheRules$Asks", name := "hasRoomFor", desc := "(I)Z" } : Jvm.MethodName)) ∈ GT := gt_at 613 (by decide +kernel) (by decide +kernel)
theorem g614 : (Jvm.Cond.instanceMethod ({ cls := "CacheRules$Asks", name := "hasRoomFor", desc := "(I)Z" } : Jvm.MethodName)) ∈ GT := gt_at 614 (by decide +kernel) (by decide +kernel)
theorem g615 : (Jvm.Cond.selects "CacheRules$Asks" ({ cls := "CacheRules$Asks", name := "hasRoomFor", desc := "(I)Z" } : Jvm.MethodName) ({ cls := "CacheRules$Asks", name := "hasRoomFor", desc := "(I)Z" } : Jvm.MethodName)) ∈ GT := gt_at 615 (by decide +kernel) (by decide +kernel)
theorem g616 : (Jvm.Cond.code ({ cls := "CacheRules$Asks", name := "hasRoomFor", desc := "(I)Z" } : Jvm.MethodName) prog_3_method_3_code (2 : Nat) (Option.some Jvm.ClassFile.FieldType.boolean)) ∈ GT := gt_at 616 (by decide +kernel) (by decide +kernel)
theorem g617 : (Jvm.Cond.methodLink "CacheRules$Asks" (32 : Nat) ({ cls := "CacheRules$Asks", name := "waits", desc := "(I)Z" } : Jvm.MethodName)) ∈ GT := gt_at 617 (by decide +kernel) (by decide +kernel)
theorem g618 : (Jvm.Cond.instanceMethod ({ cls := "CacheRules$Asks", name := "waits", desc := "(I)Z" } : Jvm.MethodName)) ∈ GT := gt_at 618 (by decide +kernel) (by decide +kernel)
theorem g619 : (Jvm.Cond.selects "CacheRules$Asks" ({ cls := "CacheRules$Asks", name := "waits", desc := "(I)Z" } : Jvm.MethodName) ({ cls := "CacheRules$Asks", name := "waits", desc := "(I)Z" } : Jvm.MethodName)) ∈ GT := gt_at 619 (by decide +kernel) (by decide +kernel)
theorem g620 : (Jvm.Cond.code ({ cls := "CacheRules$Asks", name := "waits", desc := "(I)Z" } : Jvm.MethodName) prog_3_method_2_code (3 : Nat) (Option.some Jvm.ClassFile.FieldType.boolean)) ∈ GT := gt_at 620 (by decide +kernel) (by decide +kernel)
theorem g621 : (Jvm.Cond.classLink "CacheRules" (111 : Nat) "java/lang/UnsupportedOperationException") ∈ GT := gt_at 621 (by decide +kernel) (by decide +kernel)
theorem g622 : (Jvm.Cond.instantiable "java/lang/UnsupportedOperationException" (6 : Nat)) ∈ GT := gt_at 622 (by decide +kernel) (by decide +kernel)
theorem g624 : (Jvm.Cond.selects "java/lang/UnsupportedOperationException" ({ cls := "java/lang/Throwable", name := "fillInStackTrace", desc := "(I)Ljava/lang/Throwable;" } : Jvm.MethodName) ({ cls := "java/lang/Throwable", name := "fillInStackTrace", desc := "(I)Ljava/lang/Throwable;" } : Jvm.MethodName)) ∈ GT := gt_at 624 (by decide +kernel) (by decide +kernel)
theorem g631 : (Jvm.Cond.methodLink "CacheRules" (115 : Nat) ({ cls := "java/lang/UnsupportedOperationException", name := "<init>", desc := "(Ljava/lang/String;)V" } : Jvm.MethodName)) ∈ GT := gt_at 631 (by decide +kernel) (by decide +kernel)
theorem g632 : (Jvm.Cond.instanceMethod ({ cls := "java/lang/UnsupportedOperationException", name := "<init>", desc := "(Ljava/lang/String;)V" } : Jvm.MethodName)) ∈ GT := gt_at 632 (by decide +kernel) (by decide +kernel)
theorem g633 : (Jvm.Cond.code ({ cls := "java/lang/UnsupportedOperationException", name := "<init>", desc := "(Ljava/lang/String;)V" } : Jvm.MethodName) prog_23_method_2_code (2 : Nat) (Option.none : Option Jvm.ClassFile.FieldType)) ∈ GT := gt_at 633 (by decide +kernel) (by decide +kernel)
theorem g634 : (Jvm.Cond.methodLink "java/lang/UnsupportedOperationException" (7 : Nat) ({ cls := "java/lang/RuntimeException", name := "<init>", desc := "(Ljava/lang/String;)V" } : Jvm.MethodName)) ∈ GT := gt_at 634 (by decide +kernel) (by decide +kernel)
theorem g637 : (Jvm.Cond.methodLink "CacheRules" (116 : Nat) ({ cls := "CacheRules$Asks", name := "add", desc := "(II)Z" } : Jvm.MethodName)) ∈ GT := gt_at 637 (by decide +kernel) (by decide +kernel)
theorem g638 : (Jvm.Cond.instanceMethod ({ cls := "CacheRules$Asks", name := "add", desc := "(II)Z" } : Jvm.MethodName)) ∈ GT := gt_at 638 (by decide +kernel) (by decide +kernel)
theorem g639 : (Jvm.Cond.selects "CacheRules$Asks" ({ cls := "CacheRules$Asks", name := "add", desc := "(II)Z" } : Jvm.MethodName) ({ cls := "CacheRules$Asks", name := "add", desc := "(II)Z" } : Jvm.MethodName)) ∈ GT := gt_at 639 (by decide +kernel) (by decide +kernel)
theorem g640 : (Jvm.Cond.code ({ cls := "CacheRules$Asks", name := "add", desc := "(II)Z" } : Jvm.MethodName) prog_3_method_4_code (4 : Nat) (Option.some Jvm.ClassFile.FieldType.boolean)) ∈ GT := gt_at 640 (by decide +kernel) (by decide +kernel)
theorem g641 : (Jvm.Cond.methodLink "CacheRulesLaw" (74 : Nat) ({ cls := "CacheRulesLaw", name := "answer", desc := "(LCacheRules;[J)I" } : Jvm.MethodName)) ∈ GT := gt_at 641 (by decide +kernel) (by decide +kernel)
theorem g642 : (Jvm.Cond.static ({ cls := "CacheRulesLaw", name := "answer", desc := "(LCacheRules;[J)I" } : Jvm.MethodName)) ∈ GT := gt_at 642 (by decide +kernel) (by decide +kernel)
theorem g644 : (Jvm.Cond.classLink "CacheRulesLaw" (25 : Nat) "java/util/NoSuchElementException") ∈ GT := gt_at 644 (by decide +kernel) (by decide +kernel)
theorem g645 : (Jvm.Cond.methodLink "CacheRulesLaw" (21 : Nat) ({ cls := "CacheRules", name := "answer", desc := "()I" } : Jvm.MethodName)) ∈ GT := gt_at 645 (by decide +kernel) (by decide +kernel)
theorem g646 : (Jvm.Cond.instanceMethod ({ cls := "CacheRules", name := "answer", desc := "()I" } : Jvm.MethodName)) ∈ GT := gt_at 646 (by decide +kernel) (by decide +kernel)
theorem g647 : (Jvm.Cond.selects "CacheRules" ({ cls := "CacheRules", name := "answer", desc := "()I" } : Jvm.MethodName) ({ cls := "CacheRules", name := "answer", desc := "()I" } : Jvm.MethodName)) ∈ GT := gt_at 647 (by decide +kernel) (by decide +kernel)
theorem g648 : (Jvm.Cond.code ({ cls := "CacheRules", name := "answer", desc := "()I" } : Jvm.MethodName) prog_1_method_6_code (3 : Nat) (Option.some Jvm.ClassFile.FieldType.int)) ∈ GT := gt_at 648 (by decide +kernel) (by decide +kernel)
theorem g649 : (Jvm.Cond.classLink "CacheRules" (124 : Nat) "java/util/NoSuchElementException") ∈ GT := gt_at 649 (by decide +kernel) (by decide +kernel)
theorem g650 : (Jvm.Cond.instantiable "java/util/NoSuchElementException" (6 : Nat)) ∈ GT := gt_at 650 (by decide +kernel) (by decide +kernel)
theorem g652 : (Jvm.Cond.selects "java/util/NoSuchElementException" ({ cls := "java/lang/Throwable", name := "fillInStackTrace", desc := "(I)Ljava/lang/Throwable;" } : Jvm.MethodName) ({ cls := "java/lang/Throwable", name := "fillInStackTrace", desc := "(I)Ljava/lang/Throwable;" } : Jvm.MethodName)) ∈ GT := gt_at 652 (by decide +kernel) (by decide +kernel)
theorem g659 : (Jvm.Cond.methodLink "CacheRules" (128 : Nat) ({ cls := "java/util/NoSuchElementException", name := "<init>", desc := "(Ljava/lang/String;)V" } : Jvm.MethodName)) ∈ GT := gt_at 659 (by decide +kernel) (by decide +kernel)
theorem g660 : (Jvm.Cond.instanceMethod ({ cls := "java/util/NoSuchElementException", name := "<init>", desc := "(Ljava/lang/String;)V" } : Jvm.MethodName)) ∈ GT := gt_at 660 (by decide +kernel) (by decide +kernel)
theorem g661 : (Jvm.Cond.code ({ cls := "java/util/NoSuchElementException", name := "<init>", desc := "(Ljava/lang/String;)V" } : Jvm.MethodName) prog_24_method_4_code (2 : Nat) (Option.none : Option Jvm.ClassFile.FieldType)) ∈ GT := gt_at 661 (by decide +kernel) (by decide +kernel)
theorem g662 : (Jvm.Cond.methodLink "java/util/NoSuchElementException" (13 : Nat) ({ cls := "java/lang/RuntimeException", name := "<init>", desc := "(Ljava/lang/String;)V" } : Jvm.MethodName)) ∈ GT := gt_at 662 (by decide +kernel) (by decide +kernel)
theorem g665 : (Jvm.Cond.methodLink "CacheRules" (129 : Nat) ({ cls := "CacheRules$Asks", name := "takeFirstLine", desc := "()I" } : Jvm.MethodName)) ∈ GT := gt_at 665 (by decide +kernel) (by decide +kernel)
theorem g666 : (Jvm.Cond.instanceMethod ({ cls := "CacheRules$Asks", name := "takeFirstLine", desc := "()I" } : Jvm.MethodName)) ∈ GT := gt_at 666 (by decide +kernel) (by decide +kernel)
theorem g667 : (Jvm.Cond.selects "CacheRules$Asks" ({ cls := "CacheRules$Asks", name := "takeFirstLine", desc := "()I" } : Jvm.MethodName) ({ cls := "CacheRules$Asks", name := "takeFirstLine", desc := "()I" } : Jvm.MethodName)) ∈ GT := gt_at 667 (by decide +kernel) (by decide +kernel)
theorem g668 : (Jvm.Cond.code ({ cls := "CacheRules$Asks", name := "takeFirstLine", desc := "()I" } : Jvm.MethodName) prog_3_method_5_code (4 : Nat) (Option.some Jvm.ClassFile.FieldType.int)) ∈ GT := gt_at 668 (by decide +kernel) (by decide +kernel)
theorem g669 : (Jvm.Cond.methodLink "CacheRulesLaw" (78 : Nat) ({ cls := "CacheRulesLaw", name := "answered", desc := "(LCacheRules;II[J)I" } : Jvm.MethodName)) ∈ GT := gt_at 669 (by decide +kernel) (by decide +kernel)
theorem g670 : (Jvm.Cond.static ({ cls := "CacheRulesLaw", name := "answered", desc := "(LCacheRules;II[J)I" } : Jvm.MethodName)) ∈ GT := gt_at 670 (by decide +kernel) (by decide +kernel)
theorem g672 : (Jvm.Cond.methodLink "CacheRulesLaw" (27 : Nat) ({ cls := "CacheRules", name := "answered", desc := "(II)I" } : Jvm.MethodName)) ∈ GT := gt_at 672 (by decide +kernel) (by decide +kernel)
theorem g673 : (Jvm.Cond.instanceMethod ({ cls := "CacheRules", name := "answered", desc := "(II)I" } : Jvm.MethodName)) ∈ GT := gt_at 673 (by decide +kernel) (by decide +kernel)
theorem g674 : (Jvm.Cond.selects "CacheRules" ({ cls := "CacheRules", name := "answered", desc := "(II)I" } : Jvm.MethodName) ({ cls := "CacheRules", name := "answered", desc := "(II)I" } : Jvm.MethodName)) ∈ GT := gt_at 674 (by decide +kernel) (by decide +kernel)
theorem g675 : (Jvm.Cond.code ({ cls := "CacheRules", name := "answered", desc := "(II)I" } : Jvm.MethodName) prog_1_method_7_code (3 : Nat) (Option.some Jvm.ClassFile.FieldType.int)) ∈ GT := gt_at 675 (by decide +kernel) (by decide +kernel)
theorem g677 : (Jvm.Cond.methodLink "CacheRulesLaw" (98 : Nat) ({ cls := "CacheRulesLaw", name := "way", desc := "(LCacheRules;III[J)I" } : Jvm.MethodName)) ∈ GT := gt_at 677 (by decide +kernel) (by decide +kernel)
theorem g678 : (Jvm.Cond.static ({ cls := "CacheRulesLaw", name := "way", desc := "(LCacheRules;III[J)I" } : Jvm.MethodName)) ∈ GT := gt_at 678 (by decide +kernel) (by decide +kernel)
theorem g680 : (Jvm.Cond.methodLink "CacheRulesLaw" (30 : Nat) ({ cls := "CacheRules", name := "way", desc := "(III)I" } : Jvm.MethodName)) ∈ GT := gt_at 680 (by decide +kernel) (by decide +kernel)
theorem g681 : (Jvm.Cond.instanceMethod ({ cls := "CacheRules", name := "way", desc := "(III)I" } : Jvm.MethodName)) ∈ GT := gt_at 681 (by decide +kernel) (by decide +kernel)
theorem g682 : (Jvm.Cond.selects "CacheRules" ({ cls := "CacheRules", name := "way", desc := "(III)I" } : Jvm.MethodName) ({ cls := "CacheRules", name := "way", desc := "(III)I" } : Jvm.MethodName)) ∈ GT := gt_at 682 (by decide +kernel) (by decide +kernel)
theorem g683 : (Jvm.Cond.code ({ cls := "CacheRules", name := "way", desc := "(III)I" } : Jvm.MethodName) prog_1_method_12_code (5 : Nat) (Option.some Jvm.ClassFile.FieldType.int)) ∈ GT := gt_at 683 (by decide +kernel) (by decide +kernel)
theorem g686 : (Jvm.Cond.methodLink "CacheRulesLaw" (102 : Nat) ({ cls := "CacheRulesLaw", name := "caught", desc := "(LCacheRules;II[J)I" } : Jvm.MethodName)) ∈ GT := gt_at 686 (by decide +kernel) (by decide +kernel)
theorem g687 : (Jvm.Cond.static ({ cls := "CacheRulesLaw", name := "caught", desc := "(LCacheRules;II[J)I" } : Jvm.MethodName)) ∈ GT := gt_at 687 (by decide +kernel) (by decide +kernel)
theorem g689 : (Jvm.Cond.methodLink "CacheRulesLaw" (34 : Nat) ({ cls := "CacheRules", name := "caught", desc := "(II)I" } : Jvm.MethodName)) ∈ GT := gt_at 689 (by decide +kernel) (by decide +kernel)
theorem g690 : (Jvm.Cond.instanceMethod ({ cls := "CacheRules", name := "caught", desc := "(II)I" } : Jvm.MethodName)) ∈ GT := gt_at 690 (by decide +kernel) (by decide +kernel)
theorem g691 : (Jvm.Cond.selects "CacheRules" ({ cls := "CacheRules", name := "caught", desc := "(II)I" } : Jvm.MethodName) ({ cls := "CacheRules", name := "caught", desc := "(II)I" } : Jvm.MethodName)) ∈ GT := gt_at 691 (by decide +kernel) (by decide +kernel)
theorem g692 : (Jvm.Cond.code ({ cls := "CacheRules", name := "caught", desc := "(II)I" } : Jvm.MethodName) prog_1_method_13_code (3 : Nat) (Option.some Jvm.ClassFile.FieldType.int)) ∈ GT := gt_at 692 (by decide +kernel) (by decide +kernel)
theorem g694 : (Jvm.Cond.methodLink "CacheRulesLaw" (105 : Nat) ({ cls := "CacheRulesLaw", name := "next", desc := "(LCacheRules;I[J)I" } : Jvm.MethodName)) ∈ GT := gt_at 694 (by decide +kernel) (by decide +kernel)
theorem g695 : (Jvm.Cond.static ({ cls := "CacheRulesLaw", name := "next", desc := "(LCacheRules;I[J)I" } : Jvm.MethodName)) ∈ GT := gt_at 695 (by decide +kernel) (by decide +kernel)
theorem g697 : (Jvm.Cond.methodLink "CacheRulesLaw" (37 : Nat) ({ cls := "CacheRules", name := "next", desc := "(I)I" } : Jvm.MethodName)) ∈ GT := gt_at 697 (by decide +kernel) (by decide +kernel)
theorem g698 : (Jvm.Cond.instanceMethod ({ cls := "CacheRules", name := "next", desc := "(I)I" } : Jvm.MethodName)) ∈ GT := gt_at 698 (by decide +kernel) (by decide +kernel)
theorem g699 : (Jvm.Cond.selects "CacheRules" ({ cls := "CacheRules", name := "next", desc := "(I)I" } : Jvm.MethodName) ({ cls := "CacheRules", name := "next", desc := "(I)I" } : Jvm.MethodName)) ∈ GT := gt_at 699 (by decide +kernel) (by decide +kernel)
theorem g700 : (Jvm.Cond.code ({ cls := "CacheRules", name := "next", desc := "(I)I" } : Jvm.MethodName) prog_1_method_14_code (2 : Nat) (Option.some Jvm.ClassFile.FieldType.int)) ∈ GT := gt_at 700 (by decide +kernel) (by decide +kernel)
theorem g702 : (Jvm.Cond.methodLink "CacheRulesLaw" (109 : Nat) ({ cls := "CacheRulesLaw", name := "misses", desc := "(LCacheRules;I[J)I" } : Jvm.MethodName)) ∈ GT := gt_at 702 (by decide +kernel) (by decide +kernel)
theorem g703 : (Jvm.Cond.static ({ cls := "CacheRulesLaw", name := "misses", desc := "(LCacheRules;I[J)I" } : Jvm.MethodName)) ∈ GT := gt_at 703 (by decide +kernel) (by decide +kernel)
theorem g705 : (Jvm.Cond.classLink "CacheRulesLaw" (44 : Nat) "java/lang/IllegalArgumentException") ∈ GT := gt_at 705 (by decide +kernel) (by decide +kernel)
theorem g706 : (Jvm.Cond.methodLink "CacheRulesLaw" (41 : Nat) ({ cls := "CacheRules", name := "misses", desc := "(I)I" } : Jvm.MethodName)) ∈ GT := gt_at 706 (by decide +kernel) (by decide +kernel)
theorem g707 : (Jvm.Cond.instanceMethod ({ cls := "CacheRules", name := "misses", desc := "(I)I" } : Jvm.MethodName)) ∈ GT := gt_at 707 (by decide +kernel) (by decide +kernel)
theorem g708 : (Jvm.Cond.selects "CacheRules" ({ cls := "CacheRules", name := "misses", desc := "(I)I" } : Jvm.MethodName) ({ cls := "CacheRules", name := "misses", desc := "(I)I" } : Jvm.MethodName)) ∈ GT := gt_at 708 (by decide +kernel) (by decide +kernel)
theorem g709 : (Jvm.Cond.code ({ cls := "CacheRules", name := "misses", desc := "(I)I" } : Jvm.MethodName) prog_1_method_15_code (2 : Nat) (Option.some Jvm.ClassFile.FieldType.int)) ∈ GT := gt_at 709 (by decide +kernel) (by decide +kernel)
theorem g710 : (Jvm.Cond.classLink "CacheRules" (210 : Nat) "java/lang/IllegalArgumentException") ∈ GT := gt_at 710 (by decide +kernel) (by decide +kernel)
theorem g711 : (Jvm.Cond.instantiable "java/lang/IllegalArgumentException" (6 : Nat)) ∈ GT := gt_at 711 (by decide +kernel) (by decide +kernel)
theorem g713 : (Jvm.Cond.selects "java/lang/IllegalArgumentException" ({ cls := "java/lang/Throwable", name := "fillInStackTrace", desc := "(I)Ljava/lang/Throwable;" } : Jvm.MethodName) ({ cls := "java/lang/Throwable", name := "fillInStackTrace", desc := "(I)Ljava/lang/Throwable;" } : Jvm.MethodName)) ∈ GT := gt_at 713 (by decide +kernel) (by decide +kernel)
theorem g720 : (Jvm.Cond.methodLink "CacheRules" (214 : Nat) ({ cls := "java/lang/IllegalArgumentException", name := "<init>", desc := "(Ljava/lang/String;)V" } : Jvm.MethodName)) ∈ GT := gt_at 720 (by decide +kernel) (by decide +kernel)
theorem g721 : (Jvm.Cond.instanceMethod ({ cls := "java/lang/IllegalArgumentException", name := "<init>", desc := "(Ljava/lang/String;)V" } : Jvm.MethodName)) ∈ GT := gt_at 721 (by decide +kernel) (by decide +kernel)
theorem g722 : (Jvm.Cond.code ({ cls := "java/lang/IllegalArgumentException", name := "<init>", desc := "(Ljava/lang/String;)V" } : Jvm.MethodName) prog_16_method_2_code (2 : Nat) (Option.none : Option Jvm.ClassFile.FieldType)) ∈ GT := gt_at 722 (by decide +kernel) (by decide +kernel)
theorem g723 : (Jvm.Cond.methodLink "java/lang/IllegalArgumentException" (7 : Nat) ({ cls := "java/lang/RuntimeException", name := "<init>", desc := "(Ljava/lang/String;)V" } : Jvm.MethodName)) ∈ GT := gt_at 723 (by decide +kernel) (by decide +kernel)
theorem g726 : (Jvm.Cond.methodLink "CacheRules" (215 : Nat) ({ cls := "CacheRules$History", name := "countFrom", desc := "(I)I" } : Jvm.MethodName)) ∈ GT := gt_at 726 (by decide +kernel) (by decide +kernel)
theorem g727 : (Jvm.Cond.instanceMethod ({ cls := "CacheRules$History", name := "countFrom", desc := "(I)I" } : Jvm.MethodName)) ∈ GT := gt_at 727 (by decide +kernel) (by decide +kernel)
theorem g728 : (Jvm.Cond.selects "CacheRules$History" ({ cls := "CacheRules$History", name := "countFrom", desc := "(I)I" } : Jvm.MethodName) ({ cls := "CacheRules$History", name := "countFrom", desc := "(I)I" } : Jvm.MethodName)) ∈ GT := gt_at 728 (by decide +kernel) (by decide +kernel)
theorem g729 : (Jvm.Cond.code ({ cls := "CacheRules$History", name := "countFrom", desc := "(I)I" } : Jvm.MethodName) prog_6_method_4_code (4 : Nat) (Option.some Jvm.ClassFile.FieldType.int)) ∈ GT := gt_at 729 (by decide +kernel) (by decide +kernel)
theorem g730 : (Jvm.Cond.classLink "CacheRulesLaw" (55 : Nat) "CacheRulesModel") ∈ GT := gt_at 730 (by decide +kernel) (by decide +kernel)
theorem g731 : (Jvm.Cond.instantiable "CacheRulesModel" (36 : Nat)) ∈ GT := gt_at 731 (by decide +kernel) (by decide +kernel)
theorem g732 : (Jvm.Cond.methodLink "CacheRulesLaw" (57 : Nat) ({ cls := "CacheRulesModel", name := "<init>", desc := "(IIII)V" } : Jvm.MethodName)) ∈ GT := gt_at 732 (by decide +kernel) (by decide +kernel)
theorem g733 : (Jvm.Cond.instanceMethod ({ cls := "CacheRulesModel", name := "<init>", desc := "(IIII)V" } : Jvm.MethodName)) ∈ GT := gt_at 733 (by decide +kernel) (by decide +kernel)
theorem g734 : (Jvm.Cond.code ({ cls := "CacheRulesModel", name := "<init>", desc := "(IIII)V" } : Jvm.MethodName) prog_14_method_1_code (5 : Nat) (Option.none : Option Jvm.ClassFile.FieldType)) ∈ GT := gt_at 734 (by decide +kernel) (by decide +kernel)
theorem g735 : (Jvm.Cond.methodLink "CacheRulesModel" (1 : Nat) ({ cls := "java/lang/Object", name := "<init>", desc := "()V" } : Jvm.MethodName)) ∈ GT := gt_at 735 (by decide +kernel) (by decide +kernel)
theorem g736 : (Jvm.Cond.methodLink "CacheRulesModel" (88 : Nat) ({ cls := "CacheRulesModel", name := "modulo", desc := "(II)I" } : Jvm.MethodName)) ∈ GT := gt_at 736 (by decide +kernel) (by decide +kernel)
theorem g737 : (Jvm.Cond.static ({ cls := "CacheRulesModel", name := "modulo", desc := "(II)I" } : Jvm.MethodName)) ∈ GT := gt_at 737 (by decide +kernel) (by decide +kernel)
theorem g738 : (Jvm.Cond.code ({ cls := "CacheRulesModel", name := "modulo", desc := "(II)I" } : Jvm.MethodName) prog_14_method_2_code (2 : Nat) (Option.some Jvm.ClassFile.FieldType.int)) ∈ GT := gt_at 738 (by decide +kernel) (by decide +kernel)
theorem g739 : (Jvm.Cond.fieldLink "CacheRulesModel" (104 : Nat) "CacheRulesModel" "thrown" "I") ∈ GT := gt_at 739 (by decide +kernel) (by decide +kernel)
theorem g740 : (Jvm.Cond.fieldLink "CacheRulesModel" (92 : Nat) "CacheRulesModel" "sets" "I") ∈ GT := gt_at 740 (by decide +kernel) (by decide +kernel)
theorem g741 : (Jvm.Cond.fieldLink "CacheRulesModel" (95 : Nat) "CacheRulesModel" "ways" "I") ∈ GT := gt_at 741 (by decide +kernel) (by decide +kernel)
theorem g742 : (Jvm.Cond.fieldLink "CacheRulesModel" (98 : Nat) "CacheRulesModel" "rule" "I") ∈ GT := gt_at 742 (by decide +kernel) (by decide +kernel)
theorem g743 : (Jvm.Cond.fieldLink "CacheRulesModel" (101 : Nat) "CacheRulesModel" "room" "I") ∈ GT := gt_at 743 (by decide +kernel) (by decide +kernel)
theorem g744 : (Jvm.Cond.fieldLink "CacheRulesModel" (107 : Nat) "CacheRulesModel" "through" "Z") ∈ GT := gt_at 744 (by decide +kernel) (by decide +kernel)
theorem g745 : (Jvm.Cond.fieldLink "CacheRulesModel" (7 : Nat) "CacheRulesModel" "places" "Z") ∈ GT := gt_at 745 (by decide +kernel) (by decide +kernel)
theorem g746 : (Jvm.Cond.fieldLink "CacheRulesModel" (13 : Nat) "CacheRulesModel" "has" "[Z") ∈ GT := gt_at 746 (by decide +kernel) (by decide +kernel)
theorem g747 : (Jvm.Cond.fieldLink "CacheRulesModel" (17 : Nat) "CacheRulesModel" "line" "[I") ∈ GT := gt_at 747 (by decide +kernel) (by decide +kernel)
theorem g748 : (Jvm.Cond.fieldLink "CacheRulesModel" (21 : Nat) "CacheRulesModel" "parts" "[I") ∈ GT := gt_at 748 (by decide +kernel) (by decide +kernel)
theorem g749 : (Jvm.Cond.fieldLink "CacheRulesModel" (24 : Nat) "CacheRulesModel" "changed" "[I") ∈ GT := gt_at 749 (by decide +kernel) (by decide +kernel)
theorem g750 : (Jvm.Cond.fieldLink "CacheRulesModel" (27 : Nat) "CacheRulesModel" "locked" "[Z") ∈ GT := gt_at 750 (by decide +kernel) (by decide +kernel)
theorem g751 : (Jvm.Cond.fieldLink "CacheRulesModel" (121 : Nat) "CacheRulesModel" "time" "I") ∈ GT := gt_at 751 (by decide +kernel) (by decide +kernel)
theorem g752 : (Jvm.Cond.fieldLink "CacheRulesModel" (30 : Nat) "CacheRulesModel" "last" "[I") ∈ GT := gt_at 752 (by decide +kernel) (by decide +kernel)
theorem g753 : (Jvm.Cond.fieldLink "CacheRulesModel" (33 : Nat) "CacheRulesModel" "came" "[I") ∈ GT := gt_at 753 (by decide +kernel) (by decide +kernel)
theorem g754 : (Jvm.Cond.fieldLink "CacheRulesModel" (36 : Nat) "CacheRulesModel" "uses" "[I") ∈ GT := gt_at 754 (by decide +kernel) (by decide +kernel)
theorem g755 : (Jvm.Cond.fieldLink "CacheRulesModel" (39 : Nat) "CacheRulesModel" "mark" "[Z") ∈ GT := gt_at 755 (by decide +kernel) (by decide +kernel)
theorem g756 : (Jvm.Cond.fieldLink "CacheRulesModel" (42 : Nat) "CacheRulesModel" "age" "[I") ∈ GT := gt_at 756 (by decide +kernel) (by decide +kernel)
theorem g757 : (Jvm.Cond.fieldLink "CacheRulesModel" (45 : Nat) "CacheRulesModel" "hand" "[I") ∈ GT := gt_at 757 (by decide +kernel) (by decide +kernel)
theorem g758 : (Jvm.Cond.fieldLink "CacheRulesModel" (48 : Nat) "CacheRulesModel" "tree" "[Z") ∈ GT := gt_at 758 (by decide +kernel) (by decide +kernel)
theorem g759 : (Jvm.Cond.fieldLink "CacheRulesModel" (51 : Nat) "CacheRulesModel" "chance" "I") ∈ GT := gt_at 759 (by decide +kernel) (by decide +kernel)
theorem g760 : (Jvm.Cond.fieldLink "CacheRulesModel" (114 : Nat) "CacheRulesModel" "caught" "I") ∈ GT := gt_at 760 (by decide +kernel) (by decide +kernel)
theorem g761 : (Jvm.Cond.fieldLink "CacheRulesModel" (55 : Nat) "CacheRulesModel" "rowLine" "[I") ∈ GT := gt_at 761 (by decide +kernel) (by decide +kernel)
theorem g762 : (Jvm.Cond.fieldLink "CacheRulesModel" (58 : Nat) "CacheRulesModel" "rowParts" "[I") ∈ GT := gt_at 762 (by decide +kernel) (by decide +kernel)
theorem g763 : (Jvm.Cond.fieldLink "CacheRulesModel" (61 : Nat) "CacheRulesModel" "rowChanged" "[I") ∈ GT := gt_at 763 (by decide +kernel) (by decide +kernel)
theorem g764 : (Jvm.Cond.fieldLink "CacheRulesModel" (224 : Nat) "CacheRulesModel" "asks" "I") ∈ GT := gt_at 764 (by decide +kernel) (by decide +kernel)
theorem g765 : (Jvm.Cond.fieldLink "CacheRulesModel" (64 : Nat) "CacheRulesModel" "askLine" "[I") ∈ GT := gt_at 765 (by decide +kernel) (by decide +kernel)
theorem g766 : (Jvm.Cond.fieldLink "CacheRulesModel" (67 : Nat) "CacheRulesModel" "askPart" "[I") ∈ GT := gt_at 766 (by decide +kernel) (by decide +kernel)
theorem g767 : (Jvm.Cond.fieldLink "CacheRulesModel" (230 : Nat) "CacheRulesModel" "answered" "I") ∈ GT := gt_at 767 (by decide +kernel) (by decide +kernel)
theorem g768 : (Jvm.Cond.fieldLink "CacheRulesModel" (70 : Nat) "CacheRulesModel" "answerPart" "[I") ∈ GT := gt_at 768 (by decide +kernel) (by decide +kernel)
theorem g769 : (Jvm.Cond.fieldLink "CacheRulesModel" (73 : Nat) "CacheRulesModel" "answerHow" "[I") ∈ GT := gt_at 769 (by decide +kernel) (by decide +kernel)
theorem g770 : (Jvm.Cond.fieldLink "CacheRulesModel" (176 : Nat) "CacheRulesModel" "near" "I") ∈ GT := gt_at 770 (by decide +kernel) (by decide +kernel)
theorem g771 : (Jvm.Cond.fieldLink "CacheRulesModel" (76 : Nat) "CacheRulesModel" "nearLine" "[I") ∈ GT := gt_at 771 (by decide +kernel) (by decide +kernel)
theorem g772 : (Jvm.Cond.fieldLink "CacheRulesModel" (79 : Nat) "CacheRulesModel" "far" "[I") ∈ GT := gt_at 772 (by decide +kernel) (by decide +kernel)
theorem g773 : (Jvm.Cond.fieldLink "CacheRulesModel" (82 : Nat) "CacheRulesModel" "counts" "[I") ∈ GT := gt_at 773 (by decide +kernel) (by decide +kernel)
theorem g774 : (Jvm.Cond.fieldLink "CacheRulesModel" (85 : Nat) "CacheRulesModel" "mark2" "[Z") ∈ GT := gt_at 774 (by decide +kernel) (by decide +kernel)
theorem g848 : (Jvm.Cond.methodLink "CacheRulesLaw" (67 : Nat) ({ cls := "CacheRulesModel", name := "thrown", desc := "()I" } : Jvm.MethodName)) ∈ GT := gt_at 848 (by decide +kernel) (by decide +kernel)
theorem g849 : (Jvm.Cond.instanceMethod ({ cls := "CacheRulesModel", name := "thrown", desc := "()I" } : Jvm.MethodName)) ∈ GT := gt_at 849 (by decide +kernel) (by decide +kernel)
theorem g850 : (Jvm.Cond.selects "CacheRulesModel" ({ cls := "CacheRulesModel", name := "thrown", desc := "()I" } : Jvm.MethodName) ({ cls := "CacheRulesModel", name := "thrown", desc := "()I" } : Jvm.MethodName)) ∈ GT := gt_at 850 (by decide +kernel) (by decide +kernel)
theorem g851 : (Jvm.Cond.code ({ cls := "CacheRulesModel", name := "thrown", desc := "()I" } : Jvm.MethodName) prog_14_method_3_code (1 : Nat) (Option.some Jvm.ClassFile.FieldType.int)) ∈ GT := gt_at 851 (by decide +kernel) (by decide +kernel)
theorem g852 : (Jvm.Cond.methodLink "CacheRulesLaw" (62 : Nat) ({ cls := "CacheRulesModel", name := "mode", desc := "(ZZ)I" } : Jvm.MethodName)) ∈ GT := gt_at 852 (by decide +kernel) (by decide +kernel)
theorem g853 : (Jvm.Cond.instanceMethod ({ cls := "CacheRulesModel", name := "mode", desc := "(ZZ)I" } : Jvm.MethodName)) ∈ GT := gt_at 853 (by decide +kernel) (by decide +kernel)
theorem g854 : (Jvm.Cond.selects "CacheRulesModel" ({ cls := "CacheRulesModel", name := "mode", desc := "(ZZ)I" } : Jvm.MethodName) ({ cls := "CacheRulesModel", name := "mode", desc := "(ZZ)I" } : Jvm.MethodName)) ∈ GT := gt_at 854 (by decide +kernel) (by decide +kernel)
theorem g855 : (Jvm.Cond.code ({ cls := "CacheRulesModel", name := "mode", desc := "(ZZ)I" } : Jvm.MethodName) prog_14_method_6_code (4 : Nat) (Option.some Jvm.ClassFile.FieldType.int)) ∈ GT := gt_at 855 (by decide +kernel) (by decide +kernel)
theorem g856 : (Jvm.Cond.methodLink "CacheRulesLaw" (66 : Nat) ({ cls := "CacheRulesModel", name := "access", desc := "(IIZ)I" } : Jvm.MethodName)) ∈ GT := gt_at 856 (by decide +kernel) (by decide +kernel)
theorem g857 : (Jvm.Cond.instanceMethod ({ cls := "CacheRulesModel", name := "access", desc := "(IIZ)I" } : Jvm.MethodName)) ∈ GT := gt_at 857 (by decide +kernel) (by decide +kernel)
theorem g858 : (Jvm.Cond.selects "CacheRulesModel" ({ cls := "CacheRulesModel", name := "access", desc := "(IIZ)I" } : Jvm.MethodName) ({ cls := "CacheRulesModel", name := "access", desc := "(IIZ)I" } : Jvm.MethodName)) ∈ GT := gt_at 858 (by decide +kernel) (by decide +kernel)
theorem g859 : (Jvm.Cond.code ({ cls := "CacheRulesModel", name := "access", desc := "(IIZ)I" } : Jvm.MethodName) prog_14_method_35_code (4 : Nat) (Option.some Jvm.ClassFile.FieldType.int)) ∈ GT := gt_at 859 (by decide +kernel) (by decide +kernel)
theorem g860 : (Jvm.Cond.methodLink "CacheRulesModel" (214 : Nat) ({ cls := "CacheRulesModel", name := "within", desc := "(III)Z" } : Jvm.MethodName)) ∈ GT := gt_at 860 (by decide +kernel) (by decide +kernel)
theorem g861 : (Jvm.Cond.static ({ cls := "CacheRulesModel", name := "within", desc := "(III)Z" } : Jvm.MethodName)) ∈ GT := gt_at 861 (by decide +kernel) (by decide +kernel)
theorem g862 : (Jvm.Cond.code ({ cls := "CacheRulesModel", name := "within", desc := "(III)Z" } : Jvm.MethodName) prog_14_method_5_code (3 : Nat) (Option.some Jvm.ClassFile.FieldType.boolean)) ∈ GT := gt_at 862 (by decide +kernel) (by decide +kernel)
theorem g863 : (Jvm.Cond.methodLink "CacheRulesModel" (218 : Nat) ({ cls := "CacheRulesModel", name := "accessOf", desc := "(IIZ)I" } : Jvm.MethodName)) ∈ GT := gt_at 863 (by decide +kernel) (by decide +kernel)
theorem g865 : (Jvm.Cond.instanceMethod ({ cls := "CacheRulesModel", name := "accessOf", desc := "(IIZ)I" } : Jvm.MethodName)) ∈ GT := gt_at 865 (by decide +kernel) (by decide +kernel)
theorem g866 : (Jvm.Cond.code ({ cls := "CacheRulesModel", name := "accessOf", desc := "(IIZ)I" } : Jvm.MethodName) prog_14_method_34_code (5 : Nat) (Option.some Jvm.ClassFile.FieldType.int)) ∈ GT := gt_at 866 (by decide +kernel) (by decide +kernel)
theorem g867 : (Jvm.Cond.methodLink "CacheRulesModel" (210 : Nat) ({ cls := "CacheRulesModel", name := "reach", desc := "(IIZ)I" } : Jvm.MethodName)) ∈ GT := gt_at 867 (by decide +kernel) (by decide +kernel)
theorem g869 : (Jvm.Cond.instanceMethod ({ cls := "CacheRulesModel", name := "reach", desc := "(IIZ)I" } : Jvm.MethodName)) ∈ GT := gt_at 869 (by decide +kernel) (by decide +kernel)
theorem g870 : (Jvm.Cond.code ({ cls := "CacheRulesModel", name := "reach", desc := "(IIZ)I" } : Jvm.MethodName) prog_14_method_32_code (7 : Nat) (Option.some Jvm.ClassFile.FieldType.int)) ∈ GT := gt_at 870 (by decide +kernel) (by decide +kernel)
theorem g871 : (Jvm.Cond.methodLink "CacheRulesModel" (182 : Nat) ({ cls := "CacheRulesModel", name := "find", desc := "(I)I" } : Jvm.MethodName)) ∈ GT := gt_at 871 (by decide +kernel) (by decide +kernel)
theorem g873 : (Jvm.Cond.instanceMethod ({ cls := "CacheRulesModel", name := "find", desc := "(I)I" } : Jvm.MethodName)) ∈ GT := gt_at 873 (by decide +kernel) (by decide +kernel)
theorem g874 : (Jvm.Cond.code ({ cls := "CacheRulesModel", name := "find", desc := "(I)I" } : Jvm.MethodName) prog_14_method_9_code (5 : Nat) (Option.some Jvm.ClassFile.FieldType.int)) ∈ GT := gt_at 874 (by decide +kernel) (by decide +kernel)
theorem g875 : (Jvm.Cond.methodLink "CacheRulesModel" (110 : Nat) ({ cls := "CacheRulesModel", name := "setOf", desc := "(I)I" } : Jvm.MethodName)) ∈ GT := gt_at 875 (by decide +kernel) (by decide +kernel)
theorem g877 : (Jvm.Cond.instanceMethod ({ cls := "CacheRulesModel", name := "setOf", desc := "(I)I" } : Jvm.MethodName)) ∈ GT := gt_at 877 (by decide +kernel) (by decide +kernel)
theorem g878 : (Jvm.Cond.code ({ cls := "CacheRulesModel", name := "setOf", desc := "(I)I" } : Jvm.MethodName) prog_14_method_8_code (2 : Nat) (Option.some Jvm.ClassFile.FieldType.int)) ∈ GT := gt_at 878 (by decide +kernel) (by decide +kernel)
theorem g879 : (Jvm.Cond.methodLink "CacheRulesModel" (185 : Nat) ({ cls := "CacheRulesModel", name := "putNear", desc := "(I)V" } : Jvm.MethodName)) ∈ GT := gt_at 879 (by decide +kernel) (by decide +kernel)
theorem g881 : (Jvm.Cond.instanceMethod ({ cls := "CacheRulesModel", name := "putNear", desc := "(I)V" } : Jvm.MethodName)) ∈ GT := gt_at 881 (by decide +kernel) (by decide +kernel)
theorem g882 : (Jvm.Cond.code ({ cls := "CacheRulesModel", name := "putNear", desc := "(I)V" } : Jvm.MethodName) prog_14_method_30_code (4 : Nat) (Option.none : Option Jvm.ClassFile.FieldType)) ∈ GT := gt_at 882 (by decide +kernel) (by decide +kernel)
theorem g883 : (Jvm.Cond.methodLink "CacheRulesModel" (179 : Nat) ({ cls := "CacheRulesModel", name := "distanceOf", desc := "(I)I" } : Jvm.MethodName)) ∈ GT := gt_at 883 (by decide +kernel) (by decide +kernel)
theorem g885 : (Jvm.Cond.instanceMethod ({ cls := "CacheRulesModel", name := "distanceOf", desc := "(I)I" } : Jvm.MethodName)) ∈ GT := gt_at 885 (by decide +kernel) (by decide +kernel)
theorem g886 : (Jvm.Cond.code ({ cls := "CacheRulesModel", name := "distanceOf", desc := "(I)I" } : Jvm.MethodName) prog_14_method_29_code (4 : Nat) (Option.some Jvm.ClassFile.FieldType.int)) ∈ GT := gt_at 886 (by decide +kernel) (by decide +kernel)
theorem g887 : (Jvm.Cond.methodLink "CacheRulesModel" (188 : Nat) ({ cls := "CacheRulesModel", name := "takeWay", desc := "(IIZ)V" } : Jvm.MethodName)) ∈ GT := gt_at 887 (by decide +kernel) (by decide +kernel)
theorem g889 : (Jvm.Cond.instanceMethod ({ cls := "CacheRulesModel", name := "takeWay", desc := "(IIZ)V" } : Jvm.MethodName)) ∈ GT := gt_at 889 (by decide +kernel) (by decide +kernel)
theorem g890 : (Jvm.Cond.code ({ cls := "CacheRulesModel", name := "takeWay", desc := "(IIZ)V" } : Jvm.MethodName) prog_14_method_31_code (4 : Nat) (Option.none : Option Jvm.ClassFile.FieldType)) ∈ GT := gt_at 890 (by decide +kernel) (by decide +kernel)
theorem g891 : (Jvm.Cond.methodLink "CacheRulesModel" (192 : Nat) ({ cls := "CacheRulesModel", name := "tellUse", desc := "(I)V" } : Jvm.MethodName)) ∈ GT := gt_at 891 (by decide +kernel) (by decide +kernel)
theorem g893 : (Jvm.Cond.instanceMethod ({ cls := "CacheRulesModel", name := "tellUse", desc := "(I)V" } : Jvm.MethodName)) ∈ GT := gt_at 893 (by decide +kernel) (by decide +kernel)
theorem g894 : (Jvm.Cond.code ({ cls := "CacheRulesModel", name := "tellUse", desc := "(I)V" } : Jvm.MethodName) prog_14_method_14_code (2 : Nat) (Option.none : Option Jvm.ClassFile.FieldType)) ∈ GT := gt_at 894 (by decide +kernel) (by decide +kernel)
theorem g895 : (Jvm.Cond.methodLink "CacheRulesModel" (124 : Nat) ({ cls := "CacheRulesModel", name := "turnAway", desc := "(I)V" } : Jvm.MethodName)) ∈ GT := gt_at 895 (by decide +kernel) (by decide +kernel)
theorem g897 : (Jvm.Cond.instanceMethod ({ cls := "CacheRulesModel", name := "turnAway", desc := "(I)V" } : Jvm.MethodName)) ∈ GT := gt_at 897 (by decide +kernel) (by decide +kernel)
theorem g898 : (Jvm.Cond.code ({ cls := "CacheRulesModel", name := "turnAway", desc := "(I)V" } : Jvm.MethodName) prog_14_method_11_code (5 : Nat) (Option.none : Option Jvm.ClassFile.FieldType)) ∈ GT := gt_at 898 (by decide +kernel) (by decide +kernel)
theorem g899 : (Jvm.Cond.methodLink "CacheRulesModel" (117 : Nat) ({ cls := "CacheRulesModel", name := "treeSize", desc := "()I" } : Jvm.MethodName)) ∈ GT := gt_at 899 (by decide +kernel) (by decide +kernel)
theorem g901 : (Jvm.Cond.instanceMethod ({ cls := "CacheRulesModel", name := "treeSize", desc := "()I" } : Jvm.MethodName)) ∈ GT := gt_at 901 (by decide +kernel) (by decide +kernel)
theorem g902 : (Jvm.Cond.code ({ cls := "CacheRulesModel", name := "treeSize", desc := "()I" } : Jvm.MethodName) prog_14_method_12_code (1 : Nat) (Option.some Jvm.ClassFile.FieldType.int)) ∈ GT := gt_at 902 (by decide +kernel) (by decide +kernel)
theorem g903 : (Jvm.Cond.methodLink "CacheRulesModel" (128 : Nat) ({ cls := "CacheRulesModel", name := "markLately", desc := "(I)V" } : Jvm.MethodName)) ∈ GT := gt_at 903 (by decide +kernel) (by decide +kernel)
theorem g905 : (Jvm.Cond.instanceMethod ({ cls := "CacheRulesModel", name := "markLately", desc := "(I)V" } : Jvm.MethodName)) ∈ GT := gt_at 905 (by decide +kernel) (by decide +kernel)
theorem g906 : (Jvm.Cond.code ({ cls := "CacheRulesModel", name := "markLately", desc := "(I)V" } : Jvm.MethodName) prog_14_method_13_code (5 : Nat) (Option.none : Option Jvm.ClassFile.FieldType)) ∈ GT := gt_at 906 (by decide +kernel) (by decide +kernel)
theorem g907 : (Jvm.Cond.methodLink "CacheRulesModel" (195 : Nat) ({ cls := "CacheRulesModel", name := "findRow", desc := "(I)I" } : Jvm.MethodName)) ∈ GT := gt_at 907 (by decide +kernel) (by decide +kernel)
theorem g909 : (Jvm.Cond.instanceMethod ({ cls := "CacheRulesModel", name := "findRow", desc := "(I)I" } : Jvm.MethodName)) ∈ GT := gt_at 909 (by decide +kernel) (by decide +kernel)
theorem g910 : (Jvm.Cond.code ({ cls := "CacheRulesModel", name := "findRow", desc := "(I)I" } : Jvm.MethodName) prog_14_method_10_code (4 : Nat) (Option.some Jvm.ClassFile.FieldType.int)) ∈ GT := gt_at 910 (by decide +kernel) (by decide +kernel)
theorem g911 : (Jvm.Cond.methodLink "CacheRulesModel" (198 : Nat) ({ cls := "CacheRulesModel", name := "reachRow", desc := "(IIIZ)I" } : Jvm.MethodName)) ∈ GT := gt_at 911 (by decide +kernel) (by decide +kernel)
theorem g913 : (Jvm.Cond.instanceMethod ({ cls := "CacheRulesModel", name := "reachRow", desc := "(IIIZ)I" } : Jvm.MethodName)) ∈ GT := gt_at 913 (by decide +kernel) (by decide +kernel)
theorem g914 : (Jvm.Cond.code ({ cls := "CacheRulesModel", name := "reachRow", desc := "(IIIZ)I" } : Jvm.MethodName) prog_14_method_33_code (7 : Nat) (Option.some Jvm.ClassFile.FieldType.int)) ∈ GT := gt_at 914 (by decide +kernel) (by decide +kernel)
theorem g915 : (Jvm.Cond.methodLink "CacheRulesModel" (202 : Nat) ({ cls := "CacheRulesModel", name := "canPlace", desc := "(I)Z" } : Jvm.MethodName)) ∈ GT := gt_at 915 (by decide +kernel) (by decide +kernel)
theorem g917 : (Jvm.Cond.instanceMethod ({ cls := "CacheRulesModel", name := "canPlace", desc := "(I)Z" } : Jvm.MethodName)) ∈ GT := gt_at 917 (by decide +kernel) (by decide +kernel)
theorem g918 : (Jvm.Cond.code ({ cls := "CacheRulesModel", name := "canPlace", desc := "(I)Z" } : Jvm.MethodName) prog_14_method_27_code (5 : Nat) (Option.some Jvm.ClassFile.FieldType.boolean)) ∈ GT := gt_at 918 (by decide +kernel) (by decide +kernel)
theorem g919 : (Jvm.Cond.methodLink "CacheRulesModel" (163 : Nat) ({ cls := "CacheRulesModel", name := "takeRow", desc := "(I)V" } : Jvm.MethodName)) ∈ GT := gt_at 919 (by decide +kernel) (by decide +kernel)
theorem g921 : (Jvm.Cond.instanceMethod ({ cls := "CacheRulesModel", name := "takeRow", desc := "(I)V" } : Jvm.MethodName)) ∈ GT := gt_at 921 (by decide +kernel) (by decide +kernel)
theorem g922 : (Jvm.Cond.code ({ cls := "CacheRulesModel", name := "takeRow", desc := "(I)V" } : Jvm.MethodName) prog_14_method_26_code (3 : Nat) (Option.none : Option Jvm.ClassFile.FieldType)) ∈ GT := gt_at 922 (by decide +kernel) (by decide +kernel)
theorem g923 : (Jvm.Cond.methodLink "CacheRulesModel" (206 : Nat) ({ cls := "CacheRulesModel", name := "place", desc := "(III)I" } : Jvm.MethodName)) ∈ GT := gt_at 923 (by decide +kernel) (by decide +kernel)
theorem g925 : (Jvm.Cond.instanceMethod ({ cls := "CacheRulesModel", name := "place", desc := "(III)I" } : Jvm.MethodName)) ∈ GT := gt_at 925 (by decide +kernel) (by decide +kernel)
theorem g926 : (Jvm.Cond.code ({ cls := "CacheRulesModel", name := "place", desc := "(III)I" } : Jvm.MethodName) prog_14_method_28_code (6 : Nat) (Option.some Jvm.ClassFile.FieldType.int)) ∈ GT := gt_at 926 (by decide +kernel) (by decide +kernel)
theorem g927 : (Jvm.Cond.methodLink "CacheRulesModel" (166 : Nat) ({ cls := "CacheRulesModel", name := "pick", desc := "(IZ)I" } : Jvm.MethodName)) ∈ GT := gt_at 927 (by decide +kernel) (by decide +kernel)
theorem g929 : (Jvm.Cond.instanceMethod ({ cls := "CacheRulesModel", name := "pick", desc := "(IZ)I" } : Jvm.MethodName)) ∈ GT := gt_at 929 (by decide +kernel) (by decide +kernel)
theorem g930 : (Jvm.Cond.code ({ cls := "CacheRulesModel", name := "pick", desc := "(IZ)I" } : Jvm.MethodName) prog_14_method_23_code (3 : Nat) (Option.some Jvm.ClassFile.FieldType.int)) ∈ GT := gt_at 930 (by decide +kernel) (by decide +kernel)
theorem g931 : (Jvm.Cond.methodLink "CacheRulesModel" (138 : Nat) ({ cls := "CacheRulesModel", name := "byChance", desc := "(IZ)I" } : Jvm.MethodName)) ∈ GT := gt_at 931 (by decide +kernel) (by decide +kernel)
theorem g933 : (Jvm.Cond.instanceMethod ({ cls := "CacheRulesModel", name := "byChance", desc := "(IZ)I" } : Jvm.MethodName)) ∈ GT := gt_at 933 (by decide +kernel) (by decide +kernel)
theorem g934 : (Jvm.Cond.code ({ cls := "CacheRulesModel", name := "byChance", desc := "(IZ)I" } : Jvm.MethodName) prog_14_method_18_code (6 : Nat) (Option.some Jvm.ClassFile.FieldType.int)) ∈ GT := gt_at 934 (by decide +kernel) (by decide +kernel)
theorem g935 : (Jvm.Cond.constant "CacheRulesModel" (135 : Nat) (65536 : Int32)) ∈ GT := gt_at 935 (by decide +kernel) (by decide +kernel)
theorem g936 : (Jvm.Cond.constant "CacheRulesModel" (136 : Nat) (1103515245 : Int32)) ∈ GT := gt_at 936 (by decide +kernel) (by decide +kernel)
theorem g937 : (Jvm.Cond.constant "CacheRulesModel" (137 : Nat) (2147483647 : Int32)) ∈ GT := gt_at 937 (by decide +kernel) (by decide +kernel)
theorem g938 : (Jvm.Cond.methodLink "CacheRulesModel" (142 : Nat) ({ cls := "CacheRulesModel", name := "byHand", desc := "(IZ)I" } : Jvm.MethodName)) ∈ GT := gt_at 938 (by decide +kernel) (by decide +kernel)
theorem g940 : (Jvm.Cond.instanceMethod ({ cls := "CacheRulesModel", name := "byHand", desc := "(IZ)I" } : Jvm.MethodName)) ∈ GT := gt_at 940 (by decide +kernel) (by decide +kernel)
theorem g941 : (Jvm.Cond.code ({ cls := "CacheRulesModel", name := "byHand", desc := "(IZ)I" } : Jvm.MethodName) prog_14_method_19_code (5 : Nat) (Option.some Jvm.ClassFile.FieldType.int)) ∈ GT := gt_at 941 (by decide +kernel) (by decide +kernel)
theorem g942 : (Jvm.Cond.methodLink "CacheRulesModel" (145 : Nat) ({ cls := "CacheRulesModel", name := "byTree", desc := "(I)I" } : Jvm.MethodName)) ∈ GT := gt_at 942 (by decide +kernel) (by decide +kernel)
theorem g944 : (Jvm.Cond.instanceMethod ({ cls := "CacheRulesModel", name := "byTree", desc := "(I)I" } : Jvm.MethodName)) ∈ GT := gt_at 944 (by decide +kernel) (by decide +kernel)
theorem g945 : (Jvm.Cond.code ({ cls := "CacheRulesModel", name := "byTree", desc := "(I)I" } : Jvm.MethodName) prog_14_method_20_code (5 : Nat) (Option.some Jvm.ClassFile.FieldType.int)) ∈ GT := gt_at 945 (by decide +kernel) (by decide +kernel)
theorem g946 : (Jvm.Cond.methodLink "CacheRulesModel" (148 : Nat) ({ cls := "CacheRulesModel", name := "unmarked", desc := "(I)I" } : Jvm.MethodName)) ∈ GT := gt_at 946 (by decide +kernel) (by decide +kernel)
theorem g948 : (Jvm.Cond.instanceMethod ({ cls := "CacheRulesModel", name := "unmarked", desc := "(I)I" } : Jvm.MethodName)) ∈ GT := gt_at 948 (by decide +kernel) (by decide +kernel)
theorem g949 : (Jvm.Cond.code ({ cls := "CacheRulesModel", name := "unmarked", desc := "(I)I" } : Jvm.MethodName) prog_14_method_21_code (4 : Nat) (Option.some Jvm.ClassFile.FieldType.int)) ∈ GT := gt_at 949 (by decide +kernel) (by decide +kernel)
theorem g950 : (Jvm.Cond.methodLink "CacheRulesModel" (151 : Nat) ({ cls := "CacheRulesModel", name := "byAge", desc := "(IZ)I" } : Jvm.MethodName)) ∈ GT := gt_at 950 (by decide +kernel) (by decide +kernel)
theorem g952 : (Jvm.Cond.instanceMethod ({ cls := "CacheRulesModel", name := "byAge", desc := "(IZ)I" } : Jvm.MethodName)) ∈ GT := gt_at 952 (by decide +kernel) (by decide +kernel)
theorem g953 : (Jvm.Cond.code ({ cls := "CacheRulesModel", name := "byAge", desc := "(IZ)I" } : Jvm.MethodName) prog_14_method_22_code (6 : Nat) (Option.some Jvm.ClassFile.FieldType.int)) ∈ GT := gt_at 953 (by decide +kernel) (by decide +kernel)
theorem g954 : (Jvm.Cond.methodLink "CacheRulesModel" (154 : Nat) ({ cls := "CacheRulesModel", name := "best", desc := "(I)I" } : Jvm.MethodName)) ∈ GT := gt_at 954 (by decide +kernel) (by decide +kernel)
theorem g956 : (Jvm.Cond.instanceMethod ({ cls := "CacheRulesModel", name := "best", desc := "(I)I" } : Jvm.MethodName)) ∈ GT := gt_at 956 (by decide +kernel) (by decide +kernel)
theorem g957 : (Jvm.Cond.code ({ cls := "CacheRulesModel", name := "best", desc := "(I)I" } : Jvm.MethodName) prog_14_method_17_code (4 : Nat) (Option.some Jvm.ClassFile.FieldType.int)) ∈ GT := gt_at 957 (by decide +kernel) (by decide +kernel)
theorem g958 : (Jvm.Cond.methodLink "CacheRulesModel" (131 : Nat) ({ cls := "CacheRulesModel", name := "isBetter", desc := "(II)Z" } : Jvm.MethodName)) ∈ GT := gt_at 958 (by decide +kernel) (by decide +kernel)
theorem g960 : (Jvm.Cond.instanceMethod ({ cls := "CacheRulesModel", name := "isBetter", desc := "(II)Z" } : Jvm.MethodName)) ∈ GT := gt_at 960 (by decide +kernel) (by decide +kernel)
theorem g961 : (Jvm.Cond.code ({ cls := "CacheRulesModel", name := "isBetter", desc := "(II)Z" } : Jvm.MethodName) prog_14_method_16_code (3 : Nat) (Option.some Jvm.ClassFile.FieldType.boolean)) ∈ GT := gt_at 961 (by decide +kernel) (by decide +kernel)
theorem g962 : (Jvm.Cond.methodLink "CacheRulesModel" (169 : Nat) ({ cls := "CacheRulesModel", name := "catchRow", desc := "(III)V" } : Jvm.MethodName)) ∈ GT := gt_at 962 (by decide +kernel) (by decide +kernel)
theorem g964 : (Jvm.Cond.instanceMethod ({ cls := "CacheRulesModel", name := "catchRow", desc := "(III)V" } : Jvm.MethodName)) ∈ GT := gt_at 964 (by decide +kernel) (by decide +kernel)
theorem g965 : (Jvm.Cond.code ({ cls := "CacheRulesModel", name := "catchRow", desc := "(III)V" } : Jvm.MethodName) prog_14_method_25_code (4 : Nat) (Option.none : Option Jvm.ClassFile.FieldType)) ∈ GT := gt_at 965 (by decide +kernel) (by decide +kernel)
theorem g966 : (Jvm.Cond.methodLink "CacheRulesModel" (160 : Nat) ({ cls := "CacheRulesModel", name := "writeAll", desc := "(I)V" } : Jvm.MethodName)) ∈ GT := gt_at 966 (by decide +kernel) (by decide +kernel)
theorem g968 : (Jvm.Cond.instanceMethod ({ cls := "CacheRulesModel", name := "writeAll", desc := "(I)V" } : Jvm.MethodName)) ∈ GT := gt_at 968 (by decide +kernel) (by decide +kernel)
theorem g969 : (Jvm.Cond.code ({ cls := "CacheRulesModel", name := "writeAll", desc := "(I)V" } : Jvm.MethodName) prog_14_method_24_code (2 : Nat) (Option.none : Option Jvm.ClassFile.FieldType)) ∈ GT := gt_at 969 (by decide +kernel) (by decide +kernel)
theorem g970 : (Jvm.Cond.methodLink "CacheRulesModel" (157 : Nat) ({ cls := "CacheRulesModel", name := "ones", desc := "(I)I" } : Jvm.MethodName)) ∈ GT := gt_at 970 (by decide +kernel) (by decide +kernel)
theorem g971 : (Jvm.Cond.static ({ cls := "CacheRulesModel", name := "ones", desc := "(I)I" } : Jvm.MethodName)) ∈ GT := gt_at 971 (by decide +kernel) (by decide +kernel)
theorem g972 : (Jvm.Cond.code ({ cls := "CacheRulesModel", name := "ones", desc := "(I)I" } : Jvm.MethodName) prog_14_method_7_code (1 : Nat) (Option.some Jvm.ClassFile.FieldType.int)) ∈ GT := gt_at 972 (by decide +kernel) (by decide +kernel)
theorem g973 : (Jvm.Cond.methodLink "CacheRulesModel" (173 : Nat) ({ cls := "CacheRulesModel", name := "tellComing", desc := "(I)V" } : Jvm.MethodName)) ∈ GT := gt_at 973 (by decide +kernel) (by decide +kernel)
theorem g975 : (Jvm.Cond.instanceMethod ({ cls := "CacheRulesModel", name := "tellComing", desc := "(I)V" } : Jvm.MethodName)) ∈ GT := gt_at 975 (by decide +kernel) (by decide +kernel)
theorem g976 : (Jvm.Cond.code ({ cls := "CacheRulesModel", name := "tellComing", desc := "(I)V" } : Jvm.MethodName) prog_14_method_15_code (2 : Nat) (Option.none : Option Jvm.ClassFile.FieldType)) ∈ GT := gt_at 976 (by decide +kernel) (by decide +kernel)
theorem g977 : (Jvm.Cond.methodLink "CacheRulesModel" (221 : Nat) ({ cls := "CacheRulesModel", name := "fail", desc := "(I)I" } : Jvm.MethodName)) ∈ GT := gt_at 977 (by decide +kernel) (by decide +kernel)
theorem g979 : (Jvm.Cond.instanceMethod ({ cls := "CacheRulesModel", name := "fail", desc := "(I)I" } : Jvm.MethodName)) ∈ GT := gt_at 979 (by decide +kernel) (by decide +kernel)
theorem g980 : (Jvm.Cond.code ({ cls := "CacheRulesModel", name := "fail", desc := "(I)I" } : Jvm.MethodName) prog_14_method_4_code (2 : Nat) (Option.some Jvm.ClassFile.FieldType.int)) ∈ GT := gt_at 980 (by decide +kernel) (by decide +kernel)
theorem g981 : (Jvm.Cond.methodLink "CacheRulesLaw" (73 : Nat) ({ cls := "CacheRulesModel", name := "ask", desc := "(II)I" } : Jvm.MethodName)) ∈ GT := gt_at 981 (by decide +kernel) (by decide +kernel)
theorem g982 : (Jvm.Cond.instanceMethod ({ cls := "CacheRulesModel", name := "ask", desc := "(II)I" } : Jvm.MethodName)) ∈ GT := gt_at 982 (by decide +kernel) (by decide +kernel)
theorem g983 : (Jvm.Cond.selects "CacheRulesModel" ({ cls := "CacheRulesModel", name := "ask", desc := "(II)I" } : Jvm.MethodName) ({ cls := "CacheRulesModel", name := "ask", desc := "(II)I" } : Jvm.MethodName)) ∈ GT := gt_at 983 (by decide +kernel) (by decide +kernel)
theorem g984 : (Jvm.Cond.code ({ cls := "CacheRulesModel", name := "ask", desc := "(II)I" } : Jvm.MethodName) prog_14_method_37_code (6 : Nat) (Option.some Jvm.ClassFile.FieldType.int)) ∈ GT := gt_at 984 (by decide +kernel) (by decide +kernel)
theorem g985 : (Jvm.Cond.methodLink "CacheRulesModel" (227 : Nat) ({ cls := "CacheRulesModel", name := "lines", desc := "()I" } : Jvm.MethodName)) ∈ GT := gt_at 985 (by decide +kernel) (by decide +kernel)
theorem g987 : (Jvm.Cond.instanceMethod ({ cls := "CacheRulesModel", name := "lines", desc := "()I" } : Jvm.MethodName)) ∈ GT := gt_at 987 (by decide +kernel) (by decide +kernel)
theorem g988 : (Jvm.Cond.code ({ cls := "CacheRulesModel", name := "lines", desc := "()I" } : Jvm.MethodName) prog_14_method_36_code (5 : Nat) (Option.some Jvm.ClassFile.FieldType.int)) ∈ GT := gt_at 988 (by decide +kernel) (by decide +kernel)
theorem g989 : (Jvm.Cond.methodLink "CacheRulesLaw" (77 : Nat) ({ cls := "CacheRulesModel", name := "answer", desc := "()I" } : Jvm.MethodName)) ∈ GT := gt_at 989 (by decide +kernel) (by decide +kernel)
theorem g990 : (Jvm.Cond.instanceMethod ({ cls := "CacheRulesModel", name := "answer", desc := "()I" } : Jvm.MethodName)) ∈ GT := gt_at 990 (by decide +kernel) (by decide +kernel)
theorem g991 : (Jvm.Cond.selects "CacheRulesModel" ({ cls := "CacheRulesModel", name := "answer", desc := "()I" } : Jvm.MethodName) ({ cls := "CacheRulesModel", name := "answer", desc := "()I" } : Jvm.MethodName)) ∈ GT := gt_at 991 (by decide +kernel) (by decide +kernel)
theorem g992 : (Jvm.Cond.code ({ cls := "CacheRulesModel", name := "answer", desc := "()I" } : Jvm.MethodName) prog_14_method_38_code (4 : Nat) (Option.some Jvm.ClassFile.FieldType.int)) ∈ GT := gt_at 992 (by decide +kernel) (by decide +kernel)
theorem g993 : (Jvm.Cond.methodLink "CacheRulesLaw" (80 : Nat) ({ cls := "CacheRulesModel", name := "answered", desc := "(II)I" } : Jvm.MethodName)) ∈ GT := gt_at 993 (by decide +kernel) (by decide +kernel)
theorem g994 : (Jvm.Cond.instanceMethod ({ cls := "CacheRulesModel", name := "answered", desc := "(II)I" } : Jvm.MethodName)) ∈ GT := gt_at 994 (by decide +kernel) (by decide +kernel)
theorem g995 : (Jvm.Cond.selects "CacheRulesModel" ({ cls := "CacheRulesModel", name := "answered", desc := "(II)I" } : Jvm.MethodName) ({ cls := "CacheRulesModel", name := "answered", desc := "(II)I" } : Jvm.MethodName)) ∈ GT := gt_at 995 (by decide +kernel) (by decide +kernel)
theorem g996 : (Jvm.Cond.code ({ cls := "CacheRulesModel", name := "answered", desc := "(II)I" } : Jvm.MethodName) prog_14_method_39_code (3 : Nat) (Option.some Jvm.ClassFile.FieldType.int)) ∈ GT := gt_at 996 (by decide +kernel) (by decide +kernel)
theorem g997 : (Jvm.Cond.methodLink "CacheRulesLaw" (85 : Nat) ({ cls := "CacheRulesModel", name := "lock", desc := "(IZ)Z" } : Jvm.MethodName)) ∈ GT := gt_at 997 (by decide +kernel) (by decide +kernel)
theorem g998 : (Jvm.Cond.instanceMethod ({ cls := "CacheRulesModel", name := "lock", desc := "(IZ)Z" } : Jvm.MethodName)) ∈ GT := gt_at 998 (by decide +kernel) (by decide +kernel)
theorem g999 : (Jvm.Cond.selects "CacheRulesModel" ({ cls := "CacheRulesModel", name := "lock", desc := "(IZ)Z" } : Jvm.MethodName) ({ cls := "CacheRulesModel", name := "lock", desc := "(IZ)Z" } : Jvm.MethodName)) ∈ GT := gt_at 999 (by decide +kernel) (by decide +kernel)
theorem g1000 : (Jvm.Cond.code ({ cls := "CacheRulesModel", name := "lock", desc := "(IZ)Z" } : Jvm.MethodName) prog_14_method_40_code (5 : Nat) (Option.some Jvm.ClassFile.FieldType.boolean)) ∈ GT := gt_at 1000 (by decide +kernel) (by decide +kernel)
theorem g1001 : (Jvm.Cond.methodLink "CacheRulesLaw" (89 : Nat) ({ cls := "CacheRulesModel", name := "clean", desc := "(I)I" } : Jvm.MethodName)) ∈ GT := gt_at 1001 (by decide +kernel) (by decide +kernel)
theorem g1002 : (Jvm.Cond.instanceMethod ({ cls := "CacheRulesModel", name := "clean", desc := "(I)I" } : Jvm.MethodName)) ∈ GT := gt_at 1002 (by decide +kernel) (by decide +kernel)
theorem g1003 : (Jvm.Cond.selects "CacheRulesModel" ({ cls := "CacheRulesModel", name := "clean", desc := "(I)I" } : Jvm.MethodName) ({ cls := "CacheRulesModel", name := "clean", desc := "(I)I" } : Jvm.MethodName)) ∈ GT := gt_at 1003 (by decide +kernel) (by decide +kernel)
theorem g1004 : (Jvm.Cond.code ({ cls := "CacheRulesModel", name := "clean", desc := "(I)I" } : Jvm.MethodName) prog_14_method_43_code (4 : Nat) (Option.some Jvm.ClassFile.FieldType.int)) ∈ GT := gt_at 1004 (by decide +kernel) (by decide +kernel)
theorem g1005 : (Jvm.Cond.methodLink "CacheRulesModel" (233 : Nat) ({ cls := "CacheRulesModel", name := "cleanWay", desc := "(I)I" } : Jvm.MethodName)) ∈ GT := gt_at 1005 (by decide +kernel) (by decide +kernel)
theorem g1007 : (Jvm.Cond.instanceMethod ({ cls := "CacheRulesModel", name := "cleanWay", desc := "(I)I" } : Jvm.MethodName)) ∈ GT := gt_at 1007 (by decide +kernel) (by decide +kernel)
theorem g1008 : (Jvm.Cond.code ({ cls := "CacheRulesModel", name := "cleanWay", desc := "(I)I" } : Jvm.MethodName) prog_14_method_41_code (3 : Nat) (Option.some Jvm.ClassFile.FieldType.int)) ∈ GT := gt_at 1008 (by decide +kernel) (by decide +kernel)
theorem g1009 : (Jvm.Cond.methodLink "CacheRulesModel" (236 : Nat) ({ cls := "CacheRulesModel", name := "cleanRow", desc := "(I)I" } : Jvm.MethodName)) ∈ GT := gt_at 1009 (by decide +kernel) (by decide +kernel)
theorem g1011 : (Jvm.Cond.instanceMethod ({ cls := "CacheRulesModel", name := "cleanRow", desc := "(I)I" } : Jvm.MethodName)) ∈ GT := gt_at 1011 (by decide +kernel) (by decide +kernel)
theorem g1012 : (Jvm.Cond.code ({ cls := "CacheRulesModel", name := "cleanRow", desc := "(I)I" } : Jvm.MethodName) prog_14_method_42_code (3 : Nat) (Option.some Jvm.ClassFile.FieldType.int)) ∈ GT := gt_at 1012 (by decide +kernel) (by decide +kernel)
theorem g1013 : (Jvm.Cond.methodLink "CacheRulesLaw" (93 : Nat) ({ cls := "CacheRulesModel", name := "cleanAll", desc := "()I" } : Jvm.MethodName)) ∈ GT := gt_at 1013 (by decide +kernel) (by decide +kernel)
theorem g1014 : (Jvm.Cond.instanceMethod ({ cls := "CacheRulesModel", name := "cleanAll", desc := "()I" } : Jvm.MethodName)) ∈ GT := gt_at 1014 (by decide +kernel) (by decide +kernel)
theorem g1015 : (Jvm.Cond.selects "CacheRulesModel" ({ cls := "CacheRulesModel", name := "cleanAll", desc := "()I" } : Jvm.MethodName) ({ cls := "CacheRulesModel", name := "cleanAll", desc := "()I" } : Jvm.MethodName)) ∈ GT := gt_at 1015 (by decide +kernel) (by decide +kernel)
theorem g1016 : (Jvm.Cond.code ({ cls := "CacheRulesModel", name := "cleanAll", desc := "()I" } : Jvm.MethodName) prog_14_method_44_code (3 : Nat) (Option.some Jvm.ClassFile.FieldType.int)) ∈ GT := gt_at 1016 (by decide +kernel) (by decide +kernel)
theorem g1017 : (Jvm.Cond.methodLink "CacheRulesLaw" (97 : Nat) ({ cls := "CacheRulesModel", name := "drop", desc := "(I)I" } : Jvm.MethodName)) ∈ GT := gt_at 1017 (by decide +kernel) (by decide +kernel)
theorem g1018 : (Jvm.Cond.instanceMethod ({ cls := "CacheRulesModel", name := "drop", desc := "(I)I" } : Jvm.MethodName)) ∈ GT := gt_at 1018 (by decide +kernel) (by decide +kernel)
theorem g1019 : (Jvm.Cond.selects "CacheRulesModel" ({ cls := "CacheRulesModel", name := "drop", desc := "(I)I" } : Jvm.MethodName) ({ cls := "CacheRulesModel", name := "drop", desc := "(I)I" } : Jvm.MethodName)) ∈ GT := gt_at 1019 (by decide +kernel) (by decide +kernel)
theorem g1020 : (Jvm.Cond.code ({ cls := "CacheRulesModel", name := "drop", desc := "(I)I" } : Jvm.MethodName) prog_14_method_45_code (5 : Nat) (Option.some Jvm.ClassFile.FieldType.int)) ∈ GT := gt_at 1020 (by decide +kernel) (by decide +kernel)
theorem g1021 : (Jvm.Cond.methodLink "CacheRulesLaw" (101 : Nat) ({ cls := "CacheRulesModel", name := "way", desc := "(III)I" } : Jvm.MethodName)) ∈ GT := gt_at 1021 (by decide +kernel) (by decide +kernel)
theorem g1022 : (Jvm.Cond.instanceMethod ({ cls := "CacheRulesModel", name := "way", desc := "(III)I" } : Jvm.MethodName)) ∈ GT := gt_at 1022 (by decide +kernel) (by decide +kernel)
theorem g1023 : (Jvm.Cond.selects "CacheRulesModel" ({ cls := "CacheRulesModel", name := "way", desc := "(III)I" } : Jvm.MethodName) ({ cls := "CacheRulesModel", name := "way", desc := "(III)I" } : Jvm.MethodName)) ∈ GT := gt_at 1023 (by decide +kernel) (by decide +kernel)
theorem g1024 : (Jvm.Cond.code ({ cls := "CacheRulesModel", name := "way", desc := "(III)I" } : Jvm.MethodName) prog_14_method_46_code (5 : Nat) (Option.some Jvm.ClassFile.FieldType.int)) ∈ GT := gt_at 1024 (by decide +kernel) (by decide +kernel)
theorem g1025 : (Jvm.Cond.methodLink "CacheRulesLaw" (104 : Nat) ({ cls := "CacheRulesModel", name := "caught", desc := "(II)I" } : Jvm.MethodName)) ∈ GT := gt_at 1025 (by decide +kernel) (by decide +kernel)
theorem g1026 : (Jvm.Cond.instanceMethod ({ cls := "CacheRulesModel", name := "caught", desc := "(II)I" } : Jvm.MethodName)) ∈ GT := gt_at 1026 (by decide +kernel) (by decide +kernel)
theorem g1027 : (Jvm.Cond.selects "CacheRulesModel" ({ cls := "CacheRulesModel", name := "caught", desc := "(II)I" } : Jvm.MethodName) ({ cls := "CacheRulesModel", name := "caught", desc := "(II)I" } : Jvm.MethodName)) ∈ GT := gt_at 1027 (by decide +kernel) (by decide +kernel)
theorem g1028 : (Jvm.Cond.code ({ cls := "CacheRulesModel", name := "caught", desc := "(II)I" } : Jvm.MethodName) prog_14_method_47_code (3 : Nat) (Option.some Jvm.ClassFile.FieldType.int)) ∈ GT := gt_at 1028 (by decide +kernel) (by decide +kernel)
theorem g1029 : (Jvm.Cond.methodLink "CacheRulesLaw" (108 : Nat) ({ cls := "CacheRulesModel", name := "next", desc := "(I)I" } : Jvm.MethodName)) ∈ GT := gt_at 1029 (by decide +kernel) (by decide +kernel)
theorem g1030 : (Jvm.Cond.instanceMethod ({ cls := "CacheRulesModel", name := "next", desc := "(I)I" } : Jvm.MethodName)) ∈ GT := gt_at 1030 (by decide +kernel) (by decide +kernel)
theorem g1031 : (Jvm.Cond.selects "CacheRulesModel" ({ cls := "CacheRulesModel", name := "next", desc := "(I)I" } : Jvm.MethodName) ({ cls := "CacheRulesModel", name := "next", desc := "(I)I" } : Jvm.MethodName)) ∈ GT := gt_at 1031 (by decide +kernel) (by decide +kernel)
theorem g1032 : (Jvm.Cond.code ({ cls := "CacheRulesModel", name := "next", desc := "(I)I" } : Jvm.MethodName) prog_14_method_48_code (5 : Nat) (Option.some Jvm.ClassFile.FieldType.int)) ∈ GT := gt_at 1032 (by decide +kernel) (by decide +kernel)
theorem g1033 : (Jvm.Cond.methodLink "CacheRulesLaw" (111 : Nat) ({ cls := "CacheRulesModel", name := "misses", desc := "(I)I" } : Jvm.MethodName)) ∈ GT := gt_at 1033 (by decide +kernel) (by decide +kernel)
theorem g1034 : (Jvm.Cond.instanceMethod ({ cls := "CacheRulesModel", name := "misses", desc := "(I)I" } : Jvm.MethodName)) ∈ GT := gt_at 1034 (by decide +kernel) (by decide +kernel)
theorem g1035 : (Jvm.Cond.selects "CacheRulesModel" ({ cls := "CacheRulesModel", name := "misses", desc := "(I)I" } : Jvm.MethodName) ({ cls := "CacheRulesModel", name := "misses", desc := "(I)I" } : Jvm.MethodName)) ∈ GT := gt_at 1035 (by decide +kernel) (by decide +kernel)
theorem g1036 : (Jvm.Cond.code ({ cls := "CacheRulesModel", name := "misses", desc := "(I)I" } : Jvm.MethodName) prog_14_method_49_code (4 : Nat) (Option.some Jvm.ClassFile.FieldType.int)) ∈ GT := gt_at 1036 (by decide +kernel) (by decide +kernel)
theorem g1037 : (Jvm.Cond.methodLink "CacheRulesLaw" (115 : Nat) ({ cls := "CacheRulesModel", name := "distance", desc := "(I)I" } : Jvm.MethodName)) ∈ GT := gt_at 1037 (by decide +kernel) (by decide +kernel)
theorem g1038 : (Jvm.Cond.instanceMethod ({ cls := "CacheRulesModel", name := "distance", desc := "(I)I" } : Jvm.MethodName)) ∈ GT := gt_at 1038 (by decide +kernel) (by decide +kernel)
theorem g1039 : (Jvm.Cond.selects "CacheRulesModel" ({ cls := "CacheRulesModel", name := "distance", desc := "(I)I" } : Jvm.MethodName) ({ cls := "CacheRulesModel", name := "distance", desc := "(I)I" } : Jvm.MethodName)) ∈ GT := gt_at 1039 (by decide +kernel) (by decide +kernel)
theorem g1040 : (Jvm.Cond.code ({ cls := "CacheRulesModel", name := "distance", desc := "(I)I" } : Jvm.MethodName) prog_14_method_50_code (2 : Nat) (Option.some Jvm.ClassFile.FieldType.int)) ∈ GT := gt_at 1040 (by decide +kernel) (by decide +kernel)
theorem g1041 : (Jvm.Cond.methodLink "CacheRulesLaw" (119 : Nat) ({ cls := "CacheRulesModel", name := "count", desc := "(I)I" } : Jvm.MethodName)) ∈ GT := gt_at 1041 (by decide +kernel) (by decide +kernel)
theorem g1042 : (Jvm.Cond.instanceMethod ({ cls := "CacheRulesModel", name := "count", desc := "(I)I" } : Jvm.MethodName)) ∈ GT := gt_at 1042 (by decide +kernel) (by decide +kernel)
theorem g1043 : (Jvm.Cond.selects "CacheRulesModel" ({ cls := "CacheRulesModel", name := "count", desc := "(I)I" } : Jvm.MethodName) ({ cls := "CacheRulesModel", name := "count", desc := "(I)I" } : Jvm.MethodName)) ∈ GT := gt_at 1043 (by decide +kernel) (by decide +kernel)
theorem g1044 : (Jvm.Cond.code ({ cls := "CacheRulesModel", name := "count", desc := "(I)I" } : Jvm.MethodName) prog_14_method_51_code (2 : Nat) (Option.some Jvm.ClassFile.FieldType.int)) ∈ GT := gt_at 1044 (by decide +kernel) (by decide +kernel)
theorem g1045 : (Jvm.Cond.arrayClass Jvm.ClassFile.FieldType.long) ∈ GT := gt_at 1045 (by decide +kernel) (by decide +kernel)
theorem g1046 : (Jvm.Cond.sameMethod "java/lang/Throwable" "java/lang/Throwable" "fillInStackTrace" "(I)Ljava/lang/Throwable;") ∈ GT := gt_at 1046 (by decide +kernel) (by decide +kernel)
abbrev c_C_init : ByteArray := prog_1_method_1_code
abbrev y_C_init : MethodName := ⟨"CacheRules", "<init>", "(IIII)V"⟩
abbrev c_C_ruleOf : ByteArray := prog_1_method_2_code
abbrev y_C_ruleOf : MethodName := ⟨"CacheRules", "ruleOf", "(III)LCacheRules$Rule;"⟩
abbrev c_C_mode : ByteArray := prog_1_method_3_code
abbrev y_C_mode : MethodName := ⟨"CacheRules", "mode", "(ZZ)I"⟩
abbrev c_C_access : ByteArray := prog_1_method_4_code
abbrev y_C_access : MethodName := ⟨"CacheRules", "access", "(IIZ)I"⟩
abbrev c_C_ask : ByteArray := prog_1_method_5_code
abbrev y_C_ask : MethodName := ⟨"CacheRules", "ask", "(II)I"⟩
abbrev c_C_answer : ByteArray := prog_1_method_6_code
abbrev y_C_answer : MethodName := ⟨"CacheRules", "answer", "()I"⟩
abbrev c_C_answered : ByteArray := prog_1_method_7_code
abbrev y_C_answered : MethodName := ⟨"CacheRules", "answered", "(II)I"⟩
abbrev c_C_lock : ByteArray := prog_1_method_8_code
abbrev y_C_lock : MethodName := ⟨"CacheRules", "lock", "(IZ)Z"⟩
abbrev c_C_clean : ByteArray := prog_1_method_9_code
abbrev y_C_clean : MethodName := ⟨"CacheRules", "clean", "(I)I"⟩
abbrev c_C_cleanAll : ByteArray := prog_1_method_10_code
abbrev y_C_cleanAll : MethodName := ⟨"CacheRules", "cleanAll", "()I"⟩
abbrev c_C_drop : ByteArray := prog_1_method_11_code
abbrev y_C_drop : MethodName := ⟨"CacheRules", "drop", "(I)I"⟩
abbrev c_C_way : ByteArray := prog_1_method_12_code
abbrev y_C_way : MethodName := ⟨"CacheRules", "way", "(III)I"⟩
abbrev c_C_caught : ByteArray := prog_1_method_13_code
abbrev y_C_caught : MethodName := ⟨"CacheRules", "caught", "(II)I"⟩
abbrev c_C_next : ByteArray := prog_1_method_14_code
abbrev y_C_next : MethodName := ⟨"CacheRules", "next", "(I)I"⟩
abbrev c_C_misses : ByteArray := prog_1_method_15_code
abbrev y_C_misses : MethodName := ⟨"CacheRules", "misses", "(I)I"⟩
abbrev c_C_distance : ByteArray := prog_1_method_16_code
abbrev y_C_distance : MethodName := ⟨"CacheRules", "distance", "(I)I"⟩
abbrev c_C_count : ByteArray := prog_1_method_17_code
abbrev y_C_count : MethodName := ⟨"CacheRules", "count", "(I)I"⟩
abbrev c_C_isNoPart : ByteArray := prog_1_method_18_code
abbrev y_C_isNoPart : MethodName := ⟨"CacheRules", "isNoPart", "(I)Z"⟩
abbrev c_C_perform : ByteArray := prog_1_method_19_code
abbrev y_C_perform : MethodName := ⟨"CacheRules", "perform", "(IIZ)I"⟩
abbrev c_C_reach : ByteArray := prog_1_method_20_code
abbrev y_C_reach : MethodName := ⟨"CacheRules", "reach", "(IIZ)I"⟩
abbrev c_C_useWay : ByteArray := prog_1_method_21_code
abbrev y_C_useWay : MethodName := ⟨"CacheRules", "useWay", "(III)I"⟩
abbrev c_C_recall : ByteArray := prog_1_method_22_code
abbrev y_C_recall : MethodName := ⟨"CacheRules", "recall", "(II)I"⟩
abbrev c_C_place : ByteArray := prog_1_method_23_code
abbrev y_C_place : MethodName := ⟨"CacheRules", "place", "(III)V"⟩
abbrev c_C_putOut : ByteArray := prog_1_method_24_code
abbrev y_C_putOut : MethodName := ⟨"CacheRules", "putOut", "(I)V"⟩
abbrev c_C_writePart : ByteArray := prog_1_method_25_code
abbrev y_C_writePart : MethodName := ⟨"CacheRules", "writePart", "(II)V"⟩
abbrev c_M_init : ByteArray := prog_14_method_1_code
abbrev y_M_init : MethodName := ⟨"CacheRulesModel", "<init>", "(IIII)V"⟩
abbrev c_M_modulo : ByteArray := prog_14_method_2_code
abbrev y_M_modulo : MethodName := ⟨"CacheRulesModel", "modulo", "(II)I"⟩
abbrev c_M_thrown : ByteArray := prog_14_method_3_code
abbrev y_M_thrown : MethodName := ⟨"CacheRulesModel", "thrown", "()I"⟩
abbrev c_M_fail : ByteArray := prog_14_method_4_code
abbrev y_M_fail : MethodName := ⟨"CacheRulesModel", "fail", "(I)I"⟩
abbrev c_M_within : ByteArray := prog_14_method_5_code
abbrev y_M_within : MethodName := ⟨"CacheRulesModel", "within", "(III)Z"⟩
abbrev c_M_mode : ByteArray := prog_14_method_6_code
abbrev y_M_mode : MethodName := ⟨"CacheRulesModel", "mode", "(ZZ)I"⟩
abbrev c_M_ones : ByteArray := prog_14_method_7_code
abbrev y_M_ones : MethodName := ⟨"CacheRulesModel", "ones", "(I)I"⟩
abbrev c_M_setOf : ByteArray := prog_14_method_8_code
abbrev y_M_setOf : MethodName := ⟨"CacheRulesModel", "setOf", "(I)I"⟩
abbrev c_M_find : ByteArray := prog_14_method_9_code
abbrev y_M_find : MethodName := ⟨"CacheRulesModel", "find", "(I)I"⟩
abbrev c_M_findRow : ByteArray := prog_14_method_10_code
abbrev y_M_findRow : MethodName := ⟨"CacheRulesModel", "findRow", "(I)I"⟩
abbrev c_M_turnAway : ByteArray := prog_14_method_11_code
abbrev y_M_turnAway : MethodName := ⟨"CacheRulesModel", "turnAway", "(I)V"⟩
abbrev c_M_treeSize : ByteArray := prog_14_method_12_code
abbrev y_M_treeSize : MethodName := ⟨"CacheRulesModel", "treeSize", "()I"⟩
abbrev c_M_markLately : ByteArray := prog_14_method_13_code
abbrev y_M_markLately : MethodName := ⟨"CacheRulesModel", "markLately", "(I)V"⟩
abbrev c_M_tellUse : ByteArray := prog_14_method_14_code
abbrev y_M_tellUse : MethodName := ⟨"CacheRulesModel", "tellUse", "(I)V"⟩
abbrev c_M_tellComing : ByteArray := prog_14_method_15_code
abbrev y_M_tellComing : MethodName := ⟨"CacheRulesModel", "tellComing", "(I)V"⟩
abbrev c_M_isBetter : ByteArray := prog_14_method_16_code
abbrev y_M_isBetter : MethodName := ⟨"CacheRulesModel", "isBetter", "(II)Z"⟩
abbrev c_M_best : ByteArray := prog_14_method_17_code
abbrev y_M_best : MethodName := ⟨"CacheRulesModel", "best", "(I)I"⟩
abbrev c_M_byChance : ByteArray := prog_14_method_18_code
abbrev y_M_byChance : MethodName := ⟨"CacheRulesModel", "byChance", "(IZ)I"⟩
abbrev c_M_byHand : ByteArray := prog_14_method_19_code
abbrev y_M_byHand : MethodName := ⟨"CacheRulesModel", "byHand", "(IZ)I"⟩
abbrev c_M_byTree : ByteArray := prog_14_method_20_code
abbrev y_M_byTree : MethodName := ⟨"CacheRulesModel", "byTree", "(I)I"⟩
abbrev c_M_unmarked : ByteArray := prog_14_method_21_code
abbrev y_M_unmarked : MethodName := ⟨"CacheRulesModel", "unmarked", "(I)I"⟩
abbrev c_M_byAge : ByteArray := prog_14_method_22_code
abbrev y_M_byAge : MethodName := ⟨"CacheRulesModel", "byAge", "(IZ)I"⟩
abbrev c_M_pick : ByteArray := prog_14_method_23_code
abbrev y_M_pick : MethodName := ⟨"CacheRulesModel", "pick", "(IZ)I"⟩
abbrev c_M_writeAll : ByteArray := prog_14_method_24_code
abbrev y_M_writeAll : MethodName := ⟨"CacheRulesModel", "writeAll", "(I)V"⟩
abbrev c_M_catchRow : ByteArray := prog_14_method_25_code
abbrev y_M_catchRow : MethodName := ⟨"CacheRulesModel", "catchRow", "(III)V"⟩
abbrev c_M_takeRow : ByteArray := prog_14_method_26_code
abbrev y_M_takeRow : MethodName := ⟨"CacheRulesModel", "takeRow", "(I)V"⟩
abbrev c_M_canPlace : ByteArray := prog_14_method_27_code
abbrev y_M_canPlace : MethodName := ⟨"CacheRulesModel", "canPlace", "(I)Z"⟩
abbrev c_M_place : ByteArray := prog_14_method_28_code
abbrev y_M_place : MethodName := ⟨"CacheRulesModel", "place", "(III)I"⟩
abbrev c_M_distanceOf : ByteArray := prog_14_method_29_code
abbrev y_M_distanceOf : MethodName := ⟨"CacheRulesModel", "distanceOf", "(I)I"⟩
abbrev c_M_putNear : ByteArray := prog_14_method_30_code
abbrev y_M_putNear : MethodName := ⟨"CacheRulesModel", "putNear", "(I)V"⟩
abbrev c_M_takeWay : ByteArray := prog_14_method_31_code
abbrev y_M_takeWay : MethodName := ⟨"CacheRulesModel", "takeWay", "(IIZ)V"⟩
abbrev c_M_reach : ByteArray := prog_14_method_32_code
abbrev y_M_reach : MethodName := ⟨"CacheRulesModel", "reach", "(IIZ)I"⟩
abbrev c_M_reachRow : ByteArray := prog_14_method_33_code
abbrev y_M_reachRow : MethodName := ⟨"CacheRulesModel", "reachRow", "(IIIZ)I"⟩
abbrev c_M_accessOf : ByteArray := prog_14_method_34_code
abbrev y_M_accessOf : MethodName := ⟨"CacheRulesModel", "accessOf", "(IIZ)I"⟩
abbrev c_M_access : ByteArray := prog_14_method_35_code
abbrev y_M_access : MethodName := ⟨"CacheRulesModel", "access", "(IIZ)I"⟩
abbrev c_M_lines : ByteArray := prog_14_method_36_code
abbrev y_M_lines : MethodName := ⟨"CacheRulesModel", "lines", "()I"⟩
abbrev c_M_ask : ByteArray := prog_14_method_37_code
abbrev y_M_ask : MethodName := ⟨"CacheRulesModel", "ask", "(II)I"⟩
abbrev c_M_answer : ByteArray := prog_14_method_38_code
abbrev y_M_answer : MethodName := ⟨"CacheRulesModel", "answer", "()I"⟩
abbrev c_M_answered : ByteArray := prog_14_method_39_code
abbrev y_M_answered : MethodName := ⟨"CacheRulesModel", "answered", "(II)I"⟩
abbrev c_M_lock : ByteArray := prog_14_method_40_code
abbrev y_M_lock : MethodName := ⟨"CacheRulesModel", "lock", "(IZ)Z"⟩
abbrev c_M_cleanWay : ByteArray := prog_14_method_41_code
abbrev y_M_cleanWay : MethodName := ⟨"CacheRulesModel", "cleanWay", "(I)I"⟩
abbrev c_M_cleanRow : ByteArray := prog_14_method_42_code
abbrev y_M_cleanRow : MethodName := ⟨"CacheRulesModel", "cleanRow", "(I)I"⟩
abbrev c_M_clean : ByteArray := prog_14_method_43_code
abbrev y_M_clean : MethodName := ⟨"CacheRulesModel", "clean", "(I)I"⟩
abbrev c_M_cleanAll : ByteArray := prog_14_method_44_code
abbrev y_M_cleanAll : MethodName := ⟨"CacheRulesModel", "cleanAll", "()I"⟩
abbrev c_M_drop : ByteArray := prog_14_method_45_code
abbrev y_M_drop : MethodName := ⟨"CacheRulesModel", "drop", "(I)I"⟩
abbrev c_M_way : ByteArray := prog_14_method_46_code
abbrev y_M_way : MethodName := ⟨"CacheRulesModel", "way", "(III)I"⟩
abbrev c_M_caught : ByteArray := prog_14_method_47_code
abbrev y_M_caught : MethodName := ⟨"CacheRulesModel", "caught", "(II)I"⟩
abbrev c_M_next : ByteArray := prog_14_method_48_code
abbrev y_M_next : MethodName := ⟨"CacheRulesModel", "next", "(I)I"⟩
abbrev c_M_misses : ByteArray := prog_14_method_49_code
abbrev y_M_misses : MethodName := ⟨"CacheRulesModel", "misses", "(I)I"⟩
abbrev c_M_distance : ByteArray := prog_14_method_50_code
abbrev y_M_distance : MethodName := ⟨"CacheRulesModel", "distance", "(I)I"⟩
abbrev c_M_count : ByteArray := prog_14_method_51_code
abbrev y_M_count : MethodName := ⟨"CacheRulesModel", "count", "(I)I"⟩
abbrev c_Age_init : ByteArray := prog_2_method_1_code
abbrev y_Age_init : MethodName := ⟨"CacheRules$AgeRule", "<init>", "(II)V"⟩
abbrev c_Age_use : ByteArray := prog_2_method_2_code
abbrev y_Age_use : MethodName := ⟨"CacheRules$AgeRule", "use", "(II)V"⟩
abbrev c_Age_come : ByteArray := prog_2_method_3_code
abbrev y_Age_come : MethodName := ⟨"CacheRules$AgeRule", "come", "(II)V"⟩
abbrev c_Age_choose : ByteArray := prog_2_method_4_code
abbrev y_Age_choose : MethodName := ⟨"CacheRules$AgeRule", "choose", "(I[Z)I"⟩
abbrev c_Age_settle : ByteArray := prog_2_method_5_code
abbrev y_Age_settle : MethodName := ⟨"CacheRules$AgeRule", "settle", "(II[Z)V"⟩
abbrev c_Asks_init : ByteArray := prog_3_method_1_code
abbrev y_Asks_init : MethodName := ⟨"CacheRules$Asks", "<init>", "()V"⟩
abbrev c_Asks_waits : ByteArray := prog_3_method_2_code
abbrev y_Asks_waits : MethodName := ⟨"CacheRules$Asks", "waits", "(I)Z"⟩
abbrev c_Asks_hasRoomFor : ByteArray := prog_3_method_3_code
abbrev y_Asks_hasRoomFor : MethodName := ⟨"CacheRules$Asks", "hasRoomFor", "(I)Z"⟩
abbrev c_Asks_add : ByteArray := prog_3_method_4_code
abbrev y_Asks_add : MethodName := ⟨"CacheRules$Asks", "add", "(II)Z"⟩
abbrev c_Asks_takeFirstLine : ByteArray := prog_3_method_5_code
abbrev y_Asks_takeFirstLine : MethodName := ⟨"CacheRules$Asks", "takeFirstLine", "()I"⟩
abbrev c_Rows_init : ByteArray := prog_4_method_1_code
abbrev y_Rows_init : MethodName := ⟨"CacheRules$CatchingRows", "<init>", "(I)V"⟩
abbrev c_Rows_find : ByteArray := prog_4_method_2_code
abbrev y_Rows_find : MethodName := ⟨"CacheRules$CatchingRows", "find", "(I)I"⟩
abbrev c_Rows_add : ByteArray := prog_4_method_3_code
abbrev y_Rows_add : MethodName := ⟨"CacheRules$CatchingRows", "add", "(III)V"⟩
abbrev c_Rows_remove : ByteArray := prog_4_method_4_code
abbrev y_Rows_remove : MethodName := ⟨"CacheRules$CatchingRows", "remove", "(I)V"⟩
abbrev c_Rows_cleanRow : ByteArray := prog_4_method_5_code
abbrev y_Rows_cleanRow : MethodName := ⟨"CacheRules$CatchingRows", "cleanRow", "(I)I"⟩
abbrev c_Chance_init : ByteArray := prog_5_method_1_code
abbrev y_Chance_init : MethodName := ⟨"CacheRules$ChanceRule", "<init>", "(I)V"⟩
abbrev c_Chance_use : ByteArray := prog_5_method_2_code
abbrev y_Chance_use : MethodName := ⟨"CacheRules$ChanceRule", "use", "(II)V"⟩
abbrev c_Chance_come : ByteArray := prog_5_method_3_code
abbrev y_Chance_come : MethodName := ⟨"CacheRules$ChanceRule", "come", "(II)V"⟩
abbrev c_Chance_choose : ByteArray := prog_5_method_4_code
abbrev y_Chance_choose : MethodName := ⟨"CacheRules$ChanceRule", "choose", "(I[Z)I"⟩
abbrev c_Chance_settle : ByteArray := prog_5_method_5_code
abbrev y_Chance_settle : MethodName := ⟨"CacheRules$ChanceRule", "settle", "(II[Z)V"⟩
abbrev c_Hist_init : ByteArray := prog_6_method_1_code
abbrev y_Hist_init : MethodName := ⟨"CacheRules$History", "<init>", "()V"⟩
abbrev c_Hist_find : ByteArray := prog_6_method_2_code
abbrev y_Hist_find : MethodName := ⟨"CacheRules$History", "find", "(I)I"⟩
abbrev c_Hist_note : ByteArray := prog_6_method_3_code
abbrev y_Hist_note : MethodName := ⟨"CacheRules$History", "note", "(I)V"⟩
abbrev c_Hist_countFrom : ByteArray := prog_6_method_4_code
abbrev y_Hist_countFrom : MethodName := ⟨"CacheRules$History", "countFrom", "(I)I"⟩
abbrev c_Lately_init : ByteArray := prog_7_method_1_code
abbrev y_Lately_init : MethodName := ⟨"CacheRules$LatelyRule", "<init>", "(II)V"⟩
abbrev c_Lately_setMark : ByteArray := prog_7_method_2_code
abbrev y_Lately_setMark : MethodName := ⟨"CacheRules$LatelyRule", "setMark", "(II)V"⟩
abbrev c_Lately_use : ByteArray := prog_7_method_3_code
abbrev y_Lately_use : MethodName := ⟨"CacheRules$LatelyRule", "use", "(II)V"⟩
abbrev c_Lately_come : ByteArray := prog_7_method_4_code
abbrev y_Lately_come : MethodName := ⟨"CacheRules$LatelyRule", "come", "(II)V"⟩
abbrev c_Lately_choose : ByteArray := prog_7_method_5_code
abbrev y_Lately_choose : MethodName := ⟨"CacheRules$LatelyRule", "choose", "(I[Z)I"⟩
abbrev c_Lately_settle : ByteArray := prog_7_method_6_code
abbrev y_Lately_settle : MethodName := ⟨"CacheRules$LatelyRule", "settle", "(II[Z)V"⟩
abbrev c_Round_init : ByteArray := prog_8_method_1_code
abbrev y_Round_init : MethodName := ⟨"CacheRules$RoundRule", "<init>", "(II)V"⟩
abbrev c_Round_use : ByteArray := prog_8_method_2_code
abbrev y_Round_use : MethodName := ⟨"CacheRules$RoundRule", "use", "(II)V"⟩
abbrev c_Round_come : ByteArray := prog_8_method_3_code
abbrev y_Round_come : MethodName := ⟨"CacheRules$RoundRule", "come", "(II)V"⟩
abbrev c_Round_wayFromHand : ByteArray := prog_8_method_4_code
abbrev y_Round_wayFromHand : MethodName := ⟨"CacheRules$RoundRule", "wayFromHand", "(II)I"⟩
abbrev c_Round_choose : ByteArray := prog_8_method_5_code
abbrev y_Round_choose : MethodName := ⟨"CacheRules$RoundRule", "choose", "(I[Z)I"⟩
abbrev c_Round_settle : ByteArray := prog_8_method_6_code
abbrev y_Round_settle : MethodName := ⟨"CacheRules$RoundRule", "settle", "(II[Z)V"⟩
abbrev c_Rule_init : ByteArray := prog_9_method_1_code
abbrev y_Rule_init : MethodName := ⟨"CacheRules$Rule", "<init>", "(I)V"⟩
abbrev c_Time_init : ByteArray := prog_10_method_1_code
abbrev y_Time_init : MethodName := ⟨"CacheRules$TimeRule", "<init>", "(III)V"⟩
abbrev c_Time_use : ByteArray := prog_10_method_2_code
abbrev y_Time_use : MethodName := ⟨"CacheRules$TimeRule", "use", "(II)V"⟩
abbrev c_Time_come : ByteArray := prog_10_method_3_code
abbrev y_Time_come : MethodName := ⟨"CacheRules$TimeRule", "come", "(II)V"⟩
abbrev c_Time_choose : ByteArray := prog_10_method_4_code
abbrev y_Time_choose : MethodName := ⟨"CacheRules$TimeRule", "choose", "(I[Z)I"⟩
abbrev c_Time_goesSooner : ByteArray := prog_10_method_5_code
abbrev y_Time_goesSooner : MethodName := ⟨"CacheRules$TimeRule", "goesSooner", "(II)Z"⟩
abbrev c_Time_settle : ByteArray := prog_10_method_6_code
abbrev y_Time_settle : MethodName := ⟨"CacheRules$TimeRule", "settle", "(II[Z)V"⟩
abbrev c_Tree_init : ByteArray := prog_11_method_1_code
abbrev y_Tree_init : MethodName := ⟨"CacheRules$TreeRule", "<init>", "(II)V"⟩
abbrev c_Tree_pointAway : ByteArray := prog_11_method_2_code
abbrev y_Tree_pointAway : MethodName := ⟨"CacheRules$TreeRule", "pointAway", "(II)V"⟩
abbrev c_Tree_use : ByteArray := prog_11_method_3_code
abbrev y_Tree_use : MethodName := ⟨"CacheRules$TreeRule", "use", "(II)V"⟩
abbrev c_Tree_come : ByteArray := prog_11_method_4_code
abbrev y_Tree_come : MethodName := ⟨"CacheRules$TreeRule", "come", "(II)V"⟩
abbrev c_Tree_choose : ByteArray := prog_11_method_5_code
abbrev y_Tree_choose : MethodName := ⟨"CacheRules$TreeRule", "choose", "(I[Z)I"⟩
abbrev c_Tree_settle : ByteArray := prog_11_method_6_code
abbrev y_Tree_settle : MethodName := ⟨"CacheRules$TreeRule", "settle", "(II[Z)V"⟩
abbrev c_Ways_init : ByteArray := prog_12_method_1_code
abbrev y_Ways_init : MethodName := ⟨"CacheRules$Ways", "<init>", "(II)V"⟩
abbrev c_Ways_setOf : ByteArray := prog_12_method_2_code
abbrev y_Ways_setOf : MethodName := ⟨"CacheRules$Ways", "setOf", "(I)I"⟩
abbrev c_Ways_find : ByteArray := prog_12_method_3_code
abbrev y_Ways_find : MethodName := ⟨"CacheRules$Ways", "find", "(I)I"⟩
abbrev c_Ways_emptyWay : ByteArray := prog_12_method_4_code
abbrev y_Ways_emptyWay : MethodName := ⟨"CacheRules$Ways", "emptyWay", "(I)I"⟩
abbrev c_Ways_allLocked : ByteArray := prog_12_method_5_code
abbrev y_Ways_allLocked : MethodName := ⟨"CacheRules$Ways", "allLocked", "(I)Z"⟩
abbrev c_Ways_put : ByteArray := prog_12_method_6_code
abbrev y_Ways_put : MethodName := ⟨"CacheRules$Ways", "put", "(IIII)V"⟩
abbrev c_Ways_empty : ByteArray := prog_12_method_7_code
abbrev y_Ways_empty : MethodName := ⟨"CacheRules$Ways", "empty", "(I)V"⟩
abbrev c_Ways_cleanSlot : ByteArray := prog_12_method_8_code
abbrev y_Ways_cleanSlot : MethodName := ⟨"CacheRules$Ways", "cleanSlot", "(I)I"⟩
abbrev c_L_cell : ByteArray := method_2_code
abbrev y_L_cell : MethodName := ⟨"CacheRulesLaw", "cell", "([II)I"⟩
abbrev c_L_access : ByteArray := method_3_code
abbrev y_L_access : MethodName := ⟨"CacheRulesLaw", "access", "(LCacheRules;IIZ[J)I"⟩
abbrev c_L_ask : ByteArray := method_4_code
abbrev y_L_ask : MethodName := ⟨"CacheRulesLaw", "ask", "(LCacheRules;II[J)I"⟩
abbrev c_L_answer : ByteArray := method_5_code
abbrev y_L_answer : MethodName := ⟨"CacheRulesLaw", "answer", "(LCacheRules;[J)I"⟩
abbrev c_L_answered : ByteArray := method_6_code
abbrev y_L_answered : MethodName := ⟨"CacheRulesLaw", "answered", "(LCacheRules;II[J)I"⟩
abbrev c_L_way : ByteArray := method_7_code
abbrev y_L_way : MethodName := ⟨"CacheRulesLaw", "way", "(LCacheRules;III[J)I"⟩
abbrev c_L_caught : ByteArray := method_8_code
abbrev y_L_caught : MethodName := ⟨"CacheRulesLaw", "caught", "(LCacheRules;II[J)I"⟩
abbrev c_L_next : ByteArray := method_9_code
abbrev y_L_next : MethodName := ⟨"CacheRulesLaw", "next", "(LCacheRules;I[J)I"⟩
abbrev c_L_misses : ByteArray := method_10_code
abbrev y_L_misses : MethodName := ⟨"CacheRulesLaw", "misses", "(LCacheRules;I[J)I"⟩
abbrev c_Integer_bitCount : ByteArray := prog_18_method_49_code
abbrev y_Integer_bitCount : MethodName := ⟨"java/lang/Integer", "bitCount", "(I)I"⟩
abbrev c_Math_floorMod : ByteArray := prog_19_method_50_code
abbrev y_Math_floorMod : MethodName := ⟨"java/lang/Math", "floorMod", "(II)I"⟩
end
section
/-! EW: the kit's rows said of surroundings in one value X, of locals lv, stack st and world ws alone. -/
/-- the surroundings of a walk, in one value: program, launch, platform, room, start, method, arguments, frames below, method's row, code, heap at the start, cells that may change, aim -/
abbrev EX : Type _ := Program × Launch × Env × Room × State × MethodId × Array Value × List Frame × Method × Code × Heap × (Nat → Prop) × (State → Prop)
abbrev EX.p (X : EX) : Program := X.1
abbrev EX.l (X : EX) : Launch := X.2.1
abbrev EX.e (X : EX) : Env := X.2.2.1
abbrev EX.R (X : EX) : Room := X.2.2.2.1
abbrev EX.s (X : EX) : State := X.2.2.2.2.1
abbrev EX.m (X : EX) : MethodId := X.2.2.2.2.2.1
abbrev EX.args (X : EX) : Array Value := X.2.2.2.2.2.2.1
abbrev EX.below (X : EX) : List Frame := X.2.2.2.2.2.2.2.1
abbrev EX.meth (X : EX) : Method := X.2.2.2.2.2.2.2.2.1
abbrev EX.c (X : EX) : Code := X.2.2.2.2.2.2.2.2.2.1
abbrev EX.H0 (X : EX) : Heap := X.2.2.2.2.2.2.2.2.2.2.1
abbrev EX.A (X : EX) : Nat → Prop := X.2.2.2.2.2.2.2.2.2.2.2.1
abbrev EX.Q (X : EX) : State → Prop := X.2.2.2.2.2.2.2.2.2.2.2.2
/-- where classes and fields lie, and the classes of int, boolean and long arrays -/
abbrev EG : Type := va_G × ClassId × ClassId × ClassId
abbrev TY (G : EG) : List (ClassId × FieldType) := [(G.2.1, .int), (G.2.2.1, .boolean), (G.2.2.2, .long)]
/-- the methods that are declared without code -/
def eDecl : List MethodName := [⟨"CacheRules$Rule", "use", "(II)V"⟩, ⟨"CacheRules$Rule", "choose", "(I[Z)I"⟩, ⟨"CacheRules$Rule", "settle", "(II[Z)V"⟩, ⟨"CacheRules$Rule", "come", "(II)V"⟩]
/-- what a state's tables hold -/
def EK (G : EG) (U : State) : Prop := va_K G.1 KL (TY G) U ∧ ∀ x ∈ eDecl, va_Nw (.declares x) U
theorem EK.moved {G : EG} {u U : State} (hvm : u.vm.Alike U.vm) (h : EK G u) : EK G U :=
  ⟨va_K.moved hvm h.1, fun x hx => va_tabs rfl (rfl : (u.setVm U.vm).vm = U.vm) (by rw [Cond.declares_setVm hvm]; exact h.2 x hx)⟩
/-- the machine goes on from pc, with these locals, this stack, this world, to the aim -/
def EW (X : EX) (G : EG) (nL cells slots pc : Nat) (lv : List (Nat × Value)) (st : List Value) (ws : va_W) : Prop :=
  ∀ (H : Heap) (locs : List Loc) (ls : Array Slot), va_P G.1 KL ws H → va_D X.A ws → va_S X.A X.H0 H locs → lv_has ls nL lv →
    W X.p X.l X.e X.R X.s X.m X.args X.below X.meth X.c H locs cells slots X.Q (F0 X.m pc ls st)
/-- what holds all along a method's walk -/
def EC (X : EX) (G : EG) (own : String) (cc : ByteArray) (nL : Nat) : Prop :=
  X.p.tables.exec = Jvm.exec ∧ X.c.code = cc ∧ X.c.maxLocals = nL ∧ X.s.vm.findClass own = some X.m.cls ∧ (∀ w ∈ GT, w.before X.args X.s = true) ∧ EK G X.s ∧ ∀ q, X.H0.size ≤ q → X.A q
/-- a local by its number -/
def lvg : List (Nat × Value) → Nat → Option Value
  | [], _ => none
  | (j, v) :: r, i => bif Nat.beq j i then some v else lvg r i
theorem lvg_mem : ∀ {lv : List (Nat × Value)} {i : Nat} {v : Value}, lvg lv i = some v → (i, v) ∈ lv
  | [], _, _, h => by cases h
  | (j, w) :: r, i, v, h => by
    unfold lvg at h
    cases hb : Nat.beq j i with
    | true =>
      rw [hb] at h
      have := Nat.eq_of_beq_eq_true hb
      subst this
      cases h
      exact List.mem_cons_self
    | false =>
      rw [hb] at h
      exact List.mem_cons_of_mem _ (lvg_mem h)
theorem lvg_at {ls : Array Slot} {nL : Nat} {lv : List (Nat × Value)} {i : Nat} {v : Value} (h : lv_has ls nL lv) (hg : lvg lv i = some v) : ls[i]? = some (.val v) := h.2.2 (i, v) (lvg_mem hg)
/-- a local set: the others as they were -/
def lvs (lv : List (Nat × Value)) (i : Nat) (v : Value) : List (Nat × Value) := (i, v) :: lv.filter (fun q => !(q.1 == i) && !(q.1 + 1 == i && q.2.category == 2))
section EV
variable {X : EX} {G : EG} {own : String} {cc : ByteArray} {nL cells slots pc : Nat} {lv : List (Nat × Value)} {st : List Value} {ws : va_W}
/-- other words for the locals: each is there -/
theorem e_lv (lv' : List (Nat × Value)) (h : lv'.map (fun q => lvg lv q.1) = lv'.map (fun q => some q.2)) (k : EW X G nL cells slots pc lv' st ws) : EW X G nL cells slots pc lv st ws := by
  intro H locs ls hP hD hS hl
  refine k H locs ls hP hD hS ⟨hl.1, hl.2.1, fun q hq => ?_⟩
  have h2 : ∀ q ∈ lv', lvg lv q.1 = some q.2 := by
    intro q hq
    obtain ⟨i, hi⟩ := List.getElem?_of_mem hq
    have h3 : (lv'.map (fun q => lvg lv q.1))[i]? = (lv'.map (fun q => some q.2))[i]? := by rw [h]
    rw [List.getElem?_map, List.getElem?_map, hi] at h3
    exact Option.some.inj h3
  exact lvg_at hl (h2 q hq)
theorem e_lv2 {lv' : List (Nat × Value)} (k : EW X G nL cells slots pc lv' st ws) (h : lv'.map (fun q => lvg lv q.1) = lv'.map (fun q => some q.2)) : EW X G nL cells slots pc lv st ws := e_lv lv' h k
/-- the same world in another order -/
theorem e_perm (is : List Nat) {ws' : va_W} (hp : is.filterMap (fun i => ws[i]?) = ws') (hn : va_nd is = true) (hm : is.map (fun i => ws[i]?) = ws'.map some) (k : EW X G nL cells slots pc lv st ws') : EW X G nL cells slots pc lv st ws :=
  fun H locs ls hP hD hS hl => k H locs ls (hP.sub is hp) (hD.sub is hn hm) hS hl
theorem e_comm {wa wb : va_W} (k : EW X G nL cells slots pc lv st (wb ++ wa)) : EW X G nL cells slots pc lv st (wa ++ wb) := by
  intro H locs ls hP hD hS hl
  have key : ∀ {k : Nat} {q : Nat × va_E}, (wb ++ wa)[k]? = some q → ∃ j, (wa ++ wb)[j]? = some q ∧ ((k < wb.length ∧ j = wa.length + k) ∨ (wb.length ≤ k ∧ j = k - wb.length ∧ j < wa.length)) := by
    intro k q h
    by_cases hk : k < wb.length
    · rw [List.getElem?_append_left hk] at h
      refine ⟨wa.length + k, ?_, Or.inl ⟨hk, rfl⟩⟩
      rw [List.getElem?_append_right (by omega), show wa.length + k - wa.length = k by omega]
      exact h
    · rw [List.getElem?_append_right (by omega)] at h
      have hl := (List.getElem?_eq_some_iff.mp h).1
      refine ⟨k - wb.length, ?_, Or.inr ⟨by omega, rfl, hl⟩⟩
      rw [List.getElem?_append_left hl]
      exact h
  refine k H locs ls (fun k q h => ?_) ⟨fun i j p q hi hj hpq => ?_, fun k q h => ?_⟩ hS hl
  · obtain ⟨j, hj, -⟩ := key h
    exact hP j q hj
  · obtain ⟨i', hi', ci⟩ := key hi
    obtain ⟨j', hj', cj⟩ := key hj
    have := hD.1 i' j' p q hi' hj' hpq
    omega
  · obtain ⟨j, hj, -⟩ := key h
    exact hD.2 j q hj
theorem e_eq {ws' : va_W} (h : ws = ws') (k : EW X G nL cells slots pc lv st ws') : EW X G nL cells slots pc lv st ws := h ▸ k
theorem e_st {st' : List Value} (h : st = st') (k : EW X G nL cells slots pc lv st' ws) : EW X G nL cells slots pc lv st ws := h ▸ k
theorem e_top {x y : Int32} (h : x = y) (k : EW X G nL cells slots pc lv (.int y :: st) ws) : EW X G nL cells slots pc lv (.int x :: st) ws := h ▸ k
theorem e_pc {pc' : Nat} (h : pc = pc') (k : EW X G nL cells slots pc' lv st ws) : EW X G nL cells slots pc lv st ws := h ▸ k
theorem e_widen {k n : Nat} (h1 : cells ≤ k) (h2 : slots ≤ n) (kk : EW X G nL k n pc lv st ws) : EW X G nL cells slots pc lv st ws := fun H locs ls hP hD hS hl => W.widen h1 h2 (kk H locs ls hP hD hS hl)

theorem e_iconst (C : EC X G own cc nL) {n : Int} {v : Int32} (hd : decode cc pc = .ok (.iconst n, 1)) (hv : Int32.ofInt n = v) (k : EW X G nL cells slots (pc + 1) lv (.int v :: st) ws) : EW X G nL cells slots pc lv st ws :=
  fun H locs ls hP hD hS hl => lv_iconst C.1 C.2.1 hd hv (k H locs ls hP hD hS hl)
theorem e_bipush (C : EC X G own cc nL) {n : Int} {v : Int32} (hd : decode cc pc = .ok (.bipush n, 2)) (hv : (Int8.ofInt n).toInt32 = v) (k : EW X G nL cells slots (pc + 2) lv (.int v :: st) ws) : EW X G nL cells slots pc lv st ws :=
  fun H locs ls hP hD hS hl => lv_bipush C.1 C.2.1 hd hv (k H locs ls hP hD hS hl)
theorem e_sipush (C : EC X G own cc nL) {n : Int} {v : Int32} (hd : decode cc pc = .ok (.sipush n, 3)) (hv : (Int16.ofInt n).toInt32 = v) (k : EW X G nL cells slots (pc + 3) lv (.int v :: st) ws) : EW X G nL cells slots pc lv st ws :=
  fun H locs ls hP hD hS hl => lv_sipush C.1 C.2.1 hd hv (k H locs ls hP hD hS hl)
theorem e_ldc (C : EC X G own cc nL) {i : Nat} {v : Int32} (hc : Jvm.Cond.constant own i v ∈ GT) (hd : decode cc pc = .ok (.ldc i, 2)) (k : EW X G nL cells slots (pc + 2) lv (.int v :: st) ws) : EW X G nL cells slots pc lv st ws :=
  fun H locs ls hP hD hS hl => lv_ldc C.1 C.2.1 C.2.2.2.1 (C.2.2.2.2.1 _ hc) hd (k H locs ls hP hD hS hl)
theorem e_ldcw (C : EC X G own cc nL) {i : Nat} {v : Int32} (hc : Jvm.Cond.constant own i v ∈ GT) (hd : decode cc pc = .ok (.ldc_w i, 3)) (k : EW X G nL cells slots (pc + 3) lv (.int v :: st) ws) : EW X G nL cells slots pc lv st ws :=
  fun H locs ls hP hD hS hl => lv_ldcw C.1 C.2.1 C.2.2.2.1 (C.2.2.2.2.1 _ hc) hd (k H locs ls hP hD hS hl)
theorem e_iload_n (C : EC X G own cc nL) {n : Fin 4} {x : Int32} (hd : decode cc pc = .ok (.iload_n n, 1)) (hg : lvg lv n.val = some (.int x)) (k : EW X G nL cells slots (pc + 1) lv (.int x :: st) ws) : EW X G nL cells slots pc lv st ws :=
  fun H locs ls hP hD hS hl => lv_iload_n C.1 C.2.1 hd rfl (lvg_at hl hg) (k H locs ls hP hD hS hl)
theorem e_iload (C : EC X G own cc nL) {i : Nat} {x : Int32} (hd : decode cc pc = .ok (.iload i, 2)) (hg : lvg lv i = some (.int x)) (k : EW X G nL cells slots (pc + 2) lv (.int x :: st) ws) : EW X G nL cells slots pc lv st ws :=
  fun H locs ls hP hD hS hl => lv_iload C.1 C.2.1 hd (lvg_at hl hg) (k H locs ls hP hD hS hl)
theorem e_aload_n (C : EC X G own cc nL) {n : Fin 4} {x : Nat} (hd : decode cc pc = .ok (.aload_n n, 1)) (hg : lvg lv n.val = some (.ref x)) (k : EW X G nL cells slots (pc + 1) lv (.ref x :: st) ws) : EW X G nL cells slots pc lv st ws :=
  fun H locs ls hP hD hS hl => lv_aload_n C.1 C.2.1 hd rfl (lvg_at hl hg) (k H locs ls hP hD hS hl)
theorem e_aload (C : EC X G own cc nL) {i : Nat} {x : Nat} (hd : decode cc pc = .ok (.aload i, 2)) (hg : lvg lv i = some (.ref x)) (k : EW X G nL cells slots (pc + 2) lv (.ref x :: st) ws) : EW X G nL cells slots pc lv st ws :=
  fun H locs ls hP hD hS hl => lv_aload C.1 C.2.1 hd (lvg_at hl hg) (k H locs ls hP hD hS hl)
theorem e_istore_n (C : EC X G own cc nL) {n : Fin 4} {x : Int32} (hd : decode cc pc = .ok (.istore_n n, 1)) (hn : Nat.blt n.val nL = true) (k : EW X G nL cells slots (pc + 1) (lvs lv n.val (.int x)) st ws) : EW X G nL cells slots pc lv (.int x :: st) ws :=
  fun H locs ls hP hD hS hl => lv_istore_n C.1 C.2.1 hd rfl hl (Nat.blt_eq.mp hn) rfl (fun ls hl => k H locs ls hP hD hS hl)
theorem e_istore (C : EC X G own cc nL) {i : Nat} {x : Int32} (hd : decode cc pc = .ok (.istore i, 2)) (hn : Nat.blt i nL = true) (k : EW X G nL cells slots (pc + 2) (lvs lv i (.int x)) st ws) : EW X G nL cells slots pc lv (.int x :: st) ws :=
  fun H locs ls hP hD hS hl => lv_istore C.1 C.2.1 hd hl (Nat.blt_eq.mp hn) rfl (fun ls hl => k H locs ls hP hD hS hl)
theorem e_astore_n (C : EC X G own cc nL) {n : Fin 4} {x : Nat} (hd : decode cc pc = .ok (.astore_n n, 1)) (hn : Nat.blt n.val nL = true) (k : EW X G nL cells slots (pc + 1) (lvs lv n.val (.ref x)) st ws) : EW X G nL cells slots pc lv (.ref x :: st) ws :=
  fun H locs ls hP hD hS hl => lv_astore_n C.1 C.2.1 hd rfl hl (Nat.blt_eq.mp hn) rfl (fun ls hl => k H locs ls hP hD hS hl)
theorem e_astore (C : EC X G own cc nL) {i : Nat} {x : Nat} (hd : decode cc pc = .ok (.astore i, 2)) (hn : Nat.blt i nL = true) (k : EW X G nL cells slots (pc + 2) (lvs lv i (.ref x)) st ws) : EW X G nL cells slots pc lv (.ref x :: st) ws :=
  fun H locs ls hP hD hS hl => lv_astore C.1 C.2.1 hd hl (Nat.blt_eq.mp hn) rfl (fun ls hl => k H locs ls hP hD hS hl)
theorem e_iinc (C : EC X G own cc nL) {i : Nat} {n : Int} {x v : Int32} (hd : decode cc pc = .ok (.iinc i n, 3)) (hg : lvg lv i = some (.int x)) (hv : x + Int32.ofInt n = v) (hn : Nat.blt i nL = true) (k : EW X G nL cells slots (pc + 3) (lvs lv i (.int v)) st ws) : EW X G nL cells slots pc lv st ws := by
  intro H locs ls hP hD hS hl
  obtain ⟨j, hj⟩ := List.getElem?_of_mem (lvg_mem hg)
  exact lv_iinc C.1 C.2.1 hd hl hj hv (Nat.blt_eq.mp hn) rfl (fun ls hl => k H locs ls hP hD hS hl)
theorem e_iadd (C : EC X G own cc nL) {x y : Int32} (hd : decode cc pc = .ok (.iadd, 1)) (k : EW X G nL cells slots (pc + 1) lv (.int (x + y) :: st) ws) : EW X G nL cells slots pc lv (.int y :: .int x :: st) ws :=
  fun H locs ls hP hD hS hl => lv_iadd C.1 C.2.1 hd (k H locs ls hP hD hS hl)
theorem e_isub (C : EC X G own cc nL) {x y : Int32} (hd : decode cc pc = .ok (.isub, 1)) (k : EW X G nL cells slots (pc + 1) lv (.int (x - y) :: st) ws) : EW X G nL cells slots pc lv (.int y :: .int x :: st) ws :=
  fun H locs ls hP hD hS hl => lv_isub C.1 C.2.1 hd (k H locs ls hP hD hS hl)
theorem e_imul (C : EC X G own cc nL) {x y : Int32} (hd : decode cc pc = .ok (.imul, 1)) (k : EW X G nL cells slots (pc + 1) lv (.int (x * y) :: st) ws) : EW X G nL cells slots pc lv (.int y :: .int x :: st) ws :=
  fun H locs ls hP hD hS hl => lv_imul C.1 C.2.1 hd (k H locs ls hP hD hS hl)
theorem e_iand (C : EC X G own cc nL) {x y : Int32} (hd : decode cc pc = .ok (.iand, 1)) (k : EW X G nL cells slots (pc + 1) lv (.int (x &&& y) :: st) ws) : EW X G nL cells slots pc lv (.int y :: .int x :: st) ws :=
  fun H locs ls hP hD hS hl => lv_iand C.1 C.2.1 hd (k H locs ls hP hD hS hl)
theorem e_ior (C : EC X G own cc nL) {x y : Int32} (hd : decode cc pc = .ok (.ior, 1)) (k : EW X G nL cells slots (pc + 1) lv (.int (x ||| y) :: st) ws) : EW X G nL cells slots pc lv (.int y :: .int x :: st) ws :=
  fun H locs ls hP hD hS hl => lv_ior C.1 C.2.1 hd (k H locs ls hP hD hS hl)
theorem e_ixor (C : EC X G own cc nL) {x y : Int32} (hd : decode cc pc = .ok (.ixor, 1)) (k : EW X G nL cells slots (pc + 1) lv (.int (x ^^^ y) :: st) ws) : EW X G nL cells slots pc lv (.int y :: .int x :: st) ws :=
  fun H locs ls hP hD hS hl => lv_ixor C.1 C.2.1 hd (k H locs ls hP hD hS hl)
theorem e_ishl (C : EC X G own cc nL) {x y : Int32} (hd : decode cc pc = .ok (.ishl, 1)) (k : EW X G nL cells slots (pc + 1) lv (.int (x <<< (y &&& 31)) :: st) ws) : EW X G nL cells slots pc lv (.int y :: .int x :: st) ws :=
  fun H locs ls hP hD hS hl => lv_ishl C.1 C.2.1 hd (k H locs ls hP hD hS hl)
theorem e_ishr (C : EC X G own cc nL) {x y : Int32} (hd : decode cc pc = .ok (.ishr, 1)) (k : EW X G nL cells slots (pc + 1) lv (.int (x >>> (y &&& 31)) :: st) ws) : EW X G nL cells slots pc lv (.int y :: .int x :: st) ws :=
  fun H locs ls hP hD hS hl => lv_ishr C.1 C.2.1 hd (k H locs ls hP hD hS hl)
theorem e_iushr (C : EC X G own cc nL) {x y v : Int32} (hd : decode cc pc = .ok (.iushr, 1)) (hv : (x.toUInt32 >>> (y.toUInt32 &&& Int32.toUInt32 31)).toInt32 = v) (k : EW X G nL cells slots (pc + 1) lv (.int v :: st) ws) : EW X G nL cells slots pc lv (.int y :: .int x :: st) ws :=
  fun H locs ls hP hD hS hl => lv_iushr C.1 C.2.1 hd hv (k H locs ls hP hD hS hl)
theorem e_idiv (C : EC X G own cc nL) {x y : Int32} (hd : decode cc pc = .ok (.idiv, 1)) (hne : ¬ y = 0) (k : EW X G nL cells slots (pc + 1) lv (.int (x / y) :: st) ws) : EW X G nL cells slots pc lv (.int y :: .int x :: st) ws :=
  fun H locs ls hP hD hS hl => lv_idiv C.1 C.2.1 hd hne (k H locs ls hP hD hS hl)
theorem e_irem (C : EC X G own cc nL) {x y : Int32} (hd : decode cc pc = .ok (.irem, 1)) (hne : ¬ y = 0) (k : EW X G nL cells slots (pc + 1) lv (.int (x - x / y * y) :: st) ws) : EW X G nL cells slots pc lv (.int y :: .int x :: st) ws :=
  fun H locs ls hP hD hS hl => lv_irem C.1 C.2.1 hd hne (k H locs ls hP hD hS hl)
theorem e_ineg (C : EC X G own cc nL) {x : Int32} (hd : decode cc pc = .ok (.ineg, 1)) (k : EW X G nL cells slots (pc + 1) lv (.int (-x) :: st) ws) : EW X G nL cells slots pc lv (.int x :: st) ws :=
  fun H locs ls hP hD hS hl => lv_ineg C.1 C.2.1 hd (k H locs ls hP hD hS hl)
theorem e_i2l (C : EC X G own cc nL) {x : Int32} {v : Int64} (hd : decode cc pc = .ok (.i2l, 1)) (hv : x.toInt64 = v) (k : EW X G nL cells slots (pc + 1) lv (.long v :: st) ws) : EW X G nL cells slots pc lv (.int x :: st) ws :=
  fun H locs ls hP hD hS hl => lv_i2l C.1 C.2.1 hd hv (k H locs ls hP hD hS hl)
theorem e_dup (C : EC X G own cc nL) {va : Value} (hd : decode cc pc = .ok (.dup, 1)) (hva : va.category = 1) (k : EW X G nL cells slots (pc + 1) lv (va :: va :: st) ws) : EW X G nL cells slots pc lv (va :: st) ws :=
  fun H locs ls hP hD hS hl => lv_dup C.1 C.2.1 hd hva (k H locs ls hP hD hS hl)
theorem e_pop (C : EC X G own cc nL) {va : Value} (hd : decode cc pc = .ok (.pop, 1)) (hva : va.category = 1) (k : EW X G nL cells slots (pc + 1) lv st ws) : EW X G nL cells slots pc lv (va :: st) ws :=
  fun H locs ls hP hD hS hl => lv_pop C.1 C.2.1 hd hva (k H locs ls hP hD hS hl)
theorem e_dup_x1 (C : EC X G own cc nL) {va vb : Value} (hd : decode cc pc = .ok (.dup_x1, 1)) (hva : va.category = 1) (hvb : vb.category = 1) (k : EW X G nL cells slots (pc + 1) lv (va :: vb :: va :: st) ws) : EW X G nL cells slots pc lv (va :: vb :: st) ws :=
  fun H locs ls hP hD hS hl => lv_dup_x1 C.1 C.2.1 hd hva hvb (k H locs ls hP hD hS hl)
theorem e_dup2 (C : EC X G own cc nL) {va vb : Value} (hd : decode cc pc = .ok (.dup2, 1)) (hva : va.category = 1) (hvb : vb.category = 1) (k : EW X G nL cells slots (pc + 1) lv (va :: vb :: va :: vb :: st) ws) : EW X G nL cells slots pc lv (va :: vb :: st) ws :=
  fun H locs ls hP hD hS hl => lv_dup2_11 C.1 C.2.1 hd hva hvb (k H locs ls hP hD hS hl)
theorem e_if_eq (C : EC X G own cc nL) {x : Int32} {off : Int} {tgt : Nat} (hd : decode cc pc = .ok (.ifCond .eq off, 3)) (ht : (pc : Int) + off = (tgt : Int)) (kt : x = 0 → EW X G nL cells slots tgt lv st ws) (kf : ¬ x = 0 → EW X G nL cells slots (pc + 3) lv st ws) : EW X G nL cells slots pc lv (.int x :: st) ws :=
  fun H locs ls hP hD hS hl => lv_if_eq C.1 C.2.1 hd ht (fun h => kt h H locs ls hP hD hS hl) (fun h => kf h H locs ls hP hD hS hl)
theorem e_icmp_eq (C : EC X G own cc nL) {x y : Int32} {off : Int} {tgt : Nat} (hd : decode cc pc = .ok (.if_icmp .eq off, 3)) (ht : (pc : Int) + off = (tgt : Int)) (kt : x = y → EW X G nL cells slots tgt lv st ws) (kf : ¬ x = y → EW X G nL cells slots (pc + 3) lv st ws) : EW X G nL cells slots pc lv (.int y :: .int x :: st) ws :=
  fun H locs ls hP hD hS hl => lv_icmp_eq C.1 C.2.1 hd ht (fun h => kt h H locs ls hP hD hS hl) (fun h => kf h H locs ls hP hD hS hl)
theorem e_if_lt (C : EC X G own cc nL) {x : Int32} {off : Int} {tgt : Nat} (hd : decode cc pc = .ok (.ifCond .lt off, 3)) (ht : (pc : Int) + off = (tgt : Int)) (kt : x < 0 → EW X G nL cells slots tgt lv st ws) (kf : ¬ x < 0 → EW X G nL cells slots (pc + 3) lv st ws) : EW X G nL cells slots pc lv (.int x :: st) ws :=
  fun H locs ls hP hD hS hl => lv_if_lt C.1 C.2.1 hd ht (fun h => kt h H locs ls hP hD hS hl) (fun h => kf h H locs ls hP hD hS hl)
theorem e_icmp_lt (C : EC X G own cc nL) {x y : Int32} {off : Int} {tgt : Nat} (hd : decode cc pc = .ok (.if_icmp .lt off, 3)) (ht : (pc : Int) + off = (tgt : Int)) (kt : x < y → EW X G nL cells slots tgt lv st ws) (kf : ¬ x < y → EW X G nL cells slots (pc + 3) lv st ws) : EW X G nL cells slots pc lv (.int y :: .int x :: st) ws :=
  fun H locs ls hP hD hS hl => lv_icmp_lt C.1 C.2.1 hd ht (fun h => kt h H locs ls hP hD hS hl) (fun h => kf h H locs ls hP hD hS hl)
theorem e_if_ge (C : EC X G own cc nL) {x : Int32} {off : Int} {tgt : Nat} (hd : decode cc pc = .ok (.ifCond .ge off, 3)) (ht : (pc : Int) + off = (tgt : Int)) (kt : 0 ≤ x → EW X G nL cells slots tgt lv st ws) (kf : ¬ 0 ≤ x → EW X G nL cells slots (pc + 3) lv st ws) : EW X G nL cells slots pc lv (.int x :: st) ws :=
  fun H locs ls hP hD hS hl => lv_if_ge C.1 C.2.1 hd ht (fun h => kt h H locs ls hP hD hS hl) (fun h => kf h H locs ls hP hD hS hl)
theorem e_icmp_ge (C : EC X G own cc nL) {x y : Int32} {off : Int} {tgt : Nat} (hd : decode cc pc = .ok (.if_icmp .ge off, 3)) (ht : (pc : Int) + off = (tgt : Int)) (kt : y ≤ x → EW X G nL cells slots tgt lv st ws) (kf : ¬ y ≤ x → EW X G nL cells slots (pc + 3) lv st ws) : EW X G nL cells slots pc lv (.int y :: .int x :: st) ws :=
  fun H locs ls hP hD hS hl => lv_icmp_ge C.1 C.2.1 hd ht (fun h => kt h H locs ls hP hD hS hl) (fun h => kf h H locs ls hP hD hS hl)
theorem e_if_gt (C : EC X G own cc nL) {x : Int32} {off : Int} {tgt : Nat} (hd : decode cc pc = .ok (.ifCond .gt off, 3)) (ht : (pc : Int) + off = (tgt : Int)) (kt : 0 < x → EW X G nL cells slots tgt lv st ws) (kf : ¬ 0 < x → EW X G nL cells slots (pc + 3) lv st ws) : EW X G nL cells slots pc lv (.int x :: st) ws :=
  fun H locs ls hP hD hS hl => lv_if_gt C.1 C.2.1 hd ht (fun h => kt h H locs ls hP hD hS hl) (fun h => kf h H locs ls hP hD hS hl)
theorem e_icmp_gt (C : EC X G own cc nL) {x y : Int32} {off : Int} {tgt : Nat} (hd : decode cc pc = .ok (.if_icmp .gt off, 3)) (ht : (pc : Int) + off = (tgt : Int)) (kt : y < x → EW X G nL cells slots tgt lv st ws) (kf : ¬ y < x → EW X G nL cells slots (pc + 3) lv st ws) : EW X G nL cells slots pc lv (.int y :: .int x :: st) ws :=
  fun H locs ls hP hD hS hl => lv_icmp_gt C.1 C.2.1 hd ht (fun h => kt h H locs ls hP hD hS hl) (fun h => kf h H locs ls hP hD hS hl)
theorem e_if_le (C : EC X G own cc nL) {x : Int32} {off : Int} {tgt : Nat} (hd : decode cc pc = .ok (.ifCond .le off, 3)) (ht : (pc : Int) + off = (tgt : Int)) (kt : x ≤ 0 → EW X G nL cells slots tgt lv st ws) (kf : ¬ x ≤ 0 → EW X G nL cells slots (pc + 3) lv st ws) : EW X G nL cells slots pc lv (.int x :: st) ws :=
  fun H locs ls hP hD hS hl => lv_if_le C.1 C.2.1 hd ht (fun h => kt h H locs ls hP hD hS hl) (fun h => kf h H locs ls hP hD hS hl)
theorem e_icmp_le (C : EC X G own cc nL) {x y : Int32} {off : Int} {tgt : Nat} (hd : decode cc pc = .ok (.if_icmp .le off, 3)) (ht : (pc : Int) + off = (tgt : Int)) (kt : x ≤ y → EW X G nL cells slots tgt lv st ws) (kf : ¬ x ≤ y → EW X G nL cells slots (pc + 3) lv st ws) : EW X G nL cells slots pc lv (.int y :: .int x :: st) ws :=
  fun H locs ls hP hD hS hl => lv_icmp_le C.1 C.2.1 hd ht (fun h => kt h H locs ls hP hD hS hl) (fun h => kf h H locs ls hP hD hS hl)
theorem e_if_ne (C : EC X G own cc nL) {x : Int32} {off : Int} {tgt : Nat} (hd : decode cc pc = .ok (.ifCond .ne off, 3)) (ht : (pc : Int) + off = (tgt : Int)) (kt : ¬ x = 0 → EW X G nL cells slots tgt lv st ws) (kf : x = 0 → EW X G nL cells slots (pc + 3) lv st ws) : EW X G nL cells slots pc lv (.int x :: st) ws :=
  fun H locs ls hP hD hS hl => lv_if_ne C.1 C.2.1 hd ht (fun h => kt h H locs ls hP hD hS hl) (fun h => kf h H locs ls hP hD hS hl)
theorem e_icmp_ne (C : EC X G own cc nL) {x y : Int32} {off : Int} {tgt : Nat} (hd : decode cc pc = .ok (.if_icmp .ne off, 3)) (ht : (pc : Int) + off = (tgt : Int)) (kt : ¬ x = y → EW X G nL cells slots tgt lv st ws) (kf : x = y → EW X G nL cells slots (pc + 3) lv st ws) : EW X G nL cells slots pc lv (.int y :: .int x :: st) ws :=
  fun H locs ls hP hD hS hl => lv_icmp_ne C.1 C.2.1 hd ht (fun h => kt h H locs ls hP hD hS hl) (fun h => kf h H locs ls hP hD hS hl)
theorem e_goto (C : EC X G own cc nL) {off : Int} {tgt : Nat} (hd : decode cc pc = .ok (.goto off, 3)) (ht : (pc : Int) + off = (tgt : Int)) (k : EW X G nL cells slots tgt lv st ws) : EW X G nL cells slots pc lv st ws :=
  fun H locs ls hP hD hS hl => lv_goto C.1 C.2.1 hd ht (k H locs ls hP hD hS hl)
theorem e_tableOut (C : EC X G own cc nL) {dflt lo hi : Int} {offs : Array Int} {len : Nat} {x : Int32} {tgt : Nat} (hd : decode cc pc = .ok (.tableswitch dflt lo hi offs, len)) (h : x.toInt < lo ∨ hi < x.toInt) (ht : (pc : Int) + dflt = (tgt : Int)) (k : EW X G nL cells slots tgt lv st ws) : EW X G nL cells slots pc lv (.int x :: st) ws :=
  fun H locs ls hP hD hS hl => lv_tableOut C.1 C.2.1 hd h ht (k H locs ls hP hD hS hl)
theorem e_tableIn (C : EC X G own cc nL) {dflt lo hi : Int} {offs : Array Int} {len : Nat} {x : Int32} {off : Int} {tgt : Nat} (hd : decode cc pc = .ok (.tableswitch dflt lo hi offs, len)) (h1 : ¬ x.toInt < lo) (h2 : ¬ hi < x.toInt) (ho : offs[(x.toInt - lo).toNat]? = some off) (ht : (pc : Int) + off = (tgt : Int)) (k : EW X G nL cells slots tgt lv st ws) : EW X G nL cells slots pc lv (.int x :: st) ws :=
  fun H locs ls hP hD hS hl => lv_tableIn C.1 C.2.1 hd h1 h2 ho ht (k H locs ls hP hD hS hl)
theorem e_lookup (C : EC X G own cc nL) {dflt : Int} {ps : Array (Int × Int)} {len : Nat} {x : Int32} {off : Int} {tgt : Nat} (hd : decode cc pc = .ok (.lookupswitch dflt ps, len)) (hp : (ps.toList.zip (ps.toList.drop 1)).all (fun (a, next) => a.1 < next.1) = true) (ho : Op.lookupswitch.offset ps.toList dflt x.toInt = off) (ht : (pc : Int) + off = (tgt : Int)) (k : EW X G nL cells slots tgt lv st ws) : EW X G nL cells slots pc lv (.int x :: st) ws :=
  fun H locs ls hP hD hS hl => lv_lookup C.1 C.2.1 hd hp ho ht (k H locs ls hP hD hS hl)
/-- an int array, a boolean array, a long array, at a cell -/
abbrev aI (cA : ClassId) (n : Nat) (f : Nat → Int32) : va_E := .inl (cA, n, .inl f)
abbrev aJ (cA : ClassId) (n : Nat) (f : Nat → Int64) : va_E := .inl (cA, n, .inr (.inl f))
abbrev ob (ci : Nat) (fs : List Value) : va_E := .inr (ci, fs)
theorem e_in {i : Int32} {j n : Nat} (hi : i = nI j) (hj : j < n) (hn : n < 2 ^ 31) : vp_in i n ∧ i.toNatClampNeg = j := by
  subst hi
  exact ⟨vp_in_nI hj hn, nI_clamp (by omega)⟩
theorem e_iald (C : EC X G own cc nL) (q0 t0 : Nat) {a : Nat} {cA : ClassId} {n : Nat} {f : Nat → Int32} {i : Int32} (hd : decode cc pc = .ok (.iaload, 1)) (ha : ws[q0]? = some (a, aI cA n f)) (ht : (TY G)[t0]? = some (cA, .int)) (j : Nat) (hi : i = nI j) (hj : j < n) (hn : n < 2 ^ 31)
    (k : EW X G nL cells slots (pc + 1) lv (.int (f j) :: st) ws) : EW X G nL cells slots pc lv (.int i :: .ref a :: st) ws := by
  obtain ⟨h1, h2⟩ := e_in hi hj hn
  intro H locs ls hP hD hS hl
  have h := k H locs ls hP hD hS hl
  rw [← h2] at h
  exact va_iald C.1 C.2.1 C.2.2.2.2.2.1.1 hP q0 t0 ha ht h1 hd h
theorem e_zald (C : EC X G own cc nL) (q0 t0 : Nat) {a : Nat} {cA : ClassId} {n : Nat} {f : Nat → Int32} {i : Int32} (hd : decode cc pc = .ok (.baload, 1)) (ha : ws[q0]? = some (a, aI cA n f)) (ht : (TY G)[t0]? = some (cA, .boolean)) (j : Nat) (hi : i = nI j) (hj : j < n) (hn : n < 2 ^ 31)
    (k : EW X G nL cells slots (pc + 1) lv (.int (f j) :: st) ws) : EW X G nL cells slots pc lv (.int i :: .ref a :: st) ws := by
  obtain ⟨h1, h2⟩ := e_in hi hj hn
  intro H locs ls hP hD hS hl
  have h := k H locs ls hP hD hS hl
  rw [← h2] at h
  exact va_zald C.1 C.2.1 C.2.2.2.2.2.1.1 hP q0 t0 ha ht h1 hd h
theorem e_lald (C : EC X G own cc nL) (q0 t0 : Nat) {a : Nat} {cA : ClassId} {n : Nat} {f : Nat → Int64} {i : Int32} (hd : decode cc pc = .ok (.laload, 1)) (ha : ws[q0]? = some (a, aJ cA n f)) (ht : (TY G)[t0]? = some (cA, .long)) (j : Nat) (hi : i = nI j) (hj : j < n) (hn : n < 2 ^ 31)
    (k : EW X G nL cells slots (pc + 1) lv (.long (f j) :: st) ws) : EW X G nL cells slots pc lv (.int i :: .ref a :: st) ws := by
  obtain ⟨h1, h2⟩ := e_in hi hj hn
  intro H locs ls hP hD hS hl
  have h := k H locs ls hP hD hS hl
  rw [← h2] at h
  exact va_lald C.1 C.2.1 C.2.2.2.2.2.1.1 hP q0 t0 ha ht h1 hd h
theorem e_iast (C : EC X G own cc nL) (q0 t0 : Nat) {a : Nat} {cA : ClassId} {n : Nat} {f : Nat → Int32} {i x : Int32} (hd : decode cc pc = .ok (.iastore, 1)) (ha : ws[q0]? = some (a, aI cA n f)) (ht : (TY G)[t0]? = some (cA, .int)) (j : Nat) (hi : i = nI j) (hj : j < n) (hn : n < 2 ^ 31)
    (k : EW X G nL cells slots (pc + 1) lv st (ws.set q0 (a, aI cA n (upd f j x)))) : EW X G nL cells slots pc lv (.int x :: .int i :: .ref a :: st) ws := by
  obtain ⟨h1, h2⟩ := e_in hi hj hn
  intro H locs ls hP hD hS hl
  refine va_iast C.1 C.2.1 C.2.2.2.2.2.1.1 hP hD hS q0 t0 ha ht h1 hd fun H1 locs1 hP hD hS => ?_
  rw [h2] at hP hD
  exact k H1 locs1 ls hP hD hS hl
theorem e_zast (C : EC X G own cc nL) (q0 t0 : Nat) {a : Nat} {cA : ClassId} {n : Nat} {f : Nat → Int32} {i x x' : Int32} (hd : decode cc pc = .ok (.bastore, 1)) (ha : ws[q0]? = some (a, aI cA n f)) (ht : (TY G)[t0]? = some (cA, .boolean)) (j : Nat) (hi : i = nI j) (hj : j < n) (hn : n < 2 ^ 31) (hx : vp_nar .boolean x = x')
    (k : EW X G nL cells slots (pc + 1) lv st (ws.set q0 (a, aI cA n (upd f j x')))) : EW X G nL cells slots pc lv (.int x :: .int i :: .ref a :: st) ws := by
  obtain ⟨h1, h2⟩ := e_in hi hj hn
  subst hx
  intro H locs ls hP hD hS hl
  refine va_zast C.1 C.2.1 C.2.2.2.2.2.1.1 hP hD hS q0 t0 ha ht h1 hd fun H1 locs1 hP hD hS => ?_
  rw [h2] at hP hD
  exact k H1 locs1 ls hP hD hS hl
theorem e_last (C : EC X G own cc nL) (q0 t0 : Nat) {a : Nat} {cA : ClassId} {n : Nat} {f : Nat → Int64} {i : Int32} {x : Int64} (hd : decode cc pc = .ok (.lastore, 1)) (ha : ws[q0]? = some (a, aJ cA n f)) (ht : (TY G)[t0]? = some (cA, .long)) (j : Nat) (hi : i = nI j) (hj : j < n) (hn : n < 2 ^ 31)
    (k : EW X G nL cells slots (pc + 1) lv st (ws.set q0 (a, aJ cA n (vp_updL f j x)))) : EW X G nL cells slots pc lv (.long x :: .int i :: .ref a :: st) ws := by
  obtain ⟨h1, h2⟩ := e_in hi hj hn
  intro H locs ls hP hD hS hl
  refine va_last C.1 C.2.1 C.2.2.2.2.2.1.1 hP hD hS q0 t0 ha ht h1 hd fun H1 locs1 hP hD hS => ?_
  rw [h2] at hP hD
  exact k H1 locs1 ls hP hD hS hl
theorem e_alen (C : EC X G own cc nL) (q0 t0 : Nat) {a : Nat} {cA : ClassId} {ty : FieldType} {x : vp_A} (hd : decode cc pc = .ok (.arraylength, 1)) (ha : ws[q0]? = some (a, .inl (cA, x))) (ht : (TY G)[t0]? = some (cA, ty))
    (k : EW X G nL cells slots (pc + 1) lv (.int (nI x.1) :: st) ws) : EW X G nL cells slots pc lv (.ref a :: st) ws :=
  fun H locs ls hP hD hS hl => va_alen C.1 C.2.1 C.2.2.2.2.2.1.1 hP q0 t0 ha ht rfl hd (k H locs ls hP hD hS hl)
/-- fields -/
theorem e_get (C : EC X G own cc nL) (q0 : Nat) {Cn : String} {T : u_T} {N ci index k a : Nat} {fs : List Value} {v : Value} (hin : ∀ w ∈ u_ws Cn T N, w ∈ GT) (hf : Cond.fieldLink own index (T k).1 (T k).2.1 (T k).2.2.1 ∈ GT) (hd : decode cc pc = .ok (.getfield index, 3)) (he : ws[q0]? = some (a, ob ci fs)) (hc : KL[ci]? = some (Cn, T, N)) (hk : Nat.blt k N = true) (hv : fs[k]? = some v)
    (kk : EW X G nL cells slots (pc + 3) lv (v :: st) ws) : EW X G nL cells slots pc lv (.ref a :: st) ws :=
  fun H locs ls hP hD hS hl => va_get C.1 C.2.1 C.2.2.2.2.1 hin C.2.2.2.1 C.2.2.2.2.2.1.1 hP q0 he hc k (Nat.blt_eq.mp hk) (C.2.2.2.2.1 _ hf) (fun _ h => h) hv hd (kk H locs ls hP hD hS hl)
/-- a field that is inherited: javac names it through the lower class -/
theorem e_getI (C : EC X G own cc nL) (q0 : Nat) {Cn ref : String} {T : u_T} {N ci index k a : Nat} {fs : List Value} {v : Value} (hin : ∀ w ∈ u_ws Cn T N, w ∈ GT) (hf : Cond.fieldLink own index ref (T k).2.1 (T k).2.2.1 ∈ GT) (hs : Cond.sameField ref (T k).1 (T k).2.1 (T k).2.2.1 ∈ GT) (hd : decode cc pc = .ok (.getfield index, 3)) (he : ws[q0]? = some (a, ob ci fs)) (hc : KL[ci]? = some (Cn, T, N)) (hk : Nat.blt k N = true) (hv : fs[k]? = some v)
    (kk : EW X G nL cells slots (pc + 3) lv (v :: st) ws) : EW X G nL cells slots pc lv (.ref a :: st) ws :=
  fun H locs ls hP hD hS hl => va_get C.1 C.2.1 C.2.2.2.2.1 hin C.2.2.2.1 C.2.2.2.2.2.1.1 hP q0 he hc k (Nat.blt_eq.mp hk) (C.2.2.2.2.1 _ hf) (fun x h => u_same (C.2.2.2.2.1 _ hs) x h) hv hd (kk H locs ls hP hD hS hl)
theorem e_put (C : EC X G own cc nL) (q0 : Nat) {Cn : String} {T : u_T} {ty0 : Nat → FieldType} {N ci index k a : Nat} {fs : List Value} {v : Value} {ty : FieldType} (hin : ∀ w ∈ u_ws Cn T N, w ∈ GT) (hty : ∀ k, k < N → parseFieldDescriptor (T k).2.2.1 = some (ty0 k)) (hnm : ∀ a, a < N → ∀ b, b < N → a ≠ b → (T a).2.1 ≠ (T b).2.1) (hf : Cond.fieldLink own index (T k).1 (T k).2.1 (T k).2.2.1 ∈ GT) (hd : decode cc pc = .ok (.putfield index, 3)) (he : ws[q0]? = some (a, ob ci fs)) (hc : KL[ci]? = some (Cn, T, N)) (hk : Nat.blt k N = true) (hfin : (T k).2.2.2 = false) (hl0 : Nat.blt k fs.length = true) (hy : ty0 k = ty) (hn : narrow ty v = v) (hfit : fits ty v = true)
    (kk : EW X G nL cells slots (pc + 3) lv st (ws.set q0 (a, ob ci (fs.set k v)))) : EW X G nL cells slots pc lv (v :: .ref a :: st) ws :=
  fun H locs ls hP hD hS hl => va_put C.1 C.2.1 C.2.2.2.2.1 hin ty0 hty hnm C.2.2.2.1 C.2.2.2.2.2.1.1 hP hD hS q0 he hc k (Nat.blt_eq.mp hk) (C.2.2.2.2.1 _ hf) (fun _ h => h) hfin (by rw [hty k (Nat.blt_eq.mp hk), hy]) hn hfit (Nat.blt_eq.mp hl0) hd (fun H1 locs1 hP hD hS => kk H1 locs1 ls hP hD hS hl)
theorem e_putF (C : EC X G own cc nL) (hi : X.meth.name = "<init>") (q0 : Nat) {Cn : String} {T : u_T} {ty0 : Nat → FieldType} {N ci index k a : Nat} {fs : List Value} {v : Value} {ty : FieldType} (hin : ∀ w ∈ u_ws Cn T N, w ∈ GT) (hty : ∀ k, k < N → parseFieldDescriptor (T k).2.2.1 = some (ty0 k)) (hnm : ∀ a, a < N → ∀ b, b < N → a ≠ b → (T a).2.1 ≠ (T b).2.1) (hf : Cond.fieldLink own index (T k).1 (T k).2.1 (T k).2.2.1 ∈ GT) (hd : decode cc pc = .ok (.putfield index, 3)) (he : ws[q0]? = some (a, ob ci fs)) (hc : KL[ci]? = some (Cn, T, N)) (hk : Nat.blt k N = true) (hfin : (T k).2.2.2 = true) (hdecl : (T k).1 = own) (hl0 : Nat.blt k fs.length = true) (hy : ty0 k = ty) (hn : narrow ty v = v) (hfit : fits ty v = true)
    (kk : EW X G nL cells slots (pc + 3) lv st (ws.set q0 (a, ob ci (fs.set k v)))) : EW X G nL cells slots pc lv (v :: .ref a :: st) ws :=
  fun H locs ls hP hD hS hl => va_putF C.1 C.2.1 C.2.2.2.2.1 hin ty0 hty hnm C.2.2.2.1 C.2.2.2.2.2.1.1 hP hD hS q0 he hc k (Nat.blt_eq.mp hk) (C.2.2.2.2.1 _ hf) (fun _ h => h) hfin hi hdecl (by rw [hty k (Nat.blt_eq.mp hk), hy]) hn hfit (Nat.blt_eq.mp hl0) hd (fun H1 locs1 hP hD hS => kk H1 locs1 ls hP hD hS hl)
/-- a new object, at the world's end -/
theorem e_new (C : EC X G own cc nL) {Cn : String} {T : u_T} {ty0 : Nat → FieldType} {N ci index : Nat} (fs : List Value) (hin : ∀ w ∈ u_ws Cn T N, w ∈ GT) (hty : ∀ k, k < N → parseFieldDescriptor (T k).2.2.1 = some (ty0 k)) (hcl : Cond.classLink own index Cn ∈ GT) (hinst : Cond.instantiable Cn N ∈ GT) (hini : Cond.initialized Cn ∈ GT) (hd : decode cc pc = .ok (.new index, 3)) (hc : KL[ci]? = some (Cn, T, N)) (hfs : ∀ j, j < N → defaultValue (ty0 j) = vp_V fs j) (h1 : cells + 1 ≤ X.R.cells) (h2 : slots + N ≤ X.R.slots)
    (kk : ∀ q : Nat, EW X G nL (cells + 1) (slots + N) (pc + 3) lv (.ref q :: st) (ws ++ [(q, ob ci fs)])) : EW X G nL cells slots pc lv st ws :=
  fun H locs ls hP hD hS hl => va_new C.1 C.2.1 C.2.2.2.2.1 hin ty0 hty C.2.2.2.1 (C.2.2.2.2.1 _ hcl) (C.2.2.2.2.1 _ hinst) (C.2.2.2.2.1 _ hini) C.2.2.2.2.2.1.1 hP hD hS C.2.2.2.2.2.2 hc hfs h1 h2 hd (fun q H1 hP hD hS => kk q H1 locs ls hP hD hS hl)
/-- a new array of ints or booleans (tys[t0] names its class), at the world's end -/
theorem e_newa (C : EC X G own cc nL) (t0 : Nat) {atype : ArrayType} {ty : FieldType} {cA : ClassId} (harr : Cond.arrayClass ty ∈ GT) (hty : newarray.typeOf atype = ty) (ht : (TY G)[t0]? = some (cA, ty)) (hp : ∀ x : ClassId, va_RA X.s x ty → X.s.vm.findClass ("[" ++ ty.toString) = some x) (hz : defaultValue ty = .int 0) (hcb : componentBytes ty ≤ 4) {n : Int32} (N : Nat) (hd : decode cc pc = .ok (.newarray atype, 2)) (hn : n = nI N) (hN : N < 2 ^ 20) (h1 : cells + 1 ≤ X.R.cells) (h2 : slots + N ≤ X.R.slots)
    (kk : ∀ q : Nat, EW X G nL (cells + 1) (slots + N) (pc + 2) lv (.ref q :: st) (ws ++ [(q, aI cA N (fun _ => 0))])) : EW X G nL cells slots pc lv (.int n :: st) ws := by
  subst hn
  intro H locs ls hP hD hS hl
  have hK := C.2.2.2.2.2.1.1
  refine va_newa C.1 C.2.1 (by rw [hty]; exact C.2.2.2.2.1 _ harr) hty hK hP hD hS C.2.2.2.2.2.2 (N' := N) (a0 := (N, .inl (fun _ => 0))) (fun cA => by rw [vp_cell_i, hz]) (nI_pos (by omega)) (nI_clamp (by omega)) ?_ h1 h2 hd (fun q cB H1 hKB hP hD hS => ?_)
  · calc N * componentBytes ty ≤ N * 4 := Nat.mul_le_mul_left _ hcb
      _ ≤ 536870912 := by omega
  · have e1 := hp _ (hK.2 t0 _ ht).2
    have e2 := hp _ (hKB.2 (TY G).length (cB, ty) (by rw [List.getElem?_append_right (Nat.le_refl _), Nat.sub_self]; rfl)).2
    have : cB = cA := Option.some.inj (e2.symm.trans e1)
    subst this
    exact kk q H1 locs ls hP hD hS hl
end EV
/-! CONTRACTS: from the world ws, called with As, the method gives back r and the world u, with B r u; what lies outside stays. -/
def ePre (G : EG) (As : List Value) (ws : va_W) (sz : Nat) : Array Value → State → Prop := va_Pc As (fun U => U.heap.size = sz ∧ va_P G.1 KL ws U.heap ∧ EK G U ∧ va_D (fun _ => True) ws)
def ePost (G : EG) (B : Option Value → va_W → Prop) (A : Nat → Prop) : Array Value → State → Outcome → State → Prop := fun _ st oc t =>
  (∃ (r : Option Value) (u : va_W), oc = .returned r ∧ B r u ∧ va_P G.1 KL u t.heap ∧ EK G t ∧ va_D A u) ∧ va_F A st t
def Con (l : Launch) (G : EG) (y : MethodName) (cc : ByteArray) (maxL : Nat) (ret : Option FieldType) (rm : Room) (As : List Value) (ws : va_W) (B : Option Value → va_W → Prop) : Prop :=
  ∀ sz : Nat, Met l y (Cond.code y cc maxL ret :: GT) rm (ePre G As ws sz) (ePost G B (va_A ws sz)) rm.cells rm.slots (va_A ws sz)
/-- the aim of a walk is a contract's end -/
def ER (X : EX) (G : EG) (mc ms : Nat) (B : Option Value → va_W → Prop) (ret : Option FieldType) : Prop :=
  X.H0 = X.s.heap ∧ X.meth.sig.returnType = ret ∧ X.meth.locks = false ∧ X.Q = MQ X.below (ePost G B X.A) X.args X.s mc ms X.A
theorem Con.of {l : Launch} {G : EG} {y : MethodName} {rm : Room} {As : List Value} {ws : va_W} {B : Option Value → va_W → Prop} {cc : ByteArray} {maxL : Nat} {ret : Option FieldType} (hy : plainName y.cls = true) (hlen : Nat.ble (lg_sl As).length maxL = true)
    (body : ∀ X : EX, EC X G y.cls cc maxL → ER X G rm.cells rm.slots B ret → X.R = rm → X.l = l → X.meth.name = y.name → EW X G maxL 0 0 0 (lv_args 0 As) [] ws) : Con l G y cc maxL ret rm As ws B := by
  intro sz
  refine Met.ofW (cc := cc) (maxL := maxL) (ret := ret) hy rfl ?_
  intro p e s m args below meth c s₁ Bd hml hv
  obtain ⟨rfl, hsz, hP, hK, hD0⟩ := hv
  subst hsz
  have hl := lv_entry As (n := maxL) (Nat.le_of_ble_eq_true hlen)
  rw [lg_entry_eq]
  have hts := atoms_spec (ws := Cond.code y cc maxL ret :: GT) Bd.pre
  exact body (p, l, e, rm, s, m, As.toArray, below, meth, c, s.heap, va_A ws s.heap.size, MQ below (ePost G B (va_A ws s.heap.size)) As.toArray s rm.cells rm.slots (va_A ws s.heap.size))
    ⟨Bd.exec, Bd.bytes, hml, findClass_of_methodNamed Bd.named, fun w h => hts w (List.mem_cons_of_mem _ h), hK, fun q h => Or.inr h⟩ ⟨rfl, Bd.returns, Bd.notSynchronized, rfl⟩ rfl rfl (name_of_methodNamed Bd.named Bd.method).1 s.heap [] _ hP (hD0.self) va_S.rf hl
section EVR
variable {X : EX} {G : EG} {own : String} {cc : ByteArray} {nL cells slots pc mc ms : Nat} {lv : List (Nat × Value)} {st : List Value} {ws : va_W} {B : Option Value → va_W → Prop}
theorem e_iret (C : EC X G own cc nL) {ty : FieldType} (E : ER X G mc ms B (some ty)) {r : Int32} (hd : decode cc pc = .ok (.ireturn, 1)) (h1 : cells ≤ mc) (h2 : slots ≤ ms) (hn : narrow ty (.int r) = .int r) (hB : B (some (.int r)) ws) : EW X G nL cells slots pc lv [.int r] ws := by
  intro H locs ls hP hD hS hl
  obtain ⟨e0, e1, e2, e3⟩ := E
  rw [e3]
  refine W.widen h1 h2 ?_
  rw [e0] at hS
  exact W.zret C.1 C.2.1 e1 hn (fun t ht hW => ⟨⟨_, ws, rfl, hB, by rw [ht]; exact hP, EK.moved hW.alike C.2.2.2.2.2.1, hD⟩, hS.F ht⟩) hS.2.2 hd e2
theorem e_vret (C : EC X G own cc nL) (E : ER X G mc ms B none) (hd : decode cc pc = .ok (.return_, 1)) (h1 : cells ≤ mc) (h2 : slots ≤ ms) (hB : B none ws) : EW X G nL cells slots pc lv [] ws := by
  intro H locs ls hP hD hS hl
  obtain ⟨e0, e1, e2, e3⟩ := E
  rw [e3]
  refine W.widen h1 h2 ?_
  rw [e0] at hS
  exact W.vret C.1 C.2.1 e1 (fun t ht hW => ⟨⟨_, ws, rfl, hB, by rw [ht]; exact hP, EK.moved hW.alike C.2.2.2.2.2.1, hD⟩, hS.F ht⟩) hS.2.2 hd e2
theorem e_aret (C : EC X G own cc nL) {rt : FieldType} (E : ER X G mc ms B (some rt)) {a : Nat} (hd : decode cc pc = .ok (.areturn, 1)) (hrt : (∃ n, rt = .object n) ∨ ∃ t, rt = .array t) (h1 : cells ≤ mc) (h2 : slots ≤ ms) (hB : B (some (.ref a)) ws) : EW X G nL cells slots pc lv [.ref a] ws := by
  intro H locs ls hP hD hS hl
  obtain ⟨e0, e1, e2, e3⟩ := E
  rw [e3]
  refine W.widen h1 h2 ?_
  rw [e0] at hS
  exact W.aret C.1 C.2.1 e1 hrt (Or.inr ⟨a, rfl⟩) (fun t ht hW => ⟨⟨_, ws, rfl, hB, by rw [ht]; exact hP, EK.moved hW.alike C.2.2.2.2.2.1, hD⟩, hS.F ht⟩) hS.2.2 hd e2
/-- the callee's cells stand first; behind the call what it left stands in their place, the rest is as it was -/
theorem e_run {wc wr : va_W} {st0 : List Value} {a : Array Value} {mc ms : Nat}
    (hr : ∀ (H : Heap) (locs : List Loc) (ls : Array Slot), va_P G.1 KL wc H → va_D (fun _ => True) wc → ls.size = nL → va_Run X.p X.l X.e X.R X.s X.m X.args X.below X.meth X.c H locs cells slots mc ms (F0 X.m pc ls st0) st (ePost G B (va_A wc H.size) a) (va_A wc H.size))
    (hA : ∀ q, X.H0.size ≤ q → X.A q)
    (kk : ∀ (r : Option Value) (u : va_W), B r u → EW X G nL (cells + mc) (slots + ms) (pc + 3) lv (r.toList ++ st) (u ++ wr)) : EW X G nL cells slots pc lv st0 (wc ++ wr) := by
  intro H locs ls hP hD hS hl
  have hPc : va_P G.1 KL wc H := fun k q h => hP k q (by rw [List.getElem?_append_left (List.getElem?_eq_some_iff.mp h).1]; exact h)
  have hDc : va_D X.A wc := ⟨fun i j p q hi hj h => hD.1 i j p q (by rw [List.getElem?_append_left (List.getElem?_eq_some_iff.mp hi).1]; exact hi) (by rw [List.getElem?_append_left (List.getElem?_eq_some_iff.mp hj).1]; exact hj) h, fun k q h => hD.2 k q (by rw [List.getElem?_append_left (List.getElem?_eq_some_iff.mp h).1]; exact h)⟩
  have toR : ∀ {k : Nat} {q : Nat × va_E}, wr[k]? = some q → (wc ++ wr)[wc.length + k]? = some q := fun {k q} h => by
    rw [List.getElem?_append_right (by omega), show wc.length + k - wc.length = k by omega]
    exact h
  have hF : ∀ q, va_A wc H.size q → X.A q := by
    intro q h
    rcases h with ⟨k, e, h⟩ | h
    · exact hDc.2 k (q, e) h
    · exact hA q (Nat.le_trans hS.1 h)
  intro T hT Y
  obtain ⟨v, st₀, t, T', L, h0, Y', hL, e1, e2, ⟨⟨r, u, hv, hB, hP1, hK1, hD1⟩, hz, hk⟩, go⟩ := hr H locs ls hPc (hDc.weaken (fun _ _ _ _ => trivial)) hl.1 T hT Y
  cases hv
  rw [h0] at hz hk
  have apart : ∀ {k : Nat} {q : Nat × va_E}, wr[k]? = some q → q.1 < H.size ∧ ¬ va_A wc H.size q.1 := by
    intro k q h
    have hlt := (hP _ q (toR h)).lt
    refine ⟨hlt, fun z => ?_⟩
    rcases z with ⟨k2, e, z⟩ | z
    · have hk2 := (List.getElem?_eq_some_iff.mp z).1
      have := hD.1 (wc.length + k) k2 q (q.1, e) (toR h) (by rw [List.getElem?_append_left hk2]; exact z) rfl
      omega
    · omega
  have hPn : va_P G.1 KL (u ++ wr) T'.heap := by
    rw [e1]
    exact va_P.app hP1 (fun k q h => (hP _ q (toR h)).kept (hk q.1 (apart h).1 (apart h).2))
  have hDn : va_D X.A (u ++ wr) := va_D.app (hD1.weaken (fun k q _ h => hF q.1 h)) ⟨fun i j p q hi hj h => by have := hD.1 _ _ p q (toR hi) (toR hj) h; omega, fun k q h => hD.2 _ q (toR h)⟩ (fun i j x y hx hy hxy => (apart hy).2 (by rw [← hxy]; exact hD1.2 i x hx))
  have hSn : va_S X.A X.H0 T'.heap (locs ++ L) := ⟨Nat.le_trans hS.1 (by rw [e1]; exact hz), fun q h1 h2 => by rw [e1, hk q (Nat.lt_of_lt_of_le h1 hS.1) (fun z => h2 (hF q z))]; exact hS.2.1 q h1 h2, fun q hq => by
    rcases List.mem_append.mp hq with h | h
    · exact hS.2.2 q h
    · exact hF _ (hL q h)⟩
  obtain ⟨t2, a1, b1⟩ := kk v u hB T'.heap (locs ++ L) ls hPn hDn hSn hl T' rfl Y'
  exact ⟨t2, go t2 a1, b1⟩
theorem ePre_blind {As : List Value} {ws : va_W} {sz : Nat} : FrameBlind (ePre G As ws sz) := fun a U g mk q => by
  obtain ⟨q0, q1, qP, qK, qD⟩ := q
  exact ⟨q0, q1, qP, EK.moved (u := U) (U := U.calling g mk a) (Vm.Alike.refl U.vm) qK, qD⟩
theorem e_pre (C : EC X G own cc nL) {As : List Value} {ws : va_W} {H : Heap} (hP : va_P G.1 KL ws H) (hD : va_D (fun _ => True) ws) : ∀ U : State, U.heap = H → X.s.WarmedH U.vm → ePre G As ws H.size As.toArray U := fun U hU hW => ⟨rfl, by rw [hU], by rw [hU]; exact hP, EK.moved hW.alike C.2.2.2.2.2.1, hD⟩
/-- what every call asks of the callee's words -/
theorem e_words {s : State} {args : Array Value} (hts : ∀ w ∈ GT, w.before args s = true) {y : MethodName} {cc : ByteArray} {maxL : Nat} {ret : Option FieldType} (hc : Cond.code y cc maxL ret ∈ GT) : ∀ w ∈ Cond.code y cc maxL ret :: GT, ∀ (a' : Array Value) (U : State), s.WarmedH U.vm → w.before a' U = true := by
  intro w hw a' U hW
  have h : w ∈ GT := (List.mem_cons.mp hw).elim (fun e => e ▸ hc) id
  exact word_at hW (gt_good w h) (hts w h)
/-- what a method is, decided by program: its class isn't one of the two, and it takes n -/
def eY (y : MethodName) (n : Nat) : Bool := !(y.cls == "java/lang/invoke/MethodHandle") && !(y.cls == "java/lang/invoke/VarHandle") && ((parseMethodDescriptor y.desc).map (fun d => d.parameters.length) == some n)
theorem eY.of {y : MethodName} {n : Nat} (h : eY y n = true) : (y.cls ≠ "java/lang/invoke/MethodHandle" ∧ y.cls ≠ "java/lang/invoke/VarHandle") ∧ ∀ sig, parseMethodDescriptor y.desc = some sig → n = sig.parameters.length := by
  simp only [eY, Bool.and_eq_true, Bool.not_eq_true', beq_eq_false_iff_ne, beq_iff_eq, ne_eq] at h
  refine ⟨h.1, fun sig hs => ?_⟩
  have h2 := h.2
  rw [hs] at h2
  exact (Option.some.inj h2).symm
def eR (rm R : Room) (maxL : Nat) : Bool := Nat.ble (rm.frames + 1) R.frames && Nat.ble (8 + (maxL + 11) + rm.locals) R.locals
theorem eR.of {rm R : Room} {maxL : Nat} (h : eR rm R maxL = true) : rm.frames + 1 ≤ R.frames ∧ 8 + (maxL + 11) + rm.locals ≤ R.locals := by
  simp only [eR, Bool.and_eq_true] at h
  exact ⟨Nat.le_of_ble_eq_true h.1, Nat.le_of_ble_eq_true h.2⟩
theorem e_cb (C : EC X G own cc nL) {y : MethodName} {rm : Room} {bytes : ByteArray} {maxL n index : Nat} {ret : Option FieldType} (hc : Cond.code y bytes maxL ret ∈ GT) (hi : Cond.initialized y.cls ∈ GT) (hl : Cond.methodLink own index y ∈ GT) (hy : eY y n = true) (hR : eR rm X.R maxL = true) :
    CallB X.R X.s X.args own index y bytes maxL ret (Cond.code y bytes maxL ret :: GT) rm rm.cells rm.slots n :=
  ⟨rfl, rfl, (eR.of hR).1, (eR.of hR).2, e_words C.2.2.2.2.1 hc, List.mem_cons_self, C.2.2.2.2.1 _ hc, C.2.2.2.2.1 _ hi, (eY.of hy).1, (eY.of hy).2, C.2.2.2.2.1 _ hl⟩
/-- a virtual call of a method of the receiver's own class -/
theorem e_callV (C : EC X G own cc nL) {wc wr : va_W} {y : MethodName} {rm : Room} (As : List Value) {bytes : ByteArray} {maxL index b ci : Nat} (q0 : Nat) {ret : Option FieldType} {T : u_T} {N : Nat} {fs : List Value}
    (hM : Con X.l G y bytes maxL ret rm (.ref b :: As) wc B) (hc : Cond.code y bytes maxL ret ∈ GT) (hi : Cond.initialized y.cls ∈ GT) (hl : Cond.methodLink own index y ∈ GT) (hin : Cond.instanceMethod y ∈ GT) (hse : Cond.selects y.cls y y ∈ GT) (hd : decode cc pc = .ok (.invokevirtual index, 3)) (hy : eY y As.length = true) (hR : eR rm X.R maxL = true) (hk : KL[ci]? = some (y.cls, T, N)) (he : wc[q0]? = some (b, ob ci fs)) (hs : Nat.ble (st.map fun v : Value => v.category).sum 8 = true) (hf : cells + rm.cells ≤ X.R.cells ∧ slots + rm.slots ≤ X.R.slots)
    (kk : ∀ (r : Option Value) (u : va_W), B r u → EW X G nL (cells + rm.cells) (slots + rm.slots) (pc + 3) lv (r.toList ++ st) (u ++ wr)) : EW X G nL cells slots pc lv (As.reverse ++ .ref b :: st) (wc ++ wr) :=
  e_run (fun H locs ls hP hD hz => va_runV (As := As) (rest := st) (C := y.cls) ⟨C.1, C.2.1, C.2.2.1, C.2.2.2.1, C.2.2.2.2.1⟩ (hM H.size) ⟨e_cb C hc hi hl hy hR, C.2.2.2.2.1 _ hin, C.2.2.2.2.1 _ hse⟩ ⟨ePre_blind, va_recv C.2.2.2.2.2.1.1 hP hk he, e_pre C hP hD⟩ rfl rfl hz rfl (lv_room (Nat.le_of_ble_eq_true hs)) hd hf) C.2.2.2.2.2.2 kk
theorem e_callS (C : EC X G own cc nL) {wc wr : va_W} {y : MethodName} {rm : Room} (As : List Value) {bytes : ByteArray} {maxL index : Nat} {ret : Option FieldType}
    (hM : Con X.l G y bytes maxL ret rm As wc B) (hc : Cond.code y bytes maxL ret ∈ GT) (hi : Cond.initialized y.cls ∈ GT) (hl : Cond.methodLink own index y ∈ GT) (hst : Cond.static y ∈ GT) (hd : decode cc pc = .ok (.invokestatic index, 3)) (hy : eY y As.length = true) (hR : eR rm X.R maxL = true) (hs : Nat.ble (st.map fun v : Value => v.category).sum 8 = true) (hf : cells + rm.cells ≤ X.R.cells ∧ slots + rm.slots ≤ X.R.slots)
    (kk : ∀ (r : Option Value) (u : va_W), B r u → EW X G nL (cells + rm.cells) (slots + rm.slots) (pc + 3) lv (r.toList ++ st) (u ++ wr)) : EW X G nL cells slots pc lv (As.reverse ++ st) (wc ++ wr) :=
  e_run (fun H locs ls hP hD hz => va_runS (As := As) (rest := st) ⟨C.1, C.2.1, C.2.2.1, C.2.2.2.1, C.2.2.2.2.1⟩ (hM H.size) ⟨e_cb C hc hi hl hy hR, C.2.2.2.2.1 _ hst⟩ ⟨ePre_blind, e_pre C hP hD⟩ rfl rfl hz rfl (lv_room (Nat.le_of_ble_eq_true hs)) hd hf) C.2.2.2.2.2.2 kk
theorem e_callI (C : EC X G own cc nL) {wc wr : va_W} {y : MethodName} {rm : Room} (As : List Value) {bytes : ByteArray} {maxL index b : Nat}
    (hM : Con X.l G y bytes maxL none rm (.ref b :: As) wc B) (hc : Cond.code y bytes maxL none ∈ GT) (hi : Cond.initialized y.cls ∈ GT) (hl : Cond.methodLink own index y ∈ GT) (hin : Cond.instanceMethod y ∈ GT) (hd : decode cc pc = .ok (.invokespecial index, 3)) (hy : eY y As.length = true) (hyn : y.name = "<init>") (hR : eR rm X.R maxL = true) (hs : Nat.ble (st.map fun v : Value => v.category).sum 8 = true) (hf : cells + rm.cells ≤ X.R.cells ∧ slots + rm.slots ≤ X.R.slots)
    (kk : ∀ (r : Option Value) (u : va_W), B r u → EW X G nL (cells + rm.cells) (slots + rm.slots) (pc + 3) lv (r.toList ++ st) (u ++ wr)) : EW X G nL cells slots pc lv (As.reverse ++ .ref b :: st) (wc ++ wr) :=
  e_run (fun H locs ls hP hD hz => va_runI (As := As) (rest := st) ⟨C.1, C.2.1, C.2.2.1, C.2.2.2.1, C.2.2.2.2.1⟩ (hM H.size) ⟨e_cb C hc hi hl hy hR, hyn, C.2.2.2.2.1 _ hin⟩ ⟨ePre_blind, e_pre C hP hD⟩ rfl rfl hz rfl (lv_room (Nat.le_of_ble_eq_true hs)) hd hf) C.2.2.2.2.2.2 kk
/-- a call of a method that the class Rule declares, answered by the receiver's class -/
theorem e_callU (C : EC X G own cc nL) {wc wr : va_W} {x y : MethodName} {rm : Room} (As : List Value) {bytes : ByteArray} {maxL index b ci : Nat} (q0 : Nat) {ret : Option FieldType} {T : u_T} {N : Nat} {fs : List Value}
    (hM : Con X.l G y bytes maxL ret rm (.ref b :: As) wc B) (hc : Cond.code y bytes maxL ret ∈ GT) (hi : Cond.initialized y.cls ∈ GT) (hl : Cond.methodLink own index x ∈ GT) (hsm : Cond.sameMethod x.cls x.cls x.name x.desc ∈ GT) (hde : x ∈ eDecl) (hin : Cond.instanceMethod y ∈ GT) (hse : Cond.selects y.cls x y ∈ GT) (hd : decode cc pc = .ok (.invokevirtual index, 3)) (hy : eY x As.length = true) (hR : eR rm X.R maxL = true) (hk : KL[ci]? = some (y.cls, T, N)) (he : wc[q0]? = some (b, ob ci fs)) (hs : Nat.ble (st.map fun v : Value => v.category).sum 8 = true) (hf : cells + rm.cells ≤ X.R.cells ∧ slots + rm.slots ≤ X.R.slots)
    (kk : ∀ (r : Option Value) (u : va_W), B r u → EW X G nL (cells + rm.cells) (slots + rm.slots) (pc + 3) lv (r.toList ++ st) (u ++ wr)) : EW X G nL cells slots pc lv (As.reverse ++ .ref b :: st) (wc ++ wr) :=
  e_run (fun H locs ls hP hD hz => va_runU (As := As) (rest := st) (C := y.cls) (owner := x.cls) (x := x) ⟨C.1, C.2.1, C.2.2.1, C.2.2.2.1, C.2.2.2.2.1⟩ (hM H.size)
    ⟨⟨rfl, rfl, (eR.of hR).1, (eR.of hR).2, e_words C.2.2.2.2.1 hc, List.mem_cons_self⟩, C.2.2.2.2.1 _ hc, C.2.2.2.2.1 _ hi, (eY.of hy).1, (eY.of hy).2, C.2.2.2.2.1 _ hl, C.2.2.2.2.1 _ hsm, va_Decl.abs (C.2.2.2.2.2.1.2 x hde), C.2.2.2.2.1 _ hse, C.2.2.2.2.1 _ hin⟩
    ⟨ePre_blind, va_recv C.2.2.2.2.2.1.1 hP hk he, e_pre C hP hD⟩ rfl rfl hz rfl (lv_room (Nat.le_of_ble_eq_true hs)) hd hf) C.2.2.2.2.2.2 kk
/-- a room that makes nothing -/
abbrev rz (fr lo : Nat) : Room := { frames := fr, cells := 0, slots := 0, locals := lo }
/-- one answer, one world behind -/
abbrev DI (r0 : Int32) (W' : va_W) : Option Value → va_W → Prop := fun r u => r = some (.int r0) ∧ u = W'
abbrev DV (W' : va_W) : Option Value → va_W → Prop := fun r u => r = none ∧ u = W'
theorem e_cV (C : EC X G own cc nL) {Rm : Room} (hX : X.R = Rm) {wc : va_W} {y : MethodName} {fr lo : Nat} {As : List Value} {bytes : ByteArray} {maxL index b ci : Nat} (q0 : Nat) {ret : Option FieldType} {T : u_T} {N : Nat} {fs st0 : List Value}
    (hM : Con X.l G y bytes maxL ret (rz fr lo) (.ref b :: As) wc B) (hc : Cond.code y bytes maxL ret ∈ GT) (hi : Cond.initialized y.cls ∈ GT) (hl : Cond.methodLink own index y ∈ GT) (hin : Cond.instanceMethod y ∈ GT) (hse : Cond.selects y.cls y y ∈ GT) (hd : decode cc pc = .ok (.invokevirtual index, 3)) (hst : st0 = As.reverse ++ .ref b :: st) (hy : eY y As.length = true) (hR : eR (rz fr lo) Rm maxL = true) (he : wc[q0]? = some (b, ob ci fs)) (hk : KL[ci]? = some (y.cls, T, N)) (hs : Nat.ble (st.map fun v : Value => v.category).sum 8 = true) (hf : cells ≤ X.R.cells ∧ slots ≤ X.R.slots)
    (kk : ∀ (r : Option Value) (u : va_W), B r u → EW X G nL cells slots (pc + 3) lv (r.toList ++ st) u) : EW X G nL cells slots pc lv st0 wc := by
  subst hst
  have h := e_callV (wr := []) (cells := cells) (slots := slots) (lv := lv) C As q0 hM hc hi hl hin hse hd hy (by rw [hX]; exact hR) hk he hs hf (fun r u hB => by rw [List.append_nil]; exact kk r u hB)
  rw [List.append_nil] at h
  exact h
theorem e_cVi (C : EC X G own cc nL) {Rm : Room} (hX : X.R = Rm) {wc W' : va_W} {r0 : Int32} {y : MethodName} {fr lo : Nat} {As : List Value} {bytes : ByteArray} {maxL index b ci : Nat} (q0 : Nat) {ret : Option FieldType} {T : u_T} {N : Nat} {fs st0 : List Value}
    (hM : Con X.l G y bytes maxL ret (rz fr lo) (.ref b :: As) wc (DI r0 W')) (hc : Cond.code y bytes maxL ret ∈ GT) (hi : Cond.initialized y.cls ∈ GT) (hl : Cond.methodLink own index y ∈ GT) (hin : Cond.instanceMethod y ∈ GT) (hse : Cond.selects y.cls y y ∈ GT) (hd : decode cc pc = .ok (.invokevirtual index, 3)) (hst : st0 = As.reverse ++ .ref b :: st) (hy : eY y As.length = true) (hR : eR (rz fr lo) Rm maxL = true) (he : wc[q0]? = some (b, ob ci fs)) (hk : KL[ci]? = some (y.cls, T, N)) (hs : Nat.ble (st.map fun v : Value => v.category).sum 8 = true) (hf : cells ≤ X.R.cells ∧ slots ≤ X.R.slots)
    (kk : EW X G nL cells slots (pc + 3) lv (.int r0 :: st) W') : EW X G nL cells slots pc lv st0 wc :=
  e_cV C hX q0 hM hc hi hl hin hse hd hst hy hR he hk hs hf (fun r u hB => by obtain ⟨rfl, rfl⟩ := hB; exact kk)
theorem e_cVv (C : EC X G own cc nL) {Rm : Room} (hX : X.R = Rm) {wc W' : va_W} {y : MethodName} {fr lo : Nat} {As : List Value} {bytes : ByteArray} {maxL index b ci : Nat} (q0 : Nat) {ret : Option FieldType} {T : u_T} {N : Nat} {fs st0 : List Value}
    (hM : Con X.l G y bytes maxL ret (rz fr lo) (.ref b :: As) wc (DV W')) (hc : Cond.code y bytes maxL ret ∈ GT) (hi : Cond.initialized y.cls ∈ GT) (hl : Cond.methodLink own index y ∈ GT) (hin : Cond.instanceMethod y ∈ GT) (hse : Cond.selects y.cls y y ∈ GT) (hd : decode cc pc = .ok (.invokevirtual index, 3)) (hst : st0 = As.reverse ++ .ref b :: st) (hy : eY y As.length = true) (hR : eR (rz fr lo) Rm maxL = true) (he : wc[q0]? = some (b, ob ci fs)) (hk : KL[ci]? = some (y.cls, T, N)) (hs : Nat.ble (st.map fun v : Value => v.category).sum 8 = true) (hf : cells ≤ X.R.cells ∧ slots ≤ X.R.slots)
    (kk : EW X G nL cells slots (pc + 3) lv st W') : EW X G nL cells slots pc lv st0 wc :=
  e_cV C hX q0 hM hc hi hl hin hse hd hst hy hR he hk hs hf (fun r u hB => by obtain ⟨rfl, rfl⟩ := hB; exact kk)
theorem e_cSi (C : EC X G own cc nL) {Rm : Room} (hX : X.R = Rm) {wc W' : va_W} {r0 : Int32} {y : MethodName} {fr lo : Nat} {As : List Value} {bytes : ByteArray} {maxL index : Nat} {ret : Option FieldType} {st0 : List Value}
    (hM : Con X.l G y bytes maxL ret (rz fr lo) As wc (DI r0 W')) (hc : Cond.code y bytes maxL ret ∈ GT) (hi : Cond.initialized y.cls ∈ GT) (hl : Cond.methodLink own index y ∈ GT) (hsta : Cond.static y ∈ GT) (hd : decode cc pc = .ok (.invokestatic index, 3)) (hst : st0 = As.reverse ++ st) (hy : eY y As.length = true) (hR : eR (rz fr lo) Rm maxL = true) (hs : Nat.ble (st.map fun v : Value => v.category).sum 8 = true) (hf : cells ≤ X.R.cells ∧ slots ≤ X.R.slots)
    (kk : EW X G nL cells slots (pc + 3) lv (.int r0 :: st) W') : EW X G nL cells slots pc lv st0 wc := by
  subst hst
  have h := e_callS (wr := []) (cells := cells) (slots := slots) (lv := lv) C As hM hc hi hl hsta hd hy (by rw [hX]; exact hR) hs hf (fun r u hB => by rw [List.append_nil]; obtain ⟨rfl, rfl⟩ := hB; exact kk)
  rw [List.append_nil] at h
  exact h
end EVR
end
section
/-! THE STATE. The class's cells 0 .. 20, the rule's from 21 on, each at its address 'a k'; numbers 'v k', contents of arrays 'f k'. -/
/-- numbers: 0 through 1 places 2 accesses 3 fetched 4 writes 5 wentOut | 6 sets 7 width 8 slots | 9 room 10 size (rows) | 11 size 12 lineCount 13 doneCount (asks) | 14 size 15 seenNone (history). Arrays: 2 line 3 has 4 there 5 changed 6 locked | 8 line 9 there 10 changed (rows) | 12 lineOf 13 partOf 14 waiting 15 donePart 16 doneKind | 18 latest 19 seen | 20 kinds -/
def cF (G : EG) (a : Nat → Nat) (v : Nat → Int32) (f : Nat → Nat → Int32) (n V : Nat) (wr : va_W) : va_W :=
  (a 0, ob 0 [.ref (a 1), .ref (a 7), .ref (a 21), .ref (a 11), .ref (a 17), .ref (a 20), .int (v 0), .int (v 1), .int (v 2), .int (v 3), .int (v 4), .int (v 5)]) ::
  (a 1, ob 1 [.int (v 6), .int (v 7), .int (v 8), .ref (a 2), .ref (a 3), .ref (a 4), .ref (a 5), .ref (a 6)]) ::
  (a 2, aI G.2.1 n (f 2)) :: (a 3, aI G.2.2.1 n (f 3)) :: (a 4, aI G.2.1 n (f 4)) :: (a 5, aI G.2.1 n (f 5)) :: (a 6, aI G.2.2.1 n (f 6)) ::
  (a 7, ob 2 [.int (v 9), .ref (a 8), .ref (a 9), .ref (a 10), .int (v 10)]) :: (a 8, aI G.2.1 V (f 8)) :: (a 9, aI G.2.1 V (f 9)) :: (a 10, aI G.2.1 V (f 10)) ::
  (a 11, ob 3 [.ref (a 12), .ref (a 13), .ref (a 14), .ref (a 15), .ref (a 16), .int (v 11), .int (v 12), .int (v 13)]) :: (a 12, aI G.2.1 16 (f 12)) :: (a 13, aI G.2.1 16 (f 13)) :: (a 14, aI G.2.1 4 (f 14)) :: (a 15, aI G.2.1 16 (f 15)) :: (a 16, aI G.2.1 16 (f 16)) ::
  (a 17, ob 4 [.ref (a 18), .ref (a 19), .int (v 14), .int (v 15)]) :: (a 18, aI G.2.1 64 (f 18)) :: (a 19, aI G.2.1 64 (f 19)) :: (a 20, aI G.2.1 5 (f 20)) :: wr
/-- the rule's cells. Numbers: 16 number or leaves, 17 now, 18 beforeAll, 19 x. Arrays: 22 last, mark, tree, age; 23 came, hand; 24 uses -/
def rTime (G : EG) (a : Nat → Nat) (v : Nat → Int32) (f : Nat → Nat → Int32) (n : Nat) : va_W := [(a 21, ob 5 [.int (v 7), .int (v 16), .ref (a 22), .ref (a 23), .ref (a 24), .int (v 17), .int (v 18)]), (a 22, aI G.2.1 n (f 22)), (a 23, aI G.2.1 n (f 23)), (a 24, aI G.2.1 n (f 24))]
def rChance (a : Nat → Nat) (v : Nat → Int32) : va_W := [(a 21, ob 6 [.int (v 7), .int (v 19)])]
def rRound (G : EG) (a : Nat → Nat) (v : Nat → Int32) (f : Nat → Nat → Int32) (n S : Nat) : va_W := [(a 21, ob 7 [.int (v 7), .ref (a 22), .ref (a 23)]), (a 22, aI G.2.2.1 n (f 22)), (a 23, aI G.2.1 S (f 23))]
def rTree (G : EG) (a : Nat → Nat) (v : Nat → Int32) (f : Nat → Nat → Int32) (S : Nat) : va_W := [(a 21, ob 8 [.int (v 7), .int (v 16), .ref (a 22)]), (a 22, aI G.2.1 S (f 22))]
def rLately (G : EG) (a : Nat → Nat) (v : Nat → Int32) (f : Nat → Nat → Int32) (n : Nat) : va_W := [(a 21, ob 9 [.int (v 7), .ref (a 22)]), (a 22, aI G.2.2.1 n (f 22))]
def rAge (G : EG) (a : Nat → Nat) (v : Nat → Int32) (f : Nat → Nat → Int32) (n : Nat) : va_W := [(a 21, ob 10 [.int (v 7), .ref (a 22)]), (a 22, aI G.2.1 n (f 22))]
/-- the reference's cells: its object, then its arrays in the order of the fields; numbers and arrays by the field's place (object: 'a 40') -/
def mF (G : EG) (a : Nat → Nat) (v : Nat → Int32) (f : Nat → Nat → Int32) : va_W :=
  [(a 40, ob 11 [.int (v 0), .int (v 1), .int (v 2), .int (v 3), .int (v 4), .int (v 5), .int (v 6), .ref (a 7), .ref (a 8), .ref (a 9), .ref (a 10), .ref (a 11), .int (v 12), .ref (a 13), .ref (a 14), .ref (a 15), .ref (a 16), .ref (a 17), .ref (a 18), .ref (a 19), .int (v 20), .int (v 21), .ref (a 22), .ref (a 23), .ref (a 24), .int (v 25), .ref (a 26), .ref (a 27), .int (v 28), .ref (a 29), .ref (a 30), .int (v 31), .ref (a 32), .ref (a 33), .ref (a 34), .ref (a 35)]),
   (a 7, aI G.2.2.1 128 (f 7)), (a 8, aI G.2.1 128 (f 8)), (a 9, aI G.2.1 128 (f 9)), (a 10, aI G.2.1 128 (f 10)), (a 11, aI G.2.2.1 128 (f 11)), (a 13, aI G.2.1 128 (f 13)), (a 14, aI G.2.1 128 (f 14)), (a 15, aI G.2.1 128 (f 15)), (a 16, aI G.2.2.1 128 (f 16)), (a 17, aI G.2.1 128 (f 17)), (a 18, aI G.2.1 16 (f 18)), (a 19, aI G.2.2.1 128 (f 19)), (a 22, aI G.2.1 5 (f 22)), (a 23, aI G.2.1 5 (f 23)), (a 24, aI G.2.1 5 (f 24)), (a 26, aI G.2.1 16 (f 26)), (a 27, aI G.2.1 16 (f 27)), (a 29, aI G.2.1 16 (f 29)), (a 30, aI G.2.1 16 (f 30)), (a 32, aI G.2.1 65 (f 32)), (a 33, aI G.2.1 65 (f 33)), (a 34, aI G.2.1 9 (f 34)), (a 35, aI G.2.2.1 8 (f 35))]
/-- an array of the state exchanged -/
def up2 (f : Nat → Nat → Int32) (k : Nat) (g : Nat → Int32) : Nat → Nat → Int32 := fun j => if j = k then g else f j
/-- the first place from k on, of m places, that has P -/
def fst1 (P : Nat → Bool) : Nat → Nat → Option Nat
  | _, 0 => none
  | k, m + 1 => if P k then some k else fst1 P (k + 1) m
/-- the last one -/
def lst1 (P : Nat → Bool) : Nat → Nat → Option Nat
  | _, 0 => none
  | k, m + 1 => if P (k + m) then some (k + m) else lst1 P k m
def oI : Option Nat → Int32
  | none => -1
  | some k => nI k
def bI (b : Bool) : Int32 := if b then 1 else 0
/-- the class's sizes: S sets of wd ways -/
def CD (v : Nat → Int32) (S wd : Nat) : Prop := v 6 = nI S ∧ v 7 = nI wd ∧ v 8 = nI (S * wd) ∧ (∃ k, k ≤ 4 ∧ S = 2 ^ k) ∧ 1 ≤ wd ∧ wd ≤ 8
/-- a line's set -/
def sN (S : Nat) (x : Int32) : Nat := x.toBitVec.toNat % S
theorem CD.S16 {v : Nat → Int32} {S wd : Nat} (h : CD v S wd) : 1 ≤ S ∧ S ≤ 16 := by
  obtain ⟨-, -, -, ⟨k, hk, rfl⟩, -⟩ := h
  rcases (by omega : k = 0 ∨ k = 1 ∨ k = 2 ∨ k = 3 ∨ k = 4) with rfl | rfl | rfl | rfl | rfl <;> decide
theorem CD.n128 {v : Nat → Int32} {S wd : Nat} (h : CD v S wd) : S * wd ≤ 128 := by
  have h1 := h.S16
  obtain ⟨-, -, -, -, h2, h3⟩ := h
  calc S * wd ≤ 16 * 8 := Nat.mul_le_mul h1.2 h3
    _ = 128 := rfl
theorem sN_lt {v : Nat → Int32} {S wd : Nat} (h : CD v S wd) (x : Int32) : sN S x < S := Nat.mod_lt _ h.S16.1
theorem slot_lt {S wd s w : Nat} (hs : s < S) (hw : w < wd) : s * wd + w < S * wd := by
  calc s * wd + w < s * wd + wd := by omega
    _ = (s + 1) * wd := by rw [Nat.succ_mul]
    _ ≤ S * wd := Nat.mul_le_mul_right _ hs
theorem setOf_eq {v : Nat → Int32} {S wd : Nat} (h : CD v S wd) (x : Int32) : x &&& (v 6 - 1) = nI (sN S x) := by
  obtain ⟨h6, -, -, ⟨k, hk, rfl⟩, -⟩ := h
  rw [h6]
  refine pk_and x k ?_
  rcases (by omega : k = 0 ∨ k = 1 ∨ k = 2 ∨ k = 3 ∨ k = 4) with rfl | rfl | rfl | rfl | rfl <;> decide +kernel
theorem fst1_some {P : Nat → Bool} : ∀ {m k j : Nat}, fst1 P k m = some j → k ≤ j ∧ j < k + m ∧ P j = true
  | 0, _, _, h => by cases h
  | m + 1, k, j, h => by
    unfold fst1 at h
    by_cases hp : P k = true
    · rw [if_pos hp] at h
      cases h
      exact ⟨Nat.le_refl _, by omega, hp⟩
    · rw [if_neg hp] at h
      obtain ⟨h1, h2, h3⟩ := fst1_some h
      exact ⟨by omega, by omega, h3⟩
/-- shifted down by one, from lo to hi -/
def shf (g : Nat → Int32) (lo hi : Nat) : Nat → Int32 := fun j => if lo ≤ j ∧ j < hi then g (j + 1) else g j
theorem shf_0 (g : Nat → Int32) (lo : Nat) : shf g lo lo = g := by
  funext j
  unfold shf
  rw [if_neg (by omega)]
theorem shf_s {g : Nat → Int32} {lo k : Nat} (h : lo ≤ k) : shf g lo (k + 1) = upd (shf g lo k) k (shf g lo k (k + 1)) := by
  funext j
  by_cases hj : j = k
  · subst hj
    rw [pk_us]
    unfold shf
    rw [if_pos (by omega), if_neg (by omega)]
  · rw [pk_un hj]
    unfold shf
    by_cases h2 : lo ≤ j ∧ j < k
    · rw [if_pos (by omega), if_pos h2]
    · rw [if_neg (by omega), if_neg h2]
/-- shifted up by one, behind lo up to hi -/
def shu (g : Nat → Int32) (lo hi : Nat) : Nat → Int32 := fun j => if lo < j ∧ j ≤ hi then g (j - 1) else g j
theorem shu_0 (g : Nat → Int32) (hi : Nat) : shu g hi hi = g := by
  funext j
  unfold shu
  rw [if_neg (by omega)]
theorem shu_s {g : Nat → Int32} {k hi : Nat} (h : k + 1 ≤ hi) : shu g k hi = upd (shu g (k + 1) hi) (k + 1) (shu g (k + 1) hi k) := by
  funext j
  by_cases hj : j = k + 1
  · subst hj
    rw [pk_us]
    unfold shu
    rw [if_pos (by omega), if_neg (by omega)]
    rfl
  · rw [pk_un hj]
    unfold shu
    by_cases h2 : k + 1 < j ∧ j ≤ hi
    · rw [if_pos (by omega), if_pos h2]
    · rw [if_neg (by omega), if_neg h2]
/-- a sum that grows -/
def accF (g : Nat → Int32) : Int32 → Nat → Nat → Int32
  | s, _, 0 => s
  | s, k, m + 1 => accF g (s + g k) (k + 1) m
theorem up2_s (f : Nat → Nat → Int32) (k : Nat) (g : Nat → Int32) : up2 f k g k = g := by simp [up2]
theorem up2_n {f : Nat → Nat → Int32} {k j : Nat} (g : Nat → Int32) (h : j ≠ k) : up2 f k g j = f j := by simp [up2, h]
/-- the best one among those that are not barred, from k on, m of them; b is the best one so far -/
def pickB (lk : Nat → Bool) (better : Nat → Nat → Bool) : Option Nat → Nat → Nat → Option Nat
  | b, _, 0 => b
  | b, k, m + 1 => pickB lk better (if lk k then b else match b with
    | none => some k
    | some j => if better k j then some k else some j) (k + 1) m
theorem upd_uu (f : Nat → Int32) (k : Nat) (x y : Int32) : upd (upd f k x) k y = upd f k y := by
  funext j
  by_cases hj : j = k <;> simp [upd, hj]
end
section
/-! THE JDK's own -/
theorem ey_Integer_bitCount : eY y_Integer_bitCount 1 = true := by decide +kernel
theorem d_Integer_bitCount_0 : decode c_Integer_bitCount 0 = .ok (.iload_n 0, 1) := by decide +kernel
theorem d_Integer_bitCount_1 : decode c_Integer_bitCount 1 = .ok (.iload_n 0, 1) := by decide +kernel
theorem d_Integer_bitCount_2 : decode c_Integer_bitCount 2 = .ok (.iconst 1, 1) := by decide +kernel
theorem d_Integer_bitCount_3 : decode c_Integer_bitCount 3 = .ok (.iushr, 1) := by decide +kernel
theorem d_Integer_bitCount_4 : decode c_Integer_bitCount 4 = .ok (.ldc_w 265, 3) := by decide +kernel
theorem d_Integer_bitCount_7 : decode c_Integer_bitCount 7 = .ok (.iand, 1) := by decide +kernel
theorem d_Integer_bitCount_8 : decode c_Integer_bitCount 8 = .ok (.isub, 1) := by decide +kernel
theorem d_Integer_bitCount_9 : decode c_Integer_bitCount 9 = .ok (.istore_n 0, 1) := by decide +kernel
theorem d_Integer_bitCount_10 : decode c_Integer_bitCount 10 = .ok (.iload_n 0, 1) := by decide +kernel
theorem d_Integer_bitCount_11 : decode c_Integer_bitCount 11 = .ok (.ldc_w 266, 3) := by decide +kernel
theorem d_Integer_bitCount_14 : decode c_Integer_bitCount 14 = .ok (.iand, 1) := by decide +kernel
theorem d_Integer_bitCount_15 : decode c_Integer_bitCount 15 = .ok (.iload_n 0, 1) := by decide +kernel
theorem d_Integer_bitCount_16 : decode c_Integer_bitCount 16 = .ok (.iconst 2, 1) := by decide +kernel
theorem d_Integer_bitCount_17 : decode c_Integer_bitCount 17 = .ok (.iushr, 1) := by decide +kernel
theorem d_Integer_bitCount_18 : decode c_Integer_bitCount 18 = .ok (.ldc_w 266, 3) := by decide +kernel
theorem d_Integer_bitCount_21 : decode c_Integer_bitCount 21 = .ok (.iand, 1) := by decide +kernel
theorem d_Integer_bitCount_22 : decode c_Integer_bitCount 22 = .ok (.iadd, 1) := by decide +kernel
theorem d_Integer_bitCount_23 : decode c_Integer_bitCount 23 = .ok (.istore_n 0, 1) := by decide +kernel
theorem d_Integer_bitCount_24 : decode c_Integer_bitCount 24 = .ok (.iload_n 0, 1) := by decide +kernel
theorem d_Integer_bitCount_25 : decode c_Integer_bitCount 25 = .ok (.iload_n 0, 1) := by decide +kernel
theorem d_Integer_bitCount_26 : decode c_Integer_bitCount 26 = .ok (.iconst 4, 1) := by decide +kernel
theorem d_Integer_bitCount_27 : decode c_Integer_bitCount 27 = .ok (.iushr, 1) := by decide +kernel
theorem d_Integer_bitCount_28 : decode c_Integer_bitCount 28 = .ok (.iadd, 1) := by decide +kernel
theorem d_Integer_bitCount_29 : decode c_Integer_bitCount 29 = .ok (.ldc_w 267, 3) := by decide +kernel
theorem d_Integer_bitCount_32 : decode c_Integer_bitCount 32 = .ok (.iand, 1) := by decide +kernel
theorem d_Integer_bitCount_33 : decode c_Integer_bitCount 33 = .ok (.istore_n 0, 1) := by decide +kernel
theorem d_Integer_bitCount_34 : decode c_Integer_bitCount 34 = .ok (.iload_n 0, 1) := by decide +kernel
theorem d_Integer_bitCount_35 : decode c_Integer_bitCount 35 = .ok (.iload_n 0, 1) := by decide +kernel
theorem d_Integer_bitCount_36 : decode c_Integer_bitCount 36 = .ok (.bipush 8, 2) := by decide +kernel
theorem d_Integer_bitCount_38 : decode c_Integer_bitCount 38 = .ok (.iushr, 1) := by decide +kernel
theorem d_Integer_bitCount_39 : decode c_Integer_bitCount 39 = .ok (.iadd, 1) := by decide +kernel
theorem d_Integer_bitCount_40 : decode c_Integer_bitCount 40 = .ok (.istore_n 0, 1) := by decide +kernel
theorem d_Integer_bitCount_41 : decode c_Integer_bitCount 41 = .ok (.iload_n 0, 1) := by decide +kernel
theorem d_Integer_bitCount_42 : decode c_Integer_bitCount 42 = .ok (.iload_n 0, 1) := by decide +kernel
theorem d_Integer_bitCount_43 : decode c_Integer_bitCount 43 = .ok (.bipush 16, 2) := by decide +kernel
theorem d_Integer_bitCount_45 : decode c_Integer_bitCount 45 = .ok (.iushr, 1) := by decide +kernel
theorem d_Integer_bitCount_46 : decode c_Integer_bitCount 46 = .ok (.iadd, 1) := by decide +kernel
theorem d_Integer_bitCount_47 : decode c_Integer_bitCount 47 = .ok (.istore_n 0, 1) := by decide +kernel
theorem d_Integer_bitCount_48 : decode c_Integer_bitCount 48 = .ok (.iload_n 0, 1) := by decide +kernel
theorem d_Integer_bitCount_49 : decode c_Integer_bitCount 49 = .ok (.bipush 63, 2) := by decide +kernel
theorem d_Integer_bitCount_51 : decode c_Integer_bitCount 51 = .ok (.iand, 1) := by decide +kernel
theorem d_Integer_bitCount_52 : decode c_Integer_bitCount 52 = .ok (.ireturn, 1) := by decide +kernel
/-- how many of four bits are set -/
def pop4 (j : Nat) : Nat := j % 2 + j / 2 % 2 + j / 4 % 2 + j / 8 % 2
set_option maxRecDepth 100000 in
theorem k_bitCount {l : Launch} {G : EG} {ws : va_W} {j : Nat} (hj : j < 16) : Con l G y_Integer_bitCount c_Integer_bitCount 1 (some .int) (rz 0 0) [.int (nI j)] ws (DI (nI (pop4 j)) ws) := by
  refine Con.of rfl rfl (fun X C E hR hl hn => ?_)
  refine e_iload_n C d_Integer_bitCount_0 rfl ?_
  refine e_iload_n C d_Integer_bitCount_1 rfl ?_
  refine e_iconst C d_Integer_bitCount_2 (v := 1) (by decide) ?_
  refine e_iushr C d_Integer_bitCount_3 rfl ?_
  refine e_ldcw C g332 d_Integer_bitCount_4 ?_
  refine e_iand C d_Integer_bitCount_7 ?_
  refine e_isub C d_Integer_bitCount_8 ?_
  refine e_istore_n C d_Integer_bitCount_9 rfl ?_
  refine e_iload_n C d_Integer_bitCount_10 rfl ?_
  refine e_ldcw C g333 d_Integer_bitCount_11 ?_
  refine e_iand C d_Integer_bitCount_14 ?_
  refine e_iload_n C d_Integer_bitCount_15 rfl ?_
  refine e_iconst C d_Integer_bitCount_16 (v := 2) (by decide) ?_
  refine e_iushr C d_Integer_bitCount_17 rfl ?_
  refine e_ldcw C g333 d_Integer_bitCount_18 ?_
  refine e_iand C d_Integer_bitCount_21 ?_
  refine e_iadd C d_Integer_bitCount_22 ?_
  refine e_istore_n C d_Integer_bitCount_23 rfl ?_
  refine e_iload_n C d_Integer_bitCount_24 rfl ?_
  refine e_iload_n C d_Integer_bitCount_25 rfl ?_
  refine e_iconst C d_Integer_bitCount_26 (v := 4) (by decide) ?_
  refine e_iushr C d_Integer_bitCount_27 rfl ?_
  refine e_iadd C d_Integer_bitCount_28 ?_
  refine e_ldcw C g334 d_Integer_bitCount_29 ?_
  refine e_iand C d_Integer_bitCount_32 ?_
  refine e_istore_n C d_Integer_bitCount_33 rfl ?_
  refine e_iload_n C d_Integer_bitCount_34 rfl ?_
  refine e_iload_n C d_Integer_bitCount_35 rfl ?_
  refine e_bipush C d_Integer_bitCount_36 (v := 8) (by decide) ?_
  refine e_iushr C d_Integer_bitCount_38 rfl ?_
  refine e_iadd C d_Integer_bitCount_39 ?_
  refine e_istore_n C d_Integer_bitCount_40 rfl ?_
  refine e_iload_n C d_Integer_bitCount_41 rfl ?_
  refine e_iload_n C d_Integer_bitCount_42 rfl ?_
  refine e_bipush C d_Integer_bitCount_43 (v := 16) (by decide) ?_
  refine e_iushr C d_Integer_bitCount_45 rfl ?_
  refine e_iadd C d_Integer_bitCount_46 ?_
  refine e_istore_n C d_Integer_bitCount_47 rfl ?_
  refine e_iload_n C d_Integer_bitCount_48 rfl ?_
  refine e_bipush C d_Integer_bitCount_49 (v := 63) (by decide) ?_
  refine e_iand C d_Integer_bitCount_51 ?_
  refine e_top (y := nI (pop4 j)) ?_ ?_
  · clear E C hR hl hn X
    revert j
    decide +kernel
  exact e_iret C E d_Integer_bitCount_52 (Nat.le_refl _) (Nat.le_refl _) rfl ⟨rfl, rfl⟩
end
section
/-! WAYS -/
theorem ey_Ways_setOf : eY y_Ways_setOf 1 = true := by decide +kernel
theorem d_Ways_setOf_0 : decode c_Ways_setOf 0 = .ok (.iload_n 1, 1) := by decide +kernel
theorem d_Ways_setOf_1 : decode c_Ways_setOf 1 = .ok (.aload_n 0, 1) := by decide +kernel
theorem d_Ways_setOf_2 : decode c_Ways_setOf 2 = .ok (.getfield 9, 3) := by decide +kernel
theorem d_Ways_setOf_5 : decode c_Ways_setOf 5 = .ok (.iconst 1, 1) := by decide +kernel
theorem d_Ways_setOf_6 : decode c_Ways_setOf 6 = .ok (.isub, 1) := by decide +kernel
theorem d_Ways_setOf_7 : decode c_Ways_setOf 7 = .ok (.iand, 1) := by decide +kernel
theorem d_Ways_setOf_8 : decode c_Ways_setOf 8 = .ok (.ireturn, 1) := by decide +kernel
theorem ey_Ways_find : eY y_Ways_find 1 = true := by decide +kernel
theorem d_Ways_find_0 : decode c_Ways_find 0 = .ok (.aload_n 0, 1) := by decide +kernel
theorem d_Ways_find_1 : decode c_Ways_find 1 = .ok (.iload_n 1, 1) := by decide +kernel
theorem d_Ways_find_2 : decode c_Ways_find 2 = .ok (.invokevirtual 38, 3) := by decide +kernel
theorem d_Ways_find_5 : decode c_Ways_find 5 = .ok (.aload_n 0, 1) := by decide +kernel
theorem d_Ways_find_6 : decode c_Ways_find 6 = .ok (.getfield 15, 3) := by decide +kernel
theorem d_Ways_find_9 : decode c_Ways_find 9 = .ok (.imul, 1) := by decide +kernel
theorem d_Ways_find_10 : decode c_Ways_find 10 = .ok (.istore_n 2, 1) := by decide +kernel
theorem d_Ways_find_11 : decode c_Ways_find 11 = .ok (.iload_n 2, 1) := by decide +kernel
theorem d_Ways_find_12 : decode c_Ways_find 12 = .ok (.istore_n 3, 1) := by decide +kernel
theorem d_Ways_find_13 : decode c_Ways_find 13 = .ok (.iload_n 3, 1) := by decide +kernel
theorem d_Ways_find_14 : decode c_Ways_find 14 = .ok (.iload_n 2, 1) := by decide +kernel
theorem d_Ways_find_15 : decode c_Ways_find 15 = .ok (.aload_n 0, 1) := by decide +kernel
theorem d_Ways_find_16 : decode c_Ways_find 16 = .ok (.getfield 15, 3) := by decide +kernel
theorem d_Ways_find_19 : decode c_Ways_find 19 = .ok (.iadd, 1) := by decide +kernel
theorem d_Ways_find_20 : decode c_Ways_find 20 = .ok (.if_icmp .ge 30, 3) := by decide +kernel
theorem d_Ways_find_23 : decode c_Ways_find 23 = .ok (.aload_n 0, 1) := by decide +kernel
theorem d_Ways_find_24 : decode c_Ways_find 24 = .ok (.getfield 25, 3) := by decide +kernel
theorem d_Ways_find_27 : decode c_Ways_find 27 = .ok (.iload_n 3, 1) := by decide +kernel
theorem d_Ways_find_28 : decode c_Ways_find 28 = .ok (.baload, 1) := by decide +kernel
theorem d_Ways_find_29 : decode c_Ways_find 29 = .ok (.ifCond .eq 15, 3) := by decide +kernel
theorem d_Ways_find_32 : decode c_Ways_find 32 = .ok (.aload_n 0, 1) := by decide +kernel
theorem d_Ways_find_33 : decode c_Ways_find 33 = .ok (.getfield 21, 3) := by decide +kernel
theorem d_Ways_find_36 : decode c_Ways_find 36 = .ok (.iload_n 3, 1) := by decide +kernel
theorem d_Ways_find_37 : decode c_Ways_find 37 = .ok (.iaload, 1) := by decide +kernel
theorem d_Ways_find_38 : decode c_Ways_find 38 = .ok (.iload_n 1, 1) := by decide +kernel
theorem d_Ways_find_39 : decode c_Ways_find 39 = .ok (.if_icmp .ne 5, 3) := by decide +kernel
theorem d_Ways_find_42 : decode c_Ways_find 42 = .ok (.iload_n 3, 1) := by decide +kernel
theorem d_Ways_find_43 : decode c_Ways_find 43 = .ok (.ireturn, 1) := by decide +kernel
theorem d_Ways_find_44 : decode c_Ways_find 44 = .ok (.iinc 3 1, 3) := by decide +kernel
theorem d_Ways_find_47 : decode c_Ways_find 47 = .ok (.goto (-34), 3) := by decide +kernel
theorem d_Ways_find_50 : decode c_Ways_find 50 = .ok (.iconst (-1), 1) := by decide +kernel
theorem d_Ways_find_51 : decode c_Ways_find 51 = .ok (.ireturn, 1) := by decide +kernel
theorem ey_Ways_emptyWay : eY y_Ways_emptyWay 1 = true := by decide +kernel
theorem d_Ways_emptyWay_0 : decode c_Ways_emptyWay 0 = .ok (.iconst 0, 1) := by decide +kernel
theorem d_Ways_emptyWay_1 : decode c_Ways_emptyWay 1 = .ok (.istore_n 2, 1) := by decide +kernel
theorem d_Ways_emptyWay_2 : decode c_Ways_emptyWay 2 = .ok (.iload_n 2, 1) := by decide +kernel
theorem d_Ways_emptyWay_3 : decode c_Ways_emptyWay 3 = .ok (.aload_n 0, 1) := by decide +kernel
theorem d_Ways_emptyWay_4 : decode c_Ways_emptyWay 4 = .ok (.getfield 15, 3) := by decide +kernel
theorem d_Ways_emptyWay_7 : decode c_Ways_emptyWay 7 = .ok (.if_icmp .ge 27, 3) := by decide +kernel
theorem d_Ways_emptyWay_10 : decode c_Ways_emptyWay 10 = .ok (.aload_n 0, 1) := by decide +kernel
theorem d_Ways_emptyWay_11 : decode c_Ways_emptyWay 11 = .ok (.getfield 25, 3) := by decide +kernel
theorem d_Ways_emptyWay_14 : decode c_Ways_emptyWay 14 = .ok (.iload_n 1, 1) := by decide +kernel
theorem d_Ways_emptyWay_15 : decode c_Ways_emptyWay 15 = .ok (.aload_n 0, 1) := by decide +kernel
theorem d_Ways_emptyWay_16 : decode c_Ways_emptyWay 16 = .ok (.getfield 15, 3) := by decide +kernel
theorem d_Ways_emptyWay_19 : decode c_Ways_emptyWay 19 = .ok (.imul, 1) := by decide +kernel
theorem d_Ways_emptyWay_20 : decode c_Ways_emptyWay 20 = .ok (.iload_n 2, 1) := by decide +kernel
theorem d_Ways_emptyWay_21 : decode c_Ways_emptyWay 21 = .ok (.iadd, 1) := by decide +kernel
theorem d_Ways_emptyWay_22 : decode c_Ways_emptyWay 22 = .ok (.baload, 1) := by decide +kernel
theorem d_Ways_emptyWay_23 : decode c_Ways_emptyWay 23 = .ok (.ifCond .ne 5, 3) := by decide +kernel
theorem d_Ways_emptyWay_26 : decode c_Ways_emptyWay 26 = .ok (.iload_n 2, 1) := by decide +kernel
theorem d_Ways_emptyWay_27 : decode c_Ways_emptyWay 27 = .ok (.ireturn, 1) := by decide +kernel
theorem d_Ways_emptyWay_28 : decode c_Ways_emptyWay 28 = .ok (.iinc 2 1, 3) := by decide +kernel
theorem d_Ways_emptyWay_31 : decode c_Ways_emptyWay 31 = .ok (.goto (-29), 3) := by decide +kernel
theorem d_Ways_emptyWay_34 : decode c_Ways_emptyWay 34 = .ok (.iconst (-1), 1) := by decide +kernel
theorem d_Ways_emptyWay_35 : decode c_Ways_emptyWay 35 = .ok (.ireturn, 1) := by decide +kernel
theorem ey_Ways_allLocked : eY y_Ways_allLocked 1 = true := by decide +kernel
theorem d_Ways_allLocked_0 : decode c_Ways_allLocked 0 = .ok (.iconst 0, 1) := by decide +kernel
theorem d_Ways_allLocked_1 : decode c_Ways_allLocked 1 = .ok (.istore_n 2, 1) := by decide +kernel
theorem d_Ways_allLocked_2 : decode c_Ways_allLocked 2 = .ok (.iload_n 2, 1) := by decide +kernel
theorem d_Ways_allLocked_3 : decode c_Ways_allLocked 3 = .ok (.aload_n 0, 1) := by decide +kernel
theorem d_Ways_allLocked_4 : decode c_Ways_allLocked 4 = .ok (.getfield 15, 3) := by decide +kernel
theorem d_Ways_allLocked_7 : decode c_Ways_allLocked 7 = .ok (.if_icmp .ge 27, 3) := by decide +kernel
theorem d_Ways_allLocked_10 : decode c_Ways_allLocked 10 = .ok (.aload_n 0, 1) := by decide +kernel
theorem d_Ways_allLocked_11 : decode c_Ways_allLocked 11 = .ok (.getfield 35, 3) := by decide +kernel
theorem d_Ways_allLocked_14 : decode c_Ways_allLocked 14 = .ok (.iload_n 1, 1) := by decide +kernel
theorem d_Ways_allLocked_15 : decode c_Ways_allLocked 15 = .ok (.aload_n 0, 1) := by decide +kernel
theorem d_Ways_allLocked_16 : decode c_Ways_allLocked 16 = .ok (.getfield 15, 3) := by decide +kernel
theorem d_Ways_allLocked_19 : decode c_Ways_allLocked 19 = .ok (.imul, 1) := by decide +kernel
theorem d_Ways_allLocked_20 : decode c_Ways_allLocked 20 = .ok (.iload_n 2, 1) := by decide +kernel
theorem d_Ways_allLocked_21 : decode c_Ways_allLocked 21 = .ok (.iadd, 1) := by decide +kernel
theorem d_Ways_allLocked_22 : decode c_Ways_allLocked 22 = .ok (.baload, 1) := by decide +kernel
theorem d_Ways_allLocked_23 : decode c_Ways_allLocked 23 = .ok (.ifCond .ne 5, 3) := by decide +kernel
theorem d_Ways_allLocked_26 : decode c_Ways_allLocked 26 = .ok (.iconst 0, 1) := by decide +kernel
theorem d_Ways_allLocked_27 : decode c_Ways_allLocked 27 = .ok (.ireturn, 1) := by decide +kernel
theorem d_Ways_allLocked_28 : decode c_Ways_allLocked 28 = .ok (.iinc 2 1, 3) := by decide +kernel
theorem d_Ways_allLocked_31 : decode c_Ways_allLocked 31 = .ok (.goto (-29), 3) := by decide +kernel
theorem d_Ways_allLocked_34 : decode c_Ways_allLocked 34 = .ok (.iconst 1, 1) := by decide +kernel
theorem d_Ways_allLocked_35 : decode c_Ways_allLocked 35 = .ok (.ireturn, 1) := by decide +kernel
theorem ey_Ways_put : eY y_Ways_put 4 = true := by decide +kernel
theorem d_Ways_put_0 : decode c_Ways_put 0 = .ok (.aload_n 0, 1) := by decide +kernel
theorem d_Ways_put_1 : decode c_Ways_put 1 = .ok (.getfield 21, 3) := by decide +kernel
theorem d_Ways_put_4 : decode c_Ways_put 4 = .ok (.iload_n 1, 1) := by decide +kernel
theorem d_Ways_put_5 : decode c_Ways_put 5 = .ok (.iload_n 2, 1) := by decide +kernel
theorem d_Ways_put_6 : decode c_Ways_put 6 = .ok (.iastore, 1) := by decide +kernel
theorem d_Ways_put_7 : decode c_Ways_put 7 = .ok (.aload_n 0, 1) := by decide +kernel
theorem d_Ways_put_8 : decode c_Ways_put 8 = .ok (.getfield 25, 3) := by decide +kernel
theorem d_Ways_put_11 : decode c_Ways_put 11 = .ok (.iload_n 1, 1) := by decide +kernel
theorem d_Ways_put_12 : decode c_Ways_put 12 = .ok (.iconst 1, 1) := by decide +kernel
theorem d_Ways_put_13 : decode c_Ways_put 13 = .ok (.bastore, 1) := by decide +kernel
theorem d_Ways_put_14 : decode c_Ways_put 14 = .ok (.aload_n 0, 1) := by decide +kernel
theorem d_Ways_put_15 : decode c_Ways_put 15 = .ok (.getfield 29, 3) := by decide +kernel
theorem d_Ways_put_18 : decode c_Ways_put 18 = .ok (.iload_n 1, 1) := by decide +kernel
theorem d_Ways_put_19 : decode c_Ways_put 19 = .ok (.iload_n 3, 1) := by decide +kernel
theorem d_Ways_put_20 : decode c_Ways_put 20 = .ok (.iastore, 1) := by decide +kernel
theorem d_Ways_put_21 : decode c_Ways_put 21 = .ok (.aload_n 0, 1) := by decide +kernel
theorem d_Ways_put_22 : decode c_Ways_put 22 = .ok (.getfield 32, 3) := by decide +kernel
theorem d_Ways_put_25 : decode c_Ways_put 25 = .ok (.iload_n 1, 1) := by decide +kernel
theorem d_Ways_put_26 : decode c_Ways_put 26 = .ok (.iload 4, 2) := by decide +kernel
theorem d_Ways_put_28 : decode c_Ways_put 28 = .ok (.iastore, 1) := by decide +kernel
theorem d_Ways_put_29 : decode c_Ways_put 29 = .ok (.return_, 1) := by decide +kernel
theorem ey_Ways_empty : eY y_Ways_empty 1 = true := by decide +kernel
theorem d_Ways_empty_0 : decode c_Ways_empty 0 = .ok (.aload_n 0, 1) := by decide +kernel
theorem d_Ways_empty_1 : decode c_Ways_empty 1 = .ok (.getfield 21, 3) := by decide +kernel
theorem d_Ways_empty_4 : decode c_Ways_empty 4 = .ok (.iload_n 1, 1) := by decide +kernel
theorem d_Ways_empty_5 : decode c_Ways_empty 5 = .ok (.iconst 0, 1) := by decide +kernel
theorem d_Ways_empty_6 : decode c_Ways_empty 6 = .ok (.iastore, 1) := by decide +kernel
theorem d_Ways_empty_7 : decode c_Ways_empty 7 = .ok (.aload_n 0, 1) := by decide +kernel
theorem d_Ways_empty_8 : decode c_Ways_empty 8 = .ok (.getfield 25, 3) := by decide +kernel
theorem d_Ways_empty_11 : decode c_Ways_empty 11 = .ok (.iload_n 1, 1) := by decide +kernel
theorem d_Ways_empty_12 : decode c_Ways_empty 12 = .ok (.iconst 0, 1) := by decide +kernel
theorem d_Ways_empty_13 : decode c_Ways_empty 13 = .ok (.bastore, 1) := by decide +kernel
theorem d_Ways_empty_14 : decode c_Ways_empty 14 = .ok (.aload_n 0, 1) := by decide +kernel
theorem d_Ways_empty_15 : decode c_Ways_empty 15 = .ok (.getfield 29, 3) := by decide +kernel
theorem d_Ways_empty_18 : decode c_Ways_empty 18 = .ok (.iload_n 1, 1) := by decide +kernel
theorem d_Ways_empty_19 : decode c_Ways_empty 19 = .ok (.iconst 0, 1) := by decide +kernel
theorem d_Ways_empty_20 : decode c_Ways_empty 20 = .ok (.iastore, 1) := by decide +kernel
theorem d_Ways_empty_21 : decode c_Ways_empty 21 = .ok (.aload_n 0, 1) := by decide +kernel
theorem d_Ways_empty_22 : decode c_Ways_empty 22 = .ok (.getfield 32, 3) := by decide +kernel
theorem d_Ways_empty_25 : decode c_Ways_empty 25 = .ok (.iload_n 1, 1) := by decide +kernel
theorem d_Ways_empty_26 : decode c_Ways_empty 26 = .ok (.iconst 0, 1) := by decide +kernel
theorem d_Ways_empty_27 : decode c_Ways_empty 27 = .ok (.iastore, 1) := by decide +kernel
theorem d_Ways_empty_28 : decode c_Ways_empty 28 = .ok (.aload_n 0, 1) := by decide +kernel
theorem d_Ways_empty_29 : decode c_Ways_empty 29 = .ok (.getfield 35, 3) := by decide +kernel
theorem d_Ways_empty_32 : decode c_Ways_empty 32 = .ok (.iload_n 1, 1) := by decide +kernel
theorem d_Ways_empty_33 : decode c_Ways_empty 33 = .ok (.iconst 0, 1) := by decide +kernel
theorem d_Ways_empty_34 : decode c_Ways_empty 34 = .ok (.bastore, 1) := by decide +kernel
theorem d_Ways_empty_35 : decode c_Ways_empty 35 = .ok (.return_, 1) := by decide +kernel
theorem ey_Ways_cleanSlot : eY y_Ways_cleanSlot 1 = true := by decide +kernel
theorem d_Ways_cleanSlot_0 : decode c_Ways_cleanSlot 0 = .ok (.aload_n 0, 1) := by decide +kernel
theorem d_Ways_cleanSlot_1 : decode c_Ways_cleanSlot 1 = .ok (.getfield 32, 3) := by decide +kernel
theorem d_Ways_cleanSlot_4 : decode c_Ways_cleanSlot 4 = .ok (.iload_n 1, 1) := by decide +kernel
theorem d_Ways_cleanSlot_5 : decode c_Ways_cleanSlot 5 = .ok (.iaload, 1) := by decide +kernel
theorem d_Ways_cleanSlot_6 : decode c_Ways_cleanSlot 6 = .ok (.invokestatic 42, 3) := by decide +kernel
theorem d_Ways_cleanSlot_9 : decode c_Ways_cleanSlot 9 = .ok (.istore_n 2, 1) := by decide +kernel
theorem d_Ways_cleanSlot_10 : decode c_Ways_cleanSlot 10 = .ok (.aload_n 0, 1) := by decide +kernel
theorem d_Ways_cleanSlot_11 : decode c_Ways_cleanSlot 11 = .ok (.getfield 32, 3) := by decide +kernel
theorem d_Ways_cleanSlot_14 : decode c_Ways_cleanSlot 14 = .ok (.iload_n 1, 1) := by decide +kernel
theorem d_Ways_cleanSlot_15 : decode c_Ways_cleanSlot 15 = .ok (.iconst 0, 1) := by decide +kernel
theorem d_Ways_cleanSlot_16 : decode c_Ways_cleanSlot 16 = .ok (.iastore, 1) := by decide +kernel
theorem d_Ways_cleanSlot_17 : decode c_Ways_cleanSlot 17 = .ok (.iload_n 2, 1) := by decide +kernel
theorem d_Ways_cleanSlot_18 : decode c_Ways_cleanSlot 18 = .ok (.ireturn, 1) := by decide +kernel
section WaysRows
variable {l : Launch} {G : EG} {a : Nat → Nat} {v : Nat → Int32} {f : Nat → Nat → Int32} {V S wd : Nat} {wr : va_W}
set_option maxRecDepth 100000 in
theorem k_Ways_setOf (h : CD v S wd) (x : Int32) : Con l G y_Ways_setOf c_Ways_setOf 2 (some .int) (rz 0 0) [.ref (a 1), .int x] (cF G a v f (S * wd) V wr) (DI (nI (sN S x)) (cF G a v f (S * wd) V wr)) := by
  refine Con.of rfl rfl (fun X C E hR hl hn => ?_)
  refine e_iload_n C d_Ways_setOf_0 rfl ?_
  refine e_aload_n C d_Ways_setOf_1 rfl ?_
  refine e_get C 1 (k := 0) in_Ways g40 d_Ways_setOf_2 rfl rfl rfl rfl ?_
  refine e_iconst C d_Ways_setOf_5 (v := 1) (by decide) ?_
  refine e_isub C d_Ways_setOf_6 ?_
  refine e_iand C d_Ways_setOf_7 ?_
  exact e_iret C E d_Ways_setOf_8 (Nat.le_refl _) (Nat.le_refl _) rfl ⟨congrArg (fun z => some (Value.int z)) (setOf_eq h x), rfl⟩
/-- has the line -/
def hasL (f : Nat → Nat → Int32) (x : Int32) (j : Nat) : Bool := !(f 3 j == 0) && (f 2 j == x)
set_option maxRecDepth 100000 in
theorem k_Ways_find (h : CD v S wd) (x : Int32) : Con l G y_Ways_find c_Ways_find 4 (some .int) (rz 1 21) [.ref (a 1), .int x] (cF G a v f (S * wd) V wr) (DI (oI (fst1 (hasL f x) (sN S x * wd) wd)) (cF G a v f (S * wd) V wr)) := by
  refine Con.of rfl rfl (fun X C E hR hl hn => ?_)
  refine e_aload_n C d_Ways_find_0 rfl ?_
  refine e_iload_n C d_Ways_find_1 rfl ?_
  refine e_cVi C hR 1 (k_Ways_setOf h x) g316 g3 g313 g314 g315 d_Ways_find_2 rfl ey_Ways_setOf rfl rfl rfl rfl ⟨Nat.zero_le _, Nat.zero_le _⟩ ?_
  refine e_aload_n C d_Ways_find_5 rfl ?_
  refine e_get C 1 (k := 1) in_Ways g42 d_Ways_find_6 rfl rfl rfl rfl ?_
  refine e_imul C d_Ways_find_9 ?_
  refine e_top (y := nI (sN S x * wd)) (by rw [h.2.1]; exact pk_mul _ _) ?_
  refine e_istore_n C d_Ways_find_10 rfl ?_
  refine e_iload_n C d_Ways_find_11 rfl ?_
  refine e_istore_n C d_Ways_find_12 rfl ?_
  refine e_lv [(0, .ref (a 1)), (1, .int x), (2, .int (nI (sN S x * wd))), (3, .int (nI (sN S x * wd)))] rfl ?_
  have hn1 := h.n128
  have hb2 : sN S x * wd + wd ≤ S * wd := by
    have := slot_lt (wd := wd) (w := wd - 1) (sN_lt h x) (by have := h.2.2.2.2; omega)
    have := h.2.2.2.2
    omega
  generalize hb : sN S x * wd = b0 at hb2 E ⊢
  have L : ∀ m k : Nat, k + m = b0 + wd → fst1 (hasL f x) k m = fst1 (hasL f x) b0 wd → EW X G 4 0 0 13 [(0, .ref (a 1)), (1, .int x), (2, .int (nI b0)), (3, .int (nI k))] [] (cF G a v f (S * wd) V wr) := by
    intro m
    induction m with
    | zero =>
      intro k hk hf
      refine e_iload_n C d_Ways_find_13 rfl ?_
      refine e_iload_n C d_Ways_find_14 rfl ?_
      refine e_aload_n C d_Ways_find_15 rfl ?_
      refine e_get C 1 (k := 1) in_Ways g42 d_Ways_find_16 rfl rfl rfl rfl ?_
      refine e_iadd C d_Ways_find_19 ?_
      refine e_top (y := nI (b0 + wd)) (by rw [h.2.1]; exact nI_add _ _) ?_
      refine e_icmp_ge C d_Ways_find_20 (tgt := 50) (by decide) (fun h20 => ?_) (fun h20 => ?_)
      · skip
        refine e_iconst C d_Ways_find_50 (v := (-1)) (by decide) ?_
        exact e_iret C E d_Ways_find_51 (Nat.le_refl _) (Nat.le_refl _) rfl ⟨by rw [← hf]; rfl, rfl⟩
      · exact absurd (by rw [← hk]; exact nI_le (Nat.le_refl _) (by omega)) h20
    | succ m ih =>
      intro k hk hf
      refine e_iload_n C d_Ways_find_13 rfl ?_
      refine e_iload_n C d_Ways_find_14 rfl ?_
      refine e_aload_n C d_Ways_find_15 rfl ?_
      refine e_get C 1 (k := 1) in_Ways g42 d_Ways_find_16 rfl rfl rfl rfl ?_
      refine e_iadd C d_Ways_find_19 ?_
      refine e_top (y := nI (b0 + wd)) (by rw [h.2.1]; exact nI_add _ _) ?_
      refine e_icmp_ge C d_Ways_find_20 (tgt := 50) (by decide) (fun h20 => ?_) (fun h20 => ?_)
      · exact absurd h20 (nI_ge (by omega) (by omega))
      · skip
        refine e_aload_n C d_Ways_find_23 rfl ?_
        refine e_get C 1 (k := 4) in_Ways g48 d_Ways_find_24 rfl rfl rfl rfl ?_
        refine e_iload_n C d_Ways_find_27 rfl ?_
        refine e_zald C 3 1 d_Ways_find_28 rfl rfl k rfl (by omega) (by omega) ?_
        refine e_if_eq C d_Ways_find_29 (tgt := 44) (by decide) (fun h29 => ?_) (fun h29 => ?_)
        · have hh : hasL f x k = false := by simp [hasL, h29]
          refine e_iinc C d_Ways_find_44 rfl (nI_1 k) rfl ?_
          refine e_goto C d_Ways_find_47 (tgt := 13) (by decide) ?_
          exact e_lv2 (ih (k + 1) (by omega) (by rw [← hf]; simp [fst1, hh])) rfl
        · skip
          refine e_aload_n C d_Ways_find_32 rfl ?_
          refine e_get C 1 (k := 3) in_Ways g46 d_Ways_find_33 rfl rfl rfl rfl ?_
          refine e_iload_n C d_Ways_find_36 rfl ?_
          refine e_iald C 2 0 d_Ways_find_37 rfl rfl k rfl (by omega) (by omega) ?_
          refine e_iload_n C d_Ways_find_38 rfl ?_
          refine e_icmp_ne C d_Ways_find_39 (tgt := 44) (by decide) (fun h39 => ?_) (fun h39 => ?_)
          · have hh : hasL f x k = false := by simp [hasL, h39]
            refine e_iinc C d_Ways_find_44 rfl (nI_1 k) rfl ?_
            refine e_goto C d_Ways_find_47 (tgt := 13) (by decide) ?_
            exact e_lv2 (ih (k + 1) (by omega) (by rw [← hf]; simp [fst1, hh])) rfl
          · have hh : hasL f x k = true := by simp [hasL, h39, h29]
            refine e_iload_n C d_Ways_find_42 rfl ?_
            exact e_iret C E d_Ways_find_43 (Nat.le_refl _) (Nat.le_refl _) rfl ⟨by rw [← hf]; simp [fst1, hh, oI], rfl⟩
  exact L wd b0 rfl rfl
set_option maxRecDepth 100000 in
theorem k_Ways_emptyWay (h : CD v S wd) {s : Nat} (hs : s < S) : Con l G y_Ways_emptyWay c_Ways_emptyWay 3 (some .int) (rz 0 0) [.ref (a 1), .int (nI s)] (cF G a v f (S * wd) V wr) (DI (oI (fst1 (fun w => f 3 (s * wd + w) == 0) 0 wd)) (cF G a v f (S * wd) V wr)) := by
  refine Con.of rfl rfl (fun X C E hR hl hn => ?_)
  have hn1 := h.n128
  have hw8 := h.2.2.2.2
  refine e_iconst C d_Ways_emptyWay_0 (v := 0) (by decide) ?_
  refine e_istore_n C d_Ways_emptyWay_1 rfl ?_
  have L : ∀ m k : Nat, k + m = wd → fst1 (fun w => f 3 (s * wd + w) == 0) k m = fst1 (fun w => f 3 (s * wd + w) == 0) 0 wd → EW X G 3 0 0 2 [(0, .ref (a 1)), (1, .int (nI s)), (2, .int (nI k))] [] (cF G a v f (S * wd) V wr) := by
    intro m
    induction m with
    | zero =>
      intro k hk hf
      refine e_iload_n C d_Ways_emptyWay_2 rfl ?_
      refine e_aload_n C d_Ways_emptyWay_3 rfl ?_
      refine e_get C 1 (k := 1) in_Ways g42 d_Ways_emptyWay_4 rfl rfl rfl rfl ?_
      refine e_top (y := nI wd) h.2.1 ?_
      refine e_icmp_ge C d_Ways_emptyWay_7 (tgt := 34) (by decide) (fun h7 => ?_) (fun h7 => ?_)
      · skip
        refine e_iconst C d_Ways_emptyWay_34 (v := (-1)) (by decide) ?_
        exact e_iret C E d_Ways_emptyWay_35 (Nat.le_refl _) (Nat.le_refl _) rfl ⟨by rw [← hf]; rfl, rfl⟩
      · exact absurd (nI_le (by omega) (by omega)) h7
    | succ m ih =>
      intro k hk hf
      refine e_iload_n C d_Ways_emptyWay_2 rfl ?_
      refine e_aload_n C d_Ways_emptyWay_3 rfl ?_
      refine e_get C 1 (k := 1) in_Ways g42 d_Ways_emptyWay_4 rfl rfl rfl rfl ?_
      refine e_top (y := nI wd) h.2.1 ?_
      refine e_icmp_ge C d_Ways_emptyWay_7 (tgt := 34) (by decide) (fun h7 => ?_) (fun h7 => ?_)
      · exact absurd h7 (nI_ge (by omega) (by omega))
      · skip
        have hlt := slot_lt (w := k) hs (show k < wd by omega)
        refine e_aload_n C d_Ways_emptyWay_10 rfl ?_
        refine e_get C 1 (k := 4) in_Ways g48 d_Ways_emptyWay_11 rfl rfl rfl rfl ?_
        refine e_iload_n C d_Ways_emptyWay_14 rfl ?_
        refine e_aload_n C d_Ways_emptyWay_15 rfl ?_
        refine e_get C 1 (k := 1) in_Ways g42 d_Ways_emptyWay_16 rfl rfl rfl rfl ?_
        refine e_imul C d_Ways_emptyWay_19 ?_
        refine e_iload_n C d_Ways_emptyWay_20 rfl ?_
        refine e_iadd C d_Ways_emptyWay_21 ?_
        refine e_zald C 3 1 d_Ways_emptyWay_22 rfl rfl (s * wd + k) (by rw [h.2.1, pk_mul, nI_add]) hlt (by omega) ?_
        refine e_if_ne C d_Ways_emptyWay_23 (tgt := 28) (by decide) (fun h23 => ?_) (fun h23 => ?_)
        · skip
          refine e_iinc C d_Ways_emptyWay_28 rfl (nI_1 k) rfl ?_
          refine e_goto C d_Ways_emptyWay_31 (tgt := 2) (by decide) ?_
          exact e_lv2 (ih (k + 1) (by omega) (by rw [← hf]; simp [fst1, h23])) rfl
        · skip
          refine e_iload_n C d_Ways_emptyWay_26 rfl ?_
          exact e_iret C E d_Ways_emptyWay_27 (Nat.le_refl _) (Nat.le_refl _) rfl ⟨by rw [← hf]; simp [fst1, h23, oI], rfl⟩
  exact e_lv2 (L wd 0 (by omega) rfl) rfl
/-- all ways of a set are locked -/
def allL (f : Nat → Nat → Int32) (wd s : Nat) : Bool := (fst1 (fun w => f 6 (s * wd + w) == 0) 0 wd).isNone
set_option maxRecDepth 100000 in
theorem k_Ways_allLocked (h : CD v S wd) {s : Nat} (hs : s < S) : Con l G y_Ways_allLocked c_Ways_allLocked 3 (some .boolean) (rz 0 0) [.ref (a 1), .int (nI s)] (cF G a v f (S * wd) V wr) (DI (bI (allL f wd s)) (cF G a v f (S * wd) V wr)) := by
  refine Con.of rfl rfl (fun X C E hR hl hn => ?_)
  have hn1 := h.n128
  have hw8 := h.2.2.2.2
  refine e_iconst C d_Ways_allLocked_0 (v := 0) (by decide) ?_
  refine e_istore_n C d_Ways_allLocked_1 rfl ?_
  have L : ∀ m k : Nat, k + m = wd → fst1 (fun w => f 6 (s * wd + w) == 0) k m = fst1 (fun w => f 6 (s * wd + w) == 0) 0 wd → EW X G 3 0 0 2 [(0, .ref (a 1)), (1, .int (nI s)), (2, .int (nI k))] [] (cF G a v f (S * wd) V wr) := by
    intro m
    induction m with
    | zero =>
      intro k hk hf
      refine e_iload_n C d_Ways_allLocked_2 rfl ?_
      refine e_aload_n C d_Ways_allLocked_3 rfl ?_
      refine e_get C 1 (k := 1) in_Ways g42 d_Ways_allLocked_4 rfl rfl rfl rfl ?_
      refine e_top (y := nI wd) h.2.1 ?_
      refine e_icmp_ge C d_Ways_allLocked_7 (tgt := 34) (by decide) (fun h7 => ?_) (fun h7 => ?_)
      · skip
        refine e_iconst C d_Ways_allLocked_34 (v := 1) (by decide) ?_
        exact e_iret C E d_Ways_allLocked_35 (Nat.le_refl _) (Nat.le_refl _) rfl ⟨by simp only [allL]; rw [← hf]; rfl, rfl⟩
      · exact absurd (nI_le (by omega) (by omega)) h7
    | succ m ih =>
      intro k hk hf
      refine e_iload_n C d_Ways_allLocked_2 rfl ?_
      refine e_aload_n C d_Ways_allLocked_3 rfl ?_
      refine e_get C 1 (k := 1) in_Ways g42 d_Ways_allLocked_4 rfl rfl rfl rfl ?_
      refine e_top (y := nI wd) h.2.1 ?_
      refine e_icmp_ge C d_Ways_allLocked_7 (tgt := 34) (by decide) (fun h7 => ?_) (fun h7 => ?_)
      · exact absurd h7 (nI_ge (by omega) (by omega))
      · skip
        have hlt := slot_lt (w := k) hs (show k < wd by omega)
        refine e_aload_n C d_Ways_allLocked_10 rfl ?_
        refine e_get C 1 (k := 7) in_Ways g54 d_Ways_allLocked_11 rfl rfl rfl rfl ?_
        refine e_iload_n C d_Ways_allLocked_14 rfl ?_
        refine e_aload_n C d_Ways_allLocked_15 rfl ?_
        refine e_get C 1 (k := 1) in_Ways g42 d_Ways_allLocked_16 rfl rfl rfl rfl ?_
        refine e_imul C d_Ways_allLocked_19 ?_
        refine e_iload_n C d_Ways_allLocked_20 rfl ?_
        refine e_iadd C d_Ways_allLocked_21 ?_
        refine e_zald C 6 1 d_Ways_allLocked_22 rfl rfl (s * wd + k) (by rw [h.2.1, pk_mul, nI_add]) hlt (by omega) ?_
        refine e_if_ne C d_Ways_allLocked_23 (tgt := 28) (by decide) (fun h23 => ?_) (fun h23 => ?_)
        · skip
          refine e_iinc C d_Ways_allLocked_28 rfl (nI_1 k) rfl ?_
          refine e_goto C d_Ways_allLocked_31 (tgt := 2) (by decide) ?_
          exact e_lv2 (ih (k + 1) (by omega) (by rw [← hf]; simp [fst1, h23])) rfl
        · skip
          refine e_iconst C d_Ways_allLocked_26 (v := 0) (by decide) ?_
          exact e_iret C E d_Ways_allLocked_27 (Nat.le_refl _) (Nat.le_refl _) rfl ⟨by simp only [allL]; rw [← hf]; simp [fst1, h23, bI], rfl⟩
  exact e_lv2 (L wd 0 (by omega) rfl) rfl
/-- a line put into a slot -/
def putF (f : Nat → Nat → Int32) (j : Nat) (x t c : Int32) : Nat → Nat → Int32 := up2 (up2 (up2 (up2 f 2 (upd (f 2) j x)) 3 (upd (f 3) j 1)) 4 (upd (f 4) j t)) 5 (upd (f 5) j c)
set_option maxRecDepth 100000 in
theorem k_Ways_put (h : CD v S wd) {j : Nat} (hj : j < S * wd) (x t c : Int32) : Con l G y_Ways_put c_Ways_put 5 none (rz 0 0) [.ref (a 1), .int (nI j), .int x, .int t, .int c] (cF G a v f (S * wd) V wr) (DV (cF G a v (putF f j x t c) (S * wd) V wr)) := by
  refine Con.of rfl rfl (fun X C E hR hl hn => ?_)
  have hn1 := h.n128
  refine e_aload_n C d_Ways_put_0 rfl ?_
  refine e_get C 1 (k := 3) in_Ways g46 d_Ways_put_1 rfl rfl rfl rfl ?_
  refine e_iload_n C d_Ways_put_4 rfl ?_
  refine e_iload_n C d_Ways_put_5 rfl ?_
  refine e_iast C 2 0 d_Ways_put_6 rfl rfl j rfl hj (by omega) ?_
  refine e_aload_n C d_Ways_put_7 rfl ?_
  refine e_get C 1 (k := 4) in_Ways g48 d_Ways_put_8 rfl rfl rfl rfl ?_
  refine e_iload_n C d_Ways_put_11 rfl ?_
  refine e_iconst C d_Ways_put_12 (v := 1) (by decide) ?_
  refine e_zast C 3 1 d_Ways_put_13 rfl rfl j rfl hj (by omega) rfl ?_
  refine e_aload_n C d_Ways_put_14 rfl ?_
  refine e_get C 1 (k := 5) in_Ways g50 d_Ways_put_15 rfl rfl rfl rfl ?_
  refine e_iload_n C d_Ways_put_18 rfl ?_
  refine e_iload_n C d_Ways_put_19 rfl ?_
  refine e_iast C 4 0 d_Ways_put_20 rfl rfl j rfl hj (by omega) ?_
  refine e_aload_n C d_Ways_put_21 rfl ?_
  refine e_get C 1 (k := 6) in_Ways g52 d_Ways_put_22 rfl rfl rfl rfl ?_
  refine e_iload_n C d_Ways_put_25 rfl ?_
  refine e_iload C d_Ways_put_26 rfl ?_
  refine e_iast C 5 0 d_Ways_put_28 rfl rfl j rfl hj (by omega) ?_
  exact e_vret C E d_Ways_put_29 (Nat.le_refl _) (Nat.le_refl _) ⟨rfl, rfl⟩
/-- a slot emptied -/
def emptyF (f : Nat → Nat → Int32) (j : Nat) : Nat → Nat → Int32 := up2 (up2 (up2 (up2 (up2 f 2 (upd (f 2) j 0)) 3 (upd (f 3) j 0)) 4 (upd (f 4) j 0)) 5 (upd (f 5) j 0)) 6 (upd (f 6) j 0)
set_option maxRecDepth 100000 in
theorem k_Ways_empty (h : CD v S wd) {j : Nat} (hj : j < S * wd) : Con l G y_Ways_empty c_Ways_empty 2 none (rz 0 0) [.ref (a 1), .int (nI j)] (cF G a v f (S * wd) V wr) (DV (cF G a v (emptyF f j) (S * wd) V wr)) := by
  refine Con.of rfl rfl (fun X C E hR hl hn => ?_)
  have hn1 := h.n128
  refine e_aload_n C d_Ways_empty_0 rfl ?_
  refine e_get C 1 (k := 3) in_Ways g46 d_Ways_empty_1 rfl rfl rfl rfl ?_
  refine e_iload_n C d_Ways_empty_4 rfl ?_
  refine e_iconst C d_Ways_empty_5 (v := 0) (by decide) ?_
  refine e_iast C 2 0 d_Ways_empty_6 rfl rfl j rfl hj (by omega) ?_
  refine e_aload_n C d_Ways_empty_7 rfl ?_
  refine e_get C 1 (k := 4) in_Ways g48 d_Ways_empty_8 rfl rfl rfl rfl ?_
  refine e_iload_n C d_Ways_empty_11 rfl ?_
  refine e_iconst C d_Ways_empty_12 (v := 0) (by decide) ?_
  refine e_zast C 3 1 d_Ways_empty_13 rfl rfl j rfl hj (by omega) rfl ?_
  refine e_aload_n C d_Ways_empty_14 rfl ?_
  refine e_get C 1 (k := 5) in_Ways g50 d_Ways_empty_15 rfl rfl rfl rfl ?_
  refine e_iload_n C d_Ways_empty_18 rfl ?_
  refine e_iconst C d_Ways_empty_19 (v := 0) (by decide) ?_
  refine e_iast C 4 0 d_Ways_empty_20 rfl rfl j rfl hj (by omega) ?_
  refine e_aload_n C d_Ways_empty_21 rfl ?_
  refine e_get C 1 (k := 6) in_Ways g52 d_Ways_empty_22 rfl rfl rfl rfl ?_
  refine e_iload_n C d_Ways_empty_25 rfl ?_
  refine e_iconst C d_Ways_empty_26 (v := 0) (by decide) ?_
  refine e_iast C 5 0 d_Ways_empty_27 rfl rfl j rfl hj (by omega) ?_
  refine e_aload_n C d_Ways_empty_28 rfl ?_
  refine e_get C 1 (k := 7) in_Ways g54 d_Ways_empty_29 rfl rfl rfl rfl ?_
  refine e_iload_n C d_Ways_empty_32 rfl ?_
  refine e_iconst C d_Ways_empty_33 (v := 0) (by decide) ?_
  refine e_zast C 6 1 d_Ways_empty_34 rfl rfl j rfl hj (by omega) rfl ?_
  exact e_vret C E d_Ways_empty_35 (Nat.le_refl _) (Nat.le_refl _) ⟨rfl, rfl⟩
set_option maxRecDepth 100000 in
theorem k_Ways_cleanSlot (h : CD v S wd) {j c : Nat} (hj : j < S * wd) (hc : c < 16) (hcj : f 5 j = nI c) : Con l G y_Ways_cleanSlot c_Ways_cleanSlot 3 (some .int) (rz 1 20) [.ref (a 1), .int (nI j)] (cF G a v f (S * wd) V wr) (DI (nI (pop4 c)) (cF G a v (up2 f 5 (upd (f 5) j 0)) (S * wd) V wr)) := by
  refine Con.of rfl rfl (fun X C E hR hl hn => ?_)
  have hn1 := h.n128
  refine e_aload_n C d_Ways_cleanSlot_0 rfl ?_
  refine e_get C 1 (k := 6) in_Ways g52 d_Ways_cleanSlot_1 rfl rfl rfl rfl ?_
  refine e_iload_n C d_Ways_cleanSlot_4 rfl ?_
  refine e_iald C 5 0 d_Ways_cleanSlot_5 rfl rfl j rfl hj (by omega) ?_
  refine e_top hcj ?_
  refine e_cSi C hR (k_bitCount hc) g331 g19 g329 g330 d_Ways_cleanSlot_6 rfl ey_Integer_bitCount rfl rfl ⟨Nat.zero_le _, Nat.zero_le _⟩ ?_
  refine e_istore_n C d_Ways_cleanSlot_9 rfl ?_
  refine e_aload_n C d_Ways_cleanSlot_10 rfl ?_
  refine e_get C 1 (k := 6) in_Ways g52 d_Ways_cleanSlot_11 rfl rfl rfl rfl ?_
  refine e_iload_n C d_Ways_cleanSlot_14 rfl ?_
  refine e_iconst C d_Ways_cleanSlot_15 (v := 0) (by decide) ?_
  refine e_iast C 5 0 d_Ways_cleanSlot_16 rfl rfl j rfl hj (by omega) ?_
  refine e_iload_n C d_Ways_cleanSlot_17 rfl ?_
  exact e_iret C E d_Ways_cleanSlot_18 (Nat.le_refl _) (Nat.le_refl _) rfl ⟨rfl, rfl⟩
end WaysRows
end
section
/-! CATCHING ROWS -/
theorem ey_Rows_find : eY y_Rows_find 1 = true := by decide +kernel
theorem d_Rows_find_0 : decode c_Rows_find 0 = .ok (.iconst 0, 1) := by decide +kernel
theorem d_Rows_find_1 : decode c_Rows_find 1 = .ok (.istore_n 2, 1) := by decide +kernel
theorem d_Rows_find_2 : decode c_Rows_find 2 = .ok (.iload_n 2, 1) := by decide +kernel
theorem d_Rows_find_3 : decode c_Rows_find 3 = .ok (.aload_n 0, 1) := by decide +kernel
theorem d_Rows_find_4 : decode c_Rows_find 4 = .ok (.getfield 25, 3) := by decide +kernel
theorem d_Rows_find_7 : decode c_Rows_find 7 = .ok (.if_icmp .ge 21, 3) := by decide +kernel
theorem d_Rows_find_10 : decode c_Rows_find 10 = .ok (.aload_n 0, 1) := by decide +kernel
theorem d_Rows_find_11 : decode c_Rows_find 11 = .ok (.getfield 15, 3) := by decide +kernel
theorem d_Rows_find_14 : decode c_Rows_find 14 = .ok (.iload_n 2, 1) := by decide +kernel
theorem d_Rows_find_15 : decode c_Rows_find 15 = .ok (.iaload, 1) := by decide +kernel
theorem d_Rows_find_16 : decode c_Rows_find 16 = .ok (.iload_n 1, 1) := by decide +kernel
theorem d_Rows_find_17 : decode c_Rows_find 17 = .ok (.if_icmp .ne 5, 3) := by decide +kernel
theorem d_Rows_find_20 : decode c_Rows_find 20 = .ok (.iload_n 2, 1) := by decide +kernel
theorem d_Rows_find_21 : decode c_Rows_find 21 = .ok (.ireturn, 1) := by decide +kernel
theorem d_Rows_find_22 : decode c_Rows_find 22 = .ok (.iinc 2 1, 3) := by decide +kernel
theorem d_Rows_find_25 : decode c_Rows_find 25 = .ok (.goto (-23), 3) := by decide +kernel
theorem d_Rows_find_28 : decode c_Rows_find 28 = .ok (.iconst (-1), 1) := by decide +kernel
theorem d_Rows_find_29 : decode c_Rows_find 29 = .ok (.ireturn, 1) := by decide +kernel
theorem ey_Rows_add : eY y_Rows_add 3 = true := by decide +kernel
theorem d_Rows_add_0 : decode c_Rows_add 0 = .ok (.aload_n 0, 1) := by decide +kernel
theorem d_Rows_add_1 : decode c_Rows_add 1 = .ok (.getfield 15, 3) := by decide +kernel
theorem d_Rows_add_4 : decode c_Rows_add 4 = .ok (.aload_n 0, 1) := by decide +kernel
theorem d_Rows_add_5 : decode c_Rows_add 5 = .ok (.getfield 25, 3) := by decide +kernel
theorem d_Rows_add_8 : decode c_Rows_add 8 = .ok (.iload_n 1, 1) := by decide +kernel
theorem d_Rows_add_9 : decode c_Rows_add 9 = .ok (.iastore, 1) := by decide +kernel
theorem d_Rows_add_10 : decode c_Rows_add 10 = .ok (.aload_n 0, 1) := by decide +kernel
theorem d_Rows_add_11 : decode c_Rows_add 11 = .ok (.getfield 19, 3) := by decide +kernel
theorem d_Rows_add_14 : decode c_Rows_add 14 = .ok (.aload_n 0, 1) := by decide +kernel
theorem d_Rows_add_15 : decode c_Rows_add 15 = .ok (.getfield 25, 3) := by decide +kernel
theorem d_Rows_add_18 : decode c_Rows_add 18 = .ok (.iload_n 2, 1) := by decide +kernel
theorem d_Rows_add_19 : decode c_Rows_add 19 = .ok (.iastore, 1) := by decide +kernel
theorem d_Rows_add_20 : decode c_Rows_add 20 = .ok (.aload_n 0, 1) := by decide +kernel
theorem d_Rows_add_21 : decode c_Rows_add 21 = .ok (.getfield 22, 3) := by decide +kernel
theorem d_Rows_add_24 : decode c_Rows_add 24 = .ok (.aload_n 0, 1) := by decide +kernel
theorem d_Rows_add_25 : decode c_Rows_add 25 = .ok (.getfield 25, 3) := by decide +kernel
theorem d_Rows_add_28 : decode c_Rows_add 28 = .ok (.iload_n 3, 1) := by decide +kernel
theorem d_Rows_add_29 : decode c_Rows_add 29 = .ok (.iastore, 1) := by decide +kernel
theorem d_Rows_add_30 : decode c_Rows_add 30 = .ok (.aload_n 0, 1) := by decide +kernel
theorem d_Rows_add_31 : decode c_Rows_add 31 = .ok (.dup, 1) := by decide +kernel
theorem d_Rows_add_32 : decode c_Rows_add 32 = .ok (.getfield 25, 3) := by decide +kernel
theorem d_Rows_add_35 : decode c_Rows_add 35 = .ok (.iconst 1, 1) := by decide +kernel
theorem d_Rows_add_36 : decode c_Rows_add 36 = .ok (.iadd, 1) := by decide +kernel
theorem d_Rows_add_37 : decode c_Rows_add 37 = .ok (.putfield 25, 3) := by decide +kernel
theorem d_Rows_add_40 : decode c_Rows_add 40 = .ok (.return_, 1) := by decide +kernel
theorem ey_Rows_remove : eY y_Rows_remove 1 = true := by decide +kernel
theorem d_Rows_remove_0 : decode c_Rows_remove 0 = .ok (.iload_n 1, 1) := by decide +kernel
theorem d_Rows_remove_1 : decode c_Rows_remove 1 = .ok (.istore_n 2, 1) := by decide +kernel
theorem d_Rows_remove_2 : decode c_Rows_remove 2 = .ok (.iload_n 2, 1) := by decide +kernel
theorem d_Rows_remove_3 : decode c_Rows_remove 3 = .ok (.iconst 1, 1) := by decide +kernel
theorem d_Rows_remove_4 : decode c_Rows_remove 4 = .ok (.iadd, 1) := by decide +kernel
theorem d_Rows_remove_5 : decode c_Rows_remove 5 = .ok (.aload_n 0, 1) := by decide +kernel
theorem d_Rows_remove_6 : decode c_Rows_remove 6 = .ok (.getfield 25, 3) := by decide +kernel
theorem d_Rows_remove_9 : decode c_Rows_remove 9 = .ok (.if_icmp .ge 51, 3) := by decide +kernel
theorem d_Rows_remove_12 : decode c_Rows_remove 12 = .ok (.aload_n 0, 1) := by decide +kernel
theorem d_Rows_remove_13 : decode c_Rows_remove 13 = .ok (.getfield 15, 3) := by decide +kernel
theorem d_Rows_remove_16 : decode c_Rows_remove 16 = .ok (.iload_n 2, 1) := by decide +kernel
theorem d_Rows_remove_17 : decode c_Rows_remove 17 = .ok (.aload_n 0, 1) := by decide +kernel
theorem d_Rows_remove_18 : decode c_Rows_remove 18 = .ok (.getfield 15, 3) := by decide +kernel
theorem d_Rows_remove_21 : decode c_Rows_remove 21 = .ok (.iload_n 2, 1) := by decide +kernel
theorem d_Rows_remove_22 : decode c_Rows_remove 22 = .ok (.iconst 1, 1) := by decide +kernel
theorem d_Rows_remove_23 : decode c_Rows_remove 23 = .ok (.iadd, 1) := by decide +kernel
theorem d_Rows_remove_24 : decode c_Rows_remove 24 = .ok (.iaload, 1) := by decide +kernel
theorem d_Rows_remove_25 : decode c_Rows_remove 25 = .ok (.iastore, 1) := by decide +kernel
theorem d_Rows_remove_26 : decode c_Rows_remove 26 = .ok (.aload_n 0, 1) := by decide +kernel
theorem d_Rows_remove_27 : decode c_Rows_remove 27 = .ok (.getfield 19, 3) := by decide +kernel
theorem d_Rows_remove_30 : decode c_Rows_remove 30 = .ok (.iload_n 2, 1) := by decide +kernel
theorem d_Rows_remove_31 : decode c_Rows_remove 31 = .ok (.aload_n 0, 1) := by decide +kernel
theorem d_Rows_remove_32 : decode c_Rows_remove 32 = .ok (.getfield 19, 3) := by decide +kernel
theorem d_Rows_remove_35 : decode c_Rows_remove 35 = .ok (.iload_n 2, 1) := by decide +kernel
theorem d_Rows_remove_36 : decode c_Rows_remove 36 = .ok (.iconst 1, 1) := by decide +kernel
theorem d_Rows_remove_37 : decode c_Rows_remove 37 = .ok (.iadd, 1) := by decide +kernel
theorem d_Rows_remove_38 : decode c_Rows_remove 38 = .ok (.iaload, 1) := by decide +kernel
theorem d_Rows_remove_39 : decode c_Rows_remove 39 = .ok (.iastore, 1) := by decide +kernel
theorem d_Rows_remove_40 : decode c_Rows_remove 40 = .ok (.aload_n 0, 1) := by decide +kernel
theorem d_Rows_remove_41 : decode c_Rows_remove 41 = .ok (.getfield 22, 3) := by decide +kernel
theorem d_Rows_remove_44 : decode c_Rows_remove 44 = .ok (.iload_n 2, 1) := by decide +kernel
theorem d_Rows_remove_45 : decode c_Rows_remove 45 = .ok (.aload_n 0, 1) := by decide +kernel
theorem d_Rows_remove_46 : decode c_Rows_remove 46 = .ok (.getfield 22, 3) := by decide +kernel
theorem d_Rows_remove_49 : decode c_Rows_remove 49 = .ok (.iload_n 2, 1) := by decide +kernel
theorem d_Rows_remove_50 : decode c_Rows_remove 50 = .ok (.iconst 1, 1) := by decide +kernel
theorem d_Rows_remove_51 : decode c_Rows_remove 51 = .ok (.iadd, 1) := by decide +kernel
theorem d_Rows_remove_52 : decode c_Rows_remove 52 = .ok (.iaload, 1) := by decide +kernel
theorem d_Rows_remove_53 : decode c_Rows_remove 53 = .ok (.iastore, 1) := by decide +kernel
theorem d_Rows_remove_54 : decode c_Rows_remove 54 = .ok (.iinc 2 1, 3) := by decide +kernel
theorem d_Rows_remove_57 : decode c_Rows_remove 57 = .ok (.goto (-55), 3) := by decide +kernel
theorem d_Rows_remove_60 : decode c_Rows_remove 60 = .ok (.aload_n 0, 1) := by decide +kernel
theorem d_Rows_remove_61 : decode c_Rows_remove 61 = .ok (.dup, 1) := by decide +kernel
theorem d_Rows_remove_62 : decode c_Rows_remove 62 = .ok (.getfield 25, 3) := by decide +kernel
theorem d_Rows_remove_65 : decode c_Rows_remove 65 = .ok (.iconst 1, 1) := by decide +kernel
theorem d_Rows_remove_66 : decode c_Rows_remove 66 = .ok (.isub, 1) := by decide +kernel
theorem d_Rows_remove_67 : decode c_Rows_remove 67 = .ok (.putfield 25, 3) := by decide +kernel
theorem d_Rows_remove_70 : decode c_Rows_remove 70 = .ok (.return_, 1) := by decide +kernel
theorem ey_Rows_cleanRow : eY y_Rows_cleanRow 1 = true := by decide +kernel
theorem d_Rows_cleanRow_0 : decode c_Rows_cleanRow 0 = .ok (.aload_n 0, 1) := by decide +kernel
theorem d_Rows_cleanRow_1 : decode c_Rows_cleanRow 1 = .ok (.getfield 22, 3) := by decide +kernel
theorem d_Rows_cleanRow_4 : decode c_Rows_cleanRow 4 = .ok (.iload_n 1, 1) := by decide +kernel
theorem d_Rows_cleanRow_5 : decode c_Rows_cleanRow 5 = .ok (.iaload, 1) := by decide +kernel
theorem d_Rows_cleanRow_6 : decode c_Rows_cleanRow 6 = .ok (.invokestatic 28, 3) := by decide +kernel
theorem d_Rows_cleanRow_9 : decode c_Rows_cleanRow 9 = .ok (.istore_n 2, 1) := by decide +kernel
theorem d_Rows_cleanRow_10 : decode c_Rows_cleanRow 10 = .ok (.aload_n 0, 1) := by decide +kernel
theorem d_Rows_cleanRow_11 : decode c_Rows_cleanRow 11 = .ok (.getfield 22, 3) := by decide +kernel
theorem d_Rows_cleanRow_14 : decode c_Rows_cleanRow 14 = .ok (.iload_n 1, 1) := by decide +kernel
theorem d_Rows_cleanRow_15 : decode c_Rows_cleanRow 15 = .ok (.iconst 0, 1) := by decide +kernel
theorem d_Rows_cleanRow_16 : decode c_Rows_cleanRow 16 = .ok (.iastore, 1) := by decide +kernel
theorem d_Rows_cleanRow_17 : decode c_Rows_cleanRow 17 = .ok (.iload_n 2, 1) := by decide +kernel
theorem d_Rows_cleanRow_18 : decode c_Rows_cleanRow 18 = .ok (.ireturn, 1) := by decide +kernel
/-- z rows of at most V -/
def RD (v : Nat → Int32) (V z : Nat) : Prop := v 9 = nI V ∧ v 10 = nI z ∧ z ≤ V ∧ V ≤ 4
section RowsRows
variable {l : Launch} {G : EG} {a : Nat → Nat} {v : Nat → Int32} {f : Nat → Nat → Int32} {n V z : Nat} {wr : va_W}
set_option maxRecDepth 100000 in
theorem k_Rows_find (h : RD v V z) (x : Int32) : Con l G y_Rows_find c_Rows_find 3 (some .int) (rz 0 0) [.ref (a 7), .int x] (cF G a v f n V wr) (DI (oI (fst1 (fun k => f 8 k == x) 0 z)) (cF G a v f n V wr)) := by
  refine Con.of rfl rfl (fun X C E hR hl hn => ?_)
  obtain ⟨h9, h10, hz, hV⟩ := h
  refine e_iconst C d_Rows_find_0 (v := 0) (by decide) ?_
  refine e_istore_n C d_Rows_find_1 rfl ?_
  have L : ∀ m k : Nat, k + m = z → fst1 (fun k => f 8 k == x) k m = fst1 (fun k => f 8 k == x) 0 z → EW X G 3 0 0 2 [(0, .ref (a 7)), (1, .int x), (2, .int (nI k))] [] (cF G a v f n V wr) := by
    intro m
    induction m with
    | zero =>
      intro k hk hf
      refine e_iload_n C d_Rows_find_2 rfl ?_
      refine e_aload_n C d_Rows_find_3 rfl ?_
      refine e_get C 7 (k := 4) in_Rows g89 d_Rows_find_4 rfl rfl rfl rfl ?_
      refine e_top h10 ?_
      refine e_icmp_ge C d_Rows_find_7 (tgt := 28) (by decide) (fun h7 => ?_) (fun h7 => ?_)
      · skip
        refine e_iconst C d_Rows_find_28 (v := (-1)) (by decide) ?_
        exact e_iret C E d_Rows_find_29 (Nat.le_refl _) (Nat.le_refl _) rfl ⟨by rw [← hf]; rfl, rfl⟩
      · exact absurd (nI_le (by omega) (by omega)) h7
    | succ m ih =>
      intro k hk hf
      refine e_iload_n C d_Rows_find_2 rfl ?_
      refine e_aload_n C d_Rows_find_3 rfl ?_
      refine e_get C 7 (k := 4) in_Rows g89 d_Rows_find_4 rfl rfl rfl rfl ?_
      refine e_top h10 ?_
      refine e_icmp_ge C d_Rows_find_7 (tgt := 28) (by decide) (fun h7 => ?_) (fun h7 => ?_)
      · exact absurd h7 (nI_ge (by omega) (by omega))
      · skip
        refine e_aload_n C d_Rows_find_10 rfl ?_
        refine e_get C 7 (k := 1) in_Rows g83 d_Rows_find_11 rfl rfl rfl rfl ?_
        refine e_iload_n C d_Rows_find_14 rfl ?_
        refine e_iald C 8 0 d_Rows_find_15 rfl rfl k rfl (by omega) (by omega) ?_
        refine e_iload_n C d_Rows_find_16 rfl ?_
        refine e_icmp_ne C d_Rows_find_17 (tgt := 22) (by decide) (fun h17 => ?_) (fun h17 => ?_)
        · skip
          refine e_iinc C d_Rows_find_22 rfl (nI_1 k) rfl ?_
          refine e_goto C d_Rows_find_25 (tgt := 2) (by decide) ?_
          exact e_lv2 (ih (k + 1) (by omega) (by rw [← hf]; simp [fst1, h17])) rfl
        · skip
          refine e_iload_n C d_Rows_find_20 rfl ?_
          exact e_iret C E d_Rows_find_21 (Nat.le_refl _) (Nat.le_refl _) rfl ⟨by rw [← hf]; simp [fst1, h17, oI], rfl⟩
  exact e_lv2 (L z 0 (by omega) rfl) rfl
/-- a row added -/
def raF (f : Nat → Nat → Int32) (z : Nat) (x t c : Int32) : Nat → Nat → Int32 := up2 (up2 (up2 f 8 (upd (f 8) z x)) 9 (upd (f 9) z t)) 10 (upd (f 10) z c)
set_option maxRecDepth 100000 in
theorem k_Rows_add (h : RD v V z) (hzV : z < V) (x t c : Int32) : Con l G y_Rows_add c_Rows_add 4 none (rz 0 0) [.ref (a 7), .int x, .int t, .int c] (cF G a v f n V wr) (DV (cF G a (upd v 10 (nI (z + 1))) (raF f z x t c) n V wr)) := by
  refine Con.of rfl rfl (fun X C E hR hl hn => ?_)
  obtain ⟨h9, h10, hz, hV⟩ := h
  refine e_aload_n C d_Rows_add_0 rfl ?_
  refine e_get C 7 (k := 1) in_Rows g83 d_Rows_add_1 rfl rfl rfl rfl ?_
  refine e_aload_n C d_Rows_add_4 rfl ?_
  refine e_get C 7 (k := 4) in_Rows g89 d_Rows_add_5 rfl rfl rfl rfl ?_
  refine e_iload_n C d_Rows_add_8 rfl ?_
  refine e_iast C 8 0 d_Rows_add_9 rfl rfl z h10 hzV (by omega) ?_
  refine e_aload_n C d_Rows_add_10 rfl ?_
  refine e_get C 7 (k := 2) in_Rows g85 d_Rows_add_11 rfl rfl rfl rfl ?_
  refine e_aload_n C d_Rows_add_14 rfl ?_
  refine e_get C 7 (k := 4) in_Rows g89 d_Rows_add_15 rfl rfl rfl rfl ?_
  refine e_iload_n C d_Rows_add_18 rfl ?_
  refine e_iast C 9 0 d_Rows_add_19 rfl rfl z h10 hzV (by omega) ?_
  refine e_aload_n C d_Rows_add_20 rfl ?_
  refine e_get C 7 (k := 3) in_Rows g87 d_Rows_add_21 rfl rfl rfl rfl ?_
  refine e_aload_n C d_Rows_add_24 rfl ?_
  refine e_get C 7 (k := 4) in_Rows g89 d_Rows_add_25 rfl rfl rfl rfl ?_
  refine e_iload_n C d_Rows_add_28 rfl ?_
  refine e_iast C 10 0 d_Rows_add_29 rfl rfl z h10 hzV (by omega) ?_
  refine e_aload_n C d_Rows_add_30 rfl ?_
  refine e_dup C d_Rows_add_31 rfl ?_
  refine e_get C 7 (k := 4) in_Rows g89 d_Rows_add_32 rfl rfl rfl rfl ?_
  refine e_iconst C d_Rows_add_35 (v := 1) (by decide) ?_
  refine e_iadd C d_Rows_add_36 ?_
  refine e_top (y := nI (z + 1)) (by rw [h10]; exact nI_1 z) ?_
  refine e_put C 7 (k := 4) in_Rows tk_Rows nm_Rows g89 d_Rows_add_37 rfl rfl rfl rfl rfl rfl rfl rfl ?_
  exact e_vret C E d_Rows_add_40 (Nat.le_refl _) (Nat.le_refl _) ⟨rfl, rfl⟩
/-- a row taken out -/
def rmF (f : Nat → Nat → Int32) (g k : Nat) : Nat → Nat → Int32 := up2 (up2 (up2 f 8 (shf (f 8) g k)) 9 (shf (f 9) g k)) 10 (shf (f 10) g k)
set_option maxRecDepth 100000 in
theorem k_Rows_remove (h : RD v V z) {g : Nat} (hg : g < z) : Con l G y_Rows_remove c_Rows_remove 3 none (rz 0 0) [.ref (a 7), .int (nI g)] (cF G a v f n V wr) (DV (cF G a (upd v 10 (nI (z - 1))) (rmF f g (z - 1)) n V wr)) := by
  refine Con.of rfl rfl (fun X C E hR hl hn => ?_)
  obtain ⟨h9, h10, hz, hV⟩ := h
  refine e_iload_n C d_Rows_remove_0 rfl ?_
  refine e_istore_n C d_Rows_remove_1 rfl ?_
  have L : ∀ m k : Nat, k + m = z - 1 → g ≤ k → EW X G 3 0 0 2 [(0, .ref (a 7)), (1, .int (nI g)), (2, .int (nI k))] [] (cF G a v (rmF f g k) n V wr) := by
    intro m
    induction m with
    | zero =>
      intro k hk hgk
      obtain rfl : k = z - 1 := by omega
      refine e_iload_n C d_Rows_remove_2 rfl ?_
      refine e_iconst C d_Rows_remove_3 (v := 1) (by decide) ?_
      refine e_iadd C d_Rows_remove_4 ?_
      refine e_top (y := nI (z - 1 + 1)) (nI_1 _) ?_
      refine e_aload_n C d_Rows_remove_5 rfl ?_
      refine e_get C 7 (k := 4) in_Rows g89 d_Rows_remove_6 rfl rfl rfl rfl ?_
      refine e_top h10 ?_
      refine e_icmp_ge C d_Rows_remove_9 (tgt := 60) (by decide) (fun hx9 => ?_) (fun hx9 => ?_)
      · skip
        refine e_aload_n C d_Rows_remove_60 rfl ?_
        refine e_dup C d_Rows_remove_61 rfl ?_
        refine e_get C 7 (k := 4) in_Rows g89 d_Rows_remove_62 rfl rfl rfl rfl ?_
        refine e_iconst C d_Rows_remove_65 (v := 1) (by decide) ?_
        refine e_isub C d_Rows_remove_66 ?_
        refine e_top (y := nI (z - 1)) (by rw [show v 10 = nI (z - 1 + 1) by rw [h10, show z - 1 + 1 = z by omega]]; exact nI_pred _) ?_
        refine e_put C 7 (k := 4) in_Rows tk_Rows nm_Rows g89 d_Rows_remove_67 rfl rfl rfl rfl rfl rfl rfl rfl ?_
        exact e_vret C E d_Rows_remove_70 (Nat.le_refl _) (Nat.le_refl _) ⟨rfl, rfl⟩
      · exact absurd (nI_le (by omega) (by omega)) hx9
    | succ m ih =>
      intro k hk hgk
      refine e_iload_n C d_Rows_remove_2 rfl ?_
      refine e_iconst C d_Rows_remove_3 (v := 1) (by decide) ?_
      refine e_iadd C d_Rows_remove_4 ?_
      refine e_top (y := nI (k + 1)) (nI_1 _) ?_
      refine e_aload_n C d_Rows_remove_5 rfl ?_
      refine e_get C 7 (k := 4) in_Rows g89 d_Rows_remove_6 rfl rfl rfl rfl ?_
      refine e_top h10 ?_
      refine e_icmp_ge C d_Rows_remove_9 (tgt := 60) (by decide) (fun hx9 => ?_) (fun hx9 => ?_)
      · exact absurd hx9 (nI_ge (by omega) (by omega))
      · skip
        refine e_aload_n C d_Rows_remove_12 rfl ?_
        refine e_get C 7 (k := 1) in_Rows g83 d_Rows_remove_13 rfl rfl rfl rfl ?_
        refine e_iload_n C d_Rows_remove_16 rfl ?_
        refine e_aload_n C d_Rows_remove_17 rfl ?_
        refine e_get C 7 (k := 1) in_Rows g83 d_Rows_remove_18 rfl rfl rfl rfl ?_
        refine e_iload_n C d_Rows_remove_21 rfl ?_
        refine e_iconst C d_Rows_remove_22 (v := 1) (by decide) ?_
        refine e_iadd C d_Rows_remove_23 ?_
        refine e_iald C 8 0 d_Rows_remove_24 rfl rfl (k + 1) (nI_1 k) (by omega) (by omega) ?_
        refine e_iast C 8 0 d_Rows_remove_25 rfl rfl k rfl (by omega) (by omega) ?_
        refine e_aload_n C d_Rows_remove_26 rfl ?_
        refine e_get C 7 (k := 2) in_Rows g85 d_Rows_remove_27 rfl rfl rfl rfl ?_
        refine e_iload_n C d_Rows_remove_30 rfl ?_
        refine e_aload_n C d_Rows_remove_31 rfl ?_
        refine e_get C 7 (k := 2) in_Rows g85 d_Rows_remove_32 rfl rfl rfl rfl ?_
        refine e_iload_n C d_Rows_remove_35 rfl ?_
        refine e_iconst C d_Rows_remove_36 (v := 1) (by decide) ?_
        refine e_iadd C d_Rows_remove_37 ?_
        refine e_iald C 9 0 d_Rows_remove_38 rfl rfl (k + 1) (nI_1 k) (by omega) (by omega) ?_
        refine e_iast C 9 0 d_Rows_remove_39 rfl rfl k rfl (by omega) (by omega) ?_
        refine e_aload_n C d_Rows_remove_40 rfl ?_
        refine e_get C 7 (k := 3) in_Rows g87 d_Rows_remove_41 rfl rfl rfl rfl ?_
        refine e_iload_n C d_Rows_remove_44 rfl ?_
        refine e_aload_n C d_Rows_remove_45 rfl ?_
        refine e_get C 7 (k := 3) in_Rows g87 d_Rows_remove_46 rfl rfl rfl rfl ?_
        refine e_iload_n C d_Rows_remove_49 rfl ?_
        refine e_iconst C d_Rows_remove_50 (v := 1) (by decide) ?_
        refine e_iadd C d_Rows_remove_51 ?_
        refine e_iald C 10 0 d_Rows_remove_52 rfl rfl (k + 1) (nI_1 k) (by omega) (by omega) ?_
        refine e_iast C 10 0 d_Rows_remove_53 rfl rfl k rfl (by omega) (by omega) ?_
        refine e_eq (ws' := cF G a v (rmF f g (k + 1)) n V wr) (by simp only [rmF, shf_s hgk]; rfl) ?_
        refine e_iinc C d_Rows_remove_54 rfl (nI_1 k) rfl ?_
        refine e_goto C d_Rows_remove_57 (tgt := 2) (by decide) ?_
        exact e_lv2 (ih (k + 1) (by omega) (by omega)) rfl
  refine e_eq (ws' := cF G a v (rmF f g g) n V wr) (by simp only [rmF, shf_0]; rfl) ?_
  exact e_lv2 (L (z - 1 - g) g (by omega) (Nat.le_refl _)) rfl
set_option maxRecDepth 100000 in
theorem k_Rows_cleanRow (h : RD v V z) {j c : Nat} (hj : j < z) (hc : c < 16) (hcj : f 10 j = nI c) : Con l G y_Rows_cleanRow c_Rows_cleanRow 3 (some .int) (rz 1 20) [.ref (a 7), .int (nI j)] (cF G a v f n V wr) (DI (nI (pop4 c)) (cF G a v (up2 f 10 (upd (f 10) j 0)) n V wr)) := by
  refine Con.of rfl rfl (fun X C E hR hl hn => ?_)
  obtain ⟨h9, h10, hz, hV⟩ := h
  refine e_aload_n C d_Rows_cleanRow_0 rfl ?_
  refine e_get C 7 (k := 3) in_Rows g87 d_Rows_cleanRow_1 rfl rfl rfl rfl ?_
  refine e_iload_n C d_Rows_cleanRow_4 rfl ?_
  refine e_iald C 10 0 d_Rows_cleanRow_5 rfl rfl j rfl (by omega) (by omega) ?_
  refine e_top hcj ?_
  refine e_cSi C hR (k_bitCount hc) g331 g19 g339 g330 d_Rows_cleanRow_6 rfl ey_Integer_bitCount rfl rfl ⟨Nat.zero_le _, Nat.zero_le _⟩ ?_
  refine e_istore_n C d_Rows_cleanRow_9 rfl ?_
  refine e_aload_n C d_Rows_cleanRow_10 rfl ?_
  refine e_get C 7 (k := 3) in_Rows g87 d_Rows_cleanRow_11 rfl rfl rfl rfl ?_
  refine e_iload_n C d_Rows_cleanRow_14 rfl ?_
  refine e_iconst C d_Rows_cleanRow_15 (v := 0) (by decide) ?_
  refine e_iast C 10 0 d_Rows_cleanRow_16 rfl rfl j rfl (by omega) (by omega) ?_
  refine e_iload_n C d_Rows_cleanRow_17 rfl ?_
  exact e_iret C E d_Rows_cleanRow_18 (Nat.le_refl _) (Nat.le_refl _) rfl ⟨rfl, rfl⟩
end RowsRows
end
section
/-! ASKS -/
theorem ey_Asks_waits : eY y_Asks_waits 1 = true := by decide +kernel
theorem d_Asks_waits_0 : decode c_Asks_waits 0 = .ok (.iconst 0, 1) := by decide +kernel
theorem d_Asks_waits_1 : decode c_Asks_waits 1 = .ok (.istore_n 2, 1) := by decide +kernel
theorem d_Asks_waits_2 : decode c_Asks_waits 2 = .ok (.iload_n 2, 1) := by decide +kernel
theorem d_Asks_waits_3 : decode c_Asks_waits 3 = .ok (.aload_n 0, 1) := by decide +kernel
theorem d_Asks_waits_4 : decode c_Asks_waits 4 = .ok (.getfield 25, 3) := by decide +kernel
theorem d_Asks_waits_7 : decode c_Asks_waits 7 = .ok (.if_icmp .ge 21, 3) := by decide +kernel
theorem d_Asks_waits_10 : decode c_Asks_waits 10 = .ok (.aload_n 0, 1) := by decide +kernel
theorem d_Asks_waits_11 : decode c_Asks_waits 11 = .ok (.getfield 16, 3) := by decide +kernel
theorem d_Asks_waits_14 : decode c_Asks_waits 14 = .ok (.iload_n 2, 1) := by decide +kernel
theorem d_Asks_waits_15 : decode c_Asks_waits 15 = .ok (.iaload, 1) := by decide +kernel
theorem d_Asks_waits_16 : decode c_Asks_waits 16 = .ok (.iload_n 1, 1) := by decide +kernel
theorem d_Asks_waits_17 : decode c_Asks_waits 17 = .ok (.if_icmp .ne 5, 3) := by decide +kernel
theorem d_Asks_waits_20 : decode c_Asks_waits 20 = .ok (.iconst 1, 1) := by decide +kernel
theorem d_Asks_waits_21 : decode c_Asks_waits 21 = .ok (.ireturn, 1) := by decide +kernel
theorem d_Asks_waits_22 : decode c_Asks_waits 22 = .ok (.iinc 2 1, 3) := by decide +kernel
theorem d_Asks_waits_25 : decode c_Asks_waits 25 = .ok (.goto (-23), 3) := by decide +kernel
theorem d_Asks_waits_28 : decode c_Asks_waits 28 = .ok (.iconst 0, 1) := by decide +kernel
theorem d_Asks_waits_29 : decode c_Asks_waits 29 = .ok (.ireturn, 1) := by decide +kernel
theorem ey_Asks_hasRoomFor : eY y_Asks_hasRoomFor 1 = true := by decide +kernel
theorem d_Asks_hasRoomFor_0 : decode c_Asks_hasRoomFor 0 = .ok (.aload_n 0, 1) := by decide +kernel
theorem d_Asks_hasRoomFor_1 : decode c_Asks_hasRoomFor 1 = .ok (.getfield 29, 3) := by decide +kernel
theorem d_Asks_hasRoomFor_4 : decode c_Asks_hasRoomFor 4 = .ok (.bipush 16, 2) := by decide +kernel
theorem d_Asks_hasRoomFor_6 : decode c_Asks_hasRoomFor 6 = .ok (.if_icmp .ge 23, 3) := by decide +kernel
theorem d_Asks_hasRoomFor_9 : decode c_Asks_hasRoomFor 9 = .ok (.aload_n 0, 1) := by decide +kernel
theorem d_Asks_hasRoomFor_10 : decode c_Asks_hasRoomFor 10 = .ok (.getfield 25, 3) := by decide +kernel
theorem d_Asks_hasRoomFor_13 : decode c_Asks_hasRoomFor 13 = .ok (.iconst 4, 1) := by decide +kernel
theorem d_Asks_hasRoomFor_14 : decode c_Asks_hasRoomFor 14 = .ok (.if_icmp .lt 11, 3) := by decide +kernel
theorem d_Asks_hasRoomFor_17 : decode c_Asks_hasRoomFor 17 = .ok (.aload_n 0, 1) := by decide +kernel
theorem d_Asks_hasRoomFor_18 : decode c_Asks_hasRoomFor 18 = .ok (.iload_n 1, 1) := by decide +kernel
theorem d_Asks_hasRoomFor_19 : decode c_Asks_hasRoomFor 19 = .ok (.invokevirtual 32, 3) := by decide +kernel
theorem d_Asks_hasRoomFor_22 : decode c_Asks_hasRoomFor 22 = .ok (.ifCond .eq 7, 3) := by decide +kernel
theorem d_Asks_hasRoomFor_25 : decode c_Asks_hasRoomFor 25 = .ok (.iconst 1, 1) := by decide +kernel
theorem d_Asks_hasRoomFor_26 : decode c_Asks_hasRoomFor 26 = .ok (.goto 4, 3) := by decide +kernel
theorem d_Asks_hasRoomFor_29 : decode c_Asks_hasRoomFor 29 = .ok (.iconst 0, 1) := by decide +kernel
theorem d_Asks_hasRoomFor_30 : decode c_Asks_hasRoomFor 30 = .ok (.ireturn, 1) := by decide +kernel
theorem ey_Asks_add : eY y_Asks_add 2 = true := by decide +kernel
theorem d_Asks_add_0 : decode c_Asks_add 0 = .ok (.aload_n 0, 1) := by decide +kernel
theorem d_Asks_add_1 : decode c_Asks_add 1 = .ok (.iload_n 1, 1) := by decide +kernel
theorem d_Asks_add_2 : decode c_Asks_add 2 = .ok (.invokevirtual 32, 3) := by decide +kernel
theorem d_Asks_add_5 : decode c_Asks_add 5 = .ok (.ifCond .ne 7, 3) := by decide +kernel
theorem d_Asks_add_8 : decode c_Asks_add 8 = .ok (.iconst 1, 1) := by decide +kernel
theorem d_Asks_add_9 : decode c_Asks_add 9 = .ok (.goto 4, 3) := by decide +kernel
theorem d_Asks_add_12 : decode c_Asks_add 12 = .ok (.iconst 0, 1) := by decide +kernel
theorem d_Asks_add_13 : decode c_Asks_add 13 = .ok (.istore_n 3, 1) := by decide +kernel
theorem d_Asks_add_14 : decode c_Asks_add 14 = .ok (.iload_n 3, 1) := by decide +kernel
theorem d_Asks_add_15 : decode c_Asks_add 15 = .ok (.ifCond .eq 23, 3) := by decide +kernel
theorem d_Asks_add_18 : decode c_Asks_add 18 = .ok (.aload_n 0, 1) := by decide +kernel
theorem d_Asks_add_19 : decode c_Asks_add 19 = .ok (.getfield 16, 3) := by decide +kernel
theorem d_Asks_add_22 : decode c_Asks_add 22 = .ok (.aload_n 0, 1) := by decide +kernel
theorem d_Asks_add_23 : decode c_Asks_add 23 = .ok (.getfield 25, 3) := by decide +kernel
theorem d_Asks_add_26 : decode c_Asks_add 26 = .ok (.iload_n 1, 1) := by decide +kernel
theorem d_Asks_add_27 : decode c_Asks_add 27 = .ok (.iastore, 1) := by decide +kernel
theorem d_Asks_add_28 : decode c_Asks_add 28 = .ok (.aload_n 0, 1) := by decide +kernel
theorem d_Asks_add_29 : decode c_Asks_add 29 = .ok (.dup, 1) := by decide +kernel
theorem d_Asks_add_30 : decode c_Asks_add 30 = .ok (.getfield 25, 3) := by decide +kernel
theorem d_Asks_add_33 : decode c_Asks_add 33 = .ok (.iconst 1, 1) := by decide +kernel
theorem d_Asks_add_34 : decode c_Asks_add 34 = .ok (.iadd, 1) := by decide +kernel
theorem d_Asks_add_35 : decode c_Asks_add 35 = .ok (.putfield 25, 3) := by decide +kernel
theorem d_Asks_add_38 : decode c_Asks_add 38 = .ok (.aload_n 0, 1) := by decide +kernel
theorem d_Asks_add_39 : decode c_Asks_add 39 = .ok (.getfield 9, 3) := by decide +kernel
theorem d_Asks_add_42 : decode c_Asks_add 42 = .ok (.aload_n 0, 1) := by decide +kernel
theorem d_Asks_add_43 : decode c_Asks_add 43 = .ok (.getfield 29, 3) := by decide +kernel
theorem d_Asks_add_46 : decode c_Asks_add 46 = .ok (.iload_n 1, 1) := by decide +kernel
theorem d_Asks_add_47 : decode c_Asks_add 47 = .ok (.iastore, 1) := by decide +kernel
theorem d_Asks_add_48 : decode c_Asks_add 48 = .ok (.aload_n 0, 1) := by decide +kernel
theorem d_Asks_add_49 : decode c_Asks_add 49 = .ok (.getfield 13, 3) := by decide +kernel
theorem d_Asks_add_52 : decode c_Asks_add 52 = .ok (.aload_n 0, 1) := by decide +kernel
theorem d_Asks_add_53 : decode c_Asks_add 53 = .ok (.getfield 29, 3) := by decide +kernel
theorem d_Asks_add_56 : decode c_Asks_add 56 = .ok (.iload_n 2, 1) := by decide +kernel
theorem d_Asks_add_57 : decode c_Asks_add 57 = .ok (.iastore, 1) := by decide +kernel
theorem d_Asks_add_58 : decode c_Asks_add 58 = .ok (.aload_n 0, 1) := by decide +kernel
theorem d_Asks_add_59 : decode c_Asks_add 59 = .ok (.dup, 1) := by decide +kernel
theorem d_Asks_add_60 : decode c_Asks_add 60 = .ok (.getfield 29, 3) := by decide +kernel
theorem d_Asks_add_63 : decode c_Asks_add 63 = .ok (.iconst 1, 1) := by decide +kernel
theorem d_Asks_add_64 : decode c_Asks_add 64 = .ok (.iadd, 1) := by decide +kernel
theorem d_Asks_add_65 : decode c_Asks_add 65 = .ok (.putfield 29, 3) := by decide +kernel
theorem d_Asks_add_68 : decode c_Asks_add 68 = .ok (.iload_n 3, 1) := by decide +kernel
theorem d_Asks_add_69 : decode c_Asks_add 69 = .ok (.ireturn, 1) := by decide +kernel
theorem ey_Asks_takeFirstLine : eY y_Asks_takeFirstLine 0 = true := by decide +kernel
theorem d_Asks_takeFirstLine_0 : decode c_Asks_takeFirstLine 0 = .ok (.aload_n 0, 1) := by decide +kernel
theorem d_Asks_takeFirstLine_1 : decode c_Asks_takeFirstLine 1 = .ok (.getfield 16, 3) := by decide +kernel
theorem d_Asks_takeFirstLine_4 : decode c_Asks_takeFirstLine 4 = .ok (.iconst 0, 1) := by decide +kernel
theorem d_Asks_takeFirstLine_5 : decode c_Asks_takeFirstLine 5 = .ok (.iaload, 1) := by decide +kernel
theorem d_Asks_takeFirstLine_6 : decode c_Asks_takeFirstLine 6 = .ok (.istore_n 1, 1) := by decide +kernel
theorem d_Asks_takeFirstLine_7 : decode c_Asks_takeFirstLine 7 = .ok (.iconst 0, 1) := by decide +kernel
theorem d_Asks_takeFirstLine_8 : decode c_Asks_takeFirstLine 8 = .ok (.istore_n 2, 1) := by decide +kernel
theorem d_Asks_takeFirstLine_9 : decode c_Asks_takeFirstLine 9 = .ok (.aload_n 0, 1) := by decide +kernel
theorem d_Asks_takeFirstLine_10 : decode c_Asks_takeFirstLine 10 = .ok (.iconst 0, 1) := by decide +kernel
theorem d_Asks_takeFirstLine_11 : decode c_Asks_takeFirstLine 11 = .ok (.putfield 36, 3) := by decide +kernel
theorem d_Asks_takeFirstLine_14 : decode c_Asks_takeFirstLine 14 = .ok (.iconst 0, 1) := by decide +kernel
theorem d_Asks_takeFirstLine_15 : decode c_Asks_takeFirstLine 15 = .ok (.istore_n 3, 1) := by decide +kernel
theorem d_Asks_takeFirstLine_16 : decode c_Asks_takeFirstLine 16 = .ok (.iload_n 3, 1) := by decide +kernel
theorem d_Asks_takeFirstLine_17 : decode c_Asks_takeFirstLine 17 = .ok (.aload_n 0, 1) := by decide +kernel
theorem d_Asks_takeFirstLine_18 : decode c_Asks_takeFirstLine 18 = .ok (.getfield 29, 3) := by decide +kernel
theorem d_Asks_takeFirstLine_21 : decode c_Asks_takeFirstLine 21 = .ok (.if_icmp .ge 74, 3) := by decide +kernel
theorem d_Asks_takeFirstLine_24 : decode c_Asks_takeFirstLine 24 = .ok (.aload_n 0, 1) := by decide +kernel
theorem d_Asks_takeFirstLine_25 : decode c_Asks_takeFirstLine 25 = .ok (.getfield 9, 3) := by decide +kernel
theorem d_Asks_takeFirstLine_28 : decode c_Asks_takeFirstLine 28 = .ok (.iload_n 3, 1) := by decide +kernel
theorem d_Asks_takeFirstLine_29 : decode c_Asks_takeFirstLine 29 = .ok (.iaload, 1) := by decide +kernel
theorem d_Asks_takeFirstLine_30 : decode c_Asks_takeFirstLine 30 = .ok (.iload_n 1, 1) := by decide +kernel
theorem d_Asks_takeFirstLine_31 : decode c_Asks_takeFirstLine 31 = .ok (.if_icmp .ne 31, 3) := by decide +kernel
theorem d_Asks_takeFirstLine_34 : decode c_Asks_takeFirstLine 34 = .ok (.aload_n 0, 1) := by decide +kernel
theorem d_Asks_takeFirstLine_35 : decode c_Asks_takeFirstLine 35 = .ok (.getfield 19, 3) := by decide +kernel
theorem d_Asks_takeFirstLine_38 : decode c_Asks_takeFirstLine 38 = .ok (.aload_n 0, 1) := by decide +kernel
theorem d_Asks_takeFirstLine_39 : decode c_Asks_takeFirstLine 39 = .ok (.getfield 36, 3) := by decide +kernel
theorem d_Asks_takeFirstLine_42 : decode c_Asks_takeFirstLine 42 = .ok (.aload_n 0, 1) := by decide +kernel
theorem d_Asks_takeFirstLine_43 : decode c_Asks_takeFirstLine 43 = .ok (.getfield 13, 3) := by decide +kernel
theorem d_Asks_takeFirstLine_46 : decode c_Asks_takeFirstLine 46 = .ok (.iload_n 3, 1) := by decide +kernel
theorem d_Asks_takeFirstLine_47 : decode c_Asks_takeFirstLine 47 = .ok (.iaload, 1) := by decide +kernel
theorem d_Asks_takeFirstLine_48 : decode c_Asks_takeFirstLine 48 = .ok (.iastore, 1) := by decide +kernel
theorem d_Asks_takeFirstLine_49 : decode c_Asks_takeFirstLine 49 = .ok (.aload_n 0, 1) := by decide +kernel
theorem d_Asks_takeFirstLine_50 : decode c_Asks_takeFirstLine 50 = .ok (.dup, 1) := by decide +kernel
theorem d_Asks_takeFirstLine_51 : decode c_Asks_takeFirstLine 51 = .ok (.getfield 36, 3) := by decide +kernel
theorem d_Asks_takeFirstLine_54 : decode c_Asks_takeFirstLine 54 = .ok (.iconst 1, 1) := by decide +kernel
theorem d_Asks_takeFirstLine_55 : decode c_Asks_takeFirstLine 55 = .ok (.iadd, 1) := by decide +kernel
theorem d_Asks_takeFirstLine_56 : decode c_Asks_takeFirstLine 56 = .ok (.putfield 36, 3) := by decide +kernel
theorem d_Asks_takeFirstLine_59 : decode c_Asks_takeFirstLine 59 = .ok (.goto 30, 3) := by decide +kernel
theorem d_Asks_takeFirstLine_62 : decode c_Asks_takeFirstLine 62 = .ok (.aload_n 0, 1) := by decide +kernel
theorem d_Asks_takeFirstLine_63 : decode c_Asks_takeFirstLine 63 = .ok (.getfield 9, 3) := by decide +kernel
theorem d_Asks_takeFirstLine_66 : decode c_Asks_takeFirstLine 66 = .ok (.iload_n 2, 1) := by decide +kernel
theorem d_Asks_takeFirstLine_67 : decode c_Asks_takeFirstLine 67 = .ok (.aload_n 0, 1) := by decide +kernel
theorem d_Asks_takeFirstLine_68 : decode c_Asks_takeFirstLine 68 = .ok (.getfield 9, 3) := by decide +kernel
theorem d_Asks_takeFirstLine_71 : decode c_Asks_takeFirstLine 71 = .ok (.iload_n 3, 1) := by decide +kernel
theorem d_Asks_takeFirstLine_72 : decode c_Asks_takeFirstLine 72 = .ok (.iaload, 1) := by decide +kernel
theorem d_Asks_takeFirstLine_73 : decode c_Asks_takeFirstLine 73 = .ok (.iastore, 1) := by decide +kernel
theorem d_Asks_takeFirstLine_74 : decode c_Asks_takeFirstLine 74 = .ok (.aload_n 0, 1) := by decide +kernel
theorem d_Asks_takeFirstLine_75 : decode c_Asks_takeFirstLine 75 = .ok (.getfield 13, 3) := by decide +kernel
theorem d_Asks_takeFirstLine_78 : decode c_Asks_takeFirstLine 78 = .ok (.iload_n 2, 1) := by decide +kernel
theorem d_Asks_takeFirstLine_79 : decode c_Asks_takeFirstLine 79 = .ok (.aload_n 0, 1) := by decide +kernel
theorem d_Asks_takeFirstLine_80 : decode c_Asks_takeFirstLine 80 = .ok (.getfield 13, 3) := by decide +kernel
theorem d_Asks_takeFirstLine_83 : decode c_Asks_takeFirstLine 83 = .ok (.iload_n 3, 1) := by decide +kernel
theorem d_Asks_takeFirstLine_84 : decode c_Asks_takeFirstLine 84 = .ok (.iaload, 1) := by decide +kernel
theorem d_Asks_takeFirstLine_85 : decode c_Asks_takeFirstLine 85 = .ok (.iastore, 1) := by decide +kernel
theorem d_Asks_takeFirstLine_86 : decode c_Asks_takeFirstLine 86 = .ok (.iinc 2 1, 3) := by decide +kernel
theorem d_Asks_takeFirstLine_89 : decode c_Asks_takeFirstLine 89 = .ok (.iinc 3 1, 3) := by decide +kernel
theorem d_Asks_takeFirstLine_92 : decode c_Asks_takeFirstLine 92 = .ok (.goto (-76), 3) := by decide +kernel
theorem d_Asks_takeFirstLine_95 : decode c_Asks_takeFirstLine 95 = .ok (.aload_n 0, 1) := by decide +kernel
theorem d_Asks_takeFirstLine_96 : decode c_Asks_takeFirstLine 96 = .ok (.iload_n 2, 1) := by decide +kernel
theorem d_Asks_takeFirstLine_97 : decode c_Asks_takeFirstLine 97 = .ok (.putfield 29, 3) := by decide +kernel
theorem d_Asks_takeFirstLine_100 : decode c_Asks_takeFirstLine 100 = .ok (.iconst 0, 1) := by decide +kernel
theorem d_Asks_takeFirstLine_101 : decode c_Asks_takeFirstLine 101 = .ok (.istore_n 3, 1) := by decide +kernel
theorem d_Asks_takeFirstLine_102 : decode c_Asks_takeFirstLine 102 = .ok (.iload_n 3, 1) := by decide +kernel
theorem d_Asks_takeFirstLine_103 : decode c_Asks_takeFirstLine 103 = .ok (.iconst 1, 1) := by decide +kernel
theorem d_Asks_takeFirstLine_104 : decode c_Asks_takeFirstLine 104 = .ok (.iadd, 1) := by decide +kernel
theorem d_Asks_takeFirstLine_105 : decode c_Asks_takeFirstLine 105 = .ok (.aload_n 0, 1) := by decide +kernel
theorem d_Asks_takeFirstLine_106 : decode c_Asks_takeFirstLine 106 = .ok (.getfield 25, 3) := by decide +kernel
theorem d_Asks_takeFirstLine_109 : decode c_Asks_takeFirstLine 109 = .ok (.if_icmp .ge 23, 3) := by decide +kernel
theorem d_Asks_takeFirstLine_112 : decode c_Asks_takeFirstLine 112 = .ok (.aload_n 0, 1) := by decide +kernel
theorem d_Asks_takeFirstLine_113 : decode c_Asks_takeFirstLine 113 = .ok (.getfield 16, 3) := by decide +kernel
theorem d_Asks_takeFirstLine_116 : decode c_Asks_takeFirstLine 116 = .ok (.iload_n 3, 1) := by decide +kernel
theorem d_Asks_takeFirstLine_117 : decode c_Asks_takeFirstLine 117 = .ok (.aload_n 0, 1) := by decide +kernel
theorem d_Asks_takeFirstLine_118 : decode c_Asks_takeFirstLine 118 = .ok (.getfield 16, 3) := by decide +kernel
theorem d_Asks_takeFirstLine_121 : decode c_Asks_takeFirstLine 121 = .ok (.iload_n 3, 1) := by decide +kernel
theorem d_Asks_takeFirstLine_122 : decode c_Asks_takeFirstLine 122 = .ok (.iconst 1, 1) := by decide +kernel
theorem d_Asks_takeFirstLine_123 : decode c_Asks_takeFirstLine 123 = .ok (.iadd, 1) := by decide +kernel
theorem d_Asks_takeFirstLine_124 : decode c_Asks_takeFirstLine 124 = .ok (.iaload, 1) := by decide +kernel
theorem d_Asks_takeFirstLine_125 : decode c_Asks_takeFirstLine 125 = .ok (.iastore, 1) := by decide +kernel
theorem d_Asks_takeFirstLine_126 : decode c_Asks_takeFirstLine 126 = .ok (.iinc 3 1, 3) := by decide +kernel
theorem d_Asks_takeFirstLine_129 : decode c_Asks_takeFirstLine 129 = .ok (.goto (-27), 3) := by decide +kernel
theorem d_Asks_takeFirstLine_132 : decode c_Asks_takeFirstLine 132 = .ok (.aload_n 0, 1) := by decide +kernel
theorem d_Asks_takeFirstLine_133 : decode c_Asks_takeFirstLine 133 = .ok (.dup, 1) := by decide +kernel
theorem d_Asks_takeFirstLine_134 : decode c_Asks_takeFirstLine 134 = .ok (.getfield 25, 3) := by decide +kernel
theorem d_Asks_takeFirstLine_137 : decode c_Asks_takeFirstLine 137 = .ok (.iconst 1, 1) := by decide +kernel
theorem d_Asks_takeFirstLine_138 : decode c_Asks_takeFirstLine 138 = .ok (.isub, 1) := by decide +kernel
theorem d_Asks_takeFirstLine_139 : decode c_Asks_takeFirstLine 139 = .ok (.putfield 25, 3) := by decide +kernel
theorem d_Asks_takeFirstLine_142 : decode c_Asks_takeFirstLine 142 = .ok (.iload_n 1, 1) := by decide +kernel
theorem d_Asks_takeFirstLine_143 : decode c_Asks_takeFirstLine 143 = .ok (.ireturn, 1) := by decide +kernel
/-- z asks of lc lines wait -/
def AD (v : Nat → Int32) (z lc : Nat) : Prop := v 11 = nI z ∧ v 12 = nI lc ∧ z ≤ 16 ∧ lc ≤ 4
/-- the line waits -/
def wts (f : Nat → Nat → Int32) (lc : Nat) (x : Int32) : Bool := (fst1 (fun k => f 14 k == x) 0 lc).isSome
section AsksRows
variable {l : Launch} {G : EG} {a : Nat → Nat} {v : Nat → Int32} {f : Nat → Nat → Int32} {n V z lc : Nat} {wr : va_W}
set_option maxRecDepth 100000 in
theorem k_Asks_waits (h : AD v z lc) (x : Int32) : Con l G y_Asks_waits c_Asks_waits 3 (some .boolean) (rz 0 0) [.ref (a 11), .int x] (cF G a v f n V wr) (DI (bI (wts f lc x)) (cF G a v f n V wr)) := by
  refine Con.of rfl rfl (fun X C E hR hl hn => ?_)
  obtain ⟨h11, h12, hz, hlc⟩ := h
  refine e_iconst C d_Asks_waits_0 (v := 0) (by decide) ?_
  refine e_istore_n C d_Asks_waits_1 rfl ?_
  have L : ∀ m k : Nat, k + m = lc → fst1 (fun k => f 14 k == x) k m = fst1 (fun k => f 14 k == x) 0 lc → EW X G 3 0 0 2 [(0, .ref (a 11)), (1, .int x), (2, .int (nI k))] [] (cF G a v f n V wr) := by
    intro m
    induction m with
    | zero =>
      intro k hk hf
      refine e_iload_n C d_Asks_waits_2 rfl ?_
      refine e_aload_n C d_Asks_waits_3 rfl ?_
      refine e_get C 11 (k := 6) in_Asks g224 d_Asks_waits_4 rfl rfl rfl rfl ?_
      refine e_top h12 ?_
      refine e_icmp_ge C d_Asks_waits_7 (tgt := 28) (by decide) (fun h7 => ?_) (fun h7 => ?_)
      · skip
        refine e_iconst C d_Asks_waits_28 (v := 0) (by decide) ?_
        exact e_iret C E d_Asks_waits_29 (Nat.le_refl _) (Nat.le_refl _) rfl ⟨by simp only [wts]; rw [← hf]; rfl, rfl⟩
      · exact absurd (nI_le (by omega) (by omega)) h7
    | succ m ih =>
      intro k hk hf
      refine e_iload_n C d_Asks_waits_2 rfl ?_
      refine e_aload_n C d_Asks_waits_3 rfl ?_
      refine e_get C 11 (k := 6) in_Asks g224 d_Asks_waits_4 rfl rfl rfl rfl ?_
      refine e_top h12 ?_
      refine e_icmp_ge C d_Asks_waits_7 (tgt := 28) (by decide) (fun h7 => ?_) (fun h7 => ?_)
      · exact absurd h7 (nI_ge (by omega) (by omega))
      · skip
        refine e_aload_n C d_Asks_waits_10 rfl ?_
        refine e_get C 11 (k := 2) in_Asks g217 d_Asks_waits_11 rfl rfl rfl rfl ?_
        refine e_iload_n C d_Asks_waits_14 rfl ?_
        refine e_iald C 14 0 d_Asks_waits_15 rfl rfl k rfl (by omega) (by omega) ?_
        refine e_iload_n C d_Asks_waits_16 rfl ?_
        refine e_icmp_ne C d_Asks_waits_17 (tgt := 22) (by decide) (fun h17 => ?_) (fun h17 => ?_)
        · skip
          refine e_iinc C d_Asks_waits_22 rfl (nI_1 k) rfl ?_
          refine e_goto C d_Asks_waits_25 (tgt := 2) (by decide) ?_
          exact e_lv2 (ih (k + 1) (by omega) (by rw [← hf]; simp [fst1, h17])) rfl
        · skip
          refine e_iconst C d_Asks_waits_20 (v := 1) (by decide) ?_
          exact e_iret C E d_Asks_waits_21 (Nat.le_refl _) (Nat.le_refl _) rfl ⟨by simp only [wts]; rw [← hf]; simp [fst1, h17, bI], rfl⟩
  exact e_lv2 (L lc 0 (by omega) rfl) rfl
theorem bI_0 {b : Bool} : bI b = 0 ↔ b = false := by cases b <;> decide
theorem bI_n {b : Bool} : ¬ bI b = 0 ↔ b = true := by cases b <;> decide
/-- there is room for an ask of the line -/
def roomA (f : Nat → Nat → Int32) (z lc : Nat) (x : Int32) : Bool := decide (z < 16) && (decide (lc < 4) || wts f lc x)
set_option maxRecDepth 100000 in
theorem k_Asks_hasRoomFor (h : AD v z lc) (x : Int32) : Con l G y_Asks_hasRoomFor c_Asks_hasRoomFor 2 (some .boolean) (rz 1 22) [.ref (a 11), .int x] (cF G a v f n V wr) (DI (bI (roomA f z lc x)) (cF G a v f n V wr)) := by
  refine Con.of rfl rfl (fun X C E hR hl hn => ?_)
  have h0 := h
  obtain ⟨h11, h12, hz, hlc⟩ := h
  refine e_aload_n C d_Asks_hasRoomFor_0 rfl ?_
  refine e_get C 11 (k := 5) in_Asks g222 d_Asks_hasRoomFor_1 rfl rfl rfl rfl ?_
  refine e_top h11 ?_
  refine e_bipush C d_Asks_hasRoomFor_4 (v := nI 16) (by decide) ?_
  refine e_icmp_ge C d_Asks_hasRoomFor_6 (tgt := 29) (by decide) (fun h6 => ?_) (fun h6 => ?_)
  · rw [nI_leI (by omega) (by omega)] at h6
    refine e_iconst C d_Asks_hasRoomFor_29 (v := 0) (by decide) ?_
    exact e_iret C E d_Asks_hasRoomFor_30 (Nat.le_refl _) (Nat.le_refl _) rfl ⟨by simp [roomA, bI, show ¬ z < 16 by omega], rfl⟩
  · rw [nI_leI (by omega) (by omega)] at h6
    refine e_aload_n C d_Asks_hasRoomFor_9 rfl ?_
    refine e_get C 11 (k := 6) in_Asks g224 d_Asks_hasRoomFor_10 rfl rfl rfl rfl ?_
    refine e_top h12 ?_
    refine e_iconst C d_Asks_hasRoomFor_13 (v := nI 4) (by decide) ?_
    refine e_icmp_lt C d_Asks_hasRoomFor_14 (tgt := 25) (by decide) (fun h14 => ?_) (fun h14 => ?_)
    · rw [nI_ltI (by omega) (by omega)] at h14
      refine e_iconst C d_Asks_hasRoomFor_25 (v := 1) (by decide) ?_
      refine e_goto C d_Asks_hasRoomFor_26 (tgt := 30) (by decide) ?_
      exact e_iret C E d_Asks_hasRoomFor_30 (Nat.le_refl _) (Nat.le_refl _) rfl ⟨by simp [roomA, bI, show z < 16 by omega, h14], rfl⟩
    · rw [nI_ltI (by omega) (by omega)] at h14
      refine e_aload_n C d_Asks_hasRoomFor_17 rfl ?_
      refine e_iload_n C d_Asks_hasRoomFor_18 rfl ?_
      refine e_cVi C hR 11 (k_Asks_waits h0 x) g620 g12 g617 g618 g619 d_Asks_hasRoomFor_19 rfl ey_Asks_waits rfl rfl rfl rfl ⟨Nat.zero_le _, Nat.zero_le _⟩ ?_
      refine e_if_eq C d_Asks_hasRoomFor_22 (tgt := 29) (by decide) (fun h22 => ?_) (fun h22 => ?_)
      · rw [bI_0] at h22
        refine e_iconst C d_Asks_hasRoomFor_29 (v := 0) (by decide) ?_
        exact e_iret C E d_Asks_hasRoomFor_30 (Nat.le_refl _) (Nat.le_refl _) rfl ⟨by simp [roomA, bI, h22, h14], rfl⟩
      · rw [bI_n] at h22
        refine e_iconst C d_Asks_hasRoomFor_25 (v := 1) (by decide) ?_
        refine e_goto C d_Asks_hasRoomFor_26 (tgt := 30) (by decide) ?_
        exact e_iret C E d_Asks_hasRoomFor_30 (Nat.le_refl _) (Nat.le_refl _) rfl ⟨by simp [roomA, bI, show z < 16 by omega, h22], rfl⟩
/-- an ask added -/
def adF (f : Nat → Nat → Int32) (z lc : Nat) (x p : Int32) : Nat → Nat → Int32 := up2 (up2 (if wts f lc x then f else up2 f 14 (upd (f 14) lc x)) 12 (upd (f 12) z x)) 13 (upd (f 13) z p)
def adV (v : Nat → Int32) (f : Nat → Nat → Int32) (z lc : Nat) (x : Int32) : Nat → Int32 := upd (if wts f lc x then v else upd v 12 (nI (lc + 1))) 11 (nI (z + 1))
set_option maxRecDepth 100000 in
theorem k_Asks_add (h : AD v z lc) (x p : Int32) (hr : roomA f z lc x = true) : Con l G y_Asks_add c_Asks_add 4 (some .boolean) (rz 1 22) [.ref (a 11), .int x, .int p] (cF G a v f n V wr) (DI (bI (!wts f lc x)) (cF G a (adV v f z lc x) (adF f z lc x p) n V wr)) := by
  refine Con.of rfl rfl (fun X C E hR hl hn => ?_)
  have h0 := h
  obtain ⟨h11, h12, hz, hlc⟩ := h
  have hz16 : z < 16 := by
    simp [roomA] at hr
    exact hr.1
  refine e_aload_n C d_Asks_add_0 rfl ?_
  refine e_iload_n C d_Asks_add_1 rfl ?_
  refine e_cVi C hR 11 (k_Asks_waits h0 x) g620 g12 g617 g618 g619 d_Asks_add_2 rfl ey_Asks_waits rfl rfl rfl rfl ⟨Nat.zero_le _, Nat.zero_le _⟩ ?_
  refine e_if_ne C d_Asks_add_5 (tgt := 12) (by decide) (fun h5 => ?_) (fun h5 => ?_)
  · rw [bI_n] at h5
    rw [h5] at E
    have e1 : adV v f z lc x = upd v 11 (nI (z + 1)) := by simp [adV, h5]
    have e2 : adF f z lc x p = up2 (up2 f 12 (upd (f 12) z x)) 13 (upd (f 13) z p) := by simp [adF, h5]
    rw [e1, e2] at E
    refine e_iconst C d_Asks_add_12 (v := 0) (by decide) ?_
    refine e_istore_n C d_Asks_add_13 rfl ?_
    refine e_iload_n C d_Asks_add_14 rfl ?_
    refine e_if_eq C d_Asks_add_15 (tgt := 38) (by decide) (fun h15 => ?_) (fun h15 => ?_)
    · skip
      refine e_aload_n C d_Asks_add_38 rfl ?_
      refine e_get C 11 (k := 0) in_Asks g215 d_Asks_add_39 rfl rfl rfl rfl ?_
      refine e_aload_n C d_Asks_add_42 rfl ?_
      refine e_get C 11 (k := 5) in_Asks g222 d_Asks_add_43 rfl rfl rfl rfl ?_
      refine e_iload_n C d_Asks_add_46 rfl ?_
      refine e_iast C 12 0 d_Asks_add_47 rfl rfl z h11 (by omega) (by omega) ?_
      refine e_aload_n C d_Asks_add_48 rfl ?_
      refine e_get C 11 (k := 1) in_Asks g216 d_Asks_add_49 rfl rfl rfl rfl ?_
      refine e_aload_n C d_Asks_add_52 rfl ?_
      refine e_get C 11 (k := 5) in_Asks g222 d_Asks_add_53 rfl rfl rfl rfl ?_
      refine e_iload_n C d_Asks_add_56 rfl ?_
      refine e_iast C 13 0 d_Asks_add_57 rfl rfl z h11 (by omega) (by omega) ?_
      refine e_aload_n C d_Asks_add_58 rfl ?_
      refine e_dup C d_Asks_add_59 rfl ?_
      refine e_get C 11 (k := 5) in_Asks g222 d_Asks_add_60 rfl rfl rfl rfl ?_
      refine e_iconst C d_Asks_add_63 (v := 1) (by decide) ?_
      refine e_iadd C d_Asks_add_64 ?_
      refine e_top (y := nI (z + 1)) (by rw [h11]; exact nI_1 z) ?_
      refine e_put C 11 (k := 5) in_Asks tk_Asks nm_Asks g222 d_Asks_add_65 rfl rfl rfl rfl rfl rfl rfl rfl ?_
      refine e_iload_n C d_Asks_add_68 rfl ?_
      exact e_iret C E d_Asks_add_69 (Nat.le_refl _) (Nat.le_refl _) rfl ⟨rfl, rfl⟩
    · exact absurd rfl h15
  · rw [bI_0] at h5
    rw [h5] at E
    have hlc4 : lc < 4 := by
      simp [roomA, h5] at hr
      exact hr.2
    have e1 : adV v f z lc x = upd (upd v 12 (nI (lc + 1))) 11 (nI (z + 1)) := by simp [adV, h5]
    have e2 : adF f z lc x p = up2 (up2 (up2 f 14 (upd (f 14) lc x)) 12 (upd (f 12) z x)) 13 (upd (f 13) z p) := by simp [adF, h5]
    rw [e1, e2] at E
    refine e_iconst C d_Asks_add_8 (v := 1) (by decide) ?_
    refine e_goto C d_Asks_add_9 (tgt := 13) (by decide) ?_
    refine e_istore_n C d_Asks_add_13 rfl ?_
    refine e_iload_n C d_Asks_add_14 rfl ?_
    refine e_if_eq C d_Asks_add_15 (tgt := 38) (by decide) (fun h15 => ?_) (fun h15 => ?_)
    · exact absurd h15 (by decide)
    · skip
      refine e_aload_n C d_Asks_add_18 rfl ?_
      refine e_get C 11 (k := 2) in_Asks g217 d_Asks_add_19 rfl rfl rfl rfl ?_
      refine e_aload_n C d_Asks_add_22 rfl ?_
      refine e_get C 11 (k := 6) in_Asks g224 d_Asks_add_23 rfl rfl rfl rfl ?_
      refine e_iload_n C d_Asks_add_26 rfl ?_
      refine e_iast C 14 0 d_Asks_add_27 rfl rfl lc h12 (by omega) (by omega) ?_
      refine e_aload_n C d_Asks_add_28 rfl ?_
      refine e_dup C d_Asks_add_29 rfl ?_
      refine e_get C 11 (k := 6) in_Asks g224 d_Asks_add_30 rfl rfl rfl rfl ?_
      refine e_iconst C d_Asks_add_33 (v := 1) (by decide) ?_
      refine e_iadd C d_Asks_add_34 ?_
      refine e_top (y := nI (lc + 1)) (by rw [h12]; exact nI_1 lc) ?_
      refine e_put C 11 (k := 6) in_Asks tk_Asks nm_Asks g224 d_Asks_add_35 rfl rfl rfl rfl rfl rfl rfl rfl ?_
      refine e_aload_n C d_Asks_add_38 rfl ?_
      refine e_get C 11 (k := 0) in_Asks g215 d_Asks_add_39 rfl rfl rfl rfl ?_
      refine e_aload_n C d_Asks_add_42 rfl ?_
      refine e_get C 11 (k := 5) in_Asks g222 d_Asks_add_43 rfl rfl rfl rfl ?_
      refine e_iload_n C d_Asks_add_46 rfl ?_
      refine e_iast C 12 0 d_Asks_add_47 rfl rfl z h11 (by omega) (by omega) ?_
      refine e_aload_n C d_Asks_add_48 rfl ?_
      refine e_get C 11 (k := 1) in_Asks g216 d_Asks_add_49 rfl rfl rfl rfl ?_
      refine e_aload_n C d_Asks_add_52 rfl ?_
      refine e_get C 11 (k := 5) in_Asks g222 d_Asks_add_53 rfl rfl rfl rfl ?_
      refine e_iload_n C d_Asks_add_56 rfl ?_
      refine e_iast C 13 0 d_Asks_add_57 rfl rfl z h11 (by omega) (by omega) ?_
      refine e_aload_n C d_Asks_add_58 rfl ?_
      refine e_dup C d_Asks_add_59 rfl ?_
      refine e_get C 11 (k := 5) in_Asks g222 d_Asks_add_60 rfl rfl rfl rfl ?_
      refine e_iconst C d_Asks_add_63 (v := 1) (by decide) ?_
      refine e_iadd C d_Asks_add_64 ?_
      refine e_top (y := nI (z + 1)) (by rw [h11]; exact nI_1 z) ?_
      refine e_put C 11 (k := 5) in_Asks tk_Asks nm_Asks g222 d_Asks_add_65 rfl rfl rfl rfl rfl rfl rfl rfl ?_
      refine e_iload_n C d_Asks_add_68 rfl ?_
      exact e_iret C E d_Asks_add_69 (Nat.le_refl _) (Nat.le_refl _) rfl ⟨rfl, rfl⟩
/-- the asks of line x taken out, from the first k: lines, parts, parts done, how many stay, how many are done -/
def tk (x : Int32) (p q r : Nat → Int32) : Nat → (Nat → Int32) × (Nat → Int32) × (Nat → Int32) × Nat × Nat
  | 0 => (p, q, r, 0, 0)
  | k + 1 => if (tk x p q r k).1 k = x then ((tk x p q r k).1, (tk x p q r k).2.1, upd (tk x p q r k).2.2.1 (tk x p q r k).2.2.2.2 ((tk x p q r k).2.1 k), (tk x p q r k).2.2.2.1, (tk x p q r k).2.2.2.2 + 1)
    else (upd (tk x p q r k).1 (tk x p q r k).2.2.2.1 ((tk x p q r k).1 k), upd (tk x p q r k).2.1 (tk x p q r k).2.2.2.1 ((tk x p q r k).2.1 k), (tk x p q r k).2.2.1, (tk x p q r k).2.2.2.1 + 1, (tk x p q r k).2.2.2.2)
theorem tk_le (x : Int32) (p q r : Nat → Int32) : ∀ k, (tk x p q r k).2.2.2.1 + (tk x p q r k).2.2.2.2 = k
  | 0 => rfl
  | k + 1 => by
    have := tk_le x p q r k
    unfold tk
    split <;> dsimp only <;> omega
def tkF (f : Nat → Nat → Int32) (t : (Nat → Int32) × (Nat → Int32) × (Nat → Int32) × Nat × Nat) : Nat → Nat → Int32 := up2 (up2 (up2 f 12 t.1) 13 t.2.1) 15 t.2.2.1
set_option maxRecDepth 100000 in
theorem k_Asks_takeFirstLine (h : AD v z lc) (hlc1 : 1 ≤ lc) : Con l G y_Asks_takeFirstLine c_Asks_takeFirstLine 4 (some .int) (rz 0 0) [.ref (a 11)] (cF G a v f n V wr) (DI (f 14 0) (cF G a (upd (upd (upd v 13 (nI (tk (f 14 0) (f 12) (f 13) (f 15) z).2.2.2.2)) 11 (nI (tk (f 14 0) (f 12) (f 13) (f 15) z).2.2.2.1)) 12 (nI (lc - 1))) (up2 (tkF f (tk (f 14 0) (f 12) (f 13) (f 15) z)) 14 (shf (f 14) 0 (lc - 1))) n V wr)) := by
  refine Con.of rfl rfl (fun X C E hR hl hn => ?_)
  obtain ⟨h11, h12, hz, hlc⟩ := h
  refine e_aload_n C d_Asks_takeFirstLine_0 rfl ?_
  refine e_get C 11 (k := 2) in_Asks g217 d_Asks_takeFirstLine_1 rfl rfl rfl rfl ?_
  refine e_iconst C d_Asks_takeFirstLine_4 (v := 0) (by decide) ?_
  refine e_iald C 14 0 d_Asks_takeFirstLine_5 rfl rfl 0 rfl (by omega) (by omega) ?_
  refine e_istore_n C d_Asks_takeFirstLine_6 rfl ?_
  refine e_iconst C d_Asks_takeFirstLine_7 (v := 0) (by decide) ?_
  refine e_istore_n C d_Asks_takeFirstLine_8 rfl ?_
  refine e_aload_n C d_Asks_takeFirstLine_9 rfl ?_
  refine e_iconst C d_Asks_takeFirstLine_10 (v := 0) (by decide) ?_
  refine e_put C 11 (k := 7) in_Asks tk_Asks nm_Asks g226 d_Asks_takeFirstLine_11 rfl rfl rfl rfl rfl rfl rfl rfl ?_
  refine e_iconst C d_Asks_takeFirstLine_14 (v := 0) (by decide) ?_
  refine e_istore_n C d_Asks_takeFirstLine_15 rfl ?_
  generalize hx : f 14 0 = x at E ⊢
  have L : ∀ m k : Nat, k + m = z → EW X G 4 0 0 16 [(0, .ref (a 11)), (1, .int x), (2, .int (nI (tk x (f 12) (f 13) (f 15) k).2.2.2.1)), (3, .int (nI k))] [] (cF G a (upd v 13 (nI (tk x (f 12) (f 13) (f 15) k).2.2.2.2)) (tkF f (tk x (f 12) (f 13) (f 15) k)) n V wr) := by
    intro m
    induction m with
    | zero =>
      intro k hk
      obtain rfl : k = z := by omega
      generalize ht : tk x (f 12) (f 13) (f 15) k = t at E ⊢
      refine e_iload_n C d_Asks_takeFirstLine_16 rfl ?_
      refine e_aload_n C d_Asks_takeFirstLine_17 rfl ?_
      refine e_get C 11 (k := 5) in_Asks g222 d_Asks_takeFirstLine_18 rfl rfl rfl rfl ?_
      refine e_top h11 ?_
      refine e_icmp_ge C d_Asks_takeFirstLine_21 (tgt := 95) (by decide) (fun h21 => ?_) (fun h21 => ?_)
      · skip
        refine e_aload_n C d_Asks_takeFirstLine_95 rfl ?_
        refine e_iload_n C d_Asks_takeFirstLine_96 rfl ?_
        refine e_put C 11 (k := 5) in_Asks tk_Asks nm_Asks g222 d_Asks_takeFirstLine_97 rfl rfl rfl rfl rfl rfl rfl rfl ?_
        refine e_iconst C d_Asks_takeFirstLine_100 (v := 0) (by decide) ?_
        refine e_istore_n C d_Asks_takeFirstLine_101 rfl ?_
        have L2 : ∀ m j : Nat, j + m = lc - 1 → EW X G 4 0 0 102 [(0, .ref (a 11)), (1, .int x), (3, .int (nI j))] [] (cF G a (upd (upd v 13 (nI t.2.2.2.2)) 11 (nI t.2.2.2.1)) (up2 (tkF f t) 14 (shf (f 14) 0 j)) n V wr) := by
          intro m
          induction m with
          | zero =>
            intro j hj
            obtain rfl : j = lc - 1 := by omega
            refine e_iload_n C d_Asks_takeFirstLine_102 rfl ?_
            refine e_iconst C d_Asks_takeFirstLine_103 (v := 1) (by decide) ?_
            refine e_iadd C d_Asks_takeFirstLine_104 ?_
            refine e_top (y := nI (lc - 1 + 1)) (nI_1 _) ?_
            refine e_aload_n C d_Asks_takeFirstLine_105 rfl ?_
            refine e_get C 11 (k := 6) in_Asks g224 d_Asks_takeFirstLine_106 rfl rfl rfl rfl ?_
            refine e_top h12 ?_
            refine e_icmp_ge C d_Asks_takeFirstLine_109 (tgt := 132) (by decide) (fun h109 => ?_) (fun h109 => ?_)
            · skip
              refine e_aload_n C d_Asks_takeFirstLine_132 rfl ?_
              refine e_dup C d_Asks_takeFirstLine_133 rfl ?_
              refine e_get C 11 (k := 6) in_Asks g224 d_Asks_takeFirstLine_134 rfl rfl rfl rfl ?_
              refine e_iconst C d_Asks_takeFirstLine_137 (v := 1) (by decide) ?_
              refine e_isub C d_Asks_takeFirstLine_138 ?_
              refine e_top (y := nI (lc - 1)) (by show v 12 - 1 = _; rw [show v 12 = nI (lc - 1 + 1) by rw [h12, show lc - 1 + 1 = lc by omega]]; exact nI_pred _) ?_
              refine e_put C 11 (k := 6) in_Asks tk_Asks nm_Asks g224 d_Asks_takeFirstLine_139 rfl rfl rfl rfl rfl rfl rfl rfl ?_
              refine e_iload_n C d_Asks_takeFirstLine_142 rfl ?_
              exact e_iret C E d_Asks_takeFirstLine_143 (Nat.le_refl _) (Nat.le_refl _) rfl ⟨rfl, rfl⟩
            · exact absurd (nI_le (by omega) (by omega)) h109
          | succ m ih2 =>
            intro j hj
            refine e_iload_n C d_Asks_takeFirstLine_102 rfl ?_
            refine e_iconst C d_Asks_takeFirstLine_103 (v := 1) (by decide) ?_
            refine e_iadd C d_Asks_takeFirstLine_104 ?_
            refine e_top (y := nI (j + 1)) (nI_1 _) ?_
            refine e_aload_n C d_Asks_takeFirstLine_105 rfl ?_
            refine e_get C 11 (k := 6) in_Asks g224 d_Asks_takeFirstLine_106 rfl rfl rfl rfl ?_
            refine e_top h12 ?_
            refine e_icmp_ge C d_Asks_takeFirstLine_109 (tgt := 132) (by decide) (fun h109 => ?_) (fun h109 => ?_)
            · exact absurd h109 (nI_ge (by omega) (by omega))
            · skip
              refine e_aload_n C d_Asks_takeFirstLine_112 rfl ?_
              refine e_get C 11 (k := 2) in_Asks g217 d_Asks_takeFirstLine_113 rfl rfl rfl rfl ?_
              refine e_iload_n C d_Asks_takeFirstLine_116 rfl ?_
              refine e_aload_n C d_Asks_takeFirstLine_117 rfl ?_
              refine e_get C 11 (k := 2) in_Asks g217 d_Asks_takeFirstLine_118 rfl rfl rfl rfl ?_
              refine e_iload_n C d_Asks_takeFirstLine_121 rfl ?_
              refine e_iconst C d_Asks_takeFirstLine_122 (v := 1) (by decide) ?_
              refine e_iadd C d_Asks_takeFirstLine_123 ?_
              refine e_iald C 14 0 d_Asks_takeFirstLine_124 rfl rfl (j + 1) (nI_1 j) (by omega) (by omega) ?_
              refine e_iast C 14 0 d_Asks_takeFirstLine_125 rfl rfl j rfl (by omega) (by omega) ?_
              refine e_eq (ws' := cF G a (upd (upd v 13 (nI t.2.2.2.2)) 11 (nI t.2.2.2.1)) (up2 (tkF f t) 14 (shf (f 14) 0 (j + 1))) n V wr) (by simp only [shf_s (Nat.zero_le j)]; rfl) ?_
              refine e_iinc C d_Asks_takeFirstLine_126 rfl (nI_1 j) rfl ?_
              refine e_goto C d_Asks_takeFirstLine_129 (tgt := 102) (by decide) ?_
              exact e_lv2 (ih2 (j + 1) (by omega)) rfl
        refine e_eq (ws' := cF G a (upd (upd v 13 (nI t.2.2.2.2)) 11 (nI t.2.2.2.1)) (up2 (tkF f t) 14 (shf (f 14) 0 0)) n V wr) (by simp only [shf_0]; rfl) ?_
        exact e_lv2 (L2 (lc - 1) 0 (by omega)) rfl
      · exact absurd (nI_le (by omega) (by omega)) h21
    | succ m ih =>
      intro k hk
      have hle := tk_le x (f 12) (f 13) (f 15) k
      refine e_iload_n C d_Asks_takeFirstLine_16 rfl ?_
      refine e_aload_n C d_Asks_takeFirstLine_17 rfl ?_
      refine e_get C 11 (k := 5) in_Asks g222 d_Asks_takeFirstLine_18 rfl rfl rfl rfl ?_
      refine e_top h11 ?_
      refine e_icmp_ge C d_Asks_takeFirstLine_21 (tgt := 95) (by decide) (fun h21 => ?_) (fun h21 => ?_)
      · exact absurd h21 (nI_ge (by omega) (by omega))
      · skip
        refine e_aload_n C d_Asks_takeFirstLine_24 rfl ?_
        refine e_get C 11 (k := 0) in_Asks g215 d_Asks_takeFirstLine_25 rfl rfl rfl rfl ?_
        refine e_iload_n C d_Asks_takeFirstLine_28 rfl ?_
        refine e_iald C 12 0 d_Asks_takeFirstLine_29 rfl rfl k rfl (by omega) (by omega) ?_
        refine e_iload_n C d_Asks_takeFirstLine_30 rfl ?_
        refine e_icmp_ne C d_Asks_takeFirstLine_31 (tgt := 62) (by decide) (fun h31 => ?_) (fun h31 => ?_)
        · have hs : tk x (f 12) (f 13) (f 15) (k + 1) = (upd (tk x (f 12) (f 13) (f 15) k).1 (tk x (f 12) (f 13) (f 15) k).2.2.2.1 ((tk x (f 12) (f 13) (f 15) k).1 k), upd (tk x (f 12) (f 13) (f 15) k).2.1 (tk x (f 12) (f 13) (f 15) k).2.2.2.1 ((tk x (f 12) (f 13) (f 15) k).2.1 k), (tk x (f 12) (f 13) (f 15) k).2.2.1, (tk x (f 12) (f 13) (f 15) k).2.2.2.1 + 1, (tk x (f 12) (f 13) (f 15) k).2.2.2.2) := by
            have h31 : ¬ (tk x (f 12) (f 13) (f 15) k).1 k = x := h31
            simp only [tk, if_neg h31]
          have ih := ih (k + 1) (by omega)
          rw [hs] at ih
          refine e_aload_n C d_Asks_takeFirstLine_62 rfl ?_
          refine e_get C 11 (k := 0) in_Asks g215 d_Asks_takeFirstLine_63 rfl rfl rfl rfl ?_
          refine e_iload_n C d_Asks_takeFirstLine_66 rfl ?_
          refine e_aload_n C d_Asks_takeFirstLine_67 rfl ?_
          refine e_get C 11 (k := 0) in_Asks g215 d_Asks_takeFirstLine_68 rfl rfl rfl rfl ?_
          refine e_iload_n C d_Asks_takeFirstLine_71 rfl ?_
          refine e_iald C 12 0 d_Asks_takeFirstLine_72 rfl rfl k rfl (by omega) (by omega) ?_
          refine e_iast C 12 0 d_Asks_takeFirstLine_73 rfl rfl _ rfl (by omega) (by omega) ?_
          refine e_aload_n C d_Asks_takeFirstLine_74 rfl ?_
          refine e_get C 11 (k := 1) in_Asks g216 d_Asks_takeFirstLine_75 rfl rfl rfl rfl ?_
          refine e_iload_n C d_Asks_takeFirstLine_78 rfl ?_
          refine e_aload_n C d_Asks_takeFirstLine_79 rfl ?_
          refine e_get C 11 (k := 1) in_Asks g216 d_Asks_takeFirstLine_80 rfl rfl rfl rfl ?_
          refine e_iload_n C d_Asks_takeFirstLine_83 rfl ?_
          refine e_iald C 13 0 d_Asks_takeFirstLine_84 rfl rfl k rfl (by omega) (by omega) ?_
          refine e_iast C 13 0 d_Asks_takeFirstLine_85 rfl rfl _ rfl (by omega) (by omega) ?_
          refine e_iinc C d_Asks_takeFirstLine_86 rfl (nI_1 _) rfl ?_
          refine e_iinc C d_Asks_takeFirstLine_89 rfl (nI_1 k) rfl ?_
          refine e_goto C d_Asks_takeFirstLine_92 (tgt := 16) (by decide) ?_
          exact e_lv2 ih rfl
        · have hs : tk x (f 12) (f 13) (f 15) (k + 1) = ((tk x (f 12) (f 13) (f 15) k).1, (tk x (f 12) (f 13) (f 15) k).2.1, upd (tk x (f 12) (f 13) (f 15) k).2.2.1 (tk x (f 12) (f 13) (f 15) k).2.2.2.2 ((tk x (f 12) (f 13) (f 15) k).2.1 k), (tk x (f 12) (f 13) (f 15) k).2.2.2.1, (tk x (f 12) (f 13) (f 15) k).2.2.2.2 + 1) := by
            have h31 : (tk x (f 12) (f 13) (f 15) k).1 k = x := h31
            simp only [tk, if_pos h31]
          have ih := ih (k + 1) (by omega)
          rw [hs] at ih
          refine e_aload_n C d_Asks_takeFirstLine_34 rfl ?_
          refine e_get C 11 (k := 3) in_Asks g218 d_Asks_takeFirstLine_35 rfl rfl rfl rfl ?_
          refine e_aload_n C d_Asks_takeFirstLine_38 rfl ?_
          refine e_get C 11 (k := 7) in_Asks g226 d_Asks_takeFirstLine_39 rfl rfl rfl rfl ?_
          refine e_aload_n C d_Asks_takeFirstLine_42 rfl ?_
          refine e_get C 11 (k := 1) in_Asks g216 d_Asks_takeFirstLine_43 rfl rfl rfl rfl ?_
          refine e_iload_n C d_Asks_takeFirstLine_46 rfl ?_
          refine e_iald C 13 0 d_Asks_takeFirstLine_47 rfl rfl k rfl (by omega) (by omega) ?_
          refine e_iast C 15 0 d_Asks_takeFirstLine_48 rfl rfl _ rfl (by omega) (by omega) ?_
          refine e_aload_n C d_Asks_takeFirstLine_49 rfl ?_
          refine e_dup C d_Asks_takeFirstLine_50 rfl ?_
          refine e_get C 11 (k := 7) in_Asks g226 d_Asks_takeFirstLine_51 rfl rfl rfl rfl ?_
          refine e_iconst C d_Asks_takeFirstLine_54 (v := 1) (by decide) ?_
          refine e_iadd C d_Asks_takeFirstLine_55 ?_
          refine e_top (nI_1 _) ?_
          refine e_put C 11 (k := 7) in_Asks tk_Asks nm_Asks g226 d_Asks_takeFirstLine_56 rfl rfl rfl rfl rfl rfl rfl rfl ?_
          refine e_goto C d_Asks_takeFirstLine_59 (tgt := 89) (by decide) ?_
          refine e_iinc C d_Asks_takeFirstLine_89 rfl (nI_1 k) rfl ?_
          refine e_goto C d_Asks_takeFirstLine_92 (tgt := 16) (by decide) ?_
          exact e_lv2 ih rfl
  exact e_lv2 (L z 0 (by omega)) rfl
end AsksRows
end
section
/-! HISTORY -/
theorem ey_Hist_find : eY y_Hist_find 1 = true := by decide +kernel
theorem d_Hist_find_0 : decode c_Hist_find 0 = .ok (.iconst 0, 1) := by decide +kernel
theorem d_Hist_find_1 : decode c_Hist_find 1 = .ok (.istore_n 2, 1) := by decide +kernel
theorem d_Hist_find_2 : decode c_Hist_find 2 = .ok (.iload_n 2, 1) := by decide +kernel
theorem d_Hist_find_3 : decode c_Hist_find 3 = .ok (.aload_n 0, 1) := by decide +kernel
theorem d_Hist_find_4 : decode c_Hist_find 4 = .ok (.getfield 18, 3) := by decide +kernel
theorem d_Hist_find_7 : decode c_Hist_find 7 = .ok (.if_icmp .ge 21, 3) := by decide +kernel
theorem d_Hist_find_10 : decode c_Hist_find 10 = .ok (.aload_n 0, 1) := by decide +kernel
theorem d_Hist_find_11 : decode c_Hist_find 11 = .ok (.getfield 11, 3) := by decide +kernel
theorem d_Hist_find_14 : decode c_Hist_find 14 = .ok (.iload_n 2, 1) := by decide +kernel
theorem d_Hist_find_15 : decode c_Hist_find 15 = .ok (.iaload, 1) := by decide +kernel
theorem d_Hist_find_16 : decode c_Hist_find 16 = .ok (.iload_n 1, 1) := by decide +kernel
theorem d_Hist_find_17 : decode c_Hist_find 17 = .ok (.if_icmp .ne 5, 3) := by decide +kernel
theorem d_Hist_find_20 : decode c_Hist_find 20 = .ok (.iload_n 2, 1) := by decide +kernel
theorem d_Hist_find_21 : decode c_Hist_find 21 = .ok (.ireturn, 1) := by decide +kernel
theorem d_Hist_find_22 : decode c_Hist_find 22 = .ok (.iinc 2 1, 3) := by decide +kernel
theorem d_Hist_find_25 : decode c_Hist_find 25 = .ok (.goto (-23), 3) := by decide +kernel
theorem d_Hist_find_28 : decode c_Hist_find 28 = .ok (.iconst (-1), 1) := by decide +kernel
theorem d_Hist_find_29 : decode c_Hist_find 29 = .ok (.ireturn, 1) := by decide +kernel
theorem ey_Hist_note : eY y_Hist_note 1 = true := by decide +kernel
theorem d_Hist_note_0 : decode c_Hist_note 0 = .ok (.aload_n 0, 1) := by decide +kernel
theorem d_Hist_note_1 : decode c_Hist_note 1 = .ok (.iload_n 1, 1) := by decide +kernel
theorem d_Hist_note_2 : decode c_Hist_note 2 = .ok (.invokevirtual 22, 3) := by decide +kernel
theorem d_Hist_note_5 : decode c_Hist_note 5 = .ok (.istore_n 2, 1) := by decide +kernel
theorem d_Hist_note_6 : decode c_Hist_note 6 = .ok (.iload_n 2, 1) := by decide +kernel
theorem d_Hist_note_7 : decode c_Hist_note 7 = .ok (.iconst (-1), 1) := by decide +kernel
theorem d_Hist_note_8 : decode c_Hist_note 8 = .ok (.if_icmp .eq 16, 3) := by decide +kernel
theorem d_Hist_note_11 : decode c_Hist_note 11 = .ok (.aload_n 0, 1) := by decide +kernel
theorem d_Hist_note_12 : decode c_Hist_note 12 = .ok (.getfield 15, 3) := by decide +kernel
theorem d_Hist_note_15 : decode c_Hist_note 15 = .ok (.iload_n 2, 1) := by decide +kernel
theorem d_Hist_note_16 : decode c_Hist_note 16 = .ok (.dup2, 1) := by decide +kernel
theorem d_Hist_note_17 : decode c_Hist_note 17 = .ok (.iaload, 1) := by decide +kernel
theorem d_Hist_note_18 : decode c_Hist_note 18 = .ok (.iconst 1, 1) := by decide +kernel
theorem d_Hist_note_19 : decode c_Hist_note 19 = .ok (.iadd, 1) := by decide +kernel
theorem d_Hist_note_20 : decode c_Hist_note 20 = .ok (.iastore, 1) := by decide +kernel
theorem d_Hist_note_21 : decode c_Hist_note 21 = .ok (.goto 39, 3) := by decide +kernel
theorem d_Hist_note_24 : decode c_Hist_note 24 = .ok (.aload_n 0, 1) := by decide +kernel
theorem d_Hist_note_25 : decode c_Hist_note 25 = .ok (.dup, 1) := by decide +kernel
theorem d_Hist_note_26 : decode c_Hist_note 26 = .ok (.getfield 26, 3) := by decide +kernel
theorem d_Hist_note_29 : decode c_Hist_note 29 = .ok (.iconst 1, 1) := by decide +kernel
theorem d_Hist_note_30 : decode c_Hist_note 30 = .ok (.iadd, 1) := by decide +kernel
theorem d_Hist_note_31 : decode c_Hist_note 31 = .ok (.putfield 26, 3) := by decide +kernel
theorem d_Hist_note_34 : decode c_Hist_note 34 = .ok (.aload_n 0, 1) := by decide +kernel
theorem d_Hist_note_35 : decode c_Hist_note 35 = .ok (.getfield 18, 3) := by decide +kernel
theorem d_Hist_note_38 : decode c_Hist_note 38 = .ok (.bipush 64, 2) := by decide +kernel
theorem d_Hist_note_40 : decode c_Hist_note 40 = .ok (.if_icmp .ge 10, 3) := by decide +kernel
theorem d_Hist_note_43 : decode c_Hist_note 43 = .ok (.aload_n 0, 1) := by decide +kernel
theorem d_Hist_note_44 : decode c_Hist_note 44 = .ok (.getfield 18, 3) := by decide +kernel
theorem d_Hist_note_47 : decode c_Hist_note 47 = .ok (.goto 5, 3) := by decide +kernel
theorem d_Hist_note_50 : decode c_Hist_note 50 = .ok (.bipush 63, 2) := by decide +kernel
theorem d_Hist_note_52 : decode c_Hist_note 52 = .ok (.istore_n 2, 1) := by decide +kernel
theorem d_Hist_note_53 : decode c_Hist_note 53 = .ok (.aload_n 0, 1) := by decide +kernel
theorem d_Hist_note_54 : decode c_Hist_note 54 = .ok (.iload_n 2, 1) := by decide +kernel
theorem d_Hist_note_55 : decode c_Hist_note 55 = .ok (.iconst 1, 1) := by decide +kernel
theorem d_Hist_note_56 : decode c_Hist_note 56 = .ok (.iadd, 1) := by decide +kernel
theorem d_Hist_note_57 : decode c_Hist_note 57 = .ok (.putfield 18, 3) := by decide +kernel
theorem d_Hist_note_60 : decode c_Hist_note 60 = .ok (.iload_n 2, 1) := by decide +kernel
theorem d_Hist_note_61 : decode c_Hist_note 61 = .ok (.istore_n 3, 1) := by decide +kernel
theorem d_Hist_note_62 : decode c_Hist_note 62 = .ok (.iload_n 3, 1) := by decide +kernel
theorem d_Hist_note_63 : decode c_Hist_note 63 = .ok (.ifCond .le 23, 3) := by decide +kernel
theorem d_Hist_note_66 : decode c_Hist_note 66 = .ok (.aload_n 0, 1) := by decide +kernel
theorem d_Hist_note_67 : decode c_Hist_note 67 = .ok (.getfield 11, 3) := by decide +kernel
theorem d_Hist_note_70 : decode c_Hist_note 70 = .ok (.iload_n 3, 1) := by decide +kernel
theorem d_Hist_note_71 : decode c_Hist_note 71 = .ok (.aload_n 0, 1) := by decide +kernel
theorem d_Hist_note_72 : decode c_Hist_note 72 = .ok (.getfield 11, 3) := by decide +kernel
theorem d_Hist_note_75 : decode c_Hist_note 75 = .ok (.iload_n 3, 1) := by decide +kernel
theorem d_Hist_note_76 : decode c_Hist_note 76 = .ok (.iconst 1, 1) := by decide +kernel
theorem d_Hist_note_77 : decode c_Hist_note 77 = .ok (.isub, 1) := by decide +kernel
theorem d_Hist_note_78 : decode c_Hist_note 78 = .ok (.iaload, 1) := by decide +kernel
theorem d_Hist_note_79 : decode c_Hist_note 79 = .ok (.iastore, 1) := by decide +kernel
theorem d_Hist_note_80 : decode c_Hist_note 80 = .ok (.iinc 3 (-1), 3) := by decide +kernel
theorem d_Hist_note_83 : decode c_Hist_note 83 = .ok (.goto (-21), 3) := by decide +kernel
theorem d_Hist_note_86 : decode c_Hist_note 86 = .ok (.aload_n 0, 1) := by decide +kernel
theorem d_Hist_note_87 : decode c_Hist_note 87 = .ok (.getfield 11, 3) := by decide +kernel
theorem d_Hist_note_90 : decode c_Hist_note 90 = .ok (.iconst 0, 1) := by decide +kernel
theorem d_Hist_note_91 : decode c_Hist_note 91 = .ok (.iload_n 1, 1) := by decide +kernel
theorem d_Hist_note_92 : decode c_Hist_note 92 = .ok (.iastore, 1) := by decide +kernel
theorem d_Hist_note_93 : decode c_Hist_note 93 = .ok (.return_, 1) := by decide +kernel
theorem ey_Hist_countFrom : eY y_Hist_countFrom 1 = true := by decide +kernel
theorem d_Hist_countFrom_0 : decode c_Hist_countFrom 0 = .ok (.aload_n 0, 1) := by decide +kernel
theorem d_Hist_countFrom_1 : decode c_Hist_countFrom 1 = .ok (.getfield 26, 3) := by decide +kernel
theorem d_Hist_countFrom_4 : decode c_Hist_countFrom 4 = .ok (.istore_n 2, 1) := by decide +kernel
theorem d_Hist_countFrom_5 : decode c_Hist_countFrom 5 = .ok (.iload_n 1, 1) := by decide +kernel
theorem d_Hist_countFrom_6 : decode c_Hist_countFrom 6 = .ok (.istore_n 3, 1) := by decide +kernel
theorem d_Hist_countFrom_7 : decode c_Hist_countFrom 7 = .ok (.iload_n 3, 1) := by decide +kernel
theorem d_Hist_countFrom_8 : decode c_Hist_countFrom 8 = .ok (.bipush 64, 2) := by decide +kernel
theorem d_Hist_countFrom_10 : decode c_Hist_countFrom 10 = .ok (.if_icmp .ge 18, 3) := by decide +kernel
theorem d_Hist_countFrom_13 : decode c_Hist_countFrom 13 = .ok (.iload_n 2, 1) := by decide +kernel
theorem d_Hist_countFrom_14 : decode c_Hist_countFrom 14 = .ok (.aload_n 0, 1) := by decide +kernel
theorem d_Hist_countFrom_15 : decode c_Hist_countFrom 15 = .ok (.getfield 15, 3) := by decide +kernel
theorem d_Hist_countFrom_18 : decode c_Hist_countFrom 18 = .ok (.iload_n 3, 1) := by decide +kernel
theorem d_Hist_countFrom_19 : decode c_Hist_countFrom 19 = .ok (.iaload, 1) := by decide +kernel
theorem d_Hist_countFrom_20 : decode c_Hist_countFrom 20 = .ok (.iadd, 1) := by decide +kernel
theorem d_Hist_countFrom_21 : decode c_Hist_countFrom 21 = .ok (.istore_n 2, 1) := by decide +kernel
theorem d_Hist_countFrom_22 : decode c_Hist_countFrom 22 = .ok (.iinc 3 1, 3) := by decide +kernel
theorem d_Hist_countFrom_25 : decode c_Hist_countFrom 25 = .ok (.goto (-18), 3) := by decide +kernel
theorem d_Hist_countFrom_28 : decode c_Hist_countFrom 28 = .ok (.iload_n 2, 1) := by decide +kernel
theorem d_Hist_countFrom_29 : decode c_Hist_countFrom 29 = .ok (.ireturn, 1) := by decide +kernel
/-- hs lines back -/
def HD (v : Nat → Int32) (hs : Nat) : Prop := v 14 = nI hs ∧ hs ≤ 64
/-- where the line lies -/
def hfd (f : Nat → Nat → Int32) (hs : Nat) (x : Int32) : Option Nat := fst1 (fun k => f 18 k == x) 0 hs
section HistRows
variable {l : Launch} {G : EG} {a : Nat → Nat} {v : Nat → Int32} {f : Nat → Nat → Int32} {n V hs : Nat} {wr : va_W}
set_option maxRecDepth 100000 in
theorem k_Hist_find (h : HD v hs) (x : Int32) : Con l G y_Hist_find c_Hist_find 3 (some .int) (rz 0 0) [.ref (a 17), .int x] (cF G a v f n V wr) (DI (oI (hfd f hs x)) (cF G a v f n V wr)) := by
  refine Con.of rfl rfl (fun X C E hR hl hn => ?_)
  obtain ⟨h14, hz⟩ := h
  unfold hfd at E
  refine e_iconst C d_Hist_find_0 (v := 0) (by decide) ?_
  refine e_istore_n C d_Hist_find_1 rfl ?_
  have L : ∀ m k : Nat, k + m = hs → fst1 (fun k => f 18 k == x) k m = fst1 (fun k => f 18 k == x) 0 hs → EW X G 3 0 0 2 [(0, .ref (a 17)), (1, .int x), (2, .int (nI k))] [] (cF G a v f n V wr) := by
    intro m
    induction m with
    | zero =>
      intro k hk hf
      refine e_iload_n C d_Hist_find_2 rfl ?_
      refine e_aload_n C d_Hist_find_3 rfl ?_
      refine e_get C 17 (k := 2) in_Hist g253 d_Hist_find_4 rfl rfl rfl rfl ?_
      refine e_top h14 ?_
      refine e_icmp_ge C d_Hist_find_7 (tgt := 28) (by decide) (fun h7 => ?_) (fun h7 => ?_)
      · skip
        refine e_iconst C d_Hist_find_28 (v := (-1)) (by decide) ?_
        exact e_iret C E d_Hist_find_29 (Nat.le_refl _) (Nat.le_refl _) rfl ⟨by rw [← hf]; rfl, rfl⟩
      · exact absurd (nI_le (by omega) (by omega)) h7
    | succ m ih =>
      intro k hk hf
      refine e_iload_n C d_Hist_find_2 rfl ?_
      refine e_aload_n C d_Hist_find_3 rfl ?_
      refine e_get C 17 (k := 2) in_Hist g253 d_Hist_find_4 rfl rfl rfl rfl ?_
      refine e_top h14 ?_
      refine e_icmp_ge C d_Hist_find_7 (tgt := 28) (by decide) (fun h7 => ?_) (fun h7 => ?_)
      · exact absurd h7 (nI_ge (by omega) (by omega))
      · skip
        refine e_aload_n C d_Hist_find_10 rfl ?_
        refine e_get C 17 (k := 0) in_Hist g251 d_Hist_find_11 rfl rfl rfl rfl ?_
        refine e_iload_n C d_Hist_find_14 rfl ?_
        refine e_iald C 18 0 d_Hist_find_15 rfl rfl k rfl (by omega) (by omega) ?_
        refine e_iload_n C d_Hist_find_16 rfl ?_
        refine e_icmp_ne C d_Hist_find_17 (tgt := 22) (by decide) (fun h17 => ?_) (fun h17 => ?_)
        · skip
          refine e_iinc C d_Hist_find_22 rfl (nI_1 k) rfl ?_
          refine e_goto C d_Hist_find_25 (tgt := 2) (by decide) ?_
          exact e_lv2 (ih (k + 1) (by omega) (by rw [← hf]; simp [fst1, h17])) rfl
        · skip
          refine e_iload_n C d_Hist_find_20 rfl ?_
          exact e_iret C E d_Hist_find_21 (Nat.le_refl _) (Nat.le_refl _) rfl ⟨by rw [← hf]; simp [fst1, h17, oI], rfl⟩
  exact e_lv2 (L hs 0 (by omega) rfl) rfl
/-- from where the lines move -/
def ntK (f : Nat → Nat → Int32) (hs : Nat) (x : Int32) : Nat := match hfd f hs x with
  | some k => k
  | none => if hs < 64 then hs else 63
def ntV (v : Nat → Int32) (f : Nat → Nat → Int32) (hs : Nat) (x : Int32) : Nat → Int32 := match hfd f hs x with
  | some _ => v
  | none => upd (upd v 15 (v 15 + 1)) 14 (nI (ntK f hs x + 1))
def ntF (f : Nat → Nat → Int32) (hs : Nat) (x : Int32) : Nat → Nat → Int32 := up2 (match hfd f hs x with
  | some k => up2 f 19 (upd (f 19) k (f 19 k + 1))
  | none => f) 18 (upd (shu (f 18) 0 (ntK f hs x)) 0 x)
theorem oI_n1 {o : Option Nat} (h : ∀ k, o = some k → k < 2 ^ 31) : oI o = -1 ↔ o = none := by
  cases o with
  | none => simp [oI]
  | some k =>
    simp only [oI, reduceCtorEq, iff_false]
    intro e
    have := nI_pos (h k rfl)
    rw [e] at this
    exact this (by decide)
set_option maxRecDepth 100000 in
theorem note_loop {X : EX} {cA : Nat} {v : Nat → Int32} {B : Option Value → va_W → Prop} (C : EC X G "CacheRules$History" c_Hist_note 4) (E : ER X G 0 0 B none) (x : Int32) (y2 : Int32) (k0 : Nat) (hk0 : k0 < 64) (hB : B none (cF G a v (up2 f 18 (upd (shu (f 18) 0 k0) 0 x)) n V wr)) :
    ∀ k : Nat, k ≤ k0 → EW X G 4 0 0 62 [(0, .ref (a 17)), (1, .int x), (2, .int y2), (3, .int (nI k))] [] (cF G a v (up2 f 18 (shu (f 18) k k0)) n V wr) := by
  intro k
  induction k with
  | zero =>
    intro hk
    refine e_iload_n C d_Hist_note_62 rfl ?_
    refine e_if_le C d_Hist_note_63 (tgt := 86) (by decide) (fun h63 => ?_) (fun h63 => ?_)
    · skip
      refine e_aload_n C d_Hist_note_86 rfl ?_
      refine e_get C 17 (k := 0) in_Hist g251 d_Hist_note_87 rfl rfl rfl rfl ?_
      refine e_iconst C d_Hist_note_90 (v := 0) (by decide) ?_
      refine e_iload_n C d_Hist_note_91 rfl ?_
      refine e_iast C 18 0 d_Hist_note_92 rfl rfl 0 rfl (by omega) (by omega) ?_
      exact e_vret C E d_Hist_note_93 (Nat.le_refl _) (Nat.le_refl _) hB
    · exact absurd (by decide) h63
  | succ k ih =>
    intro hk
    refine e_iload_n C d_Hist_note_62 rfl ?_
    refine e_if_le C d_Hist_note_63 (tgt := 86) (by decide) (fun h63 => ?_) (fun h63 => ?_)
    · exact absurd h63 (nI_nle (by omega) (by omega))
    · skip
      refine e_aload_n C d_Hist_note_66 rfl ?_
      refine e_get C 17 (k := 0) in_Hist g251 d_Hist_note_67 rfl rfl rfl rfl ?_
      refine e_iload_n C d_Hist_note_70 rfl ?_
      refine e_aload_n C d_Hist_note_71 rfl ?_
      refine e_get C 17 (k := 0) in_Hist g251 d_Hist_note_72 rfl rfl rfl rfl ?_
      refine e_iload_n C d_Hist_note_75 rfl ?_
      refine e_iconst C d_Hist_note_76 (v := 1) (by decide) ?_
      refine e_isub C d_Hist_note_77 ?_
      refine e_iald C 18 0 d_Hist_note_78 rfl rfl k (nI_pred k) (by omega) (by omega) ?_
      refine e_iast C 18 0 d_Hist_note_79 rfl rfl (k + 1) rfl (by omega) (by omega) ?_
      refine e_eq (ws' := cF G a v (up2 f 18 (shu (f 18) k k0)) n V wr) (by simp only [shu_s hk]; rfl) ?_
      refine e_iinc C d_Hist_note_80 rfl (pk_m1 k) rfl ?_
      refine e_goto C d_Hist_note_83 (tgt := 62) (by decide) ?_
      exact e_lv2 (ih (by omega)) rfl
set_option maxRecDepth 100000 in
theorem k_Hist_note (h : HD v hs) (x : Int32) : Con l G y_Hist_note c_Hist_note 4 none (rz 1 22) [.ref (a 17), .int x] (cF G a v f n V wr) (DV (cF G a (ntV v f hs x) (ntF f hs x) n V wr)) := by
  refine Con.of rfl rfl (fun X C E hR hl hn => ?_)
  have h0 := h
  obtain ⟨h14, hz⟩ := h
  have hb : ∀ k, hfd f hs x = some k → k < 2 ^ 31 := fun k hk => by have := fst1_some hk; omega
  refine e_aload_n C d_Hist_note_0 rfl ?_
  refine e_iload_n C d_Hist_note_1 rfl ?_
  refine e_cVi C hR 17 (k_Hist_find h0 x) g364 g13 g460 g362 g363 d_Hist_note_2 rfl ey_Hist_find rfl rfl rfl rfl ⟨Nat.zero_le _, Nat.zero_le _⟩ ?_
  refine e_istore_n C d_Hist_note_5 rfl ?_
  refine e_iload_n C d_Hist_note_6 rfl ?_
  refine e_iconst C d_Hist_note_7 (v := (-1)) (by decide) ?_
  refine e_icmp_eq C d_Hist_note_8 (tgt := 24) (by decide) (fun h8 => ?_) (fun h8 => ?_)
  · rw [oI_n1 hb] at h8
    have eK : ntK f hs x = if hs < 64 then hs else 63 := by simp [ntK, h8]
    have eV : ntV v f hs x = upd (upd v 15 (v 15 + 1)) 14 (nI (ntK f hs x + 1)) := by simp [ntV, h8]
    have eF : ntF f hs x = up2 f 18 (upd (shu (f 18) 0 (ntK f hs x)) 0 x) := by simp [ntF, h8]
    rw [eV, eF] at E
    generalize ntK f hs x = K at eK E
    refine e_aload_n C d_Hist_note_24 rfl ?_
    refine e_dup C d_Hist_note_25 rfl ?_
    refine e_get C 17 (k := 3) in_Hist g254 d_Hist_note_26 rfl rfl rfl rfl ?_
    refine e_iconst C d_Hist_note_29 (v := 1) (by decide) ?_
    refine e_iadd C d_Hist_note_30 ?_
    refine e_put C 17 (k := 3) in_Hist tk_Hist nm_Hist g254 d_Hist_note_31 rfl rfl rfl rfl rfl rfl rfl rfl ?_
    refine e_aload_n C d_Hist_note_34 rfl ?_
    refine e_get C 17 (k := 2) in_Hist g253 d_Hist_note_35 rfl rfl rfl rfl ?_
    refine e_top (show _ = nI hs from h14) ?_
    refine e_bipush C d_Hist_note_38 (v := nI 64) (by decide) ?_
    refine e_icmp_ge C d_Hist_note_40 (tgt := 50) (by decide) (fun h40 => ?_) (fun h40 => ?_)
    · rw [nI_leI (by omega) (by omega)] at h40
      obtain rfl : K = 63 := by rw [eK, if_neg (by omega)]
      refine e_bipush C d_Hist_note_50 (v := nI 63) (by decide) ?_
      refine e_istore_n C d_Hist_note_52 rfl ?_
      refine e_aload_n C d_Hist_note_53 rfl ?_
      refine e_iload_n C d_Hist_note_54 rfl ?_
      refine e_iconst C d_Hist_note_55 (v := 1) (by decide) ?_
      refine e_iadd C d_Hist_note_56 ?_
      refine e_top (y := nI (63 + 1)) (nI_1 _) ?_
      refine e_put C 17 (k := 2) in_Hist tk_Hist nm_Hist g253 d_Hist_note_57 rfl rfl rfl rfl rfl rfl rfl rfl ?_
      refine e_iload_n C d_Hist_note_60 rfl ?_
      refine e_istore_n C d_Hist_note_61 rfl ?_
      refine e_eq (ws' := cF G a (upd (upd v 15 (v 15 + 1)) 14 (nI (63 + 1))) (up2 f 18 (shu (f 18) 63 63)) n V wr) (by simp only [shu_0]; rfl) ?_
      exact e_lv2 (note_loop (cA := 0) C E x _ 63 (by omega) ⟨rfl, rfl⟩ 63 (Nat.le_refl _)) rfl
    · rw [nI_leI (by omega) (by omega)] at h40
      obtain rfl : K = hs := by rw [eK, if_pos (by omega)]
      refine e_aload_n C d_Hist_note_43 rfl ?_
      refine e_get C 17 (k := 2) in_Hist g253 d_Hist_note_44 rfl rfl rfl rfl ?_
      refine e_top (show _ = nI K from h14) ?_
      refine e_goto C d_Hist_note_47 (tgt := 52) (by decide) ?_
      refine e_istore_n C d_Hist_note_52 rfl ?_
      refine e_aload_n C d_Hist_note_53 rfl ?_
      refine e_iload_n C d_Hist_note_54 rfl ?_
      refine e_iconst C d_Hist_note_55 (v := 1) (by decide) ?_
      refine e_iadd C d_Hist_note_56 ?_
      refine e_top (y := nI (K + 1)) (nI_1 _) ?_
      refine e_put C 17 (k := 2) in_Hist tk_Hist nm_Hist g253 d_Hist_note_57 rfl rfl rfl rfl rfl rfl rfl rfl ?_
      refine e_iload_n C d_Hist_note_60 rfl ?_
      refine e_istore_n C d_Hist_note_61 rfl ?_
      refine e_eq (ws' := cF G a (upd (upd v 15 (v 15 + 1)) 14 (nI (K + 1))) (up2 f 18 (shu (f 18) K K)) n V wr) (by simp only [shu_0]; rfl) ?_
      exact e_lv2 (note_loop (cA := 0) C E x _ K (by omega) ⟨rfl, rfl⟩ K (Nat.le_refl _)) rfl
  · rw [oI_n1 hb] at h8
    obtain ⟨K, hK⟩ := Option.ne_none_iff_exists'.mp h8
    have hK2 := fst1_some hK
    have eV : ntV v f hs x = v := by simp [ntV, hK]
    have eF : ntF f hs x = up2 (up2 f 19 (upd (f 19) K (f 19 K + 1))) 18 (upd (shu (f 18) 0 K) 0 x) := by simp [ntF, ntK, hK]
    rw [eV, eF] at E
    rw [hK]
    refine e_aload_n C d_Hist_note_11 rfl ?_
    refine e_get C 17 (k := 1) in_Hist g252 d_Hist_note_12 rfl rfl rfl rfl ?_
    refine e_iload_n C d_Hist_note_15 rfl ?_
    refine e_dup2 C d_Hist_note_16 rfl rfl ?_
    refine e_iald C 19 0 d_Hist_note_17 rfl rfl K rfl (by omega) (by omega) ?_
    refine e_iconst C d_Hist_note_18 (v := 1) (by decide) ?_
    refine e_iadd C d_Hist_note_19 ?_
    refine e_iast C 19 0 d_Hist_note_20 rfl rfl K rfl (by omega) (by omega) ?_
    refine e_goto C d_Hist_note_21 (tgt := 60) (by decide) ?_
    refine e_iload_n C d_Hist_note_60 rfl ?_
    refine e_istore_n C d_Hist_note_61 rfl ?_
    refine e_eq (ws' := cF G a v (up2 (up2 f 19 (upd (f 19) K (f 19 K + 1))) 18 (shu (f 18) K K)) n V wr) (by simp only [shu_0]; rfl) ?_
    exact e_lv2 (note_loop (cA := 0) (f := up2 f 19 (upd (f 19) K (f 19 K + 1))) C E x _ K (by omega) ⟨rfl, rfl⟩ K (Nat.le_refl _)) rfl
set_option maxRecDepth 100000 in
theorem k_Hist_countFrom {j : Nat} (hj : j ≤ 64) : Con l G y_Hist_countFrom c_Hist_countFrom 4 (some .int) (rz 0 0) [.ref (a 17), .int (nI j)] (cF G a v f n V wr) (DI (accF (f 19) (v 15) j (64 - j)) (cF G a v f n V wr)) := by
  refine Con.of rfl rfl (fun X C E hR hl hn => ?_)
  refine e_aload_n C d_Hist_countFrom_0 rfl ?_
  refine e_get C 17 (k := 3) in_Hist g254 d_Hist_countFrom_1 rfl rfl rfl rfl ?_
  refine e_istore_n C d_Hist_countFrom_4 rfl ?_
  refine e_iload_n C d_Hist_countFrom_5 rfl ?_
  refine e_istore_n C d_Hist_countFrom_6 rfl ?_
  have L : ∀ (m k : Nat) (y : Int32), k + m = 64 → accF (f 19) y k m = accF (f 19) (v 15) j (64 - j) → EW X G 4 0 0 7 [(0, .ref (a 17)), (1, .int (nI j)), (2, .int y), (3, .int (nI k))] [] (cF G a v f n V wr) := by
    intro m
    induction m with
    | zero =>
      intro k y hk hf
      refine e_iload_n C d_Hist_countFrom_7 rfl ?_
      refine e_bipush C d_Hist_countFrom_8 (v := nI 64) (by decide) ?_
      refine e_icmp_ge C d_Hist_countFrom_10 (tgt := 28) (by decide) (fun h10 => ?_) (fun h10 => ?_)
      · skip
        refine e_iload_n C d_Hist_countFrom_28 rfl ?_
        exact e_iret C E d_Hist_countFrom_29 (Nat.le_refl _) (Nat.le_refl _) rfl ⟨by rw [← hf]; rfl, rfl⟩
      · exact absurd (nI_le (by omega) (by omega)) h10
    | succ m ih =>
      intro k y hk hf
      refine e_iload_n C d_Hist_countFrom_7 rfl ?_
      refine e_bipush C d_Hist_countFrom_8 (v := nI 64) (by decide) ?_
      refine e_icmp_ge C d_Hist_countFrom_10 (tgt := 28) (by decide) (fun h10 => ?_) (fun h10 => ?_)
      · exact absurd h10 (nI_ge (by omega) (by omega))
      · skip
        refine e_iload_n C d_Hist_countFrom_13 rfl ?_
        refine e_aload_n C d_Hist_countFrom_14 rfl ?_
        refine e_get C 17 (k := 1) in_Hist g252 d_Hist_countFrom_15 rfl rfl rfl rfl ?_
        refine e_iload_n C d_Hist_countFrom_18 rfl ?_
        refine e_iald C 19 0 d_Hist_countFrom_19 rfl rfl k rfl (by omega) (by omega) ?_
        refine e_iadd C d_Hist_countFrom_20 ?_
        refine e_istore_n C d_Hist_countFrom_21 rfl ?_
        refine e_iinc C d_Hist_countFrom_22 rfl (nI_1 k) rfl ?_
        refine e_goto C d_Hist_countFrom_25 (tgt := 7) (by decide) ?_
        exact e_lv2 (ih (k + 1) _ (by omega) hf) rfl
  exact e_lv2 (L (64 - j) j _ (by omega) rfl) rfl
end HistRows
end
section
/-! RULES 0, 1, 2, 4, 9 -/
theorem ey_Time_use : eY y_Time_use 2 = true := by decide +kernel
theorem d_Time_use_0 : decode c_Time_use 0 = .ok (.iload_n 1, 1) := by decide +kernel
theorem d_Time_use_1 : decode c_Time_use 1 = .ok (.aload_n 0, 1) := by decide +kernel
theorem d_Time_use_2 : decode c_Time_use 2 = .ok (.getfield 25, 3) := by decide +kernel
theorem d_Time_use_5 : decode c_Time_use 5 = .ok (.imul, 1) := by decide +kernel
theorem d_Time_use_6 : decode c_Time_use 6 = .ok (.iload_n 2, 1) := by decide +kernel
theorem d_Time_use_7 : decode c_Time_use 7 = .ok (.iadd, 1) := by decide +kernel
theorem d_Time_use_8 : decode c_Time_use 8 = .ok (.istore_n 3, 1) := by decide +kernel
theorem d_Time_use_9 : decode c_Time_use 9 = .ok (.aload_n 0, 1) := by decide +kernel
theorem d_Time_use_10 : decode c_Time_use 10 = .ok (.dup, 1) := by decide +kernel
theorem d_Time_use_11 : decode c_Time_use 11 = .ok (.getfield 28, 3) := by decide +kernel
theorem d_Time_use_14 : decode c_Time_use 14 = .ok (.iconst 1, 1) := by decide +kernel
theorem d_Time_use_15 : decode c_Time_use 15 = .ok (.iadd, 1) := by decide +kernel
theorem d_Time_use_16 : decode c_Time_use 16 = .ok (.putfield 28, 3) := by decide +kernel
theorem d_Time_use_19 : decode c_Time_use 19 = .ok (.aload_n 0, 1) := by decide +kernel
theorem d_Time_use_20 : decode c_Time_use 20 = .ok (.getfield 15, 3) := by decide +kernel
theorem d_Time_use_23 : decode c_Time_use 23 = .ok (.iload_n 3, 1) := by decide +kernel
theorem d_Time_use_24 : decode c_Time_use 24 = .ok (.aload_n 0, 1) := by decide +kernel
theorem d_Time_use_25 : decode c_Time_use 25 = .ok (.getfield 28, 3) := by decide +kernel
theorem d_Time_use_28 : decode c_Time_use 28 = .ok (.iastore, 1) := by decide +kernel
theorem d_Time_use_29 : decode c_Time_use 29 = .ok (.aload_n 0, 1) := by decide +kernel
theorem d_Time_use_30 : decode c_Time_use 30 = .ok (.getfield 22, 3) := by decide +kernel
theorem d_Time_use_33 : decode c_Time_use 33 = .ok (.iload_n 3, 1) := by decide +kernel
theorem d_Time_use_34 : decode c_Time_use 34 = .ok (.dup2, 1) := by decide +kernel
theorem d_Time_use_35 : decode c_Time_use 35 = .ok (.iaload, 1) := by decide +kernel
theorem d_Time_use_36 : decode c_Time_use 36 = .ok (.iconst 1, 1) := by decide +kernel
theorem d_Time_use_37 : decode c_Time_use 37 = .ok (.iadd, 1) := by decide +kernel
theorem d_Time_use_38 : decode c_Time_use 38 = .ok (.iastore, 1) := by decide +kernel
theorem d_Time_use_39 : decode c_Time_use 39 = .ok (.return_, 1) := by decide +kernel
theorem ey_Time_come : eY y_Time_come 2 = true := by decide +kernel
theorem d_Time_come_0 : decode c_Time_come 0 = .ok (.iload_n 1, 1) := by decide +kernel
theorem d_Time_come_1 : decode c_Time_come 1 = .ok (.aload_n 0, 1) := by decide +kernel
theorem d_Time_come_2 : decode c_Time_come 2 = .ok (.getfield 25, 3) := by decide +kernel
theorem d_Time_come_5 : decode c_Time_come 5 = .ok (.imul, 1) := by decide +kernel
theorem d_Time_come_6 : decode c_Time_come 6 = .ok (.iload_n 2, 1) := by decide +kernel
theorem d_Time_come_7 : decode c_Time_come 7 = .ok (.iadd, 1) := by decide +kernel
theorem d_Time_come_8 : decode c_Time_come 8 = .ok (.istore_n 3, 1) := by decide +kernel
theorem d_Time_come_9 : decode c_Time_come 9 = .ok (.aload_n 0, 1) := by decide +kernel
theorem d_Time_come_10 : decode c_Time_come 10 = .ok (.dup, 1) := by decide +kernel
theorem d_Time_come_11 : decode c_Time_come 11 = .ok (.getfield 28, 3) := by decide +kernel
theorem d_Time_come_14 : decode c_Time_come 14 = .ok (.iconst 1, 1) := by decide +kernel
theorem d_Time_come_15 : decode c_Time_come 15 = .ok (.iadd, 1) := by decide +kernel
theorem d_Time_come_16 : decode c_Time_come 16 = .ok (.putfield 28, 3) := by decide +kernel
theorem d_Time_come_19 : decode c_Time_come 19 = .ok (.aload_n 0, 1) := by decide +kernel
theorem d_Time_come_20 : decode c_Time_come 20 = .ok (.dup, 1) := by decide +kernel
theorem d_Time_come_21 : decode c_Time_come 21 = .ok (.getfield 31, 3) := by decide +kernel
theorem d_Time_come_24 : decode c_Time_come 24 = .ok (.iconst 1, 1) := by decide +kernel
theorem d_Time_come_25 : decode c_Time_come 25 = .ok (.isub, 1) := by decide +kernel
theorem d_Time_come_26 : decode c_Time_come 26 = .ok (.putfield 31, 3) := by decide +kernel
theorem d_Time_come_29 : decode c_Time_come 29 = .ok (.aload_n 0, 1) := by decide +kernel
theorem d_Time_come_30 : decode c_Time_come 30 = .ok (.getfield 15, 3) := by decide +kernel
theorem d_Time_come_33 : decode c_Time_come 33 = .ok (.iload_n 3, 1) := by decide +kernel
theorem d_Time_come_34 : decode c_Time_come 34 = .ok (.aload_n 0, 1) := by decide +kernel
theorem d_Time_come_35 : decode c_Time_come 35 = .ok (.getfield 9, 3) := by decide +kernel
theorem d_Time_come_38 : decode c_Time_come 38 = .ok (.bipush 9, 2) := by decide +kernel
theorem d_Time_come_40 : decode c_Time_come 40 = .ok (.if_icmp .ne 10, 3) := by decide +kernel
theorem d_Time_come_43 : decode c_Time_come 43 = .ok (.aload_n 0, 1) := by decide +kernel
theorem d_Time_come_44 : decode c_Time_come 44 = .ok (.getfield 31, 3) := by decide +kernel
theorem d_Time_come_47 : decode c_Time_come 47 = .ok (.goto 7, 3) := by decide +kernel
theorem d_Time_come_50 : decode c_Time_come 50 = .ok (.aload_n 0, 1) := by decide +kernel
theorem d_Time_come_51 : decode c_Time_come 51 = .ok (.getfield 28, 3) := by decide +kernel
theorem d_Time_come_54 : decode c_Time_come 54 = .ok (.iastore, 1) := by decide +kernel
theorem d_Time_come_55 : decode c_Time_come 55 = .ok (.aload_n 0, 1) := by decide +kernel
theorem d_Time_come_56 : decode c_Time_come 56 = .ok (.getfield 19, 3) := by decide +kernel
theorem d_Time_come_59 : decode c_Time_come 59 = .ok (.iload_n 3, 1) := by decide +kernel
theorem d_Time_come_60 : decode c_Time_come 60 = .ok (.aload_n 0, 1) := by decide +kernel
theorem d_Time_come_61 : decode c_Time_come 61 = .ok (.getfield 28, 3) := by decide +kernel
theorem d_Time_come_64 : decode c_Time_come 64 = .ok (.iastore, 1) := by decide +kernel
theorem d_Time_come_65 : decode c_Time_come 65 = .ok (.aload_n 0, 1) := by decide +kernel
theorem d_Time_come_66 : decode c_Time_come 66 = .ok (.getfield 22, 3) := by decide +kernel
theorem d_Time_come_69 : decode c_Time_come 69 = .ok (.iload_n 3, 1) := by decide +kernel
theorem d_Time_come_70 : decode c_Time_come 70 = .ok (.iconst 0, 1) := by decide +kernel
theorem d_Time_come_71 : decode c_Time_come 71 = .ok (.iastore, 1) := by decide +kernel
theorem d_Time_come_72 : decode c_Time_come 72 = .ok (.return_, 1) := by decide +kernel
theorem ey_Time_choose : eY y_Time_choose 2 = true := by decide +kernel
theorem d_Time_choose_0 : decode c_Time_choose 0 = .ok (.iconst (-1), 1) := by decide +kernel
theorem d_Time_choose_1 : decode c_Time_choose 1 = .ok (.istore_n 3, 1) := by decide +kernel
theorem d_Time_choose_2 : decode c_Time_choose 2 = .ok (.iload_n 1, 1) := by decide +kernel
theorem d_Time_choose_3 : decode c_Time_choose 3 = .ok (.aload_n 0, 1) := by decide +kernel
theorem d_Time_choose_4 : decode c_Time_choose 4 = .ok (.getfield 25, 3) := by decide +kernel
theorem d_Time_choose_7 : decode c_Time_choose 7 = .ok (.imul, 1) := by decide +kernel
theorem d_Time_choose_8 : decode c_Time_choose 8 = .ok (.istore 4, 2) := by decide +kernel
theorem d_Time_choose_10 : decode c_Time_choose 10 = .ok (.iconst 0, 1) := by decide +kernel
theorem d_Time_choose_11 : decode c_Time_choose 11 = .ok (.istore 5, 2) := by decide +kernel
theorem d_Time_choose_13 : decode c_Time_choose 13 = .ok (.iload 5, 2) := by decide +kernel
theorem d_Time_choose_15 : decode c_Time_choose 15 = .ok (.aload_n 0, 1) := by decide +kernel
theorem d_Time_choose_16 : decode c_Time_choose 16 = .ok (.getfield 25, 3) := by decide +kernel
theorem d_Time_choose_19 : decode c_Time_choose 19 = .ok (.if_icmp .ge 43, 3) := by decide +kernel
theorem d_Time_choose_22 : decode c_Time_choose 22 = .ok (.aload_n 2, 1) := by decide +kernel
theorem d_Time_choose_23 : decode c_Time_choose 23 = .ok (.iload 4, 2) := by decide +kernel
theorem d_Time_choose_25 : decode c_Time_choose 25 = .ok (.iload 5, 2) := by decide +kernel
theorem d_Time_choose_27 : decode c_Time_choose 27 = .ok (.iadd, 1) := by decide +kernel
theorem d_Time_choose_28 : decode c_Time_choose 28 = .ok (.baload, 1) := by decide +kernel
theorem d_Time_choose_29 : decode c_Time_choose 29 = .ok (.ifCond .ne 27, 3) := by decide +kernel
theorem d_Time_choose_32 : decode c_Time_choose 32 = .ok (.iload_n 3, 1) := by decide +kernel
theorem d_Time_choose_33 : decode c_Time_choose 33 = .ok (.iconst (-1), 1) := by decide +kernel
theorem d_Time_choose_34 : decode c_Time_choose 34 = .ok (.if_icmp .eq 19, 3) := by decide +kernel
theorem d_Time_choose_37 : decode c_Time_choose 37 = .ok (.aload_n 0, 1) := by decide +kernel
theorem d_Time_choose_38 : decode c_Time_choose 38 = .ok (.iload 4, 2) := by decide +kernel
theorem d_Time_choose_40 : decode c_Time_choose 40 = .ok (.iload 5, 2) := by decide +kernel
theorem d_Time_choose_42 : decode c_Time_choose 42 = .ok (.iadd, 1) := by decide +kernel
theorem d_Time_choose_43 : decode c_Time_choose 43 = .ok (.iload 4, 2) := by decide +kernel
theorem d_Time_choose_45 : decode c_Time_choose 45 = .ok (.iload_n 3, 1) := by decide +kernel
theorem d_Time_choose_46 : decode c_Time_choose 46 = .ok (.iadd, 1) := by decide +kernel
theorem d_Time_choose_47 : decode c_Time_choose 47 = .ok (.invokevirtual 34, 3) := by decide +kernel
theorem d_Time_choose_50 : decode c_Time_choose 50 = .ok (.ifCond .eq 6, 3) := by decide +kernel
theorem d_Time_choose_53 : decode c_Time_choose 53 = .ok (.iload 5, 2) := by decide +kernel
theorem d_Time_choose_55 : decode c_Time_choose 55 = .ok (.istore_n 3, 1) := by decide +kernel
theorem d_Time_choose_56 : decode c_Time_choose 56 = .ok (.iinc 5 1, 3) := by decide +kernel
theorem d_Time_choose_59 : decode c_Time_choose 59 = .ok (.goto (-46), 3) := by decide +kernel
theorem d_Time_choose_62 : decode c_Time_choose 62 = .ok (.iload_n 3, 1) := by decide +kernel
theorem d_Time_choose_63 : decode c_Time_choose 63 = .ok (.ireturn, 1) := by decide +kernel
theorem ey_Time_goesSooner : eY y_Time_goesSooner 2 = true := by decide +kernel
theorem d_Time_goesSooner_0 : decode c_Time_goesSooner 0 = .ok (.aload_n 0, 1) := by decide +kernel
theorem d_Time_goesSooner_1 : decode c_Time_goesSooner 1 = .ok (.getfield 9, 3) := by decide +kernel
theorem d_Time_goesSooner_4 : decode c_Time_goesSooner 4 = .ok (.iconst 1, 1) := by decide +kernel
theorem d_Time_goesSooner_5 : decode c_Time_goesSooner 5 = .ok (.if_icmp .ne 24, 3) := by decide +kernel
theorem d_Time_goesSooner_8 : decode c_Time_goesSooner 8 = .ok (.aload_n 0, 1) := by decide +kernel
theorem d_Time_goesSooner_9 : decode c_Time_goesSooner 9 = .ok (.getfield 19, 3) := by decide +kernel
theorem d_Time_goesSooner_12 : decode c_Time_goesSooner 12 = .ok (.iload_n 1, 1) := by decide +kernel
theorem d_Time_goesSooner_13 : decode c_Time_goesSooner 13 = .ok (.iaload, 1) := by decide +kernel
theorem d_Time_goesSooner_14 : decode c_Time_goesSooner 14 = .ok (.aload_n 0, 1) := by decide +kernel
theorem d_Time_goesSooner_15 : decode c_Time_goesSooner 15 = .ok (.getfield 19, 3) := by decide +kernel
theorem d_Time_goesSooner_18 : decode c_Time_goesSooner 18 = .ok (.iload_n 2, 1) := by decide +kernel
theorem d_Time_goesSooner_19 : decode c_Time_goesSooner 19 = .ok (.iaload, 1) := by decide +kernel
theorem d_Time_goesSooner_20 : decode c_Time_goesSooner 20 = .ok (.if_icmp .ge 7, 3) := by decide +kernel
theorem d_Time_goesSooner_23 : decode c_Time_goesSooner 23 = .ok (.iconst 1, 1) := by decide +kernel
theorem d_Time_goesSooner_24 : decode c_Time_goesSooner 24 = .ok (.goto 4, 3) := by decide +kernel
theorem d_Time_goesSooner_27 : decode c_Time_goesSooner 27 = .ok (.iconst 0, 1) := by decide +kernel
theorem d_Time_goesSooner_28 : decode c_Time_goesSooner 28 = .ok (.ireturn, 1) := by decide +kernel
theorem d_Time_goesSooner_29 : decode c_Time_goesSooner 29 = .ok (.aload_n 0, 1) := by decide +kernel
theorem d_Time_goesSooner_30 : decode c_Time_goesSooner 30 = .ok (.getfield 9, 3) := by decide +kernel
theorem d_Time_goesSooner_33 : decode c_Time_goesSooner 33 = .ok (.iconst 2, 1) := by decide +kernel
theorem d_Time_goesSooner_34 : decode c_Time_goesSooner 34 = .ok (.if_icmp .ne 24, 3) := by decide +kernel
theorem d_Time_goesSooner_37 : decode c_Time_goesSooner 37 = .ok (.aload_n 0, 1) := by decide +kernel
theorem d_Time_goesSooner_38 : decode c_Time_goesSooner 38 = .ok (.getfield 15, 3) := by decide +kernel
theorem d_Time_goesSooner_41 : decode c_Time_goesSooner 41 = .ok (.iload_n 1, 1) := by decide +kernel
theorem d_Time_goesSooner_42 : decode c_Time_goesSooner 42 = .ok (.iaload, 1) := by decide +kernel
theorem d_Time_goesSooner_43 : decode c_Time_goesSooner 43 = .ok (.aload_n 0, 1) := by decide +kernel
theorem d_Time_goesSooner_44 : decode c_Time_goesSooner 44 = .ok (.getfield 15, 3) := by decide +kernel
theorem d_Time_goesSooner_47 : decode c_Time_goesSooner 47 = .ok (.iload_n 2, 1) := by decide +kernel
theorem d_Time_goesSooner_48 : decode c_Time_goesSooner 48 = .ok (.iaload, 1) := by decide +kernel
theorem d_Time_goesSooner_49 : decode c_Time_goesSooner 49 = .ok (.if_icmp .le 7, 3) := by decide +kernel
theorem d_Time_goesSooner_52 : decode c_Time_goesSooner 52 = .ok (.iconst 1, 1) := by decide +kernel
theorem d_Time_goesSooner_53 : decode c_Time_goesSooner 53 = .ok (.goto 4, 3) := by decide +kernel
theorem d_Time_goesSooner_56 : decode c_Time_goesSooner 56 = .ok (.iconst 0, 1) := by decide +kernel
theorem d_Time_goesSooner_57 : decode c_Time_goesSooner 57 = .ok (.ireturn, 1) := by decide +kernel
theorem d_Time_goesSooner_58 : decode c_Time_goesSooner 58 = .ok (.aload_n 0, 1) := by decide +kernel
theorem d_Time_goesSooner_59 : decode c_Time_goesSooner 59 = .ok (.getfield 9, 3) := by decide +kernel
theorem d_Time_goesSooner_62 : decode c_Time_goesSooner 62 = .ok (.iconst 4, 1) := by decide +kernel
theorem d_Time_goesSooner_63 : decode c_Time_goesSooner 63 = .ok (.if_icmp .ne 39, 3) := by decide +kernel
theorem d_Time_goesSooner_66 : decode c_Time_goesSooner 66 = .ok (.aload_n 0, 1) := by decide +kernel
theorem d_Time_goesSooner_67 : decode c_Time_goesSooner 67 = .ok (.getfield 22, 3) := by decide +kernel
theorem d_Time_goesSooner_70 : decode c_Time_goesSooner 70 = .ok (.iload_n 1, 1) := by decide +kernel
theorem d_Time_goesSooner_71 : decode c_Time_goesSooner 71 = .ok (.iaload, 1) := by decide +kernel
theorem d_Time_goesSooner_72 : decode c_Time_goesSooner 72 = .ok (.aload_n 0, 1) := by decide +kernel
theorem d_Time_goesSooner_73 : decode c_Time_goesSooner 73 = .ok (.getfield 22, 3) := by decide +kernel
theorem d_Time_goesSooner_76 : decode c_Time_goesSooner 76 = .ok (.iload_n 2, 1) := by decide +kernel
theorem d_Time_goesSooner_77 : decode c_Time_goesSooner 77 = .ok (.iaload, 1) := by decide +kernel
theorem d_Time_goesSooner_78 : decode c_Time_goesSooner 78 = .ok (.if_icmp .eq 24, 3) := by decide +kernel
theorem d_Time_goesSooner_81 : decode c_Time_goesSooner 81 = .ok (.aload_n 0, 1) := by decide +kernel
theorem d_Time_goesSooner_82 : decode c_Time_goesSooner 82 = .ok (.getfield 22, 3) := by decide +kernel
theorem d_Time_goesSooner_85 : decode c_Time_goesSooner 85 = .ok (.iload_n 1, 1) := by decide +kernel
theorem d_Time_goesSooner_86 : decode c_Time_goesSooner 86 = .ok (.iaload, 1) := by decide +kernel
theorem d_Time_goesSooner_87 : decode c_Time_goesSooner 87 = .ok (.aload_n 0, 1) := by decide +kernel
theorem d_Time_goesSooner_88 : decode c_Time_goesSooner 88 = .ok (.getfield 22, 3) := by decide +kernel
theorem d_Time_goesSooner_91 : decode c_Time_goesSooner 91 = .ok (.iload_n 2, 1) := by decide +kernel
theorem d_Time_goesSooner_92 : decode c_Time_goesSooner 92 = .ok (.iaload, 1) := by decide +kernel
theorem d_Time_goesSooner_93 : decode c_Time_goesSooner 93 = .ok (.if_icmp .ge 7, 3) := by decide +kernel
theorem d_Time_goesSooner_96 : decode c_Time_goesSooner 96 = .ok (.iconst 1, 1) := by decide +kernel
theorem d_Time_goesSooner_97 : decode c_Time_goesSooner 97 = .ok (.goto 4, 3) := by decide +kernel
theorem d_Time_goesSooner_100 : decode c_Time_goesSooner 100 = .ok (.iconst 0, 1) := by decide +kernel
theorem d_Time_goesSooner_101 : decode c_Time_goesSooner 101 = .ok (.ireturn, 1) := by decide +kernel
theorem d_Time_goesSooner_102 : decode c_Time_goesSooner 102 = .ok (.aload_n 0, 1) := by decide +kernel
theorem d_Time_goesSooner_103 : decode c_Time_goesSooner 103 = .ok (.getfield 15, 3) := by decide +kernel
theorem d_Time_goesSooner_106 : decode c_Time_goesSooner 106 = .ok (.iload_n 1, 1) := by decide +kernel
theorem d_Time_goesSooner_107 : decode c_Time_goesSooner 107 = .ok (.iaload, 1) := by decide +kernel
theorem d_Time_goesSooner_108 : decode c_Time_goesSooner 108 = .ok (.aload_n 0, 1) := by decide +kernel
theorem d_Time_goesSooner_109 : decode c_Time_goesSooner 109 = .ok (.getfield 15, 3) := by decide +kernel
theorem d_Time_goesSooner_112 : decode c_Time_goesSooner 112 = .ok (.iload_n 2, 1) := by decide +kernel
theorem d_Time_goesSooner_113 : decode c_Time_goesSooner 113 = .ok (.iaload, 1) := by decide +kernel
theorem d_Time_goesSooner_114 : decode c_Time_goesSooner 114 = .ok (.if_icmp .ge 7, 3) := by decide +kernel
theorem d_Time_goesSooner_117 : decode c_Time_goesSooner 117 = .ok (.iconst 1, 1) := by decide +kernel
theorem d_Time_goesSooner_118 : decode c_Time_goesSooner 118 = .ok (.goto 4, 3) := by decide +kernel
theorem d_Time_goesSooner_121 : decode c_Time_goesSooner 121 = .ok (.iconst 0, 1) := by decide +kernel
theorem d_Time_goesSooner_122 : decode c_Time_goesSooner 122 = .ok (.ireturn, 1) := by decide +kernel
theorem ey_Time_settle : eY y_Time_settle 3 = true := by decide +kernel
theorem d_Time_settle_0 : decode c_Time_settle 0 = .ok (.return_, 1) := by decide +kernel
abbrev wT (G : EG) (a : Nat → Nat) (v : Nat → Int32) (f : Nat → Nat → Int32) (n V : Nat) : va_W := cF G a v f n V (rTime G a v f n)
/-- goes sooner -/
def gs (num : Int32) (f : Nat → Nat → Int32) (i j : Nat) : Bool :=
  if num = 1 then !decide (f 23 j ≤ f 23 i) else if num = 2 then !decide (f 22 i ≤ f 22 j) else if num = 4 ∧ ¬ f 24 i = f 24 j then !decide (f 24 j ≤ f 24 i) else !decide (f 22 j ≤ f 22 i)
/-- locked, by the way of a set -/
def lkd (f : Nat → Nat → Int32) (wd s w : Nat) : Bool := !(f 6 (s * wd + w) == 0)
section TimeRows
variable {l : Launch} {G : EG} {a : Nat → Nat} {v : Nat → Int32} {f : Nat → Nat → Int32} {V S wd s w : Nat}
set_option maxRecDepth 100000 in
theorem k_Time_use (h : CD v S wd) (hs : s < S) (hw : w < wd) : Con l G y_Time_use c_Time_use 4 none (rz 0 0) [.ref (a 21), .int (nI s), .int (nI w)] (wT G a v f (S * wd) V) (DV (wT G a (upd v 17 (v 17 + 1)) (up2 (up2 f 22 (upd (f 22) (s * wd + w) (v 17 + 1))) 24 (upd (f 24) (s * wd + w) (f 24 (s * wd + w) + 1))) (S * wd) V)) := by
  refine Con.of rfl rfl (fun X C E hR hl hn => ?_)
  have hn1 := h.n128
  have hlt := slot_lt hs hw
  refine e_iload_n C d_Time_use_0 rfl ?_
  refine e_aload_n C d_Time_use_1 rfl ?_
  refine e_getI C 21 (k := 0) in_Time g118 g119 d_Time_use_2 rfl rfl rfl rfl ?_
  refine e_imul C d_Time_use_5 ?_
  refine e_iload_n C d_Time_use_6 rfl ?_
  refine e_iadd C d_Time_use_7 ?_
  refine e_top (y := nI (s * wd + w)) (by rw [h.2.1, pk_mul, nI_add]) ?_
  refine e_istore_n C d_Time_use_8 rfl ?_
  refine e_aload_n C d_Time_use_9 rfl ?_
  refine e_dup C d_Time_use_10 rfl ?_
  refine e_get C 21 (k := 5) in_Time g193 d_Time_use_11 rfl rfl rfl rfl ?_
  refine e_iconst C d_Time_use_14 (v := 1) (by decide) ?_
  refine e_iadd C d_Time_use_15 ?_
  refine e_put C 21 (k := 5) in_Time tk_Time nm_Time g193 d_Time_use_16 rfl rfl rfl rfl rfl rfl rfl rfl ?_
  refine e_aload_n C d_Time_use_19 rfl ?_
  refine e_get C 21 (k := 2) in_Time g190 d_Time_use_20 rfl rfl rfl rfl ?_
  refine e_iload_n C d_Time_use_23 rfl ?_
  refine e_aload_n C d_Time_use_24 rfl ?_
  refine e_get C 21 (k := 5) in_Time g193 d_Time_use_25 rfl rfl rfl rfl ?_
  refine e_iast C 22 0 d_Time_use_28 rfl rfl _ rfl hlt (by omega) ?_
  refine e_aload_n C d_Time_use_29 rfl ?_
  refine e_get C 21 (k := 4) in_Time g192 d_Time_use_30 rfl rfl rfl rfl ?_
  refine e_iload_n C d_Time_use_33 rfl ?_
  refine e_dup2 C d_Time_use_34 rfl rfl ?_
  refine e_iald C 24 0 d_Time_use_35 rfl rfl _ rfl hlt (by omega) ?_
  refine e_iconst C d_Time_use_36 (v := 1) (by decide) ?_
  refine e_iadd C d_Time_use_37 ?_
  refine e_iast C 24 0 d_Time_use_38 rfl rfl _ rfl hlt (by omega) ?_
  exact e_vret C E d_Time_use_39 (Nat.le_refl _) (Nat.le_refl _) ⟨rfl, rfl⟩
set_option maxRecDepth 100000 in
theorem k_Time_come (h : CD v S wd) (hs : s < S) (hw : w < wd) : Con l G y_Time_come c_Time_come 4 none (rz 0 0) [.ref (a 21), .int (nI s), .int (nI w)] (wT G a v f (S * wd) V) (DV (wT G a (upd (upd v 17 (v 17 + 1)) 18 (v 18 - 1)) (up2 (up2 (up2 f 22 (upd (f 22) (s * wd + w) (if v 16 = 9 then v 18 - 1 else v 17 + 1))) 23 (upd (f 23) (s * wd + w) (v 17 + 1))) 24 (upd (f 24) (s * wd + w) 0)) (S * wd) V)) := by
  refine Con.of rfl rfl (fun X C E hR hl hn => ?_)
  have hn1 := h.n128
  have hlt := slot_lt hs hw
  refine e_iload_n C d_Time_come_0 rfl ?_
  refine e_aload_n C d_Time_come_1 rfl ?_
  refine e_getI C 21 (k := 0) in_Time g118 g119 d_Time_come_2 rfl rfl rfl rfl ?_
  refine e_imul C d_Time_come_5 ?_
  refine e_iload_n C d_Time_come_6 rfl ?_
  refine e_iadd C d_Time_come_7 ?_
  refine e_top (y := nI (s * wd + w)) (by rw [h.2.1, pk_mul, nI_add]) ?_
  refine e_istore_n C d_Time_come_8 rfl ?_
  refine e_aload_n C d_Time_come_9 rfl ?_
  refine e_dup C d_Time_come_10 rfl ?_
  refine e_get C 21 (k := 5) in_Time g193 d_Time_come_11 rfl rfl rfl rfl ?_
  refine e_iconst C d_Time_come_14 (v := 1) (by decide) ?_
  refine e_iadd C d_Time_come_15 ?_
  refine e_put C 21 (k := 5) in_Time tk_Time nm_Time g193 d_Time_come_16 rfl rfl rfl rfl rfl rfl rfl rfl ?_
  refine e_aload_n C d_Time_come_19 rfl ?_
  refine e_dup C d_Time_come_20 rfl ?_
  refine e_get C 21 (k := 6) in_Time g194 d_Time_come_21 rfl rfl rfl rfl ?_
  refine e_iconst C d_Time_come_24 (v := 1) (by decide) ?_
  refine e_isub C d_Time_come_25 ?_
  refine e_put C 21 (k := 6) in_Time tk_Time nm_Time g194 d_Time_come_26 rfl rfl rfl rfl rfl rfl rfl rfl ?_
  refine e_aload_n C d_Time_come_29 rfl ?_
  refine e_get C 21 (k := 2) in_Time g190 d_Time_come_30 rfl rfl rfl rfl ?_
  refine e_iload_n C d_Time_come_33 rfl ?_
  refine e_aload_n C d_Time_come_34 rfl ?_
  refine e_get C 21 (k := 1) in_Time g189 d_Time_come_35 rfl rfl rfl rfl ?_
  refine e_bipush C d_Time_come_38 (v := 9) (by decide) ?_
  refine e_icmp_ne C d_Time_come_40 (tgt := 50) (by decide) (fun h40 => ?_) (fun h40 => ?_)
  · rw [if_neg (show ¬ v 16 = 9 from h40)] at E
    refine e_aload_n C d_Time_come_50 rfl ?_
    refine e_get C 21 (k := 5) in_Time g193 d_Time_come_51 rfl rfl rfl rfl ?_
    refine e_iast C 22 0 d_Time_come_54 rfl rfl _ rfl hlt (by omega) ?_
    refine e_aload_n C d_Time_come_55 rfl ?_
    refine e_get C 21 (k := 3) in_Time g191 d_Time_come_56 rfl rfl rfl rfl ?_
    refine e_iload_n C d_Time_come_59 rfl ?_
    refine e_aload_n C d_Time_come_60 rfl ?_
    refine e_get C 21 (k := 5) in_Time g193 d_Time_come_61 rfl rfl rfl rfl ?_
    refine e_iast C 23 0 d_Time_come_64 rfl rfl _ rfl hlt (by omega) ?_
    refine e_aload_n C d_Time_come_65 rfl ?_
    refine e_get C 21 (k := 4) in_Time g192 d_Time_come_66 rfl rfl rfl rfl ?_
    refine e_iload_n C d_Time_come_69 rfl ?_
    refine e_iconst C d_Time_come_70 (v := 0) (by decide) ?_
    refine e_iast C 24 0 d_Time_come_71 rfl rfl _ rfl hlt (by omega) ?_
    exact e_vret C E d_Time_come_72 (Nat.le_refl _) (Nat.le_refl _) ⟨rfl, rfl⟩
  · rw [if_pos (show v 16 = 9 from h40)] at E
    refine e_aload_n C d_Time_come_43 rfl ?_
    refine e_get C 21 (k := 6) in_Time g194 d_Time_come_44 rfl rfl rfl rfl ?_
    refine e_goto C d_Time_come_47 (tgt := 54) (by decide) ?_
    refine e_iast C 22 0 d_Time_come_54 rfl rfl _ rfl hlt (by omega) ?_
    refine e_aload_n C d_Time_come_55 rfl ?_
    refine e_get C 21 (k := 3) in_Time g191 d_Time_come_56 rfl rfl rfl rfl ?_
    refine e_iload_n C d_Time_come_59 rfl ?_
    refine e_aload_n C d_Time_come_60 rfl ?_
    refine e_get C 21 (k := 5) in_Time g193 d_Time_come_61 rfl rfl rfl rfl ?_
    refine e_iast C 23 0 d_Time_come_64 rfl rfl _ rfl hlt (by omega) ?_
    refine e_aload_n C d_Time_come_65 rfl ?_
    refine e_get C 21 (k := 4) in_Time g192 d_Time_come_66 rfl rfl rfl rfl ?_
    refine e_iload_n C d_Time_come_69 rfl ?_
    refine e_iconst C d_Time_come_70 (v := 0) (by decide) ?_
    refine e_iast C 24 0 d_Time_come_71 rfl rfl _ rfl hlt (by omega) ?_
    exact e_vret C E d_Time_come_72 (Nat.le_refl _) (Nat.le_refl _) ⟨rfl, rfl⟩
set_option maxRecDepth 100000 in
theorem k_Time_goesSooner (h : CD v S wd) {i j : Nat} (hi : i < S * wd) (hj : j < S * wd) : Con l G y_Time_goesSooner c_Time_goesSooner 3 (some .boolean) (rz 0 0) [.ref (a 21), .int (nI i), .int (nI j)] (wT G a v f (S * wd) V) (DI (bI (gs (v 16) f i j)) (wT G a v f (S * wd) V)) := by
  refine Con.of rfl rfl (fun X C E hR hl hn => ?_)
  have hn1 := h.n128
  refine e_aload_n C d_Time_goesSooner_0 rfl ?_
  refine e_get C 21 (k := 1) in_Time g189 d_Time_goesSooner_1 rfl rfl rfl rfl ?_
  refine e_iconst C d_Time_goesSooner_4 (v := 1) (by decide) ?_
  refine e_icmp_ne C d_Time_goesSooner_5 (tgt := 29) (by decide) (fun h5 => ?_) (fun h5 => ?_)
  · have h5 : ¬ v 16 = 1 := h5
    refine e_aload_n C d_Time_goesSooner_29 rfl ?_
    refine e_get C 21 (k := 1) in_Time g189 d_Time_goesSooner_30 rfl rfl rfl rfl ?_
    refine e_iconst C d_Time_goesSooner_33 (v := 2) (by decide) ?_
    refine e_icmp_ne C d_Time_goesSooner_34 (tgt := 58) (by decide) (fun h34 => ?_) (fun h34 => ?_)
    · have h34 : ¬ v 16 = 2 := h34
      refine e_aload_n C d_Time_goesSooner_58 rfl ?_
      refine e_get C 21 (k := 1) in_Time g189 d_Time_goesSooner_59 rfl rfl rfl rfl ?_
      refine e_iconst C d_Time_goesSooner_62 (v := 4) (by decide) ?_
      refine e_icmp_ne C d_Time_goesSooner_63 (tgt := 102) (by decide) (fun h63 => ?_) (fun h63 => ?_)
      · have h63 : ¬ v 16 = 4 := h63
        refine e_aload_n C d_Time_goesSooner_102 rfl ?_
        refine e_get C 21 (k := 2) in_Time g190 d_Time_goesSooner_103 rfl rfl rfl rfl ?_
        refine e_iload_n C d_Time_goesSooner_106 rfl ?_
        refine e_iald C 22 0 d_Time_goesSooner_107 rfl rfl i rfl hi (by omega) ?_
        refine e_aload_n C d_Time_goesSooner_108 rfl ?_
        refine e_get C 21 (k := 2) in_Time g190 d_Time_goesSooner_109 rfl rfl rfl rfl ?_
        refine e_iload_n C d_Time_goesSooner_112 rfl ?_
        refine e_iald C 22 0 d_Time_goesSooner_113 rfl rfl j rfl hj (by omega) ?_
        refine e_icmp_ge C d_Time_goesSooner_114 (tgt := 121) (by decide) (fun h114 => ?_) (fun h114 => ?_)
        · have h114 : f 22 j ≤ f 22 i := h114
          refine e_iconst C d_Time_goesSooner_121 (v := 0) (by decide) ?_
          exact e_iret C E d_Time_goesSooner_122 (Nat.le_refl _) (Nat.le_refl _) rfl ⟨by simp [gs, h5, h34, h63, h114, bI], rfl⟩
        · have h114 : ¬ f 22 j ≤ f 22 i := h114
          refine e_iconst C d_Time_goesSooner_117 (v := 1) (by decide) ?_
          refine e_goto C d_Time_goesSooner_118 (tgt := 122) (by decide) ?_
          exact e_iret C E d_Time_goesSooner_122 (Nat.le_refl _) (Nat.le_refl _) rfl ⟨by simp [gs, h5, h34, h63, h114, bI], rfl⟩
      · have h63 : v 16 = 4 := h63
        refine e_aload_n C d_Time_goesSooner_66 rfl ?_
        refine e_get C 21 (k := 4) in_Time g192 d_Time_goesSooner_67 rfl rfl rfl rfl ?_
        refine e_iload_n C d_Time_goesSooner_70 rfl ?_
        refine e_iald C 24 0 d_Time_goesSooner_71 rfl rfl i rfl hi (by omega) ?_
        refine e_aload_n C d_Time_goesSooner_72 rfl ?_
        refine e_get C 21 (k := 4) in_Time g192 d_Time_goesSooner_73 rfl rfl rfl rfl ?_
        refine e_iload_n C d_Time_goesSooner_76 rfl ?_
        refine e_iald C 24 0 d_Time_goesSooner_77 rfl rfl j rfl hj (by omega) ?_
        refine e_icmp_eq C d_Time_goesSooner_78 (tgt := 102) (by decide) (fun h78 => ?_) (fun h78 => ?_)
        · have h78 : f 24 i = f 24 j := h78
          refine e_aload_n C d_Time_goesSooner_102 rfl ?_
          refine e_get C 21 (k := 2) in_Time g190 d_Time_goesSooner_103 rfl rfl rfl rfl ?_
          refine e_iload_n C d_Time_goesSooner_106 rfl ?_
          refine e_iald C 22 0 d_Time_goesSooner_107 rfl rfl i rfl hi (by omega) ?_
          refine e_aload_n C d_Time_goesSooner_108 rfl ?_
          refine e_get C 21 (k := 2) in_Time g190 d_Time_goesSooner_109 rfl rfl rfl rfl ?_
          refine e_iload_n C d_Time_goesSooner_112 rfl ?_
          refine e_iald C 22 0 d_Time_goesSooner_113 rfl rfl j rfl hj (by omega) ?_
          refine e_icmp_ge C d_Time_goesSooner_114 (tgt := 121) (by decide) (fun h114 => ?_) (fun h114 => ?_)
          · have h114 : f 22 j ≤ f 22 i := h114
            refine e_iconst C d_Time_goesSooner_121 (v := 0) (by decide) ?_
            exact e_iret C E d_Time_goesSooner_122 (Nat.le_refl _) (Nat.le_refl _) rfl ⟨by simp [gs, h5, h34, h78, h114, bI], rfl⟩
          · have h114 : ¬ f 22 j ≤ f 22 i := h114
            refine e_iconst C d_Time_goesSooner_117 (v := 1) (by decide) ?_
            refine e_goto C d_Time_goesSooner_118 (tgt := 122) (by decide) ?_
            exact e_iret C E d_Time_goesSooner_122 (Nat.le_refl _) (Nat.le_refl _) rfl ⟨by simp [gs, h5, h34, h78, h114, bI], rfl⟩
        · have h78 : ¬ f 24 i = f 24 j := h78
          refine e_aload_n C d_Time_goesSooner_81 rfl ?_
          refine e_get C 21 (k := 4) in_Time g192 d_Time_goesSooner_82 rfl rfl rfl rfl ?_
          refine e_iload_n C d_Time_goesSooner_85 rfl ?_
          refine e_iald C 24 0 d_Time_goesSooner_86 rfl rfl i rfl hi (by omega) ?_
          refine e_aload_n C d_Time_goesSooner_87 rfl ?_
          refine e_get C 21 (k := 4) in_Time g192 d_Time_goesSooner_88 rfl rfl rfl rfl ?_
          refine e_iload_n C d_Time_goesSooner_91 rfl ?_
          refine e_iald C 24 0 d_Time_goesSooner_92 rfl rfl j rfl hj (by omega) ?_
          refine e_icmp_ge C d_Time_goesSooner_93 (tgt := 100) (by decide) (fun h93 => ?_) (fun h93 => ?_)
          · have h93 : f 24 j ≤ f 24 i := h93
            refine e_iconst C d_Time_goesSooner_100 (v := 0) (by decide) ?_
            exact e_iret C E d_Time_goesSooner_101 (Nat.le_refl _) (Nat.le_refl _) rfl ⟨by simp [gs, h5, h34, h63, h78, h93, bI], rfl⟩
          · have h93 : ¬ f 24 j ≤ f 24 i := h93
            refine e_iconst C d_Time_goesSooner_96 (v := 1) (by decide) ?_
            refine e_goto C d_Time_goesSooner_97 (tgt := 101) (by decide) ?_
            exact e_iret C E d_Time_goesSooner_101 (Nat.le_refl _) (Nat.le_refl _) rfl ⟨by simp [gs, h5, h34, h63, h78, h93, bI], rfl⟩
    · have h34 : v 16 = 2 := h34
      refine e_aload_n C d_Time_goesSooner_37 rfl ?_
      refine e_get C 21 (k := 2) in_Time g190 d_Time_goesSooner_38 rfl rfl rfl rfl ?_
      refine e_iload_n C d_Time_goesSooner_41 rfl ?_
      refine e_iald C 22 0 d_Time_goesSooner_42 rfl rfl i rfl hi (by omega) ?_
      refine e_aload_n C d_Time_goesSooner_43 rfl ?_
      refine e_get C 21 (k := 2) in_Time g190 d_Time_goesSooner_44 rfl rfl rfl rfl ?_
      refine e_iload_n C d_Time_goesSooner_47 rfl ?_
      refine e_iald C 22 0 d_Time_goesSooner_48 rfl rfl j rfl hj (by omega) ?_
      refine e_icmp_le C d_Time_goesSooner_49 (tgt := 56) (by decide) (fun h49 => ?_) (fun h49 => ?_)
      · have h49 : f 22 i ≤ f 22 j := h49
        refine e_iconst C d_Time_goesSooner_56 (v := 0) (by decide) ?_
        exact e_iret C E d_Time_goesSooner_57 (Nat.le_refl _) (Nat.le_refl _) rfl ⟨by simp [gs, h34, h49, bI], rfl⟩
      · have h49 : ¬ f 22 i ≤ f 22 j := h49
        refine e_iconst C d_Time_goesSooner_52 (v := 1) (by decide) ?_
        refine e_goto C d_Time_goesSooner_53 (tgt := 57) (by decide) ?_
        exact e_iret C E d_Time_goesSooner_57 (Nat.le_refl _) (Nat.le_refl _) rfl ⟨by simp [gs, h34, h49, bI], rfl⟩
  · have h5 : v 16 = 1 := h5
    refine e_aload_n C d_Time_goesSooner_8 rfl ?_
    refine e_get C 21 (k := 3) in_Time g191 d_Time_goesSooner_9 rfl rfl rfl rfl ?_
    refine e_iload_n C d_Time_goesSooner_12 rfl ?_
    refine e_iald C 23 0 d_Time_goesSooner_13 rfl rfl i rfl hi (by omega) ?_
    refine e_aload_n C d_Time_goesSooner_14 rfl ?_
    refine e_get C 21 (k := 3) in_Time g191 d_Time_goesSooner_15 rfl rfl rfl rfl ?_
    refine e_iload_n C d_Time_goesSooner_18 rfl ?_
    refine e_iald C 23 0 d_Time_goesSooner_19 rfl rfl j rfl hj (by omega) ?_
    refine e_icmp_ge C d_Time_goesSooner_20 (tgt := 27) (by decide) (fun h20 => ?_) (fun h20 => ?_)
    · have h20 : f 23 j ≤ f 23 i := h20
      refine e_iconst C d_Time_goesSooner_27 (v := 0) (by decide) ?_
      exact e_iret C E d_Time_goesSooner_28 (Nat.le_refl _) (Nat.le_refl _) rfl ⟨by simp [gs, h5, h20, bI], rfl⟩
    · have h20 : ¬ f 23 j ≤ f 23 i := h20
      refine e_iconst C d_Time_goesSooner_23 (v := 1) (by decide) ?_
      refine e_goto C d_Time_goesSooner_24 (tgt := 28) (by decide) ?_
      exact e_iret C E d_Time_goesSooner_28 (Nat.le_refl _) (Nat.le_refl _) rfl ⟨by simp [gs, h5, h20, bI], rfl⟩
set_option maxRecDepth 100000 in
theorem k_Time_choose (h : CD v S wd) (hs : s < S) : Con l G y_Time_choose c_Time_choose 6 (some .int) (rz 1 22) [.ref (a 21), .int (nI s), .ref (a 6)] (wT G a v f (S * wd) V) (DI (oI (pickB (lkd f wd s) (fun x y => gs (v 16) f (s * wd + x) (s * wd + y)) none 0 wd)) (wT G a v f (S * wd) V)) := by
  refine Con.of rfl rfl (fun X C E hR hl hn => ?_)
  have hn1 := h.n128
  have hw8 := h.2.2.2.2
  refine e_iconst C d_Time_choose_0 (v := (-1)) (by decide) ?_
  refine e_istore_n C d_Time_choose_1 rfl ?_
  refine e_iload_n C d_Time_choose_2 rfl ?_
  refine e_aload_n C d_Time_choose_3 rfl ?_
  refine e_getI C 21 (k := 0) in_Time g118 g119 d_Time_choose_4 rfl rfl rfl rfl ?_
  refine e_imul C d_Time_choose_7 ?_
  refine e_top (y := nI (s * wd)) (by rw [h.2.1, pk_mul]) ?_
  refine e_istore C d_Time_choose_8 rfl ?_
  refine e_iconst C d_Time_choose_10 (v := 0) (by decide) ?_
  refine e_istore C d_Time_choose_11 rfl ?_
  generalize hbt : (fun x y => gs (v 16) f (s * wd + x) (s * wd + y)) = bt at E
  have L : ∀ (m k : Nat) (b : Option Nat), k + m = wd → (∀ j, b = some j → j < wd) → pickB (lkd f wd s) bt b k m = pickB (lkd f wd s) bt none 0 wd → EW X G 6 0 0 13 [(0, .ref (a 21)), (1, .int (nI s)), (2, .ref (a 6)), (3, .int (oI b)), (4, .int (nI (s * wd))), (5, .int (nI k))] [] (wT G a v f (S * wd) V) := by
    intro m
    induction m with
    | zero =>
      intro k b hk hbk hf
      refine e_iload C d_Time_choose_13 rfl ?_
      refine e_aload_n C d_Time_choose_15 rfl ?_
      refine e_getI C 21 (k := 0) in_Time g118 g119 d_Time_choose_16 rfl rfl rfl rfl ?_
      refine e_top h.2.1 ?_
      refine e_icmp_ge C d_Time_choose_19 (tgt := 62) (by decide) (fun h19 => ?_) (fun h19 => ?_)
      · skip
        refine e_iload_n C d_Time_choose_62 rfl ?_
        exact e_iret C E d_Time_choose_63 (Nat.le_refl _) (Nat.le_refl _) rfl ⟨by rw [← hf]; rfl, rfl⟩
      · exact absurd (nI_le (by omega) (by omega)) h19
    | succ m ih =>
      intro k b hk hbk hf
      have hlt := slot_lt (w := k) hs (show k < wd by omega)
      refine e_iload C d_Time_choose_13 rfl ?_
      refine e_aload_n C d_Time_choose_15 rfl ?_
      refine e_getI C 21 (k := 0) in_Time g118 g119 d_Time_choose_16 rfl rfl rfl rfl ?_
      refine e_top h.2.1 ?_
      refine e_icmp_ge C d_Time_choose_19 (tgt := 62) (by decide) (fun h19 => ?_) (fun h19 => ?_)
      · exact absurd h19 (nI_ge (by omega) (by omega))
      · skip
        refine e_aload_n C d_Time_choose_22 rfl ?_
        refine e_iload C d_Time_choose_23 rfl ?_
        refine e_iload C d_Time_choose_25 rfl ?_
        refine e_iadd C d_Time_choose_27 ?_
        refine e_zald C 6 1 d_Time_choose_28 rfl rfl (s * wd + k) (nI_add _ _) hlt (by omega) ?_
        refine e_if_ne C d_Time_choose_29 (tgt := 56) (by decide) (fun h29 => ?_) (fun h29 => ?_)
        · have hh : lkd f wd s k = true := by simp [lkd]; exact h29
          refine e_iinc C d_Time_choose_56 rfl (nI_1 k) rfl ?_
          refine e_goto C d_Time_choose_59 (tgt := 13) (by decide) ?_
          exact e_lv2 (ih (k + 1) b (by omega) hbk (by rw [← hf]; simp [pickB, hh])) rfl
        · have hh : lkd f wd s k = false := by simp [lkd]; exact h29
          refine e_iload_n C d_Time_choose_32 rfl ?_
          refine e_iconst C d_Time_choose_33 (v := (-1)) (by decide) ?_
          refine e_icmp_eq C d_Time_choose_34 (tgt := 53) (by decide) (fun h34 => ?_) (fun h34 => ?_)
          · cases b with
            | some j => exact absurd h34 (by rw [oI_n1 (fun k hk => by have := hbk k hk; omega)]; simp)
            | none =>
              refine e_iload C d_Time_choose_53 rfl ?_
              refine e_istore_n C d_Time_choose_55 rfl ?_
              refine e_iinc C d_Time_choose_56 rfl (nI_1 k) rfl ?_
              refine e_goto C d_Time_choose_59 (tgt := 13) (by decide) ?_
              exact e_lv2 (ih (k + 1) (some k) (by omega) (fun j hj => by cases hj; omega) (by rw [← hf]; simp [pickB, hh])) rfl
          · cases b with
            | none => exact absurd rfl h34
            | some j =>
              have hjw := hbk j rfl
              have hlt2 := slot_lt (w := j) hs hjw
              refine e_aload_n C d_Time_choose_37 rfl ?_
              refine e_iload C d_Time_choose_38 rfl ?_
              refine e_iload C d_Time_choose_40 rfl ?_
              refine e_iadd C d_Time_choose_42 ?_
              refine e_top (y := nI (s * wd + k)) (nI_add _ _) ?_
              refine e_iload C d_Time_choose_43 rfl ?_
              refine e_iload_n C d_Time_choose_45 rfl ?_
              refine e_iadd C d_Time_choose_46 ?_
              refine e_top (y := nI (s * wd + j)) (nI_add _ _) ?_
              refine e_cVi C hR 21 (k_Time_goesSooner h hlt hlt2) g541 g11 g538 g540 (gt_sel 9 (by decide +kernel) (by decide +kernel)) d_Time_choose_47 rfl ey_Time_goesSooner rfl rfl rfl rfl ⟨Nat.zero_le _, Nat.zero_le _⟩ ?_
              refine e_if_eq C d_Time_choose_50 (tgt := 56) (by decide) (fun h50 => ?_) (fun h50 => ?_)
              · rw [bI_0] at h50
                have hb2 : bt k j = false := by rw [← hbt]; exact h50
                refine e_iinc C d_Time_choose_56 rfl (nI_1 k) rfl ?_
                refine e_goto C d_Time_choose_59 (tgt := 13) (by decide) ?_
                exact e_lv2 (ih (k + 1) (some j) (by omega) hbk (by rw [← hf]; simp [pickB, hh, hb2])) rfl
              · rw [bI_n] at h50
                have hb2 : bt k j = true := by rw [← hbt]; exact h50
                refine e_iload C d_Time_choose_53 rfl ?_
                refine e_istore_n C d_Time_choose_55 rfl ?_
                refine e_iinc C d_Time_choose_56 rfl (nI_1 k) rfl ?_
                refine e_goto C d_Time_choose_59 (tgt := 13) (by decide) ?_
                exact e_lv2 (ih (k + 1) (some k) (by omega) (fun j hj => by cases hj; omega) (by rw [← hf]; simp [pickB, hh, hb2])) rfl
  exact e_lv2 (L wd 0 none (by omega) (fun j hj => by cases hj) rfl) rfl
theorem k_Time_settle (x y : Int32) : Con l G y_Time_settle c_Time_settle 4 none (rz 0 0) [.ref (a 21), .int x, .int y, .ref (a 6)] (wT G a v f (S * wd) V) (DV (wT G a v f (S * wd) V)) := by
  refine Con.of rfl rfl (fun X C E hR hl hn => ?_)
  exact e_vret C E d_Time_settle_0 (Nat.le_refl _) (Nat.le_refl _) ⟨rfl, rfl⟩
end TimeRows
end
section
/-! RULE 8 -/
theorem ey_Age_use : eY y_Age_use 2 = true := by decide +kernel
theorem d_Age_use_0 : decode c_Age_use 0 = .ok (.aload_n 0, 1) := by decide +kernel
theorem d_Age_use_1 : decode c_Age_use 1 = .ok (.getfield 9, 3) := by decide +kernel
theorem d_Age_use_4 : decode c_Age_use 4 = .ok (.iload_n 1, 1) := by decide +kernel
theorem d_Age_use_5 : decode c_Age_use 5 = .ok (.aload_n 0, 1) := by decide +kernel
theorem d_Age_use_6 : decode c_Age_use 6 = .ok (.getfield 15, 3) := by decide +kernel
theorem d_Age_use_9 : decode c_Age_use 9 = .ok (.imul, 1) := by decide +kernel
theorem d_Age_use_10 : decode c_Age_use 10 = .ok (.iload_n 2, 1) := by decide +kernel
theorem d_Age_use_11 : decode c_Age_use 11 = .ok (.iadd, 1) := by decide +kernel
theorem d_Age_use_12 : decode c_Age_use 12 = .ok (.iconst 0, 1) := by decide +kernel
theorem d_Age_use_13 : decode c_Age_use 13 = .ok (.iastore, 1) := by decide +kernel
theorem d_Age_use_14 : decode c_Age_use 14 = .ok (.return_, 1) := by decide +kernel
theorem ey_Age_come : eY y_Age_come 2 = true := by decide +kernel
theorem d_Age_come_0 : decode c_Age_come 0 = .ok (.aload_n 0, 1) := by decide +kernel
theorem d_Age_come_1 : decode c_Age_come 1 = .ok (.getfield 9, 3) := by decide +kernel
theorem d_Age_come_4 : decode c_Age_come 4 = .ok (.iload_n 1, 1) := by decide +kernel
theorem d_Age_come_5 : decode c_Age_come 5 = .ok (.aload_n 0, 1) := by decide +kernel
theorem d_Age_come_6 : decode c_Age_come 6 = .ok (.getfield 15, 3) := by decide +kernel
theorem d_Age_come_9 : decode c_Age_come 9 = .ok (.imul, 1) := by decide +kernel
theorem d_Age_come_10 : decode c_Age_come 10 = .ok (.iload_n 2, 1) := by decide +kernel
theorem d_Age_come_11 : decode c_Age_come 11 = .ok (.iadd, 1) := by decide +kernel
theorem d_Age_come_12 : decode c_Age_come 12 = .ok (.iconst 2, 1) := by decide +kernel
theorem d_Age_come_13 : decode c_Age_come 13 = .ok (.iastore, 1) := by decide +kernel
theorem d_Age_come_14 : decode c_Age_come 14 = .ok (.return_, 1) := by decide +kernel
theorem ey_Age_choose : eY y_Age_choose 2 = true := by decide +kernel
theorem d_Age_choose_0 : decode c_Age_choose 0 = .ok (.iconst (-1), 1) := by decide +kernel
theorem d_Age_choose_1 : decode c_Age_choose 1 = .ok (.istore_n 3, 1) := by decide +kernel
theorem d_Age_choose_2 : decode c_Age_choose 2 = .ok (.iload_n 1, 1) := by decide +kernel
theorem d_Age_choose_3 : decode c_Age_choose 3 = .ok (.aload_n 0, 1) := by decide +kernel
theorem d_Age_choose_4 : decode c_Age_choose 4 = .ok (.getfield 15, 3) := by decide +kernel
theorem d_Age_choose_7 : decode c_Age_choose 7 = .ok (.imul, 1) := by decide +kernel
theorem d_Age_choose_8 : decode c_Age_choose 8 = .ok (.istore 4, 2) := by decide +kernel
theorem d_Age_choose_10 : decode c_Age_choose 10 = .ok (.iconst 0, 1) := by decide +kernel
theorem d_Age_choose_11 : decode c_Age_choose 11 = .ok (.istore 5, 2) := by decide +kernel
theorem d_Age_choose_13 : decode c_Age_choose 13 = .ok (.iload 5, 2) := by decide +kernel
theorem d_Age_choose_15 : decode c_Age_choose 15 = .ok (.aload_n 0, 1) := by decide +kernel
theorem d_Age_choose_16 : decode c_Age_choose 16 = .ok (.getfield 15, 3) := by decide +kernel
theorem d_Age_choose_19 : decode c_Age_choose 19 = .ok (.if_icmp .ge 49, 3) := by decide +kernel
theorem d_Age_choose_22 : decode c_Age_choose 22 = .ok (.aload_n 2, 1) := by decide +kernel
theorem d_Age_choose_23 : decode c_Age_choose 23 = .ok (.iload 4, 2) := by decide +kernel
theorem d_Age_choose_25 : decode c_Age_choose 25 = .ok (.iload 5, 2) := by decide +kernel
theorem d_Age_choose_27 : decode c_Age_choose 27 = .ok (.iadd, 1) := by decide +kernel
theorem d_Age_choose_28 : decode c_Age_choose 28 = .ok (.baload, 1) := by decide +kernel
theorem d_Age_choose_29 : decode c_Age_choose 29 = .ok (.ifCond .ne 33, 3) := by decide +kernel
theorem d_Age_choose_32 : decode c_Age_choose 32 = .ok (.iload_n 3, 1) := by decide +kernel
theorem d_Age_choose_33 : decode c_Age_choose 33 = .ok (.iconst (-1), 1) := by decide +kernel
theorem d_Age_choose_34 : decode c_Age_choose 34 = .ok (.if_icmp .eq 25, 3) := by decide +kernel
theorem d_Age_choose_37 : decode c_Age_choose 37 = .ok (.aload_n 0, 1) := by decide +kernel
theorem d_Age_choose_38 : decode c_Age_choose 38 = .ok (.getfield 9, 3) := by decide +kernel
theorem d_Age_choose_41 : decode c_Age_choose 41 = .ok (.iload 4, 2) := by decide +kernel
theorem d_Age_choose_43 : decode c_Age_choose 43 = .ok (.iload 5, 2) := by decide +kernel
theorem d_Age_choose_45 : decode c_Age_choose 45 = .ok (.iadd, 1) := by decide +kernel
theorem d_Age_choose_46 : decode c_Age_choose 46 = .ok (.iaload, 1) := by decide +kernel
theorem d_Age_choose_47 : decode c_Age_choose 47 = .ok (.aload_n 0, 1) := by decide +kernel
theorem d_Age_choose_48 : decode c_Age_choose 48 = .ok (.getfield 9, 3) := by decide +kernel
theorem d_Age_choose_51 : decode c_Age_choose 51 = .ok (.iload 4, 2) := by decide +kernel
theorem d_Age_choose_53 : decode c_Age_choose 53 = .ok (.iload_n 3, 1) := by decide +kernel
theorem d_Age_choose_54 : decode c_Age_choose 54 = .ok (.iadd, 1) := by decide +kernel
theorem d_Age_choose_55 : decode c_Age_choose 55 = .ok (.iaload, 1) := by decide +kernel
theorem d_Age_choose_56 : decode c_Age_choose 56 = .ok (.if_icmp .le 6, 3) := by decide +kernel
theorem d_Age_choose_59 : decode c_Age_choose 59 = .ok (.iload 5, 2) := by decide +kernel
theorem d_Age_choose_61 : decode c_Age_choose 61 = .ok (.istore_n 3, 1) := by decide +kernel
theorem d_Age_choose_62 : decode c_Age_choose 62 = .ok (.iinc 5 1, 3) := by decide +kernel
theorem d_Age_choose_65 : decode c_Age_choose 65 = .ok (.goto (-52), 3) := by decide +kernel
theorem d_Age_choose_68 : decode c_Age_choose 68 = .ok (.iload_n 3, 1) := by decide +kernel
theorem d_Age_choose_69 : decode c_Age_choose 69 = .ok (.ireturn, 1) := by decide +kernel
theorem ey_Age_settle : eY y_Age_settle 3 = true := by decide +kernel
theorem d_Age_settle_0 : decode c_Age_settle 0 = .ok (.iconst 3, 1) := by decide +kernel
theorem d_Age_settle_1 : decode c_Age_settle 1 = .ok (.aload_n 0, 1) := by decide +kernel
theorem d_Age_settle_2 : decode c_Age_settle 2 = .ok (.getfield 9, 3) := by decide +kernel
theorem d_Age_settle_5 : decode c_Age_settle 5 = .ok (.iload_n 1, 1) := by decide +kernel
theorem d_Age_settle_6 : decode c_Age_settle 6 = .ok (.aload_n 0, 1) := by decide +kernel
theorem d_Age_settle_7 : decode c_Age_settle 7 = .ok (.getfield 15, 3) := by decide +kernel
theorem d_Age_settle_10 : decode c_Age_settle 10 = .ok (.imul, 1) := by decide +kernel
theorem d_Age_settle_11 : decode c_Age_settle 11 = .ok (.iload_n 2, 1) := by decide +kernel
theorem d_Age_settle_12 : decode c_Age_settle 12 = .ok (.iadd, 1) := by decide +kernel
theorem d_Age_settle_13 : decode c_Age_settle 13 = .ok (.iaload, 1) := by decide +kernel
theorem d_Age_settle_14 : decode c_Age_settle 14 = .ok (.isub, 1) := by decide +kernel
theorem d_Age_settle_15 : decode c_Age_settle 15 = .ok (.istore 4, 2) := by decide +kernel
theorem d_Age_settle_17 : decode c_Age_settle 17 = .ok (.iload_n 1, 1) := by decide +kernel
theorem d_Age_settle_18 : decode c_Age_settle 18 = .ok (.aload_n 0, 1) := by decide +kernel
theorem d_Age_settle_19 : decode c_Age_settle 19 = .ok (.getfield 15, 3) := by decide +kernel
theorem d_Age_settle_22 : decode c_Age_settle 22 = .ok (.imul, 1) := by decide +kernel
theorem d_Age_settle_23 : decode c_Age_settle 23 = .ok (.istore 5, 2) := by decide +kernel
theorem d_Age_settle_25 : decode c_Age_settle 25 = .ok (.iload 5, 2) := by decide +kernel
theorem d_Age_settle_27 : decode c_Age_settle 27 = .ok (.iload_n 1, 1) := by decide +kernel
theorem d_Age_settle_28 : decode c_Age_settle 28 = .ok (.aload_n 0, 1) := by decide +kernel
theorem d_Age_settle_29 : decode c_Age_settle 29 = .ok (.getfield 15, 3) := by decide +kernel
theorem d_Age_settle_32 : decode c_Age_settle 32 = .ok (.imul, 1) := by decide +kernel
theorem d_Age_settle_33 : decode c_Age_settle 33 = .ok (.aload_n 0, 1) := by decide +kernel
theorem d_Age_settle_34 : decode c_Age_settle 34 = .ok (.getfield 15, 3) := by decide +kernel
theorem d_Age_settle_37 : decode c_Age_settle 37 = .ok (.iadd, 1) := by decide +kernel
theorem d_Age_settle_38 : decode c_Age_settle 38 = .ok (.if_icmp .ge 28, 3) := by decide +kernel
theorem d_Age_settle_41 : decode c_Age_settle 41 = .ok (.aload_n 3, 1) := by decide +kernel
theorem d_Age_settle_42 : decode c_Age_settle 42 = .ok (.iload 5, 2) := by decide +kernel
theorem d_Age_settle_44 : decode c_Age_settle 44 = .ok (.baload, 1) := by decide +kernel
theorem d_Age_settle_45 : decode c_Age_settle 45 = .ok (.ifCond .ne 15, 3) := by decide +kernel
theorem d_Age_settle_48 : decode c_Age_settle 48 = .ok (.aload_n 0, 1) := by decide +kernel
theorem d_Age_settle_49 : decode c_Age_settle 49 = .ok (.getfield 9, 3) := by decide +kernel
theorem d_Age_settle_52 : decode c_Age_settle 52 = .ok (.iload 5, 2) := by decide +kernel
theorem d_Age_settle_54 : decode c_Age_settle 54 = .ok (.dup2, 1) := by decide +kernel
theorem d_Age_settle_55 : decode c_Age_settle 55 = .ok (.iaload, 1) := by decide +kernel
theorem d_Age_settle_56 : decode c_Age_settle 56 = .ok (.iload 4, 2) := by decide +kernel
theorem d_Age_settle_58 : decode c_Age_settle 58 = .ok (.iadd, 1) := by decide +kernel
theorem d_Age_settle_59 : decode c_Age_settle 59 = .ok (.iastore, 1) := by decide +kernel
theorem d_Age_settle_60 : decode c_Age_settle 60 = .ok (.iinc 5 1, 3) := by decide +kernel
theorem d_Age_settle_63 : decode c_Age_settle 63 = .ok (.goto (-38), 3) := by decide +kernel
theorem d_Age_settle_66 : decode c_Age_settle 66 = .ok (.return_, 1) := by decide +kernel
abbrev wA (G : EG) (a : Nat → Nat) (v : Nat → Int32) (f : Nat → Nat → Int32) (n V : Nat) : va_W := cF G a v f n V (rAge G a v f n)
section AgeRows
variable {l : Launch} {G : EG} {a : Nat → Nat} {v : Nat → Int32} {f : Nat → Nat → Int32} {V S wd s w : Nat}
set_option maxRecDepth 100000 in
theorem k_Age_use (h : CD v S wd) (hs : s < S) (hw : w < wd) : Con l G y_Age_use c_Age_use 3 none (rz 0 0) [.ref (a 21), .int (nI s), .int (nI w)] (wA G a v f (S * wd) V) (DV (wA G a v (up2 f 22 (upd (f 22) (s * wd + w) 0)) (S * wd) V)) := by
  refine Con.of rfl rfl (fun X C E hR hl hn => ?_)
  have hn1 := h.n128
  have hlt := slot_lt hs hw
  refine e_aload_n C d_Age_use_0 rfl ?_
  refine e_get C 21 (k := 1) in_Age g178 d_Age_use_1 rfl rfl rfl rfl ?_
  refine e_iload_n C d_Age_use_4 rfl ?_
  refine e_aload_n C d_Age_use_5 rfl ?_
  refine e_getI C 21 (k := 0) in_Age g120 g121 d_Age_use_6 rfl rfl rfl rfl ?_
  refine e_imul C d_Age_use_9 ?_
  refine e_iload_n C d_Age_use_10 rfl ?_
  refine e_iadd C d_Age_use_11 ?_
  refine e_iconst C d_Age_use_12 (v := 0) (by decide) ?_
  refine e_iast C 22 0 d_Age_use_13 rfl rfl (s * wd + w) (by rw [h.2.1, pk_mul, nI_add]) hlt (by omega) ?_
  exact e_vret C E d_Age_use_14 (Nat.le_refl _) (Nat.le_refl _) ⟨rfl, rfl⟩
set_option maxRecDepth 100000 in
theorem k_Age_come (h : CD v S wd) (hs : s < S) (hw : w < wd) : Con l G y_Age_come c_Age_come 3 none (rz 0 0) [.ref (a 21), .int (nI s), .int (nI w)] (wA G a v f (S * wd) V) (DV (wA G a v (up2 f 22 (upd (f 22) (s * wd + w) 2)) (S * wd) V)) := by
  refine Con.of rfl rfl (fun X C E hR hl hn => ?_)
  have hn1 := h.n128
  have hlt := slot_lt hs hw
  refine e_aload_n C d_Age_come_0 rfl ?_
  refine e_get C 21 (k := 1) in_Age g178 d_Age_come_1 rfl rfl rfl rfl ?_
  refine e_iload_n C d_Age_come_4 rfl ?_
  refine e_aload_n C d_Age_come_5 rfl ?_
  refine e_getI C 21 (k := 0) in_Age g120 g121 d_Age_come_6 rfl rfl rfl rfl ?_
  refine e_imul C d_Age_come_9 ?_
  refine e_iload_n C d_Age_come_10 rfl ?_
  refine e_iadd C d_Age_come_11 ?_
  refine e_iconst C d_Age_come_12 (v := 2) (by decide) ?_
  refine e_iast C 22 0 d_Age_come_13 rfl rfl (s * wd + w) (by rw [h.2.1, pk_mul, nI_add]) hlt (by omega) ?_
  exact e_vret C E d_Age_come_14 (Nat.le_refl _) (Nat.le_refl _) ⟨rfl, rfl⟩
/-- older -/
def old (f : Nat → Nat → Int32) (i j : Nat) : Bool := !decide (f 22 i ≤ f 22 j)
set_option maxRecDepth 100000 in
theorem k_Age_choose (h : CD v S wd) (hs : s < S) : Con l G y_Age_choose c_Age_choose 6 (some .int) (rz 0 0) [.ref (a 21), .int (nI s), .ref (a 6)] (wA G a v f (S * wd) V) (DI (oI (pickB (lkd f wd s) (fun x y => old f (s * wd + x) (s * wd + y)) none 0 wd)) (wA G a v f (S * wd) V)) := by
  refine Con.of rfl rfl (fun X C E hR hl hn => ?_)
  have hn1 := h.n128
  have hw8 := h.2.2.2.2
  refine e_iconst C d_Age_choose_0 (v := (-1)) (by decide) ?_
  refine e_istore_n C d_Age_choose_1 rfl ?_
  refine e_iload_n C d_Age_choose_2 rfl ?_
  refine e_aload_n C d_Age_choose_3 rfl ?_
  refine e_getI C 21 (k := 0) in_Age g120 g121 d_Age_choose_4 rfl rfl rfl rfl ?_
  refine e_imul C d_Age_choose_7 ?_
  refine e_top (y := nI (s * wd)) (by rw [h.2.1, pk_mul]) ?_
  refine e_istore C d_Age_choose_8 rfl ?_
  refine e_iconst C d_Age_choose_10 (v := 0) (by decide) ?_
  refine e_istore C d_Age_choose_11 rfl ?_
  generalize hbt : (fun x y => old f (s * wd + x) (s * wd + y)) = bt at E
  have L : ∀ (m k : Nat) (b : Option Nat), k + m = wd → (∀ j, b = some j → j < wd) → pickB (lkd f wd s) bt b k m = pickB (lkd f wd s) bt none 0 wd → EW X G 6 0 0 13 [(0, .ref (a 21)), (1, .int (nI s)), (2, .ref (a 6)), (3, .int (oI b)), (4, .int (nI (s * wd))), (5, .int (nI k))] [] (wA G a v f (S * wd) V) := by
    intro m
    induction m with
    | zero =>
      intro k b hk hbk hf
      refine e_iload C d_Age_choose_13 rfl ?_
      refine e_aload_n C d_Age_choose_15 rfl ?_
      refine e_getI C 21 (k := 0) in_Age g120 g121 d_Age_choose_16 rfl rfl rfl rfl ?_
      refine e_top h.2.1 ?_
      refine e_icmp_ge C d_Age_choose_19 (tgt := 68) (by decide) (fun h19 => ?_) (fun h19 => ?_)
      · skip
        refine e_iload_n C d_Age_choose_68 rfl ?_
        exact e_iret C E d_Age_choose_69 (Nat.le_refl _) (Nat.le_refl _) rfl ⟨by rw [← hf]; rfl, rfl⟩
      · exact absurd (nI_le (by omega) (by omega)) h19
    | succ m ih =>
      intro k b hk hbk hf
      have hlt := slot_lt (w := k) hs (show k < wd by omega)
      refine e_iload C d_Age_choose_13 rfl ?_
      refine e_aload_n C d_Age_choose_15 rfl ?_
      refine e_getI C 21 (k := 0) in_Age g120 g121 d_Age_choose_16 rfl rfl rfl rfl ?_
      refine e_top h.2.1 ?_
      refine e_icmp_ge C d_Age_choose_19 (tgt := 68) (by decide) (fun h19 => ?_) (fun h19 => ?_)
      · exact absurd h19 (nI_ge (by omega) (by omega))
      · skip
        refine e_aload_n C d_Age_choose_22 rfl ?_
        refine e_iload C d_Age_choose_23 rfl ?_
        refine e_iload C d_Age_choose_25 rfl ?_
        refine e_iadd C d_Age_choose_27 ?_
        refine e_zald C 6 1 d_Age_choose_28 rfl rfl (s * wd + k) (nI_add _ _) hlt (by omega) ?_
        refine e_if_ne C d_Age_choose_29 (tgt := 62) (by decide) (fun h29 => ?_) (fun h29 => ?_)
        · have hh : lkd f wd s k = true := by simp [lkd]; exact h29
          refine e_iinc C d_Age_choose_62 rfl (nI_1 k) rfl ?_
          refine e_goto C d_Age_choose_65 (tgt := 13) (by decide) ?_
          exact e_lv2 (ih (k + 1) b (by omega) hbk (by rw [← hf]; simp [pickB, hh])) rfl
        · have hh : lkd f wd s k = false := by simp [lkd]; exact h29
          refine e_iload_n C d_Age_choose_32 rfl ?_
          refine e_iconst C d_Age_choose_33 (v := (-1)) (by decide) ?_
          refine e_icmp_eq C d_Age_choose_34 (tgt := 59) (by decide) (fun h34 => ?_) (fun h34 => ?_)
          · cases b with
            | some j => exact absurd h34 (by rw [oI_n1 (fun k hk => by have := hbk k hk; omega)]; simp)
            | none =>
              refine e_iload C d_Age_choose_59 rfl ?_
              refine e_istore_n C d_Age_choose_61 rfl ?_
              refine e_iinc C d_Age_choose_62 rfl (nI_1 k) rfl ?_
              refine e_goto C d_Age_choose_65 (tgt := 13) (by decide) ?_
              exact e_lv2 (ih (k + 1) (some k) (by omega) (fun j hj => by cases hj; omega) (by rw [← hf]; simp [pickB, hh])) rfl
          · cases b with
            | none => exact absurd rfl h34
            | some j =>
              have hjw := hbk j rfl
              have hlt2 := slot_lt (w := j) hs hjw
              refine e_aload_n C d_Age_choose_37 rfl ?_
              refine e_get C 21 (k := 1) in_Age g178 d_Age_choose_38 rfl rfl rfl rfl ?_
              refine e_iload C d_Age_choose_41 rfl ?_
              refine e_iload C d_Age_choose_43 rfl ?_
              refine e_iadd C d_Age_choose_45 ?_
              refine e_iald C 22 0 d_Age_choose_46 rfl rfl (s * wd + k) (nI_add _ _) hlt (by omega) ?_
              refine e_aload_n C d_Age_choose_47 rfl ?_
              refine e_get C 21 (k := 1) in_Age g178 d_Age_choose_48 rfl rfl rfl rfl ?_
              refine e_iload C d_Age_choose_51 rfl ?_
              refine e_iload_n C d_Age_choose_53 rfl ?_
              refine e_iadd C d_Age_choose_54 ?_
              refine e_iald C 22 0 d_Age_choose_55 rfl rfl (s * wd + j) (nI_add _ _) hlt2 (by omega) ?_
              refine e_icmp_le C d_Age_choose_56 (tgt := 62) (by decide) (fun h56 => ?_) (fun h56 => ?_)
              · have hb2 : bt k j = false := by rw [← hbt]; simp [old]; exact h56
                refine e_iinc C d_Age_choose_62 rfl (nI_1 k) rfl ?_
                refine e_goto C d_Age_choose_65 (tgt := 13) (by decide) ?_
                exact e_lv2 (ih (k + 1) (some j) (by omega) hbk (by rw [← hf]; simp [pickB, hh, hb2])) rfl
              · have hb2 : bt k j = true := by
                  rw [← hbt]
                  simp only [old, Bool.not_eq_true', decide_eq_false_iff_not]
                  exact h56
                refine e_iload C d_Age_choose_59 rfl ?_
                refine e_istore_n C d_Age_choose_61 rfl ?_
                refine e_iinc C d_Age_choose_62 rfl (nI_1 k) rfl ?_
                refine e_goto C d_Age_choose_65 (tgt := 13) (by decide) ?_
                exact e_lv2 (ih (k + 1) (some k) (by omega) (fun j hj => by cases hj; omega) (by rw [← hf]; simp [pickB, hh, hb2])) rfl
  exact e_lv2 (L wd 0 none (by omega) (fun j hj => by cases hj) rfl) rfl
/-- all that are not locked grow older by y, from slot lo up to hi -/
def agd (f : Nat → Nat → Int32) (y : Int32) (lo hi : Nat) : Nat → Int32 := fun j => if lo ≤ j ∧ j < hi ∧ f 6 j = 0 then f 22 j + y else f 22 j
theorem agd_0 (f : Nat → Nat → Int32) (y : Int32) (lo : Nat) : agd f y lo lo = f 22 := by
  funext j
  unfold agd
  rw [if_neg (by omega)]
theorem agd_l {f : Nat → Nat → Int32} {y : Int32} {lo k : Nat} (h : ¬ f 6 k = 0) : agd f y lo (k + 1) = agd f y lo k := by
  funext j
  unfold agd
  by_cases hj : j = k
  · subst hj
    rw [if_neg (fun z => h z.2.2), if_neg (fun z => h z.2.2)]
  · by_cases h2 : lo ≤ j ∧ j < k ∧ f 6 j = 0
    · rw [if_pos ⟨h2.1, by omega, h2.2.2⟩, if_pos h2]
    · rw [if_neg (fun z => h2 ⟨z.1, by omega, z.2.2⟩), if_neg h2]
theorem agd_s {f : Nat → Nat → Int32} {y : Int32} {lo k : Nat} (hk : lo ≤ k) (h : f 6 k = 0) : agd f y lo (k + 1) = upd (agd f y lo k) k (agd f y lo k k + y) := by
  funext j
  by_cases hj : j = k
  · subst hj
    rw [pk_us]
    unfold agd
    rw [if_pos ⟨hk, by omega, h⟩, if_neg (by omega)]
  · rw [pk_un hj]
    unfold agd
    by_cases h2 : lo ≤ j ∧ j < k ∧ f 6 j = 0
    · rw [if_pos ⟨h2.1, by omega, h2.2.2⟩, if_pos h2]
    · rw [if_neg (fun z => h2 ⟨z.1, by omega, z.2.2⟩), if_neg h2]
set_option maxRecDepth 100000 in
theorem k_Age_settle (h : CD v S wd) (hs : s < S) (hw : w < wd) : Con l G y_Age_settle c_Age_settle 6 none (rz 0 0) [.ref (a 21), .int (nI s), .int (nI w), .ref (a 6)] (wA G a v f (S * wd) V) (DV (wA G a v (up2 f 22 (agd f (3 - f 22 (s * wd + w)) (s * wd) (s * wd + wd))) (S * wd) V)) := by
  refine Con.of rfl rfl (fun X C E hR hl hn => ?_)
  have hn1 := h.n128
  have hlt := slot_lt hs hw
  have hle : s * wd + wd ≤ S * wd := by
    have := slot_lt (w := wd - 1) hs (show wd - 1 < wd by omega)
    omega
  refine e_iconst C d_Age_settle_0 (v := 3) (by decide) ?_
  refine e_aload_n C d_Age_settle_1 rfl ?_
  refine e_get C 21 (k := 1) in_Age g178 d_Age_settle_2 rfl rfl rfl rfl ?_
  refine e_iload_n C d_Age_settle_5 rfl ?_
  refine e_aload_n C d_Age_settle_6 rfl ?_
  refine e_getI C 21 (k := 0) in_Age g120 g121 d_Age_settle_7 rfl rfl rfl rfl ?_
  refine e_imul C d_Age_settle_10 ?_
  refine e_iload_n C d_Age_settle_11 rfl ?_
  refine e_iadd C d_Age_settle_12 ?_
  refine e_iald C 22 0 d_Age_settle_13 rfl rfl (s * wd + w) (by rw [h.2.1, pk_mul, nI_add]) hlt (by omega) ?_
  refine e_isub C d_Age_settle_14 ?_
  refine e_istore C d_Age_settle_15 rfl ?_
  refine e_iload_n C d_Age_settle_17 rfl ?_
  refine e_aload_n C d_Age_settle_18 rfl ?_
  refine e_getI C 21 (k := 0) in_Age g120 g121 d_Age_settle_19 rfl rfl rfl rfl ?_
  generalize 3 - f 22 (s * wd + w) = y at E ⊢
  refine e_imul C d_Age_settle_22 ?_
  refine e_top (y := nI (s * wd)) (by rw [h.2.1, pk_mul]) ?_
  refine e_istore C d_Age_settle_23 rfl ?_
  have L : ∀ m k : Nat, k + m = s * wd + wd → s * wd ≤ k → EW X G 6 0 0 25 [(0, .ref (a 21)), (1, .int (nI s)), (2, .int (nI w)), (3, .ref (a 6)), (4, .int y), (5, .int (nI k))] [] (wA G a v (up2 f 22 (agd f y (s * wd) k)) (S * wd) V) := by
    intro m
    induction m with
    | zero =>
      intro k hk hk2
      obtain rfl : k = s * wd + wd := by omega
      refine e_iload C d_Age_settle_25 rfl ?_
      refine e_iload_n C d_Age_settle_27 rfl ?_
      refine e_aload_n C d_Age_settle_28 rfl ?_
      refine e_getI C 21 (k := 0) in_Age g120 g121 d_Age_settle_29 rfl rfl rfl rfl ?_
      refine e_imul C d_Age_settle_32 ?_
      refine e_aload_n C d_Age_settle_33 rfl ?_
      refine e_getI C 21 (k := 0) in_Age g120 g121 d_Age_settle_34 rfl rfl rfl rfl ?_
      refine e_iadd C d_Age_settle_37 ?_
      refine e_top (y := nI (s * wd + wd)) (by show nI s * v 7 + v 7 = _; rw [h.2.1, pk_mul, nI_add]) ?_
      refine e_icmp_ge C d_Age_settle_38 (tgt := 66) (by decide) (fun h38 => ?_) (fun h38 => ?_)
      · skip
        exact e_vret C E d_Age_settle_66 (Nat.le_refl _) (Nat.le_refl _) ⟨rfl, rfl⟩
      · exact absurd (nI_le (Nat.le_refl _) (by omega)) h38
    | succ m ih =>
      intro k hk hk2
      refine e_iload C d_Age_settle_25 rfl ?_
      refine e_iload_n C d_Age_settle_27 rfl ?_
      refine e_aload_n C d_Age_settle_28 rfl ?_
      refine e_getI C 21 (k := 0) in_Age g120 g121 d_Age_settle_29 rfl rfl rfl rfl ?_
      refine e_imul C d_Age_settle_32 ?_
      refine e_aload_n C d_Age_settle_33 rfl ?_
      refine e_getI C 21 (k := 0) in_Age g120 g121 d_Age_settle_34 rfl rfl rfl rfl ?_
      refine e_iadd C d_Age_settle_37 ?_
      refine e_top (y := nI (s * wd + wd)) (by show nI s * v 7 + v 7 = _; rw [h.2.1, pk_mul, nI_add]) ?_
      refine e_icmp_ge C d_Age_settle_38 (tgt := 66) (by decide) (fun h38 => ?_) (fun h38 => ?_)
      · exact absurd h38 (nI_ge (by omega) (by omega))
      · skip
        refine e_aload_n C d_Age_settle_41 rfl ?_
        refine e_iload C d_Age_settle_42 rfl ?_
        refine e_zald C 6 1 d_Age_settle_44 rfl rfl k rfl (by omega) (by omega) ?_
        refine e_if_ne C d_Age_settle_45 (tgt := 60) (by decide) (fun h45 => ?_) (fun h45 => ?_)
        · have h45 : ¬ f 6 k = 0 := h45
          have ih := ih (k + 1) (by omega) (by omega)
          rw [agd_l h45] at ih
          refine e_iinc C d_Age_settle_60 rfl (nI_1 k) rfl ?_
          refine e_goto C d_Age_settle_63 (tgt := 25) (by decide) ?_
          exact e_lv2 ih rfl
        · have h45 : f 6 k = 0 := h45
          have ih := ih (k + 1) (by omega) (by omega)
          rw [agd_s hk2 h45] at ih
          refine e_aload_n C d_Age_settle_48 rfl ?_
          refine e_get C 21 (k := 1) in_Age g178 d_Age_settle_49 rfl rfl rfl rfl ?_
          refine e_iload C d_Age_settle_52 rfl ?_
          refine e_dup2 C d_Age_settle_54 rfl rfl ?_
          refine e_iald C 22 0 d_Age_settle_55 rfl rfl k rfl (by omega) (by omega) ?_
          refine e_iload C d_Age_settle_56 rfl ?_
          refine e_iadd C d_Age_settle_58 ?_
          refine e_iast C 22 0 d_Age_settle_59 rfl rfl k rfl (by omega) (by omega) ?_
          refine e_iinc C d_Age_settle_60 rfl (nI_1 k) rfl ?_
          refine e_goto C d_Age_settle_63 (tgt := 25) (by decide) ?_
          exact e_lv2 ih rfl
  refine e_eq (ws' := wA G a v (up2 f 22 (agd f y (s * wd) (s * wd))) (S * wd) V) (by rw [agd_0]; rfl) ?_
  exact e_lv2 (L wd (s * wd) rfl (Nat.le_refl _)) rfl
end AgeRows
end
section
/-! RULE 3 -/
theorem ey_Chance_use : eY y_Chance_use 2 = true := by decide +kernel
theorem d_Chance_use_0 : decode c_Chance_use 0 = .ok (.return_, 1) := by decide +kernel
theorem ey_Chance_come : eY y_Chance_come 2 = true := by decide +kernel
theorem d_Chance_come_0 : decode c_Chance_come 0 = .ok (.return_, 1) := by decide +kernel
theorem ey_Chance_choose : eY y_Chance_choose 2 = true := by decide +kernel
theorem d_Chance_choose_0 : decode c_Chance_choose 0 = .ok (.iconst 0, 1) := by decide +kernel
theorem d_Chance_choose_1 : decode c_Chance_choose 1 = .ok (.istore_n 3, 1) := by decide +kernel
theorem d_Chance_choose_2 : decode c_Chance_choose 2 = .ok (.iconst 0, 1) := by decide +kernel
theorem d_Chance_choose_3 : decode c_Chance_choose 3 = .ok (.istore 4, 2) := by decide +kernel
theorem d_Chance_choose_5 : decode c_Chance_choose 5 = .ok (.iload 4, 2) := by decide +kernel
theorem d_Chance_choose_7 : decode c_Chance_choose 7 = .ok (.aload_n 0, 1) := by decide +kernel
theorem d_Chance_choose_8 : decode c_Chance_choose 8 = .ok (.getfield 15, 3) := by decide +kernel
theorem d_Chance_choose_11 : decode c_Chance_choose 11 = .ok (.if_icmp .ge 31, 3) := by decide +kernel
theorem d_Chance_choose_14 : decode c_Chance_choose 14 = .ok (.iload_n 3, 1) := by decide +kernel
theorem d_Chance_choose_15 : decode c_Chance_choose 15 = .ok (.aload_n 2, 1) := by decide +kernel
theorem d_Chance_choose_16 : decode c_Chance_choose 16 = .ok (.iload_n 1, 1) := by decide +kernel
theorem d_Chance_choose_17 : decode c_Chance_choose 17 = .ok (.aload_n 0, 1) := by decide +kernel
theorem d_Chance_choose_18 : decode c_Chance_choose 18 = .ok (.getfield 15, 3) := by decide +kernel
theorem d_Chance_choose_21 : decode c_Chance_choose 21 = .ok (.imul, 1) := by decide +kernel
theorem d_Chance_choose_22 : decode c_Chance_choose 22 = .ok (.iload 4, 2) := by decide +kernel
theorem d_Chance_choose_24 : decode c_Chance_choose 24 = .ok (.iadd, 1) := by decide +kernel
theorem d_Chance_choose_25 : decode c_Chance_choose 25 = .ok (.baload, 1) := by decide +kernel
theorem d_Chance_choose_26 : decode c_Chance_choose 26 = .ok (.ifCond .eq 7, 3) := by decide +kernel
theorem d_Chance_choose_29 : decode c_Chance_choose 29 = .ok (.iconst 0, 1) := by decide +kernel
theorem d_Chance_choose_30 : decode c_Chance_choose 30 = .ok (.goto 4, 3) := by decide +kernel
theorem d_Chance_choose_33 : decode c_Chance_choose 33 = .ok (.iconst 1, 1) := by decide +kernel
theorem d_Chance_choose_34 : decode c_Chance_choose 34 = .ok (.iadd, 1) := by decide +kernel
theorem d_Chance_choose_35 : decode c_Chance_choose 35 = .ok (.istore_n 3, 1) := by decide +kernel
theorem d_Chance_choose_36 : decode c_Chance_choose 36 = .ok (.iinc 4 1, 3) := by decide +kernel
theorem d_Chance_choose_39 : decode c_Chance_choose 39 = .ok (.goto (-34), 3) := by decide +kernel
theorem d_Chance_choose_42 : decode c_Chance_choose 42 = .ok (.iload_n 3, 1) := by decide +kernel
theorem d_Chance_choose_43 : decode c_Chance_choose 43 = .ok (.ifCond .ne 5, 3) := by decide +kernel
theorem d_Chance_choose_46 : decode c_Chance_choose 46 = .ok (.iconst (-1), 1) := by decide +kernel
theorem d_Chance_choose_47 : decode c_Chance_choose 47 = .ok (.ireturn, 1) := by decide +kernel
theorem d_Chance_choose_48 : decode c_Chance_choose 48 = .ok (.aload_n 0, 1) := by decide +kernel
theorem d_Chance_choose_49 : decode c_Chance_choose 49 = .ok (.getfield 9, 3) := by decide +kernel
theorem d_Chance_choose_52 : decode c_Chance_choose 52 = .ok (.ldc 18, 2) := by decide +kernel
theorem d_Chance_choose_54 : decode c_Chance_choose 54 = .ok (.idiv, 1) := by decide +kernel
theorem d_Chance_choose_55 : decode c_Chance_choose 55 = .ok (.iload_n 3, 1) := by decide +kernel
theorem d_Chance_choose_56 : decode c_Chance_choose 56 = .ok (.irem, 1) := by decide +kernel
theorem d_Chance_choose_57 : decode c_Chance_choose 57 = .ok (.istore 4, 2) := by decide +kernel
theorem d_Chance_choose_59 : decode c_Chance_choose 59 = .ok (.iconst 0, 1) := by decide +kernel
theorem d_Chance_choose_60 : decode c_Chance_choose 60 = .ok (.istore 5, 2) := by decide +kernel
theorem d_Chance_choose_62 : decode c_Chance_choose 62 = .ok (.iload 5, 2) := by decide +kernel
theorem d_Chance_choose_64 : decode c_Chance_choose 64 = .ok (.aload_n 0, 1) := by decide +kernel
theorem d_Chance_choose_65 : decode c_Chance_choose 65 = .ok (.getfield 15, 3) := by decide +kernel
theorem d_Chance_choose_68 : decode c_Chance_choose 68 = .ok (.if_icmp .ge 34, 3) := by decide +kernel
theorem d_Chance_choose_71 : decode c_Chance_choose 71 = .ok (.aload_n 2, 1) := by decide +kernel
theorem d_Chance_choose_72 : decode c_Chance_choose 72 = .ok (.iload_n 1, 1) := by decide +kernel
theorem d_Chance_choose_73 : decode c_Chance_choose 73 = .ok (.aload_n 0, 1) := by decide +kernel
theorem d_Chance_choose_74 : decode c_Chance_choose 74 = .ok (.getfield 15, 3) := by decide +kernel
theorem d_Chance_choose_77 : decode c_Chance_choose 77 = .ok (.imul, 1) := by decide +kernel
theorem d_Chance_choose_78 : decode c_Chance_choose 78 = .ok (.iload 5, 2) := by decide +kernel
theorem d_Chance_choose_80 : decode c_Chance_choose 80 = .ok (.iadd, 1) := by decide +kernel
theorem d_Chance_choose_81 : decode c_Chance_choose 81 = .ok (.baload, 1) := by decide +kernel
theorem d_Chance_choose_82 : decode c_Chance_choose 82 = .ok (.ifCond .ne 14, 3) := by decide +kernel
theorem d_Chance_choose_85 : decode c_Chance_choose 85 = .ok (.iload 4, 2) := by decide +kernel
theorem d_Chance_choose_87 : decode c_Chance_choose 87 = .ok (.ifCond .ne 6, 3) := by decide +kernel
theorem d_Chance_choose_90 : decode c_Chance_choose 90 = .ok (.iload 5, 2) := by decide +kernel
theorem d_Chance_choose_92 : decode c_Chance_choose 92 = .ok (.ireturn, 1) := by decide +kernel
theorem d_Chance_choose_93 : decode c_Chance_choose 93 = .ok (.iinc 4 (-1), 3) := by decide +kernel
theorem d_Chance_choose_96 : decode c_Chance_choose 96 = .ok (.iinc 5 1, 3) := by decide +kernel
theorem d_Chance_choose_99 : decode c_Chance_choose 99 = .ok (.goto (-37), 3) := by decide +kernel
theorem d_Chance_choose_102 : decode c_Chance_choose 102 = .ok (.iconst (-1), 1) := by decide +kernel
theorem d_Chance_choose_103 : decode c_Chance_choose 103 = .ok (.ireturn, 1) := by decide +kernel
theorem ey_Chance_settle : eY y_Chance_settle 3 = true := by decide +kernel
theorem d_Chance_settle_0 : decode c_Chance_settle 0 = .ok (.aload_n 0, 1) := by decide +kernel
theorem d_Chance_settle_1 : decode c_Chance_settle 1 = .ok (.ldc 19, 2) := by decide +kernel
theorem d_Chance_settle_3 : decode c_Chance_settle 3 = .ok (.aload_n 0, 1) := by decide +kernel
theorem d_Chance_settle_4 : decode c_Chance_settle 4 = .ok (.getfield 9, 3) := by decide +kernel
theorem d_Chance_settle_7 : decode c_Chance_settle 7 = .ok (.imul, 1) := by decide +kernel
theorem d_Chance_settle_8 : decode c_Chance_settle 8 = .ok (.sipush 12345, 3) := by decide +kernel
theorem d_Chance_settle_11 : decode c_Chance_settle 11 = .ok (.iadd, 1) := by decide +kernel
theorem d_Chance_settle_12 : decode c_Chance_settle 12 = .ok (.ldc 20, 2) := by decide +kernel
theorem d_Chance_settle_14 : decode c_Chance_settle 14 = .ok (.iand, 1) := by decide +kernel
theorem d_Chance_settle_15 : decode c_Chance_settle 15 = .ok (.putfield 9, 3) := by decide +kernel
theorem d_Chance_settle_18 : decode c_Chance_settle 18 = .ok (.return_, 1) := by decide +kernel
abbrev wC (G : EG) (a : Nat → Nat) (v : Nat → Int32) (f : Nat → Nat → Int32) (n V : Nat) : va_W := cF G a v f n V (rChance a v)
/-- how many are not barred -/
def cntU (lk : Nat → Bool) : Nat → Nat → Nat → Nat
  | c, _, 0 => c
  | c, k, m + 1 => cntU lk (if lk k then c else c + 1) (k + 1) m
/-- the one with that number among those that are not barred -/
def nthU (lk : Nat → Bool) : Nat → Nat → Nat → Option Nat
  | _, _, 0 => none
  | t, k, m + 1 => if lk k then nthU lk t (k + 1) m else if t = 0 then some k else nthU lk (t - 1) (k + 1) m
section ChanceRows
variable {l : Launch} {G : EG} {a : Nat → Nat} {v : Nat → Int32} {f : Nat → Nat → Int32} {V S wd s w : Nat}
theorem k_Chance_use (x y : Int32) : Con l G y_Chance_use c_Chance_use 3 none (rz 0 0) [.ref (a 21), .int x, .int y] (wC G a v f (S * wd) V) (DV (wC G a v f (S * wd) V)) := by
  refine Con.of rfl rfl (fun X C E hR hl hn => ?_)
  exact e_vret C E d_Chance_use_0 (Nat.le_refl _) (Nat.le_refl _) ⟨rfl, rfl⟩
theorem k_Chance_come (x y : Int32) : Con l G y_Chance_come c_Chance_come 3 none (rz 0 0) [.ref (a 21), .int x, .int y] (wC G a v f (S * wd) V) (DV (wC G a v f (S * wd) V)) := by
  refine Con.of rfl rfl (fun X C E hR hl hn => ?_)
  exact e_vret C E d_Chance_come_0 (Nat.le_refl _) (Nat.le_refl _) ⟨rfl, rfl⟩
theorem k_Chance_settle (x y : Int32) : Con l G y_Chance_settle c_Chance_settle 4 none (rz 0 0) [.ref (a 21), .int x, .int y, .ref (a 6)] (wC G a v f (S * wd) V) (DV (wC G a (upd v 19 ((1103515245 * v 19 + 12345) &&& 2147483647)) f (S * wd) V)) := by
  refine Con.of rfl rfl (fun X C E hR hl hn => ?_)
  refine e_aload_n C d_Chance_settle_0 rfl ?_
  refine e_ldc C g554 d_Chance_settle_1 ?_
  refine e_aload_n C d_Chance_settle_3 rfl ?_
  refine e_get C 21 (k := 1) in_Chance g114 d_Chance_settle_4 rfl rfl rfl rfl ?_
  refine e_imul C d_Chance_settle_7 ?_
  refine e_sipush C d_Chance_settle_8 (v := 12345) (by decide) ?_
  refine e_iadd C d_Chance_settle_11 ?_
  refine e_ldc C g555 d_Chance_settle_12 ?_
  refine e_iand C d_Chance_settle_14 ?_
  refine e_put C 21 (k := 1) in_Chance tk_Chance nm_Chance g114 d_Chance_settle_15 rfl rfl rfl rfl rfl rfl rfl rfl ?_
  exact e_vret C E d_Chance_settle_18 (Nat.le_refl _) (Nat.le_refl _) ⟨rfl, rfl⟩
/-- the choice -/
def chC (f : Nat → Nat → Int32) (wd s x : Nat) : Option Nat := if cntU (lkd f wd s) 0 0 wd = 0 then none else nthU (lkd f wd s) (x / 65536 % cntU (lkd f wd s) 0 0 wd) 0 wd
set_option maxRecDepth 100000 in
theorem k_Chance_choose (h : CD v S wd) (hs : s < S) {x : Nat} (hx : x < 2 ^ 31) (h19 : v 19 = nI x) : Con l G y_Chance_choose c_Chance_choose 6 (some .int) (rz 0 0) [.ref (a 21), .int (nI s), .ref (a 6)] (wC G a v f (S * wd) V) (DI (oI (chC f wd s x)) (wC G a v f (S * wd) V)) := by
  refine Con.of rfl rfl (fun X C E hR hl hn => ?_)
  have hn1 := h.n128
  have hw8 := h.2.2.2.2
  refine e_iconst C d_Chance_choose_0 (v := 0) (by decide) ?_
  refine e_istore_n C d_Chance_choose_1 rfl ?_
  refine e_iconst C d_Chance_choose_2 (v := 0) (by decide) ?_
  refine e_istore C d_Chance_choose_3 rfl ?_
  have L : ∀ (m k c : Nat), k + m = wd → c ≤ k → cntU (lkd f wd s) c k m = cntU (lkd f wd s) 0 0 wd → EW X G 6 0 0 5 [(0, .ref (a 21)), (1, .int (nI s)), (2, .ref (a 6)), (3, .int (nI c)), (4, .int (nI k))] [] (wC G a v f (S * wd) V) := by
    intro m
    induction m with
    | zero =>
      intro k c hk hck hf
      have hf : c = cntU (lkd f wd s) 0 0 wd := hf
      refine e_iload C d_Chance_choose_5 rfl ?_
      refine e_aload_n C d_Chance_choose_7 rfl ?_
      refine e_getI C 21 (k := 0) in_Chance g124 g125 d_Chance_choose_8 rfl rfl rfl rfl ?_
      refine e_top h.2.1 ?_
      refine e_icmp_ge C d_Chance_choose_11 (tgt := 42) (by decide) (fun h11 => ?_) (fun h11 => ?_)
      · skip
        refine e_iload_n C d_Chance_choose_42 rfl ?_
        refine e_if_ne C d_Chance_choose_43 (tgt := 48) (by decide) (fun h43 => ?_) (fun h43 => ?_)
        · have hc0 : ¬ c = 0 := fun z => h43 (by rw [z]; rfl)
          rw [show chC f wd s x = nthU (lkd f wd s) (x / 65536 % c) 0 wd by simp only [chC, ← hf, if_neg hc0]] at E
          refine e_aload_n C d_Chance_choose_48 rfl ?_
          refine e_get C 21 (k := 1) in_Chance g114 d_Chance_choose_49 rfl rfl rfl rfl ?_
          refine e_top h19 ?_
          refine e_ldc C g524 d_Chance_choose_52 ?_
          refine e_top (y := nI 65536) rfl ?_
          refine e_idiv C d_Chance_choose_54 (nI_ne0 (by omega) (by omega)) ?_
          refine e_top (pk_div hx (by omega) (by omega)) ?_
          refine e_iload_n C d_Chance_choose_55 rfl ?_
          refine e_irem C d_Chance_choose_56 (nI_ne0 (by omega) (by omega)) ?_
          refine e_top (pk_rem (by omega) (by omega) (by omega)) ?_
          refine e_istore C d_Chance_choose_57 rfl ?_
          refine e_iconst C d_Chance_choose_59 (v := 0) (by decide) ?_
          refine e_istore C d_Chance_choose_60 rfl ?_
          generalize ht0 : x / 65536 % c = t0 at E ⊢
          have ht0c : t0 < c := by rw [← ht0]; exact Nat.mod_lt _ (by omega)
          have L2 : ∀ (m k t : Nat), k + m = wd → t ≤ 8 → nthU (lkd f wd s) t k m = nthU (lkd f wd s) t0 0 wd → EW X G 6 0 0 62 [(0, .ref (a 21)), (1, .int (nI s)), (2, .ref (a 6)), (4, .int (nI t)), (5, .int (nI k))] [] (wC G a v f (S * wd) V) := by
            intro m
            induction m with
            | zero =>
              intro k t hk ht hf
              refine e_iload C d_Chance_choose_62 rfl ?_
              refine e_aload_n C d_Chance_choose_64 rfl ?_
              refine e_getI C 21 (k := 0) in_Chance g124 g125 d_Chance_choose_65 rfl rfl rfl rfl ?_
              refine e_top h.2.1 ?_
              refine e_icmp_ge C d_Chance_choose_68 (tgt := 102) (by decide) (fun h68 => ?_) (fun h68 => ?_)
              · skip
                refine e_iconst C d_Chance_choose_102 (v := (-1)) (by decide) ?_
                exact e_iret C E d_Chance_choose_103 (Nat.le_refl _) (Nat.le_refl _) rfl ⟨by rw [← hf]; rfl, rfl⟩
              · exact absurd (nI_le (by omega) (by omega)) h68
            | succ m ih =>
              intro k t hk ht hf
              have hlt := slot_lt (w := k) hs (show k < wd by omega)
              refine e_iload C d_Chance_choose_62 rfl ?_
              refine e_aload_n C d_Chance_choose_64 rfl ?_
              refine e_getI C 21 (k := 0) in_Chance g124 g125 d_Chance_choose_65 rfl rfl rfl rfl ?_
              refine e_top h.2.1 ?_
              refine e_icmp_ge C d_Chance_choose_68 (tgt := 102) (by decide) (fun h68 => ?_) (fun h68 => ?_)
              · exact absurd h68 (nI_ge (by omega) (by omega))
              · skip
                refine e_aload_n C d_Chance_choose_71 rfl ?_
                refine e_iload_n C d_Chance_choose_72 rfl ?_
                refine e_aload_n C d_Chance_choose_73 rfl ?_
                refine e_getI C 21 (k := 0) in_Chance g124 g125 d_Chance_choose_74 rfl rfl rfl rfl ?_
                refine e_imul C d_Chance_choose_77 ?_
                refine e_iload C d_Chance_choose_78 rfl ?_
                refine e_iadd C d_Chance_choose_80 ?_
                refine e_zald C 6 1 d_Chance_choose_81 rfl rfl (s * wd + k) (by rw [h.2.1, pk_mul, nI_add]) hlt (by omega) ?_
                refine e_if_ne C d_Chance_choose_82 (tgt := 96) (by decide) (fun h82 => ?_) (fun h82 => ?_)
                · have hh : lkd f wd s k = true := by simp [lkd]; exact h82
                  refine e_iinc C d_Chance_choose_96 rfl (nI_1 k) rfl ?_
                  refine e_goto C d_Chance_choose_99 (tgt := 62) (by decide) ?_
                  exact e_lv2 (ih (k + 1) t (by omega) ht (by rw [← hf]; simp [nthU, hh])) rfl
                · have hh : lkd f wd s k = false := by simp [lkd]; exact h82
                  refine e_iload C d_Chance_choose_85 rfl ?_
                  refine e_if_ne C d_Chance_choose_87 (tgt := 93) (by decide) (fun h87 => ?_) (fun h87 => ?_)
                  · cases t with
                    | zero => exact absurd rfl h87
                    | succ t =>
                      refine e_iinc C d_Chance_choose_93 rfl (pk_m1 t) rfl ?_
                      refine e_iinc C d_Chance_choose_96 rfl (nI_1 k) rfl ?_
                      refine e_goto C d_Chance_choose_99 (tgt := 62) (by decide) ?_
                      exact e_lv2 (ih (k + 1) t (by omega) (by omega) (by rw [← hf]; simp [nthU, hh])) rfl
                  · have : t = 0 := by
                      rcases Nat.eq_zero_or_pos t with z | z
                      · exact z
                      · exact absurd h87 (nI_ne0 z (by omega))
                    subst this
                    refine e_iload C d_Chance_choose_90 rfl ?_
                    exact e_iret C E d_Chance_choose_92 (Nat.le_refl _) (Nat.le_refl _) rfl ⟨by rw [← hf]; simp [nthU, hh, oI], rfl⟩
          exact e_lv2 (L2 wd 0 t0 (by omega) (by omega) rfl) rfl
        · have hc0 : c = 0 := by
            rcases Nat.eq_zero_or_pos c with z | z
            · exact z
            · exact absurd h43 (nI_ne0 z (by omega))
          refine e_iconst C d_Chance_choose_46 (v := (-1)) (by decide) ?_
          exact e_iret C E d_Chance_choose_47 (Nat.le_refl _) (Nat.le_refl _) rfl ⟨by simp only [chC, ← hf, hc0, if_true]; rfl, rfl⟩
      · exact absurd (nI_le (by omega) (by omega)) h11
    | succ m ih =>
      intro k c hk hck hf
      have hlt := slot_lt (w := k) hs (show k < wd by omega)
      refine e_iload C d_Chance_choose_5 rfl ?_
      refine e_aload_n C d_Chance_choose_7 rfl ?_
      refine e_getI C 21 (k := 0) in_Chance g124 g125 d_Chance_choose_8 rfl rfl rfl rfl ?_
      refine e_top h.2.1 ?_
      refine e_icmp_ge C d_Chance_choose_11 (tgt := 42) (by decide) (fun h11 => ?_) (fun h11 => ?_)
      · exact absurd h11 (nI_ge (by omega) (by omega))
      · skip
        refine e_iload_n C d_Chance_choose_14 rfl ?_
        refine e_aload_n C d_Chance_choose_15 rfl ?_
        refine e_iload_n C d_Chance_choose_16 rfl ?_
        refine e_aload_n C d_Chance_choose_17 rfl ?_
        refine e_getI C 21 (k := 0) in_Chance g124 g125 d_Chance_choose_18 rfl rfl rfl rfl ?_
        refine e_imul C d_Chance_choose_21 ?_
        refine e_iload C d_Chance_choose_22 rfl ?_
        refine e_iadd C d_Chance_choose_24 ?_
        refine e_zald C 6 1 d_Chance_choose_25 rfl rfl (s * wd + k) (by rw [h.2.1, pk_mul, nI_add]) hlt (by omega) ?_
        refine e_if_eq C d_Chance_choose_26 (tgt := 33) (by decide) (fun h26 => ?_) (fun h26 => ?_)
        · have hh : lkd f wd s k = false := by simp [lkd]; exact h26
          refine e_iconst C d_Chance_choose_33 (v := 1) (by decide) ?_
          refine e_iadd C d_Chance_choose_34 ?_
          refine e_top (nI_1 c) ?_
          refine e_istore_n C d_Chance_choose_35 rfl ?_
          refine e_iinc C d_Chance_choose_36 rfl (nI_1 k) rfl ?_
          refine e_goto C d_Chance_choose_39 (tgt := 5) (by decide) ?_
          exact e_lv2 (ih (k + 1) (c + 1) (by omega) (by omega) (by rw [← hf]; simp [cntU, hh])) rfl
        · have hh : lkd f wd s k = true := by simp [lkd]; exact h26
          refine e_iconst C d_Chance_choose_29 (v := 0) (by decide) ?_
          refine e_goto C d_Chance_choose_30 (tgt := 34) (by decide) ?_
          refine e_iadd C d_Chance_choose_34 ?_
          refine e_top (y := nI c) (by rw [show (0 : Int32) = nI 0 from rfl, nI_add]; rfl) ?_
          refine e_istore_n C d_Chance_choose_35 rfl ?_
          refine e_iinc C d_Chance_choose_36 rfl (nI_1 k) rfl ?_
          refine e_goto C d_Chance_choose_39 (tgt := 5) (by decide) ?_
          exact e_lv2 (ih (k + 1) c (by omega) (by omega) (by rw [← hf]; simp [cntU, hh])) rfl
  exact e_lv2 (L wd 0 0 (by omega) (Nat.le_refl _) rfl) rfl
end ChanceRows
end
section
/-! RULE 5 -/
theorem ey_Round_wayFromHand : eY y_Round_wayFromHand 2 = true := by decide +kernel
theorem d_Round_wayFromHand_0 : decode c_Round_wayFromHand 0 = .ok (.aload_n 0, 1) := by decide +kernel
theorem d_Round_wayFromHand_1 : decode c_Round_wayFromHand 1 = .ok (.getfield 15, 3) := by decide +kernel
theorem d_Round_wayFromHand_4 : decode c_Round_wayFromHand 4 = .ok (.iload_n 1, 1) := by decide +kernel
theorem d_Round_wayFromHand_5 : decode c_Round_wayFromHand 5 = .ok (.iaload, 1) := by decide +kernel
theorem d_Round_wayFromHand_6 : decode c_Round_wayFromHand 6 = .ok (.iload_n 2, 1) := by decide +kernel
theorem d_Round_wayFromHand_7 : decode c_Round_wayFromHand 7 = .ok (.iadd, 1) := by decide +kernel
theorem d_Round_wayFromHand_8 : decode c_Round_wayFromHand 8 = .ok (.istore_n 3, 1) := by decide +kernel
theorem d_Round_wayFromHand_9 : decode c_Round_wayFromHand 9 = .ok (.iload_n 3, 1) := by decide +kernel
theorem d_Round_wayFromHand_10 : decode c_Round_wayFromHand 10 = .ok (.aload_n 0, 1) := by decide +kernel
theorem d_Round_wayFromHand_11 : decode c_Round_wayFromHand 11 = .ok (.getfield 19, 3) := by decide +kernel
theorem d_Round_wayFromHand_14 : decode c_Round_wayFromHand 14 = .ok (.if_icmp .ge 7, 3) := by decide +kernel
theorem d_Round_wayFromHand_17 : decode c_Round_wayFromHand 17 = .ok (.iload_n 3, 1) := by decide +kernel
theorem d_Round_wayFromHand_18 : decode c_Round_wayFromHand 18 = .ok (.goto 9, 3) := by decide +kernel
theorem d_Round_wayFromHand_21 : decode c_Round_wayFromHand 21 = .ok (.iload_n 3, 1) := by decide +kernel
theorem d_Round_wayFromHand_22 : decode c_Round_wayFromHand 22 = .ok (.aload_n 0, 1) := by decide +kernel
theorem d_Round_wayFromHand_23 : decode c_Round_wayFromHand 23 = .ok (.getfield 19, 3) := by decide +kernel
theorem d_Round_wayFromHand_26 : decode c_Round_wayFromHand 26 = .ok (.isub, 1) := by decide +kernel
theorem d_Round_wayFromHand_27 : decode c_Round_wayFromHand 27 = .ok (.ireturn, 1) := by decide +kernel
theorem ey_Round_use : eY y_Round_use 2 = true := by decide +kernel
theorem d_Round_use_0 : decode c_Round_use 0 = .ok (.aload_n 0, 1) := by decide +kernel
theorem d_Round_use_1 : decode c_Round_use 1 = .ok (.getfield 9, 3) := by decide +kernel
theorem d_Round_use_4 : decode c_Round_use 4 = .ok (.iload_n 1, 1) := by decide +kernel
theorem d_Round_use_5 : decode c_Round_use 5 = .ok (.aload_n 0, 1) := by decide +kernel
theorem d_Round_use_6 : decode c_Round_use 6 = .ok (.getfield 19, 3) := by decide +kernel
theorem d_Round_use_9 : decode c_Round_use 9 = .ok (.imul, 1) := by decide +kernel
theorem d_Round_use_10 : decode c_Round_use 10 = .ok (.iload_n 2, 1) := by decide +kernel
theorem d_Round_use_11 : decode c_Round_use 11 = .ok (.iadd, 1) := by decide +kernel
theorem d_Round_use_12 : decode c_Round_use 12 = .ok (.iconst 1, 1) := by decide +kernel
theorem d_Round_use_13 : decode c_Round_use 13 = .ok (.bastore, 1) := by decide +kernel
theorem d_Round_use_14 : decode c_Round_use 14 = .ok (.return_, 1) := by decide +kernel
theorem ey_Round_come : eY y_Round_come 2 = true := by decide +kernel
theorem d_Round_come_0 : decode c_Round_come 0 = .ok (.aload_n 0, 1) := by decide +kernel
theorem d_Round_come_1 : decode c_Round_come 1 = .ok (.getfield 9, 3) := by decide +kernel
theorem d_Round_come_4 : decode c_Round_come 4 = .ok (.iload_n 1, 1) := by decide +kernel
theorem d_Round_come_5 : decode c_Round_come 5 = .ok (.aload_n 0, 1) := by decide +kernel
theorem d_Round_come_6 : decode c_Round_come 6 = .ok (.getfield 19, 3) := by decide +kernel
theorem d_Round_come_9 : decode c_Round_come 9 = .ok (.imul, 1) := by decide +kernel
theorem d_Round_come_10 : decode c_Round_come 10 = .ok (.iload_n 2, 1) := by decide +kernel
theorem d_Round_come_11 : decode c_Round_come 11 = .ok (.iadd, 1) := by decide +kernel
theorem d_Round_come_12 : decode c_Round_come 12 = .ok (.iconst 0, 1) := by decide +kernel
theorem d_Round_come_13 : decode c_Round_come 13 = .ok (.bastore, 1) := by decide +kernel
theorem d_Round_come_14 : decode c_Round_come 14 = .ok (.return_, 1) := by decide +kernel
theorem ey_Round_choose : eY y_Round_choose 2 = true := by decide +kernel
theorem d_Round_choose_0 : decode c_Round_choose 0 = .ok (.iconst (-1), 1) := by decide +kernel
theorem d_Round_choose_1 : decode c_Round_choose 1 = .ok (.istore_n 3, 1) := by decide +kernel
theorem d_Round_choose_2 : decode c_Round_choose 2 = .ok (.iconst 0, 1) := by decide +kernel
theorem d_Round_choose_3 : decode c_Round_choose 3 = .ok (.istore 4, 2) := by decide +kernel
theorem d_Round_choose_5 : decode c_Round_choose 5 = .ok (.iload 4, 2) := by decide +kernel
theorem d_Round_choose_7 : decode c_Round_choose 7 = .ok (.aload_n 0, 1) := by decide +kernel
theorem d_Round_choose_8 : decode c_Round_choose 8 = .ok (.getfield 19, 3) := by decide +kernel
theorem d_Round_choose_11 : decode c_Round_choose 11 = .ok (.if_icmp .ge 60, 3) := by decide +kernel
theorem d_Round_choose_14 : decode c_Round_choose 14 = .ok (.aload_n 0, 1) := by decide +kernel
theorem d_Round_choose_15 : decode c_Round_choose 15 = .ok (.iload_n 1, 1) := by decide +kernel
theorem d_Round_choose_16 : decode c_Round_choose 16 = .ok (.iload 4, 2) := by decide +kernel
theorem d_Round_choose_18 : decode c_Round_choose 18 = .ok (.invokevirtual 23, 3) := by decide +kernel
theorem d_Round_choose_21 : decode c_Round_choose 21 = .ok (.istore 5, 2) := by decide +kernel
theorem d_Round_choose_23 : decode c_Round_choose 23 = .ok (.aload_n 2, 1) := by decide +kernel
theorem d_Round_choose_24 : decode c_Round_choose 24 = .ok (.iload_n 1, 1) := by decide +kernel
theorem d_Round_choose_25 : decode c_Round_choose 25 = .ok (.aload_n 0, 1) := by decide +kernel
theorem d_Round_choose_26 : decode c_Round_choose 26 = .ok (.getfield 19, 3) := by decide +kernel
theorem d_Round_choose_29 : decode c_Round_choose 29 = .ok (.imul, 1) := by decide +kernel
theorem d_Round_choose_30 : decode c_Round_choose 30 = .ok (.iload 5, 2) := by decide +kernel
theorem d_Round_choose_32 : decode c_Round_choose 32 = .ok (.iadd, 1) := by decide +kernel
theorem d_Round_choose_33 : decode c_Round_choose 33 = .ok (.baload, 1) := by decide +kernel
theorem d_Round_choose_34 : decode c_Round_choose 34 = .ok (.ifCond .ne 31, 3) := by decide +kernel
theorem d_Round_choose_37 : decode c_Round_choose 37 = .ok (.aload_n 0, 1) := by decide +kernel
theorem d_Round_choose_38 : decode c_Round_choose 38 = .ok (.getfield 9, 3) := by decide +kernel
theorem d_Round_choose_41 : decode c_Round_choose 41 = .ok (.iload_n 1, 1) := by decide +kernel
theorem d_Round_choose_42 : decode c_Round_choose 42 = .ok (.aload_n 0, 1) := by decide +kernel
theorem d_Round_choose_43 : decode c_Round_choose 43 = .ok (.getfield 19, 3) := by decide +kernel
theorem d_Round_choose_46 : decode c_Round_choose 46 = .ok (.imul, 1) := by decide +kernel
theorem d_Round_choose_47 : decode c_Round_choose 47 = .ok (.iload 5, 2) := by decide +kernel
theorem d_Round_choose_49 : decode c_Round_choose 49 = .ok (.iadd, 1) := by decide +kernel
theorem d_Round_choose_50 : decode c_Round_choose 50 = .ok (.baload, 1) := by decide +kernel
theorem d_Round_choose_51 : decode c_Round_choose 51 = .ok (.ifCond .ne 6, 3) := by decide +kernel
theorem d_Round_choose_54 : decode c_Round_choose 54 = .ok (.iload 5, 2) := by decide +kernel
theorem d_Round_choose_56 : decode c_Round_choose 56 = .ok (.ireturn, 1) := by decide +kernel
theorem d_Round_choose_57 : decode c_Round_choose 57 = .ok (.iload_n 3, 1) := by decide +kernel
theorem d_Round_choose_58 : decode c_Round_choose 58 = .ok (.iconst (-1), 1) := by decide +kernel
theorem d_Round_choose_59 : decode c_Round_choose 59 = .ok (.if_icmp .ne 6, 3) := by decide +kernel
theorem d_Round_choose_62 : decode c_Round_choose 62 = .ok (.iload 5, 2) := by decide +kernel
theorem d_Round_choose_64 : decode c_Round_choose 64 = .ok (.istore_n 3, 1) := by decide +kernel
theorem d_Round_choose_65 : decode c_Round_choose 65 = .ok (.iinc 4 1, 3) := by decide +kernel
theorem d_Round_choose_68 : decode c_Round_choose 68 = .ok (.goto (-63), 3) := by decide +kernel
theorem d_Round_choose_71 : decode c_Round_choose 71 = .ok (.iload_n 3, 1) := by decide +kernel
theorem d_Round_choose_72 : decode c_Round_choose 72 = .ok (.ireturn, 1) := by decide +kernel
theorem ey_Round_settle : eY y_Round_settle 3 = true := by decide +kernel
theorem d_Round_settle_0 : decode c_Round_settle 0 = .ok (.aload_n 0, 1) := by decide +kernel
theorem d_Round_settle_1 : decode c_Round_settle 1 = .ok (.getfield 9, 3) := by decide +kernel
theorem d_Round_settle_4 : decode c_Round_settle 4 = .ok (.iload_n 1, 1) := by decide +kernel
theorem d_Round_settle_5 : decode c_Round_settle 5 = .ok (.aload_n 0, 1) := by decide +kernel
theorem d_Round_settle_6 : decode c_Round_settle 6 = .ok (.getfield 19, 3) := by decide +kernel
theorem d_Round_settle_9 : decode c_Round_settle 9 = .ok (.imul, 1) := by decide +kernel
theorem d_Round_settle_10 : decode c_Round_settle 10 = .ok (.iload_n 2, 1) := by decide +kernel
theorem d_Round_settle_11 : decode c_Round_settle 11 = .ok (.iadd, 1) := by decide +kernel
theorem d_Round_settle_12 : decode c_Round_settle 12 = .ok (.baload, 1) := by decide +kernel
theorem d_Round_settle_13 : decode c_Round_settle 13 = .ok (.istore 4, 2) := by decide +kernel
theorem d_Round_settle_15 : decode c_Round_settle 15 = .ok (.iconst 0, 1) := by decide +kernel
theorem d_Round_settle_16 : decode c_Round_settle 16 = .ok (.istore 5, 2) := by decide +kernel
theorem d_Round_settle_18 : decode c_Round_settle 18 = .ok (.iload 5, 2) := by decide +kernel
theorem d_Round_settle_20 : decode c_Round_settle 20 = .ok (.aload_n 0, 1) := by decide +kernel
theorem d_Round_settle_21 : decode c_Round_settle 21 = .ok (.getfield 19, 3) := by decide +kernel
theorem d_Round_settle_24 : decode c_Round_settle 24 = .ok (.if_icmp .ge 61, 3) := by decide +kernel
theorem d_Round_settle_27 : decode c_Round_settle 27 = .ok (.aload_n 0, 1) := by decide +kernel
theorem d_Round_settle_28 : decode c_Round_settle 28 = .ok (.iload_n 1, 1) := by decide +kernel
theorem d_Round_settle_29 : decode c_Round_settle 29 = .ok (.iload 5, 2) := by decide +kernel
theorem d_Round_settle_31 : decode c_Round_settle 31 = .ok (.invokevirtual 23, 3) := by decide +kernel
theorem d_Round_settle_34 : decode c_Round_settle 34 = .ok (.istore 6, 2) := by decide +kernel
theorem d_Round_settle_36 : decode c_Round_settle 36 = .ok (.iload 6, 2) := by decide +kernel
theorem d_Round_settle_38 : decode c_Round_settle 38 = .ok (.iload_n 2, 1) := by decide +kernel
theorem d_Round_settle_39 : decode c_Round_settle 39 = .ok (.if_icmp .ne 11, 3) := by decide +kernel
theorem d_Round_settle_42 : decode c_Round_settle 42 = .ok (.iload 4, 2) := by decide +kernel
theorem d_Round_settle_44 : decode c_Round_settle 44 = .ok (.ifCond .ne 6, 3) := by decide +kernel
theorem d_Round_settle_47 : decode c_Round_settle 47 = .ok (.goto 38, 3) := by decide +kernel
theorem d_Round_settle_50 : decode c_Round_settle 50 = .ok (.aload_n 3, 1) := by decide +kernel
theorem d_Round_settle_51 : decode c_Round_settle 51 = .ok (.iload_n 1, 1) := by decide +kernel
theorem d_Round_settle_52 : decode c_Round_settle 52 = .ok (.aload_n 0, 1) := by decide +kernel
theorem d_Round_settle_53 : decode c_Round_settle 53 = .ok (.getfield 19, 3) := by decide +kernel
theorem d_Round_settle_56 : decode c_Round_settle 56 = .ok (.imul, 1) := by decide +kernel
theorem d_Round_settle_57 : decode c_Round_settle 57 = .ok (.iload 6, 2) := by decide +kernel
theorem d_Round_settle_59 : decode c_Round_settle 59 = .ok (.iadd, 1) := by decide +kernel
theorem d_Round_settle_60 : decode c_Round_settle 60 = .ok (.baload, 1) := by decide +kernel
theorem d_Round_settle_61 : decode c_Round_settle 61 = .ok (.ifCond .ne 18, 3) := by decide +kernel
theorem d_Round_settle_64 : decode c_Round_settle 64 = .ok (.aload_n 0, 1) := by decide +kernel
theorem d_Round_settle_65 : decode c_Round_settle 65 = .ok (.getfield 9, 3) := by decide +kernel
theorem d_Round_settle_68 : decode c_Round_settle 68 = .ok (.iload_n 1, 1) := by decide +kernel
theorem d_Round_settle_69 : decode c_Round_settle 69 = .ok (.aload_n 0, 1) := by decide +kernel
theorem d_Round_settle_70 : decode c_Round_settle 70 = .ok (.getfield 19, 3) := by decide +kernel
theorem d_Round_settle_73 : decode c_Round_settle 73 = .ok (.imul, 1) := by decide +kernel
theorem d_Round_settle_74 : decode c_Round_settle 74 = .ok (.iload 6, 2) := by decide +kernel
theorem d_Round_settle_76 : decode c_Round_settle 76 = .ok (.iadd, 1) := by decide +kernel
theorem d_Round_settle_77 : decode c_Round_settle 77 = .ok (.iconst 0, 1) := by decide +kernel
theorem d_Round_settle_78 : decode c_Round_settle 78 = .ok (.bastore, 1) := by decide +kernel
theorem d_Round_settle_79 : decode c_Round_settle 79 = .ok (.iinc 5 1, 3) := by decide +kernel
theorem d_Round_settle_82 : decode c_Round_settle 82 = .ok (.goto (-64), 3) := by decide +kernel
theorem d_Round_settle_85 : decode c_Round_settle 85 = .ok (.aload_n 0, 1) := by decide +kernel
theorem d_Round_settle_86 : decode c_Round_settle 86 = .ok (.getfield 15, 3) := by decide +kernel
theorem d_Round_settle_89 : decode c_Round_settle 89 = .ok (.iload_n 1, 1) := by decide +kernel
theorem d_Round_settle_90 : decode c_Round_settle 90 = .ok (.iload_n 2, 1) := by decide +kernel
theorem d_Round_settle_91 : decode c_Round_settle 91 = .ok (.iconst 1, 1) := by decide +kernel
theorem d_Round_settle_92 : decode c_Round_settle 92 = .ok (.iadd, 1) := by decide +kernel
theorem d_Round_settle_93 : decode c_Round_settle 93 = .ok (.aload_n 0, 1) := by decide +kernel
theorem d_Round_settle_94 : decode c_Round_settle 94 = .ok (.getfield 19, 3) := by decide +kernel
theorem d_Round_settle_97 : decode c_Round_settle 97 = .ok (.if_icmp .ge 9, 3) := by decide +kernel
theorem d_Round_settle_100 : decode c_Round_settle 100 = .ok (.iload_n 2, 1) := by decide +kernel
theorem d_Round_settle_101 : decode c_Round_settle 101 = .ok (.iconst 1, 1) := by decide +kernel
theorem d_Round_settle_102 : decode c_Round_settle 102 = .ok (.iadd, 1) := by decide +kernel
theorem d_Round_settle_103 : decode c_Round_settle 103 = .ok (.goto 4, 3) := by decide +kernel
theorem d_Round_settle_106 : decode c_Round_settle 106 = .ok (.iconst 0, 1) := by decide +kernel
theorem d_Round_settle_107 : decode c_Round_settle 107 = .ok (.iastore, 1) := by decide +kernel
theorem d_Round_settle_108 : decode c_Round_settle 108 = .ok (.return_, 1) := by decide +kernel
abbrev wR (G : EG) (a : Nat → Nat) (v : Nat → Int32) (f : Nat → Nat → Int32) (n S V : Nat) : va_W := cF G a v f n V (rRound G a v f n S)
/-- the way that lies t behind the hand -/
def wfh (wd h0 t : Nat) : Nat := if h0 + t < wd then h0 + t else h0 + t - wd
theorem wfh_lt {wd h0 t : Nat} (h : h0 < wd) (ht : t < wd) : wfh wd h0 t < wd := by
  unfold wfh
  split <;> omega
/-- marked, by the way of a set -/
def mkd (f : Nat → Nat → Int32) (wd s w : Nat) : Bool := !(f 22 (s * wd + w) == 0)
/-- the first without a mark; b is the first one that is free so far -/
def rndC (lk mk : Nat → Bool) (wy : Nat → Nat) : Option Nat → Nat → Nat → Option Nat
  | b, _, 0 => b
  | b, k, m + 1 => if lk (wy k) then rndC lk mk wy b (k + 1) m else if mk (wy k) then rndC lk mk wy (match b with
    | none => some (wy k)
    | some j => some j) (k + 1) m else some (wy k)
/-- marks taken away on the way -/
def rndS (lk : Nat → Bool) (wy : Nat → Nat) (whole : Bool) (w b0 : Nat) : (Nat → Int32) → Nat → Nat → (Nat → Int32)
  | g, _, 0 => g
  | g, k, m + 1 => if wy k = w ∧ whole = false then g else rndS lk wy whole w b0 (if lk (wy k) then g else upd g (b0 + wy k) 0) (k + 1) m
section RoundRows
variable {l : Launch} {G : EG} {a : Nat → Nat} {v : Nat → Int32} {f : Nat → Nat → Int32} {V S wd s w : Nat}
set_option maxRecDepth 100000 in
theorem k_Round_use (h : CD v S wd) (hs : s < S) (hw : w < wd) : Con l G y_Round_use c_Round_use 3 none (rz 0 0) [.ref (a 21), .int (nI s), .int (nI w)] (wR G a v f (S * wd) S V) (DV (wR G a v (up2 f 22 (upd (f 22) (s * wd + w) 1)) (S * wd) S V)) := by
  refine Con.of rfl rfl (fun X C E hR hl hn => ?_)
  have hn1 := h.n128
  have hlt := slot_lt hs hw
  refine e_aload_n C d_Round_use_0 rfl ?_
  refine e_get C 21 (k := 1) in_Round g139 d_Round_use_1 rfl rfl rfl rfl ?_
  refine e_iload_n C d_Round_use_4 rfl ?_
  refine e_aload_n C d_Round_use_5 rfl ?_
  refine e_getI C 21 (k := 0) in_Round g122 g123 d_Round_use_6 rfl rfl rfl rfl ?_
  refine e_imul C d_Round_use_9 ?_
  refine e_iload_n C d_Round_use_10 rfl ?_
  refine e_iadd C d_Round_use_11 ?_
  refine e_iconst C d_Round_use_12 (v := 1) (by decide) ?_
  refine e_zast C 22 1 d_Round_use_13 rfl rfl (s * wd + w) (by rw [h.2.1, pk_mul, nI_add]) hlt (by omega) rfl ?_
  exact e_vret C E d_Round_use_14 (Nat.le_refl _) (Nat.le_refl _) ⟨rfl, rfl⟩
set_option maxRecDepth 100000 in
theorem k_Round_come (h : CD v S wd) (hs : s < S) (hw : w < wd) : Con l G y_Round_come c_Round_come 3 none (rz 0 0) [.ref (a 21), .int (nI s), .int (nI w)] (wR G a v f (S * wd) S V) (DV (wR G a v (up2 f 22 (upd (f 22) (s * wd + w) 0)) (S * wd) S V)) := by
  refine Con.of rfl rfl (fun X C E hR hl hn => ?_)
  have hn1 := h.n128
  have hlt := slot_lt hs hw
  refine e_aload_n C d_Round_come_0 rfl ?_
  refine e_get C 21 (k := 1) in_Round g139 d_Round_come_1 rfl rfl rfl rfl ?_
  refine e_iload_n C d_Round_come_4 rfl ?_
  refine e_aload_n C d_Round_come_5 rfl ?_
  refine e_getI C 21 (k := 0) in_Round g122 g123 d_Round_come_6 rfl rfl rfl rfl ?_
  refine e_imul C d_Round_come_9 ?_
  refine e_iload_n C d_Round_come_10 rfl ?_
  refine e_iadd C d_Round_come_11 ?_
  refine e_iconst C d_Round_come_12 (v := 0) (by decide) ?_
  refine e_zast C 22 1 d_Round_come_13 rfl rfl (s * wd + w) (by rw [h.2.1, pk_mul, nI_add]) hlt (by omega) rfl ?_
  exact e_vret C E d_Round_come_14 (Nat.le_refl _) (Nat.le_refl _) ⟨rfl, rfl⟩
set_option maxRecDepth 100000 in
theorem k_Round_wayFromHand (h : CD v S wd) (hs : s < S) {h0 t : Nat} (hh0 : h0 < wd) (ht : t < wd) (hh : f 23 s = nI h0) : Con l G y_Round_wayFromHand c_Round_wayFromHand 4 (some .int) (rz 0 0) [.ref (a 21), .int (nI s), .int (nI t)] (wR G a v f (S * wd) S V) (DI (nI (wfh wd h0 t)) (wR G a v f (S * wd) S V)) := by
  refine Con.of rfl rfl (fun X C E hR hl hn => ?_)
  have hn1 := h.n128
  have hw8 := h.2.2.2.2
  have hS := h.S16
  refine e_aload_n C d_Round_wayFromHand_0 rfl ?_
  refine e_get C 21 (k := 2) in_Round g140 d_Round_wayFromHand_1 rfl rfl rfl rfl ?_
  refine e_iload_n C d_Round_wayFromHand_4 rfl ?_
  refine e_iald C 23 0 d_Round_wayFromHand_5 rfl rfl s rfl hs (by omega) ?_
  refine e_iload_n C d_Round_wayFromHand_6 rfl ?_
  refine e_iadd C d_Round_wayFromHand_7 ?_
  refine e_top (y := nI (h0 + t)) (by show f 23 s + nI t = _; rw [hh]; exact nI_add _ _) ?_
  refine e_istore_n C d_Round_wayFromHand_8 rfl ?_
  refine e_iload_n C d_Round_wayFromHand_9 rfl ?_
  refine e_aload_n C d_Round_wayFromHand_10 rfl ?_
  refine e_getI C 21 (k := 0) in_Round g122 g123 d_Round_wayFromHand_11 rfl rfl rfl rfl ?_
  refine e_top (show _ = nI wd from h.2.1) ?_
  refine e_icmp_ge C d_Round_wayFromHand_14 (tgt := 21) (by decide) (fun h14 => ?_) (fun h14 => ?_)
  · rw [nI_leI (by omega) (by omega)] at h14
    refine e_iload_n C d_Round_wayFromHand_21 rfl ?_
    refine e_aload_n C d_Round_wayFromHand_22 rfl ?_
    refine e_getI C 21 (k := 0) in_Round g122 g123 d_Round_wayFromHand_23 rfl rfl rfl rfl ?_
    refine e_top (show _ = nI wd from h.2.1) ?_
    refine e_isub C d_Round_wayFromHand_26 ?_
    refine e_top (pk_sub h14) ?_
    exact e_iret C E d_Round_wayFromHand_27 (Nat.le_refl _) (Nat.le_refl _) rfl ⟨by simp only [wfh, if_neg (show ¬ h0 + t < wd by omega)], rfl⟩
  · rw [nI_leI (by omega) (by omega)] at h14
    refine e_iload_n C d_Round_wayFromHand_17 rfl ?_
    refine e_goto C d_Round_wayFromHand_18 (tgt := 27) (by decide) ?_
    exact e_iret C E d_Round_wayFromHand_27 (Nat.le_refl _) (Nat.le_refl _) rfl ⟨by simp only [wfh, if_pos (show h0 + t < wd by omega)], rfl⟩
set_option maxRecDepth 100000 in
theorem k_Round_choose (h : CD v S wd) (hs : s < S) {h0 : Nat} (hh0 : h0 < wd) (hh : f 23 s = nI h0) : Con l G y_Round_choose c_Round_choose 6 (some .int) (rz 1 23) [.ref (a 21), .int (nI s), .ref (a 6)] (wR G a v f (S * wd) S V) (DI (oI (rndC (lkd f wd s) (mkd f wd s) (wfh wd h0) none 0 wd)) (wR G a v f (S * wd) S V)) := by
  refine Con.of rfl rfl (fun X C E hR hl hn => ?_)
  have hn1 := h.n128
  have hw8 := h.2.2.2.2
  refine e_iconst C d_Round_choose_0 (v := (-1)) (by decide) ?_
  refine e_istore_n C d_Round_choose_1 rfl ?_
  refine e_iconst C d_Round_choose_2 (v := 0) (by decide) ?_
  refine e_istore C d_Round_choose_3 rfl ?_
  have L : ∀ (m k : Nat) (b : Option Nat) (ex : List (Nat × Value)), k + m = wd → (∀ j, b = some j → j < wd) → rndC (lkd f wd s) (mkd f wd s) (wfh wd h0) b k m = rndC (lkd f wd s) (mkd f wd s) (wfh wd h0) none 0 wd → EW X G 6 0 0 5 [(0, .ref (a 21)), (1, .int (nI s)), (2, .ref (a 6)), (3, .int (oI b)), (4, .int (nI k))] [] (wR G a v f (S * wd) S V) := by
    intro m
    induction m with
    | zero =>
      intro k b ex hk hb hf
      refine e_iload C d_Round_choose_5 rfl ?_
      refine e_aload_n C d_Round_choose_7 rfl ?_
      refine e_getI C 21 (k := 0) in_Round g122 g123 d_Round_choose_8 rfl rfl rfl rfl ?_
      refine e_top h.2.1 ?_
      refine e_icmp_ge C d_Round_choose_11 (tgt := 71) (by decide) (fun h11 => ?_) (fun h11 => ?_)
      · skip
        refine e_iload_n C d_Round_choose_71 rfl ?_
        exact e_iret C E d_Round_choose_72 (Nat.le_refl _) (Nat.le_refl _) rfl ⟨by rw [← hf]; rfl, rfl⟩
      · exact absurd (nI_le (by omega) (by omega)) h11
    | succ m ih =>
      intro k b ex hk hb hf
      have hwl := wfh_lt hh0 (show k < wd by omega)
      have hlt := slot_lt hs hwl
      refine e_iload C d_Round_choose_5 rfl ?_
      refine e_aload_n C d_Round_choose_7 rfl ?_
      refine e_getI C 21 (k := 0) in_Round g122 g123 d_Round_choose_8 rfl rfl rfl rfl ?_
      refine e_top h.2.1 ?_
      refine e_icmp_ge C d_Round_choose_11 (tgt := 71) (by decide) (fun h11 => ?_) (fun h11 => ?_)
      · exact absurd h11 (nI_ge (by omega) (by omega))
      · skip
        refine e_aload_n C d_Round_choose_14 rfl ?_
        refine e_iload_n C d_Round_choose_15 rfl ?_
        refine e_iload C d_Round_choose_16 rfl ?_
        refine e_cVi C hR 21 (k_Round_wayFromHand h hs hh0 (show k < wd by omega) hh) g534 g7 g531 g533 (gt_sel 8 (by decide +kernel) (by decide +kernel)) d_Round_choose_18 rfl ey_Round_wayFromHand rfl rfl rfl rfl ⟨Nat.zero_le _, Nat.zero_le _⟩ ?_
        refine e_istore C d_Round_choose_21 rfl ?_
        refine e_aload_n C d_Round_choose_23 rfl ?_
        refine e_iload_n C d_Round_choose_24 rfl ?_
        refine e_aload_n C d_Round_choose_25 rfl ?_
        refine e_getI C 21 (k := 0) in_Round g122 g123 d_Round_choose_26 rfl rfl rfl rfl ?_
        refine e_imul C d_Round_choose_29 ?_
        refine e_iload C d_Round_choose_30 rfl ?_
        refine e_iadd C d_Round_choose_32 ?_
        refine e_zald C 6 1 d_Round_choose_33 rfl rfl (s * wd + wfh wd h0 k) (by rw [h.2.1, pk_mul, nI_add]) hlt (by omega) ?_
        refine e_if_ne C d_Round_choose_34 (tgt := 65) (by decide) (fun h34 => ?_) (fun h34 => ?_)
        · have hl2 : lkd f wd s (wfh wd h0 k) = true := by simp [lkd]; exact h34
          refine e_iinc C d_Round_choose_65 rfl (nI_1 k) rfl ?_
          refine e_goto C d_Round_choose_68 (tgt := 5) (by decide) ?_
          exact e_lv2 (ih (k + 1) b ex (by omega) hb (by rw [← hf]; simp [rndC, hl2])) rfl
        · have hl2 : lkd f wd s (wfh wd h0 k) = false := by simp [lkd]; exact h34
          refine e_aload_n C d_Round_choose_37 rfl ?_
          refine e_get C 21 (k := 1) in_Round g139 d_Round_choose_38 rfl rfl rfl rfl ?_
          refine e_iload_n C d_Round_choose_41 rfl ?_
          refine e_aload_n C d_Round_choose_42 rfl ?_
          refine e_getI C 21 (k := 0) in_Round g122 g123 d_Round_choose_43 rfl rfl rfl rfl ?_
          refine e_imul C d_Round_choose_46 ?_
          refine e_iload C d_Round_choose_47 rfl ?_
          refine e_iadd C d_Round_choose_49 ?_
          refine e_zald C 22 1 d_Round_choose_50 rfl rfl (s * wd + wfh wd h0 k) (by rw [h.2.1, pk_mul, nI_add]) hlt (by omega) ?_
          refine e_if_ne C d_Round_choose_51 (tgt := 57) (by decide) (fun h51 => ?_) (fun h51 => ?_)
          · have hm2 : mkd f wd s (wfh wd h0 k) = true := by simp [mkd]; exact h51
            refine e_iload_n C d_Round_choose_57 rfl ?_
            refine e_iconst C d_Round_choose_58 (v := (-1)) (by decide) ?_
            refine e_icmp_ne C d_Round_choose_59 (tgt := 65) (by decide) (fun h59 => ?_) (fun h59 => ?_)
            · cases b with
              | none => exact absurd rfl h59
              | some j =>
                refine e_iinc C d_Round_choose_65 rfl (nI_1 k) rfl ?_
                refine e_goto C d_Round_choose_68 (tgt := 5) (by decide) ?_
                exact e_lv2 (ih (k + 1) (some j) ex (by omega) hb (by rw [← hf]; simp [rndC, hl2, hm2])) rfl
            · cases b with
              | some j => exact absurd h59 (by rw [oI_n1 (fun k hk => by have := hb k hk; omega)]; simp)
              | none =>
                refine e_iload C d_Round_choose_62 rfl ?_
                refine e_istore_n C d_Round_choose_64 rfl ?_
                refine e_iinc C d_Round_choose_65 rfl (nI_1 k) rfl ?_
                refine e_goto C d_Round_choose_68 (tgt := 5) (by decide) ?_
                exact e_lv2 (ih (k + 1) (some (wfh wd h0 k)) ex (by omega) (fun j hj => by cases hj; exact hwl) (by rw [← hf]; simp [rndC, hl2, hm2])) rfl
          · have hm2 : mkd f wd s (wfh wd h0 k) = false := by simp [mkd]; exact h51
            refine e_iload C d_Round_choose_54 rfl ?_
            exact e_iret C E d_Round_choose_56 (Nat.le_refl _) (Nat.le_refl _) rfl ⟨by rw [← hf]; simp [rndC, hl2, hm2, oI], rfl⟩
  exact e_lv2 (L wd 0 none [] (by omega) (fun j hj => by cases hj) rfl) rfl
/-- the hand behind a way -/
def nxt (wd w : Nat) : Nat := if w + 1 < wd then w + 1 else 0
set_option maxRecDepth 100000 in
theorem settle_end {X : EX} {B : Option Value → va_W → Prop} (C : EC X G "CacheRules$RoundRule" c_Round_settle 7) (E : ER X G 0 0 B none) (h : CD v S wd) (hs : s < S) (hw : w < wd) {g : Nat → Int32} {lv : List (Nat × Value)} (hl0 : lvg lv 0 = some (.ref (a 21))) (hl1 : lvg lv 1 = some (.int (nI s))) (hl2 : lvg lv 2 = some (.int (nI w)))
    (hB : B none (wR G a v (up2 (up2 f 22 g) 23 (upd (f 23) s (nI (nxt wd w)))) (S * wd) S V)) : EW X G 7 0 0 85 lv [] (wR G a v (up2 f 22 g) (S * wd) S V) := by
  have hw8 := h.2.2.2.2
  have hS := h.S16
  refine e_aload_n C d_Round_settle_85 hl0 ?_
  refine e_get C 21 (k := 2) in_Round g140 d_Round_settle_86 rfl rfl rfl rfl ?_
  refine e_iload_n C d_Round_settle_89 hl1 ?_
  refine e_iload_n C d_Round_settle_90 hl2 ?_
  refine e_iconst C d_Round_settle_91 (v := 1) (by decide) ?_
  refine e_iadd C d_Round_settle_92 ?_
  refine e_top (nI_1 w) ?_
  refine e_aload_n C d_Round_settle_93 hl0 ?_
  refine e_getI C 21 (k := 0) in_Round g122 g123 d_Round_settle_94 rfl rfl rfl rfl ?_
  refine e_top (show _ = nI wd from h.2.1) ?_
  refine e_icmp_ge C d_Round_settle_97 (tgt := 106) (by decide) (fun h97 => ?_) (fun h97 => ?_)
  · rw [nI_leI (by omega) (by omega)] at h97
    rw [show nxt wd w = 0 by simp only [nxt, if_neg (show ¬ w + 1 < wd by omega)]] at hB
    refine e_iconst C d_Round_settle_106 (v := 0) (by decide) ?_
    refine e_iast C 23 0 d_Round_settle_107 rfl rfl s rfl hs (by omega) ?_
    exact e_vret C E d_Round_settle_108 (Nat.le_refl _) (Nat.le_refl _) hB
  · rw [nI_leI (by omega) (by omega)] at h97
    rw [show nxt wd w = w + 1 by simp only [nxt, if_pos (show w + 1 < wd by omega)]] at hB
    refine e_iload_n C d_Round_settle_100 hl2 ?_
    refine e_iconst C d_Round_settle_101 (v := 1) (by decide) ?_
    refine e_iadd C d_Round_settle_102 ?_
    refine e_top (nI_1 w) ?_
    refine e_goto C d_Round_settle_103 (tgt := 107) (by decide) ?_
    refine e_iast C 23 0 d_Round_settle_107 rfl rfl s rfl hs (by omega) ?_
    exact e_vret C E d_Round_settle_108 (Nat.le_refl _) (Nat.le_refl _) hB
set_option maxRecDepth 100000 in
theorem k_Round_settle (h : CD v S wd) (hs : s < S) (hw : w < wd) {h0 : Nat} (hh0 : h0 < wd) (hh : f 23 s = nI h0) : Con l G y_Round_settle c_Round_settle 7 none (rz 1 23) [.ref (a 21), .int (nI s), .int (nI w), .ref (a 6)] (wR G a v f (S * wd) S V) (DV (wR G a v (up2 (up2 f 22 (rndS (lkd f wd s) (wfh wd h0) (mkd f wd s w) w (s * wd) (f 22) 0 wd)) 23 (upd (f 23) s (nI (nxt wd w)))) (S * wd) S V)) := by
  refine Con.of rfl rfl (fun X C E hR hl hn => ?_)
  have hn1 := h.n128
  have hw8 := h.2.2.2.2
  have hltw := slot_lt hs hw
  refine e_aload_n C d_Round_settle_0 rfl ?_
  refine e_get C 21 (k := 1) in_Round g139 d_Round_settle_1 rfl rfl rfl rfl ?_
  refine e_iload_n C d_Round_settle_4 rfl ?_
  refine e_aload_n C d_Round_settle_5 rfl ?_
  refine e_getI C 21 (k := 0) in_Round g122 g123 d_Round_settle_6 rfl rfl rfl rfl ?_
  refine e_imul C d_Round_settle_9 ?_
  refine e_iload_n C d_Round_settle_10 rfl ?_
  refine e_iadd C d_Round_settle_11 ?_
  refine e_zald C 22 1 d_Round_settle_12 rfl rfl (s * wd + w) (by rw [h.2.1, pk_mul, nI_add]) hltw (by omega) ?_
  refine e_istore C d_Round_settle_13 rfl ?_
  refine e_iconst C d_Round_settle_15 (v := 0) (by decide) ?_
  refine e_istore C d_Round_settle_16 rfl ?_
  have L : ∀ (m k : Nat) (g : Nat → Int32), k + m = wd → rndS (lkd f wd s) (wfh wd h0) (mkd f wd s w) w (s * wd) g k m = rndS (lkd f wd s) (wfh wd h0) (mkd f wd s w) w (s * wd) (f 22) 0 wd → EW X G 7 0 0 18 [(0, .ref (a 21)), (1, .int (nI s)), (2, .int (nI w)), (3, .ref (a 6)), (4, .int (f 22 (s * wd + w))), (5, .int (nI k))] [] (wR G a v (up2 f 22 g) (S * wd) S V) := by
    intro m
    induction m with
    | zero =>
      intro k g hk hf
      have hf : g = _ := hf
      refine e_iload C d_Round_settle_18 rfl ?_
      refine e_aload_n C d_Round_settle_20 rfl ?_
      refine e_getI C 21 (k := 0) in_Round g122 g123 d_Round_settle_21 rfl rfl rfl rfl ?_
      refine e_top (show _ = nI wd from h.2.1) ?_
      refine e_icmp_ge C d_Round_settle_24 (tgt := 85) (by decide) (fun h24 => ?_) (fun h24 => ?_)
      · exact settle_end C E h hs hw rfl rfl rfl ⟨rfl, by rw [← hf]⟩
      · exact absurd (nI_le (by omega) (by omega)) h24
    | succ m ih =>
      intro k g hk hf
      have hwl := wfh_lt hh0 (show k < wd by omega)
      have hlt := slot_lt hs hwl
      have stepL : ¬ (wfh wd h0 k = w ∧ mkd f wd s w = false) → EW X G 7 0 0 50 [(0, .ref (a 21)), (1, .int (nI s)), (2, .int (nI w)), (3, .ref (a 6)), (4, .int (f 22 (s * wd + w))), (5, .int (nI k)), (6, .int (nI (wfh wd h0 k)))] [] (wR G a v (up2 f 22 g) (S * wd) S V) := by
        intro hne
        refine e_aload_n C d_Round_settle_50 rfl ?_
        refine e_iload_n C d_Round_settle_51 rfl ?_
        refine e_aload_n C d_Round_settle_52 rfl ?_
        refine e_getI C 21 (k := 0) in_Round g122 g123 d_Round_settle_53 rfl rfl rfl rfl ?_
        refine e_imul C d_Round_settle_56 ?_
        refine e_iload C d_Round_settle_57 rfl ?_
        refine e_iadd C d_Round_settle_59 ?_
        refine e_zald C 6 1 d_Round_settle_60 rfl rfl (s * wd + wfh wd h0 k) (by show nI s * v 7 + _ = _; rw [h.2.1, pk_mul, nI_add]) hlt (by omega) ?_
        refine e_if_ne C d_Round_settle_61 (tgt := 79) (by decide) (fun h61 => ?_) (fun h61 => ?_)
        · have hl2 : lkd f wd s (wfh wd h0 k) = true := by simp [lkd]; exact h61
          refine e_iinc C d_Round_settle_79 rfl (nI_1 k) rfl ?_
          refine e_goto C d_Round_settle_82 (tgt := 18) (by decide) ?_
          exact e_lv2 (ih (k + 1) g (by omega) (by rw [← hf]; simp only [rndS, if_neg hne, hl2, if_true])) rfl
        · have hl2 : lkd f wd s (wfh wd h0 k) = false := by simp [lkd]; exact h61
          refine e_aload_n C d_Round_settle_64 rfl ?_
          refine e_get C 21 (k := 1) in_Round g139 d_Round_settle_65 rfl rfl rfl rfl ?_
          refine e_iload_n C d_Round_settle_68 rfl ?_
          refine e_aload_n C d_Round_settle_69 rfl ?_
          refine e_getI C 21 (k := 0) in_Round g122 g123 d_Round_settle_70 rfl rfl rfl rfl ?_
          refine e_imul C d_Round_settle_73 ?_
          refine e_iload C d_Round_settle_74 rfl ?_
          refine e_iadd C d_Round_settle_76 ?_
          refine e_iconst C d_Round_settle_77 (v := 0) (by decide) ?_
          refine e_zast C 22 1 d_Round_settle_78 rfl rfl (s * wd + wfh wd h0 k) (by show nI s * v 7 + _ = _; rw [h.2.1, pk_mul, nI_add]) hlt (by omega) rfl ?_
          refine e_iinc C d_Round_settle_79 rfl (nI_1 k) rfl ?_
          refine e_goto C d_Round_settle_82 (tgt := 18) (by decide) ?_
          exact e_lv2 (ih (k + 1) (upd g (s * wd + wfh wd h0 k) 0) (by omega) (by rw [← hf]; simp [rndS, if_neg hne, hl2])) rfl
      refine e_iload C d_Round_settle_18 rfl ?_
      refine e_aload_n C d_Round_settle_20 rfl ?_
      refine e_getI C 21 (k := 0) in_Round g122 g123 d_Round_settle_21 rfl rfl rfl rfl ?_
      refine e_top (show _ = nI wd from h.2.1) ?_
      refine e_icmp_ge C d_Round_settle_24 (tgt := 85) (by decide) (fun h24 => ?_) (fun h24 => ?_)
      · exact absurd h24 (nI_ge (by omega) (by omega))
      · skip
        refine e_aload_n C d_Round_settle_27 rfl ?_
        refine e_iload_n C d_Round_settle_28 rfl ?_
        refine e_iload C d_Round_settle_29 rfl ?_
        refine e_cVi C hR 21 (k_Round_wayFromHand (f := up2 f 22 g) h hs hh0 (show k < wd by omega) hh) g534 g7 g531 g533 (gt_sel 8 (by decide +kernel) (by decide +kernel)) d_Round_settle_31 rfl ey_Round_wayFromHand rfl rfl rfl rfl ⟨Nat.zero_le _, Nat.zero_le _⟩ ?_
        refine e_istore C d_Round_settle_34 rfl ?_
        refine e_iload C d_Round_settle_36 rfl ?_
        refine e_iload_n C d_Round_settle_38 rfl ?_
        refine e_icmp_ne C d_Round_settle_39 (tgt := 50) (by decide) (fun h39 => ?_) (fun h39 => ?_)
        · rw [nI_eq (by omega) (by omega)] at h39
          exact e_lv2 (stepL (fun z => h39 z.1)) rfl
        · rw [nI_eq (by omega) (by omega)] at h39
          refine e_iload C d_Round_settle_42 rfl ?_
          refine e_if_ne C d_Round_settle_44 (tgt := 50) (by decide) (fun h44 => ?_) (fun h44 => ?_)
          · have hm2 : mkd f wd s w = true := by simp [mkd]; exact h44
            exact e_lv2 (stepL (fun z => by rw [hm2] at z; exact absurd z.2 (by decide))) rfl
          · have hm2 : mkd f wd s w = false := by simp [mkd]; exact h44
            refine e_goto C d_Round_settle_47 (tgt := 85) (by decide) ?_
            refine settle_end C E h hs hw rfl rfl rfl ⟨rfl, ?_⟩
            rw [← hf]
            simp only [rndS, if_pos (⟨h39, hm2⟩ : wfh wd h0 k = w ∧ mkd f wd s w = false)]
  refine e_eq (ws' := wR G a v (up2 f 22 (f 22)) (S * wd) S V) rfl ?_
  exact e_lv2 (L wd 0 (f 22) (by omega) rfl) rfl
end RoundRows
end
section
/-! RULE 6 -/
theorem ey_Tree_pointAway : eY y_Tree_pointAway 2 = true := by decide +kernel
theorem d_Tree_pointAway_0 : decode c_Tree_pointAway 0 = .ok (.aload_n 0, 1) := by decide +kernel
theorem d_Tree_pointAway_1 : decode c_Tree_pointAway 1 = .ok (.getfield 9, 3) := by decide +kernel
theorem d_Tree_pointAway_4 : decode c_Tree_pointAway 4 = .ok (.iload_n 2, 1) := by decide +kernel
theorem d_Tree_pointAway_5 : decode c_Tree_pointAway 5 = .ok (.iadd, 1) := by decide +kernel
theorem d_Tree_pointAway_6 : decode c_Tree_pointAway 6 = .ok (.istore_n 3, 1) := by decide +kernel
theorem d_Tree_pointAway_7 : decode c_Tree_pointAway 7 = .ok (.iload_n 3, 1) := by decide +kernel
theorem d_Tree_pointAway_8 : decode c_Tree_pointAway 8 = .ok (.iconst 1, 1) := by decide +kernel
theorem d_Tree_pointAway_9 : decode c_Tree_pointAway 9 = .ok (.if_icmp .le 64, 3) := by decide +kernel
theorem d_Tree_pointAway_12 : decode c_Tree_pointAway 12 = .ok (.iconst 1, 1) := by decide +kernel
theorem d_Tree_pointAway_13 : decode c_Tree_pointAway 13 = .ok (.iload_n 3, 1) := by decide +kernel
theorem d_Tree_pointAway_14 : decode c_Tree_pointAway 14 = .ok (.iconst 2, 1) := by decide +kernel
theorem d_Tree_pointAway_15 : decode c_Tree_pointAway 15 = .ok (.idiv, 1) := by decide +kernel
theorem d_Tree_pointAway_16 : decode c_Tree_pointAway 16 = .ok (.ishl, 1) := by decide +kernel
theorem d_Tree_pointAway_17 : decode c_Tree_pointAway 17 = .ok (.istore 4, 2) := by decide +kernel
theorem d_Tree_pointAway_19 : decode c_Tree_pointAway 19 = .ok (.iload_n 3, 1) := by decide +kernel
theorem d_Tree_pointAway_20 : decode c_Tree_pointAway 20 = .ok (.iconst 2, 1) := by decide +kernel
theorem d_Tree_pointAway_21 : decode c_Tree_pointAway 21 = .ok (.irem, 1) := by decide +kernel
theorem d_Tree_pointAway_22 : decode c_Tree_pointAway 22 = .ok (.ifCond .ne 7, 3) := by decide +kernel
theorem d_Tree_pointAway_25 : decode c_Tree_pointAway 25 = .ok (.iconst 1, 1) := by decide +kernel
theorem d_Tree_pointAway_26 : decode c_Tree_pointAway 26 = .ok (.goto 4, 3) := by decide +kernel
theorem d_Tree_pointAway_29 : decode c_Tree_pointAway 29 = .ok (.iconst 0, 1) := by decide +kernel
theorem d_Tree_pointAway_30 : decode c_Tree_pointAway 30 = .ok (.istore 5, 2) := by decide +kernel
theorem d_Tree_pointAway_32 : decode c_Tree_pointAway 32 = .ok (.aload_n 0, 1) := by decide +kernel
theorem d_Tree_pointAway_33 : decode c_Tree_pointAway 33 = .ok (.getfield 15, 3) := by decide +kernel
theorem d_Tree_pointAway_36 : decode c_Tree_pointAway 36 = .ok (.iload_n 1, 1) := by decide +kernel
theorem d_Tree_pointAway_37 : decode c_Tree_pointAway 37 = .ok (.iload 5, 2) := by decide +kernel
theorem d_Tree_pointAway_39 : decode c_Tree_pointAway 39 = .ok (.ifCond .eq 15, 3) := by decide +kernel
theorem d_Tree_pointAway_42 : decode c_Tree_pointAway 42 = .ok (.aload_n 0, 1) := by decide +kernel
theorem d_Tree_pointAway_43 : decode c_Tree_pointAway 43 = .ok (.getfield 15, 3) := by decide +kernel
theorem d_Tree_pointAway_46 : decode c_Tree_pointAway 46 = .ok (.iload_n 1, 1) := by decide +kernel
theorem d_Tree_pointAway_47 : decode c_Tree_pointAway 47 = .ok (.iaload, 1) := by decide +kernel
theorem d_Tree_pointAway_48 : decode c_Tree_pointAway 48 = .ok (.iload 4, 2) := by decide +kernel
theorem d_Tree_pointAway_50 : decode c_Tree_pointAway 50 = .ok (.ior, 1) := by decide +kernel
theorem d_Tree_pointAway_51 : decode c_Tree_pointAway 51 = .ok (.goto 14, 3) := by decide +kernel
theorem d_Tree_pointAway_54 : decode c_Tree_pointAway 54 = .ok (.aload_n 0, 1) := by decide +kernel
theorem d_Tree_pointAway_55 : decode c_Tree_pointAway 55 = .ok (.getfield 15, 3) := by decide +kernel
theorem d_Tree_pointAway_58 : decode c_Tree_pointAway 58 = .ok (.iload_n 1, 1) := by decide +kernel
theorem d_Tree_pointAway_59 : decode c_Tree_pointAway 59 = .ok (.iaload, 1) := by decide +kernel
theorem d_Tree_pointAway_60 : decode c_Tree_pointAway 60 = .ok (.iload 4, 2) := by decide +kernel
theorem d_Tree_pointAway_62 : decode c_Tree_pointAway 62 = .ok (.iconst (-1), 1) := by decide +kernel
theorem d_Tree_pointAway_63 : decode c_Tree_pointAway 63 = .ok (.ixor, 1) := by decide +kernel
theorem d_Tree_pointAway_64 : decode c_Tree_pointAway 64 = .ok (.iand, 1) := by decide +kernel
theorem d_Tree_pointAway_65 : decode c_Tree_pointAway 65 = .ok (.iastore, 1) := by decide +kernel
theorem d_Tree_pointAway_66 : decode c_Tree_pointAway 66 = .ok (.iload_n 3, 1) := by decide +kernel
theorem d_Tree_pointAway_67 : decode c_Tree_pointAway 67 = .ok (.iconst 2, 1) := by decide +kernel
theorem d_Tree_pointAway_68 : decode c_Tree_pointAway 68 = .ok (.idiv, 1) := by decide +kernel
theorem d_Tree_pointAway_69 : decode c_Tree_pointAway 69 = .ok (.istore_n 3, 1) := by decide +kernel
theorem d_Tree_pointAway_70 : decode c_Tree_pointAway 70 = .ok (.goto (-63), 3) := by decide +kernel
theorem d_Tree_pointAway_73 : decode c_Tree_pointAway 73 = .ok (.return_, 1) := by decide +kernel
theorem ey_Tree_use : eY y_Tree_use 2 = true := by decide +kernel
theorem d_Tree_use_0 : decode c_Tree_use 0 = .ok (.aload_n 0, 1) := by decide +kernel
theorem d_Tree_use_1 : decode c_Tree_use 1 = .ok (.iload_n 1, 1) := by decide +kernel
theorem d_Tree_use_2 : decode c_Tree_use 2 = .ok (.iload_n 2, 1) := by decide +kernel
theorem d_Tree_use_3 : decode c_Tree_use 3 = .ok (.invokevirtual 19, 3) := by decide +kernel
theorem d_Tree_use_6 : decode c_Tree_use 6 = .ok (.return_, 1) := by decide +kernel
theorem ey_Tree_come : eY y_Tree_come 2 = true := by decide +kernel
theorem d_Tree_come_0 : decode c_Tree_come 0 = .ok (.aload_n 0, 1) := by decide +kernel
theorem d_Tree_come_1 : decode c_Tree_come 1 = .ok (.iload_n 1, 1) := by decide +kernel
theorem d_Tree_come_2 : decode c_Tree_come 2 = .ok (.iload_n 2, 1) := by decide +kernel
theorem d_Tree_come_3 : decode c_Tree_come 3 = .ok (.invokevirtual 19, 3) := by decide +kernel
theorem d_Tree_come_6 : decode c_Tree_come 6 = .ok (.return_, 1) := by decide +kernel
theorem ey_Tree_choose : eY y_Tree_choose 2 = true := by decide +kernel
theorem d_Tree_choose_0 : decode c_Tree_choose 0 = .ok (.iconst 1, 1) := by decide +kernel
theorem d_Tree_choose_1 : decode c_Tree_choose 1 = .ok (.istore_n 3, 1) := by decide +kernel
theorem d_Tree_choose_2 : decode c_Tree_choose 2 = .ok (.iload_n 3, 1) := by decide +kernel
theorem d_Tree_choose_3 : decode c_Tree_choose 3 = .ok (.aload_n 0, 1) := by decide +kernel
theorem d_Tree_choose_4 : decode c_Tree_choose 4 = .ok (.getfield 9, 3) := by decide +kernel
theorem d_Tree_choose_7 : decode c_Tree_choose 7 = .ok (.if_icmp .ge 21, 3) := by decide +kernel
theorem d_Tree_choose_10 : decode c_Tree_choose 10 = .ok (.iconst 2, 1) := by decide +kernel
theorem d_Tree_choose_11 : decode c_Tree_choose 11 = .ok (.iload_n 3, 1) := by decide +kernel
theorem d_Tree_choose_12 : decode c_Tree_choose 12 = .ok (.imul, 1) := by decide +kernel
theorem d_Tree_choose_13 : decode c_Tree_choose 13 = .ok (.aload_n 0, 1) := by decide +kernel
theorem d_Tree_choose_14 : decode c_Tree_choose 14 = .ok (.getfield 15, 3) := by decide +kernel
theorem d_Tree_choose_17 : decode c_Tree_choose 17 = .ok (.iload_n 1, 1) := by decide +kernel
theorem d_Tree_choose_18 : decode c_Tree_choose 18 = .ok (.iaload, 1) := by decide +kernel
theorem d_Tree_choose_19 : decode c_Tree_choose 19 = .ok (.iload_n 3, 1) := by decide +kernel
theorem d_Tree_choose_20 : decode c_Tree_choose 20 = .ok (.ishr, 1) := by decide +kernel
theorem d_Tree_choose_21 : decode c_Tree_choose 21 = .ok (.iconst 1, 1) := by decide +kernel
theorem d_Tree_choose_22 : decode c_Tree_choose 22 = .ok (.iand, 1) := by decide +kernel
theorem d_Tree_choose_23 : decode c_Tree_choose 23 = .ok (.iadd, 1) := by decide +kernel
theorem d_Tree_choose_24 : decode c_Tree_choose 24 = .ok (.istore_n 3, 1) := by decide +kernel
theorem d_Tree_choose_25 : decode c_Tree_choose 25 = .ok (.goto (-23), 3) := by decide +kernel
theorem d_Tree_choose_28 : decode c_Tree_choose 28 = .ok (.iconst 0, 1) := by decide +kernel
theorem d_Tree_choose_29 : decode c_Tree_choose 29 = .ok (.istore 4, 2) := by decide +kernel
theorem d_Tree_choose_31 : decode c_Tree_choose 31 = .ok (.iload 4, 2) := by decide +kernel
theorem d_Tree_choose_33 : decode c_Tree_choose 33 = .ok (.aload_n 0, 1) := by decide +kernel
theorem d_Tree_choose_34 : decode c_Tree_choose 34 = .ok (.getfield 9, 3) := by decide +kernel
theorem d_Tree_choose_37 : decode c_Tree_choose 37 = .ok (.if_icmp .ge 48, 3) := by decide +kernel
theorem d_Tree_choose_40 : decode c_Tree_choose 40 = .ok (.iload_n 3, 1) := by decide +kernel
theorem d_Tree_choose_41 : decode c_Tree_choose 41 = .ok (.iload 4, 2) := by decide +kernel
theorem d_Tree_choose_43 : decode c_Tree_choose 43 = .ok (.iadd, 1) := by decide +kernel
theorem d_Tree_choose_44 : decode c_Tree_choose 44 = .ok (.aload_n 0, 1) := by decide +kernel
theorem d_Tree_choose_45 : decode c_Tree_choose 45 = .ok (.getfield 9, 3) := by decide +kernel
theorem d_Tree_choose_48 : decode c_Tree_choose 48 = .ok (.iconst 1, 1) := by decide +kernel
theorem d_Tree_choose_49 : decode c_Tree_choose 49 = .ok (.isub, 1) := by decide +kernel
theorem d_Tree_choose_50 : decode c_Tree_choose 50 = .ok (.iand, 1) := by decide +kernel
theorem d_Tree_choose_51 : decode c_Tree_choose 51 = .ok (.istore 5, 2) := by decide +kernel
theorem d_Tree_choose_53 : decode c_Tree_choose 53 = .ok (.iload 5, 2) := by decide +kernel
theorem d_Tree_choose_55 : decode c_Tree_choose 55 = .ok (.aload_n 0, 1) := by decide +kernel
theorem d_Tree_choose_56 : decode c_Tree_choose 56 = .ok (.getfield 23, 3) := by decide +kernel
theorem d_Tree_choose_59 : decode c_Tree_choose 59 = .ok (.if_icmp .ge 20, 3) := by decide +kernel
theorem d_Tree_choose_62 : decode c_Tree_choose 62 = .ok (.aload_n 2, 1) := by decide +kernel
theorem d_Tree_choose_63 : decode c_Tree_choose 63 = .ok (.iload_n 1, 1) := by decide +kernel
theorem d_Tree_choose_64 : decode c_Tree_choose 64 = .ok (.aload_n 0, 1) := by decide +kernel
theorem d_Tree_choose_65 : decode c_Tree_choose 65 = .ok (.getfield 23, 3) := by decide +kernel
theorem d_Tree_choose_68 : decode c_Tree_choose 68 = .ok (.imul, 1) := by decide +kernel
theorem d_Tree_choose_69 : decode c_Tree_choose 69 = .ok (.iload 5, 2) := by decide +kernel
theorem d_Tree_choose_71 : decode c_Tree_choose 71 = .ok (.iadd, 1) := by decide +kernel
theorem d_Tree_choose_72 : decode c_Tree_choose 72 = .ok (.baload, 1) := by decide +kernel
theorem d_Tree_choose_73 : decode c_Tree_choose 73 = .ok (.ifCond .ne 6, 3) := by decide +kernel
theorem d_Tree_choose_76 : decode c_Tree_choose 76 = .ok (.iload 5, 2) := by decide +kernel
theorem d_Tree_choose_78 : decode c_Tree_choose 78 = .ok (.ireturn, 1) := by decide +kernel
theorem d_Tree_choose_79 : decode c_Tree_choose 79 = .ok (.iinc 4 1, 3) := by decide +kernel
theorem d_Tree_choose_82 : decode c_Tree_choose 82 = .ok (.goto (-51), 3) := by decide +kernel
theorem d_Tree_choose_85 : decode c_Tree_choose 85 = .ok (.iconst (-1), 1) := by decide +kernel
theorem d_Tree_choose_86 : decode c_Tree_choose 86 = .ok (.ireturn, 1) := by decide +kernel
theorem ey_Tree_settle : eY y_Tree_settle 3 = true := by decide +kernel
theorem d_Tree_settle_0 : decode c_Tree_settle 0 = .ok (.return_, 1) := by decide +kernel
abbrev wE (G : EG) (a : Nat → Nat) (v : Nat → Int32) (f : Nat → Nat → Int32) (n S V : Nat) : va_W := cF G a v f n V (rTree G a v f S)
/-- the leaves of the tree -/
def TD (v : Nat → Int32) (P wd : Nat) : Prop := v 16 = nI P ∧ (∃ k, k ≤ 3 ∧ P = 2 ^ k) ∧ wd ≤ P
theorem TD.P8 {v : Nat → Int32} {P wd : Nat} (h : TD v P wd) : 1 ≤ P ∧ P ≤ 8 := by
  obtain ⟨-, ⟨k, hk, rfl⟩, -⟩ := h
  rcases (by omega : k = 0 ∨ k = 1 ∨ k = 2 ∨ k = 3) with rfl | rfl | rfl | rfl <;> decide
/-- the bit of the node above is set, or taken away -/
def trB (t : Int32) (node : Nat) : Int32 := if node % 2 = 0 then t ||| ((1 : Int32) <<< (nI (node / 2) &&& 31)) else t &&& (((1 : Int32) <<< (nI (node / 2) &&& 31)) ^^^ (-1))
/-- all bits above a node point away -/
def ptA : Nat → Nat → Int32 → Int32
  | 0, _, t => t
  | m + 1, node, t => if node ≤ 1 then t else ptA m (node / 2) (trB t node)
def bitN (t : Int32) (node : Nat) : Nat := (t >>> (nI node &&& 31)).toBitVec.toNat % 2
/-- where the bits point -/
def trC (t : Int32) (P : Nat) : Nat → Nat → Nat
  | 0, node => node
  | m + 1, node => if node < P then trC t P m (2 * node + bitN t node) else node
/-- the choice -/
def trP (f : Nat → Nat → Int32) (wd s P : Nat) : Option Nat := (fst1 (fun k => decide ((trC (f 22 s) P 4 1 + k) % P < wd) && !lkd f wd s ((trC (f 22 s) P 4 1 + k) % P)) 0 P).map (fun k => (trC (f 22 s) P 4 1 + k) % P)
section TreeRows
variable {l : Launch} {G : EG} {a : Nat → Nat} {v : Nat → Int32} {f : Nat → Nat → Int32} {V S wd s w P : Nat}
set_option maxRecDepth 100000 in
theorem k_Tree_pointAway (h : CD v S wd) (hT : TD v P wd) (hs : s < S) (hw : w < wd) : Con l G y_Tree_pointAway c_Tree_pointAway 6 none (rz 0 0) [.ref (a 21), .int (nI s), .int (nI w)] (wE G a v f (S * wd) S V) (DV (wE G a v (up2 f 22 (upd (f 22) s (ptA 4 (P + w) (f 22 s)))) (S * wd) S V)) := by
  refine Con.of rfl rfl (fun X C E hR hl hn => ?_)
  have hn1 := h.n128
  have hw8 := h.2.2.2.2
  have hP := hT.P8
  have hS := h.S16
  have hPw := hT.2.2
  refine e_aload_n C d_Tree_pointAway_0 rfl ?_
  refine e_get C 21 (k := 1) in_Tree g153 d_Tree_pointAway_1 rfl rfl rfl rfl ?_
  refine e_top hT.1 ?_
  refine e_iload_n C d_Tree_pointAway_4 rfl ?_
  refine e_iadd C d_Tree_pointAway_5 ?_
  refine e_top (nI_add _ _) ?_
  refine e_istore_n C d_Tree_pointAway_6 rfl ?_
  have L : ∀ (m node : Nat) (t : Int32), node < 2 ^ m → m ≤ 4 → ptA m node t = ptA 4 (P + w) (f 22 s) → EW X G 6 0 0 7 [(0, .ref (a 21)), (1, .int (nI s)), (3, .int (nI node))] [] (wE G a v (up2 f 22 (upd (f 22) s t)) (S * wd) S V) := by
    intro m
    induction m with
    | zero =>
      intro node t hnd hm hf
      have hf : t = _ := hf
      refine e_iload_n C d_Tree_pointAway_7 rfl ?_
      refine e_iconst C d_Tree_pointAway_8 (v := nI 1) (by decide) ?_
      refine e_icmp_le C d_Tree_pointAway_9 (tgt := 73) (by decide) (fun h9 => ?_) (fun h9 => ?_)
      · skip
        exact e_vret C E d_Tree_pointAway_73 (Nat.le_refl _) (Nat.le_refl _) ⟨rfl, by rw [← hf]⟩
      · rw [nI_leI (by omega) (by omega)] at h9
        omega
    | succ m ih =>
      intro node t hnd hm hf
      have h16 : 2 ^ (m + 1) ≤ 2 ^ 4 := Nat.pow_le_pow_right (by omega) hm
      have h2m : 2 ^ (m + 1) = 2 * 2 ^ m := by rw [Nat.pow_succ]; omega
      refine e_iload_n C d_Tree_pointAway_7 rfl ?_
      refine e_iconst C d_Tree_pointAway_8 (v := nI 1) (by decide) ?_
      refine e_icmp_le C d_Tree_pointAway_9 (tgt := 73) (by decide) (fun h9 => ?_) (fun h9 => ?_)
      · rw [nI_leI (by omega) (by omega)] at h9
        exact e_vret C E d_Tree_pointAway_73 (Nat.le_refl _) (Nat.le_refl _) ⟨rfl, by rw [← hf]; simp only [ptA, if_pos h9]⟩
      · rw [nI_leI (by omega) (by omega)] at h9
        have hf2 : ptA m (node / 2) (trB t node) = ptA 4 (P + w) (f 22 s) := by rw [← hf]; simp only [ptA, if_neg h9]
        have hus : upd (f 22) s t s = t := pk_us
        refine e_iconst C d_Tree_pointAway_12 (v := 1) (by decide) ?_
        refine e_iload_n C d_Tree_pointAway_13 rfl ?_
        refine e_iconst C d_Tree_pointAway_14 (v := nI 2) (by decide) ?_
        refine e_idiv C d_Tree_pointAway_15 (nI_ne0 (by omega) (by omega)) ?_
        refine e_top (pk_div (by omega) (by omega) (by omega)) ?_
        refine e_ishl C d_Tree_pointAway_16 ?_
        refine e_istore C d_Tree_pointAway_17 rfl ?_
        refine e_iload_n C d_Tree_pointAway_19 rfl ?_
        refine e_iconst C d_Tree_pointAway_20 (v := nI 2) (by decide) ?_
        refine e_irem C d_Tree_pointAway_21 (nI_ne0 (by omega) (by omega)) ?_
        refine e_top (pk_rem (by omega) (by omega) (by omega)) ?_
        refine e_if_ne C d_Tree_pointAway_22 (tgt := 29) (by decide) (fun h22 => ?_) (fun h22 => ?_)
        · have hpar : ¬ node % 2 = 0 := fun z => h22 (by rw [z]; rfl)
          rw [trB, if_neg hpar] at hf2
          refine e_iconst C d_Tree_pointAway_29 (v := 0) (by decide) ?_
          refine e_istore C d_Tree_pointAway_30 rfl ?_
          refine e_aload_n C d_Tree_pointAway_32 rfl ?_
          refine e_get C 21 (k := 2) in_Tree g154 d_Tree_pointAway_33 rfl rfl rfl rfl ?_
          refine e_iload_n C d_Tree_pointAway_36 rfl ?_
          refine e_iload C d_Tree_pointAway_37 rfl ?_
          refine e_if_eq C d_Tree_pointAway_39 (tgt := 54) (by decide) (fun h39 => ?_) (fun h39 => ?_)
          · skip
            refine e_aload_n C d_Tree_pointAway_54 rfl ?_
            refine e_get C 21 (k := 2) in_Tree g154 d_Tree_pointAway_55 rfl rfl rfl rfl ?_
            refine e_iload_n C d_Tree_pointAway_58 rfl ?_
            refine e_iald C 22 0 d_Tree_pointAway_59 rfl rfl s rfl hs (by omega) ?_
            refine e_top hus ?_
            refine e_iload C d_Tree_pointAway_60 rfl ?_
            refine e_iconst C d_Tree_pointAway_62 (v := (-1)) (by decide) ?_
            refine e_ixor C d_Tree_pointAway_63 ?_
            refine e_iand C d_Tree_pointAway_64 ?_
            refine e_iast C 22 0 d_Tree_pointAway_65 rfl rfl s rfl hs (by omega) ?_
            refine e_iload_n C d_Tree_pointAway_66 rfl ?_
            refine e_iconst C d_Tree_pointAway_67 (v := nI 2) (by decide) ?_
            refine e_idiv C d_Tree_pointAway_68 (nI_ne0 (by omega) (by omega)) ?_
            refine e_top (pk_div (by omega) (by omega) (by omega)) ?_
            refine e_istore_n C d_Tree_pointAway_69 rfl ?_
            refine e_goto C d_Tree_pointAway_70 (tgt := 7) (by decide) ?_
            refine e_eq (ws' := wE G a v (up2 f 22 (upd (f 22) s (t &&& (((1 : Int32) <<< (nI (node / 2) &&& 31)) ^^^ (-1))))) (S * wd) S V) (by rw [← upd_uu (f 22) s t (t &&& (((1 : Int32) <<< (nI (node / 2) &&& 31)) ^^^ (-1)))]; rfl) ?_
            exact e_lv2 (ih (node / 2) _ (by omega) (by omega) hf2) rfl
          · exact absurd rfl h39
        · have hpar : node % 2 = 0 := by
            rcases Nat.eq_zero_or_pos (node % 2) with z | z
            · exact z
            · exact absurd h22 (nI_ne0 z (by omega))
          rw [trB, if_pos hpar] at hf2
          refine e_iconst C d_Tree_pointAway_25 (v := 1) (by decide) ?_
          refine e_goto C d_Tree_pointAway_26 (tgt := 30) (by decide) ?_
          refine e_istore C d_Tree_pointAway_30 rfl ?_
          refine e_aload_n C d_Tree_pointAway_32 rfl ?_
          refine e_get C 21 (k := 2) in_Tree g154 d_Tree_pointAway_33 rfl rfl rfl rfl ?_
          refine e_iload_n C d_Tree_pointAway_36 rfl ?_
          refine e_iload C d_Tree_pointAway_37 rfl ?_
          refine e_if_eq C d_Tree_pointAway_39 (tgt := 54) (by decide) (fun h39 => ?_) (fun h39 => ?_)
          · exact absurd h39 (by decide)
          · skip
            refine e_aload_n C d_Tree_pointAway_42 rfl ?_
            refine e_get C 21 (k := 2) in_Tree g154 d_Tree_pointAway_43 rfl rfl rfl rfl ?_
            refine e_iload_n C d_Tree_pointAway_46 rfl ?_
            refine e_iald C 22 0 d_Tree_pointAway_47 rfl rfl s rfl hs (by omega) ?_
            refine e_top hus ?_
            refine e_iload C d_Tree_pointAway_48 rfl ?_
            refine e_ior C d_Tree_pointAway_50 ?_
            refine e_goto C d_Tree_pointAway_51 (tgt := 65) (by decide) ?_
            refine e_iast C 22 0 d_Tree_pointAway_65 rfl rfl s rfl hs (by omega) ?_
            refine e_iload_n C d_Tree_pointAway_66 rfl ?_
            refine e_iconst C d_Tree_pointAway_67 (v := nI 2) (by decide) ?_
            refine e_idiv C d_Tree_pointAway_68 (nI_ne0 (by omega) (by omega)) ?_
            refine e_top (pk_div (by omega) (by omega) (by omega)) ?_
            refine e_istore_n C d_Tree_pointAway_69 rfl ?_
            refine e_goto C d_Tree_pointAway_70 (tgt := 7) (by decide) ?_
            refine e_eq (ws' := wE G a v (up2 f 22 (upd (f 22) s (t ||| ((1 : Int32) <<< (nI (node / 2) &&& 31))))) (S * wd) S V) (by rw [← upd_uu (f 22) s t (t ||| ((1 : Int32) <<< (nI (node / 2) &&& 31)))]; rfl) ?_
            exact e_lv2 (ih (node / 2) _ (by omega) (by omega) hf2) rfl
  refine e_eq (ws' := wE G a v (up2 f 22 (upd (f 22) s (f 22 s))) (S * wd) S V) (by rw [show upd (f 22) s (f 22 s) = f 22 by funext j; by_cases hj : j = s <;> simp [upd, hj]]; rfl) ?_
  exact e_lv2 (L 4 (P + w) (f 22 s) (by omega) (Nat.le_refl _) rfl) rfl
theorem k_Tree_use (h : CD v S wd) (hT : TD v P wd) (hs : s < S) (hw : w < wd) : Con l G y_Tree_use c_Tree_use 3 none (rz 1 25) [.ref (a 21), .int (nI s), .int (nI w)] (wE G a v f (S * wd) S V) (DV (wE G a v (up2 f 22 (upd (f 22) s (ptA 4 (P + w) (f 22 s)))) (S * wd) S V)) := by
  refine Con.of rfl rfl (fun X C E hR hl hn => ?_)
  refine e_aload_n C d_Tree_use_0 rfl ?_
  refine e_iload_n C d_Tree_use_1 rfl ?_
  refine e_iload_n C d_Tree_use_2 rfl ?_
  refine e_cVv C hR 21 (k_Tree_pointAway h hT hs hw) g498 g8 g495 g497 (gt_sel 5 (by decide +kernel) (by decide +kernel)) d_Tree_use_3 rfl ey_Tree_pointAway rfl rfl rfl rfl ⟨Nat.zero_le _, Nat.zero_le _⟩ ?_
  exact e_vret C E d_Tree_use_6 (Nat.le_refl _) (Nat.le_refl _) ⟨rfl, rfl⟩
theorem k_Tree_come (h : CD v S wd) (hT : TD v P wd) (hs : s < S) (hw : w < wd) : Con l G y_Tree_come c_Tree_come 3 none (rz 1 25) [.ref (a 21), .int (nI s), .int (nI w)] (wE G a v f (S * wd) S V) (DV (wE G a v (up2 f 22 (upd (f 22) s (ptA 4 (P + w) (f 22 s)))) (S * wd) S V)) := by
  refine Con.of rfl rfl (fun X C E hR hl hn => ?_)
  refine e_aload_n C d_Tree_come_0 rfl ?_
  refine e_iload_n C d_Tree_come_1 rfl ?_
  refine e_iload_n C d_Tree_come_2 rfl ?_
  refine e_cVv C hR 21 (k_Tree_pointAway h hT hs hw) g498 g8 g495 g497 (gt_sel 5 (by decide +kernel) (by decide +kernel)) d_Tree_come_3 rfl ey_Tree_pointAway rfl rfl rfl rfl ⟨Nat.zero_le _, Nat.zero_le _⟩ ?_
  exact e_vret C E d_Tree_come_6 (Nat.le_refl _) (Nat.le_refl _) ⟨rfl, rfl⟩
theorem k_Tree_settle (x y : Int32) : Con l G y_Tree_settle c_Tree_settle 4 none (rz 0 0) [.ref (a 21), .int x, .int y, .ref (a 6)] (wE G a v f (S * wd) S V) (DV (wE G a v f (S * wd) S V)) := by
  refine Con.of rfl rfl (fun X C E hR hl hn => ?_)
  exact e_vret C E d_Tree_settle_0 (Nat.le_refl _) (Nat.le_refl _) ⟨rfl, rfl⟩
theorem bitN_eq (t : Int32) (node : Nat) : (t >>> (nI node &&& 31)) &&& 1 = nI (bitN t node) := pk_and _ 1 (by decide)
theorem bitN_lt (t : Int32) (node : Nat) : bitN t node < 2 := Nat.mod_lt _ (by omega)
set_option maxRecDepth 100000 in
theorem k_Tree_choose (h : CD v S wd) (hT : TD v P wd) (hs : s < S) : Con l G y_Tree_choose c_Tree_choose 6 (some .int) (rz 0 0) [.ref (a 21), .int (nI s), .ref (a 6)] (wE G a v f (S * wd) S V) (DI (oI (trP f wd s P)) (wE G a v f (S * wd) S V)) := by
  refine Con.of rfl rfl (fun X C E hR hl hn => ?_)
  have hn1 := h.n128
  have hw8 := h.2.2.2.2
  have hP := hT.P8
  have hS := h.S16
  have hPw := hT.2.2
  unfold trP at E
  refine e_iconst C d_Tree_choose_0 (v := 1) (by decide) ?_
  refine e_istore_n C d_Tree_choose_1 rfl ?_
  have L : ∀ (m node : Nat), node * 2 ^ m ≥ P → node < 2 * P → 1 ≤ node → trC (f 22 s) P m node = trC (f 22 s) P 4 1 → EW X G 6 0 0 2 [(0, .ref (a 21)), (1, .int (nI s)), (2, .ref (a 6)), (3, .int (nI node))] [] (wE G a v f (S * wd) S V) := by
    have fin : ∀ node : Nat, P ≤ node → node < 2 * P → node = trC (f 22 s) P 4 1 → EW X G 6 0 0 28 [(0, .ref (a 21)), (1, .int (nI s)), (2, .ref (a 6)), (3, .int (nI node))] [] (wE G a v f (S * wd) S V) := by
      intro node h1 h2 hf
      rw [← hf] at E
      refine e_iconst C d_Tree_choose_28 (v := 0) (by decide) ?_
      refine e_istore C d_Tree_choose_29 rfl ?_
      have hand : ∀ x : Nat, x < 2 ^ 31 → nI x &&& (nI P - 1) = nI (x % P) := by
        intro x hx
        obtain ⟨-, ⟨k, hk, rfl⟩, -⟩ := hT
        exact pk_andN (by omega) k (by rcases (by omega : k = 0 ∨ k = 1 ∨ k = 2 ∨ k = 3) with rfl | rfl | rfl | rfl <;> decide)
      generalize hQ : (fun k => decide ((node + k) % P < wd) && !lkd f wd s ((node + k) % P)) = Q at E
      have L2 : ∀ (m k : Nat), k + m = P → fst1 Q k m = fst1 Q 0 P → EW X G 6 0 0 31 [(0, .ref (a 21)), (1, .int (nI s)), (2, .ref (a 6)), (3, .int (nI node)), (4, .int (nI k))] [] (wE G a v f (S * wd) S V) := by
        intro m
        induction m with
        | zero =>
          intro k hk hf
          refine e_iload C d_Tree_choose_31 rfl ?_
          refine e_aload_n C d_Tree_choose_33 rfl ?_
          refine e_get C 21 (k := 1) in_Tree g153 d_Tree_choose_34 rfl rfl rfl rfl ?_
          refine e_top hT.1 ?_
          refine e_icmp_ge C d_Tree_choose_37 (tgt := 85) (by decide) (fun h37 => ?_) (fun h37 => ?_)
          · skip
            refine e_iconst C d_Tree_choose_85 (v := (-1)) (by decide) ?_
            exact e_iret C E d_Tree_choose_86 (Nat.le_refl _) (Nat.le_refl _) rfl ⟨by rw [← hf]; rfl, rfl⟩
          · exact absurd (nI_le (by omega) (by omega)) h37
        | succ m ih =>
          intro k hk hf
          refine e_iload C d_Tree_choose_31 rfl ?_
          refine e_aload_n C d_Tree_choose_33 rfl ?_
          refine e_get C 21 (k := 1) in_Tree g153 d_Tree_choose_34 rfl rfl rfl rfl ?_
          refine e_top hT.1 ?_
          refine e_icmp_ge C d_Tree_choose_37 (tgt := 85) (by decide) (fun h37 => ?_) (fun h37 => ?_)
          · exact absurd h37 (nI_ge (by omega) (by omega))
          · have hml : (node + k) % P < P := Nat.mod_lt _ (by omega)
            refine e_iload_n C d_Tree_choose_40 rfl ?_
            refine e_iload C d_Tree_choose_41 rfl ?_
            refine e_iadd C d_Tree_choose_43 ?_
            refine e_top (nI_add _ _) ?_
            refine e_aload_n C d_Tree_choose_44 rfl ?_
            refine e_get C 21 (k := 1) in_Tree g153 d_Tree_choose_45 rfl rfl rfl rfl ?_
            refine e_top hT.1 ?_
            refine e_iconst C d_Tree_choose_48 (v := 1) (by decide) ?_
            refine e_isub C d_Tree_choose_49 ?_
            refine e_iand C d_Tree_choose_50 ?_
            refine e_top (hand _ (by omega)) ?_
            refine e_istore C d_Tree_choose_51 rfl ?_
            refine e_iload C d_Tree_choose_53 rfl ?_
            refine e_aload_n C d_Tree_choose_55 rfl ?_
            refine e_getI C 21 (k := 0) in_Tree g126 g127 d_Tree_choose_56 rfl rfl rfl rfl ?_
            refine e_top h.2.1 ?_
            refine e_icmp_ge C d_Tree_choose_59 (tgt := 79) (by decide) (fun h59 => ?_) (fun h59 => ?_)
            · rw [nI_leI (by omega) (by omega)] at h59
              have hq : Q k = false := by rw [← hQ]; simp [show ¬ (node + k) % P < wd by omega]
              refine e_iinc C d_Tree_choose_79 rfl (nI_1 k) rfl ?_
              refine e_goto C d_Tree_choose_82 (tgt := 31) (by decide) ?_
              exact e_lv2 (ih (k + 1) (by omega) (by rw [← hf]; simp [fst1, hq])) rfl
            · rw [nI_leI (by omega) (by omega)] at h59
              have hlt := slot_lt (w := (node + k) % P) hs (show (node + k) % P < wd by omega)
              refine e_aload_n C d_Tree_choose_62 rfl ?_
              refine e_iload_n C d_Tree_choose_63 rfl ?_
              refine e_aload_n C d_Tree_choose_64 rfl ?_
              refine e_getI C 21 (k := 0) in_Tree g126 g127 d_Tree_choose_65 rfl rfl rfl rfl ?_
              refine e_imul C d_Tree_choose_68 ?_
              refine e_iload C d_Tree_choose_69 rfl ?_
              refine e_iadd C d_Tree_choose_71 ?_
              refine e_zald C 6 1 d_Tree_choose_72 rfl rfl (s * wd + (node + k) % P) (by rw [h.2.1, pk_mul, nI_add]) hlt (by omega) ?_
              refine e_if_ne C d_Tree_choose_73 (tgt := 79) (by decide) (fun h73 => ?_) (fun h73 => ?_)
              · have hl2 : lkd f wd s ((node + k) % P) = true := by simp [lkd]; exact h73
                have hq : Q k = false := by rw [← hQ]; simp [hl2]
                refine e_iinc C d_Tree_choose_79 rfl (nI_1 k) rfl ?_
                refine e_goto C d_Tree_choose_82 (tgt := 31) (by decide) ?_
                exact e_lv2 (ih (k + 1) (by omega) (by rw [← hf]; simp [fst1, hq])) rfl
              · have hl2 : lkd f wd s ((node + k) % P) = false := by simp [lkd]; exact h73
                have hq : Q k = true := by rw [← hQ]; simp [hl2]; omega
                refine e_iload C d_Tree_choose_76 rfl ?_
                exact e_iret C E d_Tree_choose_78 (Nat.le_refl _) (Nat.le_refl _) rfl ⟨by rw [← hf]; simp [fst1, hq, oI], rfl⟩
      exact e_lv2 (L2 P 0 (by omega) rfl) rfl
    intro m
    induction m with
    | zero =>
      intro node h1 h2 h3 hf
      have hf : node = _ := hf
      refine e_iload_n C d_Tree_choose_2 rfl ?_
      refine e_aload_n C d_Tree_choose_3 rfl ?_
      refine e_get C 21 (k := 1) in_Tree g153 d_Tree_choose_4 rfl rfl rfl rfl ?_
      refine e_top hT.1 ?_
      refine e_icmp_ge C d_Tree_choose_7 (tgt := 28) (by decide) (fun h7 => ?_) (fun h7 => ?_)
      · exact fin node (by omega) h2 hf
      · exact absurd (nI_le (by omega) (by omega)) h7
    | succ m ih =>
      intro node h1 h2 h3 hf
      refine e_iload_n C d_Tree_choose_2 rfl ?_
      refine e_aload_n C d_Tree_choose_3 rfl ?_
      refine e_get C 21 (k := 1) in_Tree g153 d_Tree_choose_4 rfl rfl rfl rfl ?_
      refine e_top hT.1 ?_
      refine e_icmp_ge C d_Tree_choose_7 (tgt := 28) (by decide) (fun h7 => ?_) (fun h7 => ?_)
      · rw [nI_leI (by omega) (by omega)] at h7
        exact fin node h7 h2 (by rw [← hf]; simp only [trC, if_neg (show ¬ node < P by omega)])
      · rw [nI_leI (by omega) (by omega)] at h7
        have hb := bitN_lt (f 22 s) node
        refine e_iconst C d_Tree_choose_10 (v := nI 2) (by decide) ?_
        refine e_iload_n C d_Tree_choose_11 rfl ?_
        refine e_imul C d_Tree_choose_12 ?_
        refine e_top (pk_mul _ _) ?_
        refine e_aload_n C d_Tree_choose_13 rfl ?_
        refine e_get C 21 (k := 2) in_Tree g154 d_Tree_choose_14 rfl rfl rfl rfl ?_
        refine e_iload_n C d_Tree_choose_17 rfl ?_
        refine e_iald C 22 0 d_Tree_choose_18 rfl rfl s rfl hs (by omega) ?_
        refine e_iload_n C d_Tree_choose_19 rfl ?_
        refine e_ishr C d_Tree_choose_20 ?_
        refine e_iconst C d_Tree_choose_21 (v := 1) (by decide) ?_
        refine e_iand C d_Tree_choose_22 ?_
        refine e_top (bitN_eq _ _) ?_
        refine e_iadd C d_Tree_choose_23 ?_
        refine e_top (nI_add _ _) ?_
        refine e_istore_n C d_Tree_choose_24 rfl ?_
        refine e_goto C d_Tree_choose_25 (tgt := 2) (by decide) ?_
        refine e_lv2 (ih (2 * node + bitN (f 22 s) node) ?_ (by omega) (by omega) ?_) rfl
        · calc P ≤ node * 2 ^ (m + 1) := h1
            _ = 2 * node * 2 ^ m := by rw [Nat.pow_succ]; ac_rfl
            _ ≤ (2 * node + bitN (f 22 s) node) * 2 ^ m := Nat.mul_le_mul_right _ (by omega)
        · rw [← hf]
          simp only [trC, if_pos (show node < P by omega)]
  exact e_lv2 (L 4 1 (by omega) (by omega) (Nat.le_refl _) rfl) rfl
end TreeRows
end
section
/-! RULE 7 -/
theorem ey_Lately_setMark : eY y_Lately_setMark 2 = true := by decide +kernel
theorem d_Lately_setMark_0 : decode c_Lately_setMark 0 = .ok (.iload_n 1, 1) := by decide +kernel
theorem d_Lately_setMark_1 : decode c_Lately_setMark 1 = .ok (.aload_n 0, 1) := by decide +kernel
theorem d_Lately_setMark_2 : decode c_Lately_setMark 2 = .ok (.getfield 15, 3) := by decide +kernel
theorem d_Lately_setMark_5 : decode c_Lately_setMark 5 = .ok (.imul, 1) := by decide +kernel
theorem d_Lately_setMark_6 : decode c_Lately_setMark 6 = .ok (.istore_n 3, 1) := by decide +kernel
theorem d_Lately_setMark_7 : decode c_Lately_setMark 7 = .ok (.aload_n 0, 1) := by decide +kernel
theorem d_Lately_setMark_8 : decode c_Lately_setMark 8 = .ok (.getfield 9, 3) := by decide +kernel
theorem d_Lately_setMark_11 : decode c_Lately_setMark 11 = .ok (.iload_n 3, 1) := by decide +kernel
theorem d_Lately_setMark_12 : decode c_Lately_setMark 12 = .ok (.iload_n 2, 1) := by decide +kernel
theorem d_Lately_setMark_13 : decode c_Lately_setMark 13 = .ok (.iadd, 1) := by decide +kernel
theorem d_Lately_setMark_14 : decode c_Lately_setMark 14 = .ok (.iconst 1, 1) := by decide +kernel
theorem d_Lately_setMark_15 : decode c_Lately_setMark 15 = .ok (.bastore, 1) := by decide +kernel
theorem d_Lately_setMark_16 : decode c_Lately_setMark 16 = .ok (.iload_n 3, 1) := by decide +kernel
theorem d_Lately_setMark_17 : decode c_Lately_setMark 17 = .ok (.istore 4, 2) := by decide +kernel
theorem d_Lately_setMark_19 : decode c_Lately_setMark 19 = .ok (.iload 4, 2) := by decide +kernel
theorem d_Lately_setMark_21 : decode c_Lately_setMark 21 = .ok (.iload_n 3, 1) := by decide +kernel
theorem d_Lately_setMark_22 : decode c_Lately_setMark 22 = .ok (.aload_n 0, 1) := by decide +kernel
theorem d_Lately_setMark_23 : decode c_Lately_setMark 23 = .ok (.getfield 15, 3) := by decide +kernel
theorem d_Lately_setMark_26 : decode c_Lately_setMark 26 = .ok (.iadd, 1) := by decide +kernel
theorem d_Lately_setMark_27 : decode c_Lately_setMark 27 = .ok (.if_icmp .ge 20, 3) := by decide +kernel
theorem d_Lately_setMark_30 : decode c_Lately_setMark 30 = .ok (.aload_n 0, 1) := by decide +kernel
theorem d_Lately_setMark_31 : decode c_Lately_setMark 31 = .ok (.getfield 9, 3) := by decide +kernel
theorem d_Lately_setMark_34 : decode c_Lately_setMark 34 = .ok (.iload 4, 2) := by decide +kernel
theorem d_Lately_setMark_36 : decode c_Lately_setMark 36 = .ok (.baload, 1) := by decide +kernel
theorem d_Lately_setMark_37 : decode c_Lately_setMark 37 = .ok (.ifCond .ne 4, 3) := by decide +kernel
theorem d_Lately_setMark_40 : decode c_Lately_setMark 40 = .ok (.return_, 1) := by decide +kernel
theorem d_Lately_setMark_41 : decode c_Lately_setMark 41 = .ok (.iinc 4 1, 3) := by decide +kernel
theorem d_Lately_setMark_44 : decode c_Lately_setMark 44 = .ok (.goto (-25), 3) := by decide +kernel
theorem d_Lately_setMark_47 : decode c_Lately_setMark 47 = .ok (.iload_n 3, 1) := by decide +kernel
theorem d_Lately_setMark_48 : decode c_Lately_setMark 48 = .ok (.istore 4, 2) := by decide +kernel
theorem d_Lately_setMark_50 : decode c_Lately_setMark 50 = .ok (.iload 4, 2) := by decide +kernel
theorem d_Lately_setMark_52 : decode c_Lately_setMark 52 = .ok (.iload_n 3, 1) := by decide +kernel
theorem d_Lately_setMark_53 : decode c_Lately_setMark 53 = .ok (.aload_n 0, 1) := by decide +kernel
theorem d_Lately_setMark_54 : decode c_Lately_setMark 54 = .ok (.getfield 15, 3) := by decide +kernel
theorem d_Lately_setMark_57 : decode c_Lately_setMark 57 = .ok (.iadd, 1) := by decide +kernel
theorem d_Lately_setMark_58 : decode c_Lately_setMark 58 = .ok (.if_icmp .ge 29, 3) := by decide +kernel
theorem d_Lately_setMark_61 : decode c_Lately_setMark 61 = .ok (.aload_n 0, 1) := by decide +kernel
theorem d_Lately_setMark_62 : decode c_Lately_setMark 62 = .ok (.getfield 9, 3) := by decide +kernel
theorem d_Lately_setMark_65 : decode c_Lately_setMark 65 = .ok (.iload 4, 2) := by decide +kernel
theorem d_Lately_setMark_67 : decode c_Lately_setMark 67 = .ok (.iload 4, 2) := by decide +kernel
theorem d_Lately_setMark_69 : decode c_Lately_setMark 69 = .ok (.iload_n 3, 1) := by decide +kernel
theorem d_Lately_setMark_70 : decode c_Lately_setMark 70 = .ok (.iload_n 2, 1) := by decide +kernel
theorem d_Lately_setMark_71 : decode c_Lately_setMark 71 = .ok (.iadd, 1) := by decide +kernel
theorem d_Lately_setMark_72 : decode c_Lately_setMark 72 = .ok (.if_icmp .ne 7, 3) := by decide +kernel
theorem d_Lately_setMark_75 : decode c_Lately_setMark 75 = .ok (.iconst 1, 1) := by decide +kernel
theorem d_Lately_setMark_76 : decode c_Lately_setMark 76 = .ok (.goto 4, 3) := by decide +kernel
theorem d_Lately_setMark_79 : decode c_Lately_setMark 79 = .ok (.iconst 0, 1) := by decide +kernel
theorem d_Lately_setMark_80 : decode c_Lately_setMark 80 = .ok (.bastore, 1) := by decide +kernel
theorem d_Lately_setMark_81 : decode c_Lately_setMark 81 = .ok (.iinc 4 1, 3) := by decide +kernel
theorem d_Lately_setMark_84 : decode c_Lately_setMark 84 = .ok (.goto (-34), 3) := by decide +kernel
theorem d_Lately_setMark_87 : decode c_Lately_setMark 87 = .ok (.return_, 1) := by decide +kernel
theorem ey_Lately_use : eY y_Lately_use 2 = true := by decide +kernel
theorem d_Lately_use_0 : decode c_Lately_use 0 = .ok (.aload_n 0, 1) := by decide +kernel
theorem d_Lately_use_1 : decode c_Lately_use 1 = .ok (.iload_n 1, 1) := by decide +kernel
theorem d_Lately_use_2 : decode c_Lately_use 2 = .ok (.iload_n 2, 1) := by decide +kernel
theorem d_Lately_use_3 : decode c_Lately_use 3 = .ok (.invokevirtual 19, 3) := by decide +kernel
theorem d_Lately_use_6 : decode c_Lately_use 6 = .ok (.return_, 1) := by decide +kernel
theorem ey_Lately_come : eY y_Lately_come 2 = true := by decide +kernel
theorem d_Lately_come_0 : decode c_Lately_come 0 = .ok (.aload_n 0, 1) := by decide +kernel
theorem d_Lately_come_1 : decode c_Lately_come 1 = .ok (.iload_n 1, 1) := by decide +kernel
theorem d_Lately_come_2 : decode c_Lately_come 2 = .ok (.iload_n 2, 1) := by decide +kernel
theorem d_Lately_come_3 : decode c_Lately_come 3 = .ok (.invokevirtual 19, 3) := by decide +kernel
theorem d_Lately_come_6 : decode c_Lately_come 6 = .ok (.return_, 1) := by decide +kernel
theorem ey_Lately_choose : eY y_Lately_choose 2 = true := by decide +kernel
theorem d_Lately_choose_0 : decode c_Lately_choose 0 = .ok (.iconst (-1), 1) := by decide +kernel
theorem d_Lately_choose_1 : decode c_Lately_choose 1 = .ok (.istore_n 3, 1) := by decide +kernel
theorem d_Lately_choose_2 : decode c_Lately_choose 2 = .ok (.iconst 0, 1) := by decide +kernel
theorem d_Lately_choose_3 : decode c_Lately_choose 3 = .ok (.istore 4, 2) := by decide +kernel
theorem d_Lately_choose_5 : decode c_Lately_choose 5 = .ok (.iload 4, 2) := by decide +kernel
theorem d_Lately_choose_7 : decode c_Lately_choose 7 = .ok (.aload_n 0, 1) := by decide +kernel
theorem d_Lately_choose_8 : decode c_Lately_choose 8 = .ok (.getfield 15, 3) := by decide +kernel
theorem d_Lately_choose_11 : decode c_Lately_choose 11 = .ok (.if_icmp .ge 51, 3) := by decide +kernel
theorem d_Lately_choose_14 : decode c_Lately_choose 14 = .ok (.aload_n 2, 1) := by decide +kernel
theorem d_Lately_choose_15 : decode c_Lately_choose 15 = .ok (.iload_n 1, 1) := by decide +kernel
theorem d_Lately_choose_16 : decode c_Lately_choose 16 = .ok (.aload_n 0, 1) := by decide +kernel
theorem d_Lately_choose_17 : decode c_Lately_choose 17 = .ok (.getfield 15, 3) := by decide +kernel
theorem d_Lately_choose_20 : decode c_Lately_choose 20 = .ok (.imul, 1) := by decide +kernel
theorem d_Lately_choose_21 : decode c_Lately_choose 21 = .ok (.iload 4, 2) := by decide +kernel
theorem d_Lately_choose_23 : decode c_Lately_choose 23 = .ok (.iadd, 1) := by decide +kernel
theorem d_Lately_choose_24 : decode c_Lately_choose 24 = .ok (.baload, 1) := by decide +kernel
theorem d_Lately_choose_25 : decode c_Lately_choose 25 = .ok (.ifCond .ne 31, 3) := by decide +kernel
theorem d_Lately_choose_28 : decode c_Lately_choose 28 = .ok (.aload_n 0, 1) := by decide +kernel
theorem d_Lately_choose_29 : decode c_Lately_choose 29 = .ok (.getfield 9, 3) := by decide +kernel
theorem d_Lately_choose_32 : decode c_Lately_choose 32 = .ok (.iload_n 1, 1) := by decide +kernel
theorem d_Lately_choose_33 : decode c_Lately_choose 33 = .ok (.aload_n 0, 1) := by decide +kernel
theorem d_Lately_choose_34 : decode c_Lately_choose 34 = .ok (.getfield 15, 3) := by decide +kernel
theorem d_Lately_choose_37 : decode c_Lately_choose 37 = .ok (.imul, 1) := by decide +kernel
theorem d_Lately_choose_38 : decode c_Lately_choose 38 = .ok (.iload 4, 2) := by decide +kernel
theorem d_Lately_choose_40 : decode c_Lately_choose 40 = .ok (.iadd, 1) := by decide +kernel
theorem d_Lately_choose_41 : decode c_Lately_choose 41 = .ok (.baload, 1) := by decide +kernel
theorem d_Lately_choose_42 : decode c_Lately_choose 42 = .ok (.ifCond .ne 6, 3) := by decide +kernel
theorem d_Lately_choose_45 : decode c_Lately_choose 45 = .ok (.iload 4, 2) := by decide +kernel
theorem d_Lately_choose_47 : decode c_Lately_choose 47 = .ok (.ireturn, 1) := by decide +kernel
theorem d_Lately_choose_48 : decode c_Lately_choose 48 = .ok (.iload_n 3, 1) := by decide +kernel
theorem d_Lately_choose_49 : decode c_Lately_choose 49 = .ok (.iconst (-1), 1) := by decide +kernel
theorem d_Lately_choose_50 : decode c_Lately_choose 50 = .ok (.if_icmp .ne 6, 3) := by decide +kernel
theorem d_Lately_choose_53 : decode c_Lately_choose 53 = .ok (.iload 4, 2) := by decide +kernel
theorem d_Lately_choose_55 : decode c_Lately_choose 55 = .ok (.istore_n 3, 1) := by decide +kernel
theorem d_Lately_choose_56 : decode c_Lately_choose 56 = .ok (.iinc 4 1, 3) := by decide +kernel
theorem d_Lately_choose_59 : decode c_Lately_choose 59 = .ok (.goto (-54), 3) := by decide +kernel
theorem d_Lately_choose_62 : decode c_Lately_choose 62 = .ok (.iload_n 3, 1) := by decide +kernel
theorem d_Lately_choose_63 : decode c_Lately_choose 63 = .ok (.ireturn, 1) := by decide +kernel
theorem ey_Lately_settle : eY y_Lately_settle 3 = true := by decide +kernel
theorem d_Lately_settle_0 : decode c_Lately_settle 0 = .ok (.return_, 1) := by decide +kernel
abbrev wL (G : EG) (a : Nat → Nat) (v : Nat → Int32) (f : Nat → Nat → Int32) (n V : Nat) : va_W := cF G a v f n V (rLately G a v f n)
/-- from lo up to hi only c has a mark -/
def onl (g : Nat → Int32) (c lo hi : Nat) : Nat → Int32 := fun j => if lo ≤ j ∧ j < hi then (if j = c then 1 else 0) else g j
theorem onl_0 (g : Nat → Int32) (c lo : Nat) : onl g c lo lo = g := by
  funext j
  unfold onl
  rw [if_neg (by omega)]
theorem onl_s {g : Nat → Int32} {c lo k : Nat} (h : lo ≤ k) : onl g c lo (k + 1) = upd (onl g c lo k) k (if k = c then 1 else 0) := by
  funext j
  by_cases hj : j = k
  · subst hj
    rw [pk_us]
    unfold onl
    rw [if_pos (by omega)]
  · rw [pk_un hj]
    unfold onl
    by_cases h2 : lo ≤ j ∧ j < k
    · rw [if_pos (by omega), if_pos h2]
    · rw [if_neg (by omega), if_neg h2]
/-- a mark set -/
def ltM (g : Nat → Int32) (b0 wd w : Nat) : Nat → Int32 := if (fst1 (fun j => upd g (b0 + w) 1 j == 0) b0 wd).isSome then upd g (b0 + w) 1 else onl (upd g (b0 + w) 1) (b0 + w) b0 (b0 + wd)
section LatelyRows
variable {l : Launch} {G : EG} {a : Nat → Nat} {v : Nat → Int32} {f : Nat → Nat → Int32} {V S wd s w : Nat}
set_option maxRecDepth 100000 in
theorem k_Lately_setMark (h : CD v S wd) (hs : s < S) (hw : w < wd) : Con l G y_Lately_setMark c_Lately_setMark 5 none (rz 0 0) [.ref (a 21), .int (nI s), .int (nI w)] (wL G a v f (S * wd) V) (DV (wL G a v (up2 f 22 (ltM (f 22) (s * wd) wd w)) (S * wd) V)) := by
  refine Con.of rfl rfl (fun X C E hR hl hn => ?_)
  have hn1 := h.n128
  have hw8 := h.2.2.2.2
  have hlt := slot_lt hs hw
  have hle : s * wd + wd ≤ S * wd := by
    have := slot_lt (w := wd - 1) hs (show wd - 1 < wd by omega)
    omega
  unfold ltM at E
  refine e_iload_n C d_Lately_setMark_0 rfl ?_
  refine e_aload_n C d_Lately_setMark_1 rfl ?_
  refine e_getI C 21 (k := 0) in_Lately g116 g117 d_Lately_setMark_2 rfl rfl rfl rfl ?_
  refine e_imul C d_Lately_setMark_5 ?_
  refine e_top (y := nI (s * wd)) (by rw [h.2.1, pk_mul]) ?_
  refine e_istore_n C d_Lately_setMark_6 rfl ?_
  refine e_aload_n C d_Lately_setMark_7 rfl ?_
  refine e_get C 21 (k := 1) in_Lately g167 d_Lately_setMark_8 rfl rfl rfl rfl ?_
  refine e_iload_n C d_Lately_setMark_11 rfl ?_
  refine e_iload_n C d_Lately_setMark_12 rfl ?_
  refine e_iadd C d_Lately_setMark_13 ?_
  refine e_iconst C d_Lately_setMark_14 (v := 1) (by decide) ?_
  refine e_zast C 22 1 d_Lately_setMark_15 rfl rfl (s * wd + w) (nI_add _ _) hlt (by omega) rfl ?_
  refine e_iload_n C d_Lately_setMark_16 rfl ?_
  refine e_istore C d_Lately_setMark_17 rfl ?_
  generalize hb : s * wd = b0 at hlt hle E ⊢
  generalize hg : upd (f 22) (b0 + w) 1 = g at E ⊢
  refine e_eq (ws' := wL G a v (up2 f 22 g) (S * wd) V) (by rw [← hg]; rfl) ?_
  have L : ∀ m k : Nat, k + m = b0 + wd → b0 ≤ k → fst1 (fun j => g j == 0) k m = fst1 (fun j => g j == 0) b0 wd → EW X G 5 0 0 19 [(0, .ref (a 21)), (1, .int (nI s)), (2, .int (nI w)), (3, .int (nI b0)), (4, .int (nI k))] [] (wL G a v (up2 f 22 g) (S * wd) V) := by
    intro m
    induction m with
    | zero =>
      intro k hk hk2 hf
      rw [show (fst1 (fun j => g j == 0) b0 wd).isSome = false by rw [← hf]; rfl, if_neg (by decide)] at E
      refine e_iload C d_Lately_setMark_19 rfl ?_
      refine e_iload_n C d_Lately_setMark_21 rfl ?_
      refine e_aload_n C d_Lately_setMark_22 rfl ?_
      refine e_getI C 21 (k := 0) in_Lately g116 g117 d_Lately_setMark_23 rfl rfl rfl rfl ?_
      refine e_top (show _ = nI wd from h.2.1) ?_
      refine e_iadd C d_Lately_setMark_26 ?_
      refine e_top (nI_add _ _) ?_
      refine e_icmp_ge C d_Lately_setMark_27 (tgt := 47) (by decide) (fun h27 => ?_) (fun h27 => ?_)
      · skip
        refine e_iload_n C d_Lately_setMark_47 rfl ?_
        refine e_istore C d_Lately_setMark_48 rfl ?_
        have L2 : ∀ m k : Nat, k + m = b0 + wd → b0 ≤ k → EW X G 5 0 0 50 [(0, .ref (a 21)), (1, .int (nI s)), (2, .int (nI w)), (3, .int (nI b0)), (4, .int (nI k))] [] (wL G a v (up2 f 22 (onl g (b0 + w) b0 k)) (S * wd) V) := by
          intro m
          induction m with
          | zero =>
            intro k hk hk2
            obtain rfl : k = b0 + wd := by omega
            refine e_iload C d_Lately_setMark_50 rfl ?_
            refine e_iload_n C d_Lately_setMark_52 rfl ?_
            refine e_aload_n C d_Lately_setMark_53 rfl ?_
            refine e_getI C 21 (k := 0) in_Lately g116 g117 d_Lately_setMark_54 rfl rfl rfl rfl ?_
            refine e_top (show _ = nI wd from h.2.1) ?_
            refine e_iadd C d_Lately_setMark_57 ?_
            refine e_top (nI_add _ _) ?_
            refine e_icmp_ge C d_Lately_setMark_58 (tgt := 87) (by decide) (fun h58 => ?_) (fun h58 => ?_)
            · skip
              exact e_vret C E d_Lately_setMark_87 (Nat.le_refl _) (Nat.le_refl _) ⟨rfl, rfl⟩
            · exact absurd (nI_le (Nat.le_refl _) (by omega)) h58
          | succ m ih =>
            intro k hk hk2
            have ih := ih (k + 1) (by omega) (by omega)
            rw [onl_s hk2] at ih
            refine e_iload C d_Lately_setMark_50 rfl ?_
            refine e_iload_n C d_Lately_setMark_52 rfl ?_
            refine e_aload_n C d_Lately_setMark_53 rfl ?_
            refine e_getI C 21 (k := 0) in_Lately g116 g117 d_Lately_setMark_54 rfl rfl rfl rfl ?_
            refine e_top (show _ = nI wd from h.2.1) ?_
            refine e_iadd C d_Lately_setMark_57 ?_
            refine e_top (nI_add _ _) ?_
            refine e_icmp_ge C d_Lately_setMark_58 (tgt := 87) (by decide) (fun h58 => ?_) (fun h58 => ?_)
            · exact absurd h58 (nI_ge (by omega) (by omega))
            · skip
              refine e_aload_n C d_Lately_setMark_61 rfl ?_
              refine e_get C 21 (k := 1) in_Lately g167 d_Lately_setMark_62 rfl rfl rfl rfl ?_
              refine e_iload C d_Lately_setMark_65 rfl ?_
              refine e_iload C d_Lately_setMark_67 rfl ?_
              refine e_iload_n C d_Lately_setMark_69 rfl ?_
              refine e_iload_n C d_Lately_setMark_70 rfl ?_
              refine e_iadd C d_Lately_setMark_71 ?_
              refine e_top (nI_add _ _) ?_
              refine e_icmp_ne C d_Lately_setMark_72 (tgt := 79) (by decide) (fun h72 => ?_) (fun h72 => ?_)
              · rw [nI_eq (by omega) (by omega)] at h72
                rw [if_neg h72] at ih
                refine e_iconst C d_Lately_setMark_79 (v := 0) (by decide) ?_
                refine e_zast C 22 1 d_Lately_setMark_80 rfl rfl k rfl (by omega) (by omega) rfl ?_
                refine e_iinc C d_Lately_setMark_81 rfl (nI_1 k) rfl ?_
                refine e_goto C d_Lately_setMark_84 (tgt := 50) (by decide) ?_
                exact e_lv2 ih rfl
              · rw [nI_eq (by omega) (by omega)] at h72
                rw [if_pos h72] at ih
                refine e_iconst C d_Lately_setMark_75 (v := 1) (by decide) ?_
                refine e_goto C d_Lately_setMark_76 (tgt := 80) (by decide) ?_
                refine e_zast C 22 1 d_Lately_setMark_80 rfl rfl k rfl (by omega) (by omega) rfl ?_
                refine e_iinc C d_Lately_setMark_81 rfl (nI_1 k) rfl ?_
                refine e_goto C d_Lately_setMark_84 (tgt := 50) (by decide) ?_
                exact e_lv2 ih rfl
        refine e_eq (ws' := wL G a v (up2 f 22 (onl g (b0 + w) b0 b0)) (S * wd) V) (by rw [onl_0]) ?_
        exact e_lv2 (L2 wd b0 rfl (Nat.le_refl _)) rfl
      · exact absurd (by rw [← hk]; exact nI_le (Nat.le_refl _) (by omega)) h27
    | succ m ih =>
      intro k hk hk2 hf
      refine e_iload C d_Lately_setMark_19 rfl ?_
      refine e_iload_n C d_Lately_setMark_21 rfl ?_
      refine e_aload_n C d_Lately_setMark_22 rfl ?_
      refine e_getI C 21 (k := 0) in_Lately g116 g117 d_Lately_setMark_23 rfl rfl rfl rfl ?_
      refine e_top (show _ = nI wd from h.2.1) ?_
      refine e_iadd C d_Lately_setMark_26 ?_
      refine e_top (nI_add _ _) ?_
      refine e_icmp_ge C d_Lately_setMark_27 (tgt := 47) (by decide) (fun h27 => ?_) (fun h27 => ?_)
      · exact absurd h27 (nI_ge (by omega) (by omega))
      · skip
        refine e_aload_n C d_Lately_setMark_30 rfl ?_
        refine e_get C 21 (k := 1) in_Lately g167 d_Lately_setMark_31 rfl rfl rfl rfl ?_
        refine e_iload C d_Lately_setMark_34 rfl ?_
        refine e_zald C 22 1 d_Lately_setMark_36 rfl rfl k rfl (by omega) (by omega) ?_
        refine e_if_ne C d_Lately_setMark_37 (tgt := 41) (by decide) (fun h37 => ?_) (fun h37 => ?_)
        · have hh : (g k == 0) = false := by simp; exact h37
          refine e_iinc C d_Lately_setMark_41 rfl (nI_1 k) rfl ?_
          refine e_goto C d_Lately_setMark_44 (tgt := 19) (by decide) ?_
          exact e_lv2 (ih (k + 1) (by omega) (by omega) (by rw [← hf]; simp only [fst1, hh, if_neg (show ¬ (false : Bool) = true by decide)])) rfl
        · have hh : (g k == 0) = true := by simp; exact h37
          rw [show (fst1 (fun j => g j == 0) b0 wd).isSome = true by rw [← hf]; simp only [fst1, hh, if_true, Option.isSome], if_pos rfl] at E
          exact e_vret C E d_Lately_setMark_40 (Nat.le_refl _) (Nat.le_refl _) ⟨rfl, rfl⟩
  exact e_lv2 (L wd b0 rfl (Nat.le_refl _) rfl) rfl
theorem k_Lately_use (h : CD v S wd) (hs : s < S) (hw : w < wd) : Con l G y_Lately_use c_Lately_use 3 none (rz 1 24) [.ref (a 21), .int (nI s), .int (nI w)] (wL G a v f (S * wd) V) (DV (wL G a v (up2 f 22 (ltM (f 22) (s * wd) wd w)) (S * wd) V)) := by
  refine Con.of rfl rfl (fun X C E hR hl hn => ?_)
  refine e_aload_n C d_Lately_use_0 rfl ?_
  refine e_iload_n C d_Lately_use_1 rfl ?_
  refine e_iload_n C d_Lately_use_2 rfl ?_
  refine e_cVv C hR 21 (k_Lately_setMark h hs hw) g485 g9 g482 g484 (gt_sel 4 (by decide +kernel) (by decide +kernel)) d_Lately_use_3 rfl ey_Lately_setMark rfl rfl rfl rfl ⟨Nat.zero_le _, Nat.zero_le _⟩ ?_
  exact e_vret C E d_Lately_use_6 (Nat.le_refl _) (Nat.le_refl _) ⟨rfl, rfl⟩
theorem k_Lately_come (h : CD v S wd) (hs : s < S) (hw : w < wd) : Con l G y_Lately_come c_Lately_come 3 none (rz 1 24) [.ref (a 21), .int (nI s), .int (nI w)] (wL G a v f (S * wd) V) (DV (wL G a v (up2 f 22 (ltM (f 22) (s * wd) wd w)) (S * wd) V)) := by
  refine Con.of rfl rfl (fun X C E hR hl hn => ?_)
  refine e_aload_n C d_Lately_come_0 rfl ?_
  refine e_iload_n C d_Lately_come_1 rfl ?_
  refine e_iload_n C d_Lately_come_2 rfl ?_
  refine e_cVv C hR 21 (k_Lately_setMark h hs hw) g485 g9 g482 g484 (gt_sel 4 (by decide +kernel) (by decide +kernel)) d_Lately_come_3 rfl ey_Lately_setMark rfl rfl rfl rfl ⟨Nat.zero_le _, Nat.zero_le _⟩ ?_
  exact e_vret C E d_Lately_come_6 (Nat.le_refl _) (Nat.le_refl _) ⟨rfl, rfl⟩
theorem k_Lately_settle (x y : Int32) : Con l G y_Lately_settle c_Lately_settle 4 none (rz 0 0) [.ref (a 21), .int x, .int y, .ref (a 6)] (wL G a v f (S * wd) V) (DV (wL G a v f (S * wd) V)) := by
  refine Con.of rfl rfl (fun X C E hR hl hn => ?_)
  exact e_vret C E d_Lately_settle_0 (Nat.le_refl _) (Nat.le_refl _) ⟨rfl, rfl⟩
set_option maxRecDepth 100000 in
theorem k_Lately_choose (h : CD v S wd) (hs : s < S) : Con l G y_Lately_choose c_Lately_choose 5 (some .int) (rz 0 0) [.ref (a 21), .int (nI s), .ref (a 6)] (wL G a v f (S * wd) V) (DI (oI (rndC (lkd f wd s) (mkd f wd s) (fun k => k) none 0 wd)) (wL G a v f (S * wd) V)) := by
  refine Con.of rfl rfl (fun X C E hR hl hn => ?_)
  have hn1 := h.n128
  have hw8 := h.2.2.2.2
  refine e_iconst C d_Lately_choose_0 (v := (-1)) (by decide) ?_
  refine e_istore_n C d_Lately_choose_1 rfl ?_
  refine e_iconst C d_Lately_choose_2 (v := 0) (by decide) ?_
  refine e_istore C d_Lately_choose_3 rfl ?_
  have L : ∀ (m k : Nat) (b : Option Nat), k + m = wd → (∀ j, b = some j → j < wd) → rndC (lkd f wd s) (mkd f wd s) (fun k => k) b k m = rndC (lkd f wd s) (mkd f wd s) (fun k => k) none 0 wd → EW X G 5 0 0 5 [(0, .ref (a 21)), (1, .int (nI s)), (2, .ref (a 6)), (3, .int (oI b)), (4, .int (nI k))] [] (wL G a v f (S * wd) V) := by
    intro m
    induction m with
    | zero =>
      intro k b hk hb hf
      refine e_iload C d_Lately_choose_5 rfl ?_
      refine e_aload_n C d_Lately_choose_7 rfl ?_
      refine e_getI C 21 (k := 0) in_Lately g116 g117 d_Lately_choose_8 rfl rfl rfl rfl ?_
      refine e_top h.2.1 ?_
      refine e_icmp_ge C d_Lately_choose_11 (tgt := 62) (by decide) (fun h11 => ?_) (fun h11 => ?_)
      · skip
        refine e_iload_n C d_Lately_choose_62 rfl ?_
        exact e_iret C E d_Lately_choose_63 (Nat.le_refl _) (Nat.le_refl _) rfl ⟨by rw [← hf]; rfl, rfl⟩
      · exact absurd (nI_le (by omega) (by omega)) h11
    | succ m ih =>
      intro k b hk hb hf
      have hlt := slot_lt (w := k) hs (show k < wd by omega)
      refine e_iload C d_Lately_choose_5 rfl ?_
      refine e_aload_n C d_Lately_choose_7 rfl ?_
      refine e_getI C 21 (k := 0) in_Lately g116 g117 d_Lately_choose_8 rfl rfl rfl rfl ?_
      refine e_top h.2.1 ?_
      refine e_icmp_ge C d_Lately_choose_11 (tgt := 62) (by decide) (fun h11 => ?_) (fun h11 => ?_)
      · exact absurd h11 (nI_ge (by omega) (by omega))
      · skip
        refine e_aload_n C d_Lately_choose_14 rfl ?_
        refine e_iload_n C d_Lately_choose_15 rfl ?_
        refine e_aload_n C d_Lately_choose_16 rfl ?_
        refine e_getI C 21 (k := 0) in_Lately g116 g117 d_Lately_choose_17 rfl rfl rfl rfl ?_
        refine e_imul C d_Lately_choose_20 ?_
        refine e_iload C d_Lately_choose_21 rfl ?_
        refine e_iadd C d_Lately_choose_23 ?_
        refine e_zald C 6 1 d_Lately_choose_24 rfl rfl (s * wd + k) (by rw [h.2.1, pk_mul, nI_add]) hlt (by omega) ?_
        refine e_if_ne C d_Lately_choose_25 (tgt := 56) (by decide) (fun h25 => ?_) (fun h25 => ?_)
        · have hl2 : lkd f wd s k = true := by simp [lkd]; exact h25
          refine e_iinc C d_Lately_choose_56 rfl (nI_1 k) rfl ?_
          refine e_goto C d_Lately_choose_59 (tgt := 5) (by decide) ?_
          exact e_lv2 (ih (k + 1) b (by omega) hb (by rw [← hf]; simp [rndC, hl2])) rfl
        · have hl2 : lkd f wd s k = false := by simp [lkd]; exact h25
          refine e_aload_n C d_Lately_choose_28 rfl ?_
          refine e_get C 21 (k := 1) in_Lately g167 d_Lately_choose_29 rfl rfl rfl rfl ?_
          refine e_iload_n C d_Lately_choose_32 rfl ?_
          refine e_aload_n C d_Lately_choose_33 rfl ?_
          refine e_getI C 21 (k := 0) in_Lately g116 g117 d_Lately_choose_34 rfl rfl rfl rfl ?_
          refine e_imul C d_Lately_choose_37 ?_
          refine e_iload C d_Lately_choose_38 rfl ?_
          refine e_iadd C d_Lately_choose_40 ?_
          refine e_zald C 22 1 d_Lately_choose_41 rfl rfl (s * wd + k) (by rw [h.2.1, pk_mul, nI_add]) hlt (by omega) ?_
          refine e_if_ne C d_Lately_choose_42 (tgt := 48) (by decide) (fun h42 => ?_) (fun h42 => ?_)
          · have hm2 : mkd f wd s k = true := by simp [mkd]; exact h42
            refine e_iload_n C d_Lately_choose_48 rfl ?_
            refine e_iconst C d_Lately_choose_49 (v := (-1)) (by decide) ?_
            refine e_icmp_ne C d_Lately_choose_50 (tgt := 56) (by decide) (fun h50 => ?_) (fun h50 => ?_)
            · cases b with
              | none => exact absurd rfl h50
              | some j =>
                refine e_iinc C d_Lately_choose_56 rfl (nI_1 k) rfl ?_
                refine e_goto C d_Lately_choose_59 (tgt := 5) (by decide) ?_
                exact e_lv2 (ih (k + 1) (some j) (by omega) hb (by rw [← hf]; simp [rndC, hl2, hm2])) rfl
            · cases b with
              | some j => exact absurd h50 (by rw [oI_n1 (fun k hk => by have := hb k hk; omega)]; simp)
              | none =>
                refine e_iload C d_Lately_choose_53 rfl ?_
                refine e_istore_n C d_Lately_choose_55 rfl ?_
                refine e_iinc C d_Lately_choose_56 rfl (nI_1 k) rfl ?_
                refine e_goto C d_Lately_choose_59 (tgt := 5) (by decide) ?_
                exact e_lv2 (ih (k + 1) (some k) (by omega) (fun j hj => by cases hj; omega) (by rw [← hf]; simp [rndC, hl2, hm2])) rfl
          · have hm2 : mkd f wd s k = false := by simp [mkd]; exact h42
            refine e_iload C d_Lately_choose_45 rfl ?_
            exact e_iret C E d_Lately_choose_47 (Nat.le_refl _) (Nat.le_refl _) rfl ⟨by rw [← hf]; simp [rndC, hl2, hm2, oI], rfl⟩
  exact e_lv2 (L wd 0 none (by omega) (fun j hj => by cases hj) rfl) rfl
end LatelyRows
end
section
/-! THE RULES AS ONE: by the rule's number kd -/
section CallU
variable {X : EX} {G : EG} {own : String} {cc : ByteArray} {nL cells slots pc : Nat} {lv : List (Nat × Value)} {st : List Value} {B : Option Value → va_W → Prop}
theorem e_cU (C : EC X G own cc nL) {Rm : Room} (hX : X.R = Rm) {wc : va_W} {x y : MethodName} {fr lo : Nat} {As : List Value} {bytes : ByteArray} {maxL index b ci : Nat} (q0 : Nat) {ret : Option FieldType} {T : u_T} {N : Nat} {fs st0 : List Value}
    (hM : Con X.l G y bytes maxL ret (rz fr lo) (.ref b :: As) wc B) (hc : Cond.code y bytes maxL ret ∈ GT) (hi : Cond.initialized y.cls ∈ GT) (hl : Cond.methodLink own index x ∈ GT) (hsm : Cond.sameMethod x.cls x.cls x.name x.desc ∈ GT) (hde : x ∈ eDecl) (hin : Cond.instanceMethod y ∈ GT) (hse : Cond.selects y.cls x y ∈ GT) (hd : decode cc pc = .ok (.invokevirtual index, 3)) (hst : st0 = As.reverse ++ .ref b :: st) (hy : eY x As.length = true) (hR : eR (rz fr lo) Rm maxL = true) (he : wc[q0]? = some (b, ob ci fs)) (hk : KL[ci]? = some (y.cls, T, N)) (hs : Nat.ble (st.map fun v : Value => v.category).sum 8 = true) (hf : cells ≤ X.R.cells ∧ slots ≤ X.R.slots)
    (kk : ∀ (r : Option Value) (u : va_W), B r u → EW X G nL cells slots (pc + 3) lv (r.toList ++ st) u) : EW X G nL cells slots pc lv st0 wc := by
  subst hst
  have h := e_callU (wr := []) (cells := cells) (slots := slots) (lv := lv) C As q0 hM hc hi hl hsm hde hin hse hd hy (by rw [hX]; exact hR) hk he hs hf (fun r u hB => by rw [List.append_nil]; exact kk r u hB)
  rw [List.append_nil] at h
  exact h
end CallU
/-- numbers and arrays -/
abbrev CS : Type := (Nat → Int32) × (Nat → Nat → Int32)
def rW (G : EG) (a : Nat → Nat) (v : Nat → Int32) (f : Nat → Nat → Int32) (n S : Nat) : Nat → va_W
  | 3 => rChance a v
  | 5 => rRound G a v f n S
  | 6 => rTree G a v f S
  | 7 => rLately G a v f n
  | 8 => rAge G a v f n
  | _ => rTime G a v f n
/-- the class's world: the rule's cells stand last -/
abbrev wK (G : EG) (a : Nat → Nat) (c : CS) (S wd V kd : Nat) : va_W := cF G a c.1 c.2 (S * wd) V (rW G a c.1 c.2 (S * wd) S kd)
/-- leaves -/
def lvN (wd : Nat) : Nat := if wd ≤ 1 then 1 else if wd ≤ 2 then 2 else if wd ≤ 4 then 4 else 8
/-- what a rule keeps -/
def RI (S wd kd : Nat) (c : CS) : Prop := match kd with
  | 3 => ∃ x, x < 2 ^ 31 ∧ c.1 19 = nI x
  | 5 => ∀ s, s < S → ∃ h0, h0 < wd ∧ c.2 23 s = nI h0
  | 6 => c.1 16 = nI (lvN wd)
  | _ => True
def rUse (wd kd : Nat) (c : CS) (s w : Nat) : CS := match kd with
  | 3 => c
  | 5 => (c.1, up2 c.2 22 (upd (c.2 22) (s * wd + w) 1))
  | 6 => (c.1, up2 c.2 22 (upd (c.2 22) s (ptA 4 (lvN wd + w) (c.2 22 s))))
  | 7 => (c.1, up2 c.2 22 (ltM (c.2 22) (s * wd) wd w))
  | 8 => (c.1, up2 c.2 22 (upd (c.2 22) (s * wd + w) 0))
  | _ => (upd c.1 17 (c.1 17 + 1), up2 (up2 c.2 22 (upd (c.2 22) (s * wd + w) (c.1 17 + 1))) 24 (upd (c.2 24) (s * wd + w) (c.2 24 (s * wd + w) + 1)))
def rCome (wd kd : Nat) (c : CS) (s w : Nat) : CS := match kd with
  | 3 => c
  | 5 => (c.1, up2 c.2 22 (upd (c.2 22) (s * wd + w) 0))
  | 6 => (c.1, up2 c.2 22 (upd (c.2 22) s (ptA 4 (lvN wd + w) (c.2 22 s))))
  | 7 => (c.1, up2 c.2 22 (ltM (c.2 22) (s * wd) wd w))
  | 8 => (c.1, up2 c.2 22 (upd (c.2 22) (s * wd + w) 2))
  | _ => (upd (upd c.1 17 (c.1 17 + 1)) 18 (c.1 18 - 1), up2 (up2 (up2 c.2 22 (upd (c.2 22) (s * wd + w) (if c.1 16 = 9 then c.1 18 - 1 else c.1 17 + 1))) 23 (upd (c.2 23) (s * wd + w) (c.1 17 + 1))) 24 (upd (c.2 24) (s * wd + w) 0))
def rChoose (wd kd : Nat) (c : CS) (s : Nat) : Option Nat := match kd with
  | 3 => chC c.2 wd s (c.1 19).toNatClampNeg
  | 5 => rndC (lkd c.2 wd s) (mkd c.2 wd s) (wfh wd (c.2 23 s).toNatClampNeg) none 0 wd
  | 6 => trP c.2 wd s (lvN wd)
  | 7 => rndC (lkd c.2 wd s) (mkd c.2 wd s) (fun k => k) none 0 wd
  | 8 => pickB (lkd c.2 wd s) (fun x y => old c.2 (s * wd + x) (s * wd + y)) none 0 wd
  | _ => pickB (lkd c.2 wd s) (fun x y => gs (c.1 16) c.2 (s * wd + x) (s * wd + y)) none 0 wd
def rSettle (wd kd : Nat) (c : CS) (s w : Nat) : CS := match kd with
  | 3 => (upd c.1 19 ((1103515245 * c.1 19 + 12345) &&& 2147483647), c.2)
  | 5 => (c.1, up2 (up2 c.2 22 (rndS (lkd c.2 wd s) (wfh wd (c.2 23 s).toNatClampNeg) (mkd c.2 wd s w) w (s * wd) (c.2 22) 0 wd)) 23 (upd (c.2 23) s (nI (nxt wd w))))
  | 6 => c
  | 7 => c
  | 8 => (c.1, up2 c.2 22 (agd c.2 (3 - c.2 22 (s * wd + w)) (s * wd) (s * wd + wd)))
  | _ => c
theorem lvN_TD {v : Nat → Int32} {wd : Nat} (h : v 16 = nI (lvN wd)) (h1 : 1 ≤ wd) (h8 : wd ≤ 8) : TD v (lvN wd) wd := by
  refine ⟨h, ?_, ?_⟩
  · unfold lvN
    split
    · exact ⟨0, by decide, rfl⟩
    · split
      · exact ⟨1, by decide, rfl⟩
      · split
        · exact ⟨2, by decide, rfl⟩
        · exact ⟨3, by decide, rfl⟩
  · unfold lvN
    repeat' split
    all_goals omega
/-- what a call of the rule asks -/
def RC (S wd kd : Nat) (c : CS) : Prop := CD c.1 S wd ∧ RI S wd kd c ∧ kd < 10
theorem kd_cases {kd : Nat} (h : kd < 10) : kd = 3 ∨ kd = 5 ∨ kd = 6 ∨ kd = 7 ∨ kd = 8 ∨ kd = 0 ∨ kd = 1 ∨ kd = 2 ∨ kd = 4 ∨ kd = 9 := by omega
section RuleCalls
variable {X : EX} {G : EG} {cc : ByteArray} {nL cells slots pc S wd V kd s w : Nat} {lv : List (Nat × Value)} {st : List Value} {a : Nat → Nat} {c : CS}
theorem ey_Rule_use : eY ⟨"CacheRules$Rule", "use", "(II)V"⟩ 2 = true := by decide +kernel
set_option maxRecDepth 100000 in
theorem e_rule_use (C : EC X G "CacheRules" cc nL) {Rm : Room} (hX : X.R = Rm) (h : RC S wd kd c) (hs : s < S) (hw : w < wd) {index : Nat} (hl : Cond.methodLink "CacheRules" index ⟨"CacheRules$Rule", "use", "(II)V"⟩ ∈ GT) (hd : decode cc pc = .ok (.invokevirtual index, 3)) (hF : (Nat.ble 2 Rm.frames && Nat.ble 47 Rm.locals) = true) (hst : Nat.ble (st.map fun v : Value => v.category).sum 8 = true) (hf : cells ≤ X.R.cells ∧ slots ≤ X.R.slots)
    (kk : EW X G nL cells slots (pc + 3) lv st (wK G a (rUse wd kd c s w) S wd V kd)) : EW X G nL cells slots pc lv (.int (nI w) :: .int (nI s) :: .ref (a 21) :: st) (wK G a c S wd V kd) := by
  obtain ⟨hC, hI, hk⟩ := h
  have hw8 := hC.2.2.2.2
  rw [Bool.and_eq_true] at hF
  have hF1 := Nat.le_of_ble_eq_true hF.1
  have hF2 := Nat.le_of_ble_eq_true hF.2
  have hRm : ∀ (fr lo mL : Nat), fr ≤ 1 → 8 + (mL + 11) + lo ≤ 47 → eR (rz fr lo) Rm mL = true := by
    intro fr lo mL h1 h2
    simp only [eR, Bool.and_eq_true, Nat.ble_eq]
    exact ⟨by omega, by omega⟩
  rcases kd_cases hk with rfl | rfl | rfl | rfl | rfl | rfl | rfl | rfl | rfl | rfl
  · refine e_cU C hX 21 (k_Chance_use (v := c.1) (f := c.2) _ _) g478 g6 hl g472 (by decide) g477 g476 hd rfl ey_Rule_use (hRm 0 0 3 (by omega) (by omega)) rfl rfl hst hf (fun r u hB => ?_)
    obtain ⟨rfl, rfl⟩ := hB
    exact kk
  · refine e_cU C hX 21 (k_Round_use (v := c.1) (f := c.2) hC hs hw) g488 g7 hl g472 (by decide) g487 g486 hd rfl ey_Rule_use (hRm 0 0 3 (by omega) (by omega)) rfl rfl hst hf (fun r u hB => ?_)
    obtain ⟨rfl, rfl⟩ := hB
    exact kk
  · have hT := lvN_TD (v := c.1) hI hw8.1 hw8.2
    refine e_cU C hX 21 (k_Tree_use (v := c.1) (f := c.2) hC hT hs hw) g494 g8 hl g472 (by decide) g493 g492 hd rfl ey_Rule_use (hRm 1 25 3 (by omega) (by omega)) rfl rfl hst hf (fun r u hB => ?_)
    obtain ⟨rfl, rfl⟩ := hB
    exact kk
  · refine e_cU C hX 21 (k_Lately_use (v := c.1) (f := c.2) hC hs hw) g481 g9 hl g472 (by decide) g480 g479 hd rfl ey_Rule_use (hRm 1 24 3 (by omega) (by omega)) rfl rfl hst hf (fun r u hB => ?_)
    obtain ⟨rfl, rfl⟩ := hB
    exact kk
  · refine e_cU C hX 21 (k_Age_use (v := c.1) (f := c.2) hC hs hw) g475 g10 hl g472 (by decide) g474 g473 hd rfl ey_Rule_use (hRm 0 0 3 (by omega) (by omega)) rfl rfl hst hf (fun r u hB => ?_)
    obtain ⟨rfl, rfl⟩ := hB
    exact kk
  · refine e_cU C hX 21 (k_Time_use (v := c.1) (f := c.2) hC hs hw) g491 g11 hl g472 (by decide) g490 g489 hd rfl ey_Rule_use (hRm 0 0 4 (by omega) (by omega)) rfl rfl hst hf (fun r u hB => ?_)
    obtain ⟨rfl, rfl⟩ := hB
    exact kk
  · refine e_cU C hX 21 (k_Time_use (v := c.1) (f := c.2) hC hs hw) g491 g11 hl g472 (by decide) g490 g489 hd rfl ey_Rule_use (hRm 0 0 4 (by omega) (by omega)) rfl rfl hst hf (fun r u hB => ?_)
    obtain ⟨rfl, rfl⟩ := hB
    exact kk
  · refine e_cU C hX 21 (k_Time_use (v := c.1) (f := c.2) hC hs hw) g491 g11 hl g472 (by decide) g490 g489 hd rfl ey_Rule_use (hRm 0 0 4 (by omega) (by omega)) rfl rfl hst hf (fun r u hB => ?_)
    obtain ⟨rfl, rfl⟩ := hB
    exact kk
  · refine e_cU C hX 21 (k_Time_use (v := c.1) (f := c.2) hC hs hw) g491 g11 hl g472 (by decide) g490 g489 hd rfl ey_Rule_use (hRm 0 0 4 (by omega) (by omega)) rfl rfl hst hf (fun r u hB => ?_)
    obtain ⟨rfl, rfl⟩ := hB
    exact kk
  · refine e_cU C hX 21 (k_Time_use (v := c.1) (f := c.2) hC hs hw) g491 g11 hl g472 (by decide) g490 g489 hd rfl ey_Rule_use (hRm 0 0 4 (by omega) (by omega)) rfl rfl hst hf (fun r u hB => ?_)
    obtain ⟨rfl, rfl⟩ := hB
    exact kk
theorem ey_Rule_come : eY ⟨"CacheRules$Rule", "come", "(II)V"⟩ 2 = true := by decide +kernel
set_option maxRecDepth 100000 in
theorem e_rule_come (C : EC X G "CacheRules" cc nL) {Rm : Room} (hX : X.R = Rm) (h : RC S wd kd c) (hs : s < S) (hw : w < wd) {index : Nat} (hl : Cond.methodLink "CacheRules" index ⟨"CacheRules$Rule", "come", "(II)V"⟩ ∈ GT) (hd : decode cc pc = .ok (.invokevirtual index, 3)) (hF : (Nat.ble 2 Rm.frames && Nat.ble 47 Rm.locals) = true) (hst : Nat.ble (st.map fun v : Value => v.category).sum 8 = true) (hf : cells ≤ X.R.cells ∧ slots ≤ X.R.slots)
    (kk : EW X G nL cells slots (pc + 3) lv st (wK G a (rCome wd kd c s w) S wd V kd)) : EW X G nL cells slots pc lv (.int (nI w) :: .int (nI s) :: .ref (a 21) :: st) (wK G a c S wd V kd) := by
  obtain ⟨hC, hI, hk⟩ := h
  have hw8 := hC.2.2.2.2
  rw [Bool.and_eq_true] at hF
  have hF1 := Nat.le_of_ble_eq_true hF.1
  have hF2 := Nat.le_of_ble_eq_true hF.2
  have hRm : ∀ (fr lo mL : Nat), fr ≤ 1 → 8 + (mL + 11) + lo ≤ 47 → eR (rz fr lo) Rm mL = true := by
    intro fr lo mL h1 h2
    simp only [eR, Bool.and_eq_true, Nat.ble_eq]
    exact ⟨by omega, by omega⟩
  rcases kd_cases hk with rfl | rfl | rfl | rfl | rfl | rfl | rfl | rfl | rfl | rfl
  · refine e_cU C hX 21 (k_Chance_come (v := c.1) (f := c.2) _ _) g588 g6 hl g582 (by decide) g587 g586 hd rfl ey_Rule_come (hRm 0 0 3 (by omega) (by omega)) rfl rfl hst hf (fun r u hB => ?_)
    obtain ⟨rfl, rfl⟩ := hB
    exact kk
  · refine e_cU C hX 21 (k_Round_come (v := c.1) (f := c.2) hC hs hw) g594 g7 hl g582 (by decide) g593 g592 hd rfl ey_Rule_come (hRm 0 0 3 (by omega) (by omega)) rfl rfl hst hf (fun r u hB => ?_)
    obtain ⟨rfl, rfl⟩ := hB
    exact kk
  · have hT := lvN_TD (v := c.1) hI hw8.1 hw8.2
    refine e_cU C hX 21 (k_Tree_come (v := c.1) (f := c.2) hC hT hs hw) g600 g8 hl g582 (by decide) g599 g598 hd rfl ey_Rule_come (hRm 1 25 3 (by omega) (by omega)) rfl rfl hst hf (fun r u hB => ?_)
    obtain ⟨rfl, rfl⟩ := hB
    exact kk
  · refine e_cU C hX 21 (k_Lately_come (v := c.1) (f := c.2) hC hs hw) g591 g9 hl g582 (by decide) g590 g589 hd rfl ey_Rule_come (hRm 1 24 3 (by omega) (by omega)) rfl rfl hst hf (fun r u hB => ?_)
    obtain ⟨rfl, rfl⟩ := hB
    exact kk
  · refine e_cU C hX 21 (k_Age_come (v := c.1) (f := c.2) hC hs hw) g585 g10 hl g582 (by decide) g584 g583 hd rfl ey_Rule_come (hRm 0 0 3 (by omega) (by omega)) rfl rfl hst hf (fun r u hB => ?_)
    obtain ⟨rfl, rfl⟩ := hB
    exact kk
  · refine e_cU C hX 21 (k_Time_come (v := c.1) (f := c.2) hC hs hw) g597 g11 hl g582 (by decide) g596 g595 hd rfl ey_Rule_come (hRm 0 0 4 (by omega) (by omega)) rfl rfl hst hf (fun r u hB => ?_)
    obtain ⟨rfl, rfl⟩ := hB
    exact kk
  · refine e_cU C hX 21 (k_Time_come (v := c.1) (f := c.2) hC hs hw) g597 g11 hl g582 (by decide) g596 g595 hd rfl ey_Rule_come (hRm 0 0 4 (by omega) (by omega)) rfl rfl hst hf (fun r u hB => ?_)
    obtain ⟨rfl, rfl⟩ := hB
    exact kk
  · refine e_cU C hX 21 (k_Time_come (v := c.1) (f := c.2) hC hs hw) g597 g11 hl g582 (by decide) g596 g595 hd rfl ey_Rule_come (hRm 0 0 4 (by omega) (by omega)) rfl rfl hst hf (fun r u hB => ?_)
    obtain ⟨rfl, rfl⟩ := hB
    exact kk
  · refine e_cU C hX 21 (k_Time_come (v := c.1) (f := c.2) hC hs hw) g597 g11 hl g582 (by decide) g596 g595 hd rfl ey_Rule_come (hRm 0 0 4 (by omega) (by omega)) rfl rfl hst hf (fun r u hB => ?_)
    obtain ⟨rfl, rfl⟩ := hB
    exact kk
  · refine e_cU C hX 21 (k_Time_come (v := c.1) (f := c.2) hC hs hw) g597 g11 hl g582 (by decide) g596 g595 hd rfl ey_Rule_come (hRm 0 0 4 (by omega) (by omega)) rfl rfl hst hf (fun r u hB => ?_)
    obtain ⟨rfl, rfl⟩ := hB
    exact kk
theorem ey_Rule_choose : eY ⟨"CacheRules$Rule", "choose", "(I[Z)I"⟩ 2 = true := by decide +kernel
set_option maxRecDepth 100000 in
theorem e_rule_choose (C : EC X G "CacheRules" cc nL) {Rm : Room} (hX : X.R = Rm) (h : RC S wd kd c) (hs : s < S) {index : Nat} (hl : Cond.methodLink "CacheRules" index ⟨"CacheRules$Rule", "choose", "(I[Z)I"⟩ ∈ GT) (hd : decode cc pc = .ok (.invokevirtual index, 3)) (hF : (Nat.ble 2 Rm.frames && Nat.ble 48 Rm.locals) = true) (hst : Nat.ble (st.map fun v : Value => v.category).sum 8 = true) (hf : cells ≤ X.R.cells ∧ slots ≤ X.R.slots)
    (kk : EW X G nL cells slots (pc + 3) lv (.int (oI (rChoose wd kd c s)) :: st) (wK G a c S wd V kd)) : EW X G nL cells slots pc lv (.ref (a 6) :: .int (nI s) :: .ref (a 21) :: st) (wK G a c S wd V kd) := by
  obtain ⟨hC, hI, hk⟩ := h
  have hw8 := hC.2.2.2.2
  rw [Bool.and_eq_true] at hF
  have hF1 := Nat.le_of_ble_eq_true hF.1
  have hF2 := Nat.le_of_ble_eq_true hF.2
  have hRm : ∀ (fr lo mL : Nat), fr ≤ 1 → 8 + (mL + 11) + lo ≤ 48 → eR (rz fr lo) Rm mL = true := by
    intro fr lo mL h1 h2
    simp only [eR, Bool.and_eq_true, Nat.ble_eq]
    exact ⟨by omega, by omega⟩
  rcases kd_cases hk with rfl | rfl | rfl | rfl | rfl | rfl | rfl | rfl | rfl | rfl
  · obtain ⟨x, hx, hxe⟩ := hI
    have hcl : (c.1 19).toNatClampNeg = x := by rw [hxe]; exact nI_clamp hx
    simp only [rChoose, hcl] at kk
    refine e_cU C hX 21 (k_Chance_choose (v := c.1) (f := c.2) hC hs hx hxe) g523 g6 hl g517 (by decide) g522 g521 hd rfl ey_Rule_choose (hRm 0 0 6 (by omega) (by omega)) rfl rfl hst hf (fun r u hB => ?_)
    obtain ⟨rfl, rfl⟩ := hB
    exact kk
  · obtain ⟨h0, hh0, hhe⟩ := hI s hs
    have hcl : (c.2 23 s).toNatClampNeg = h0 := by rw [hhe]; exact nI_clamp (by omega)
    simp only [rChoose, hcl] at kk
    refine e_cU C hX 21 (k_Round_choose (v := c.1) (f := c.2) hC hs hh0 hhe) g530 g7 hl g517 (by decide) g529 g528 hd rfl ey_Rule_choose (hRm 1 23 6 (by omega) (by omega)) rfl rfl hst hf (fun r u hB => ?_)
    obtain ⟨rfl, rfl⟩ := hB
    exact kk
  · have hT := lvN_TD (v := c.1) hI hw8.1 hw8.2
    refine e_cU C hX 21 (k_Tree_choose (v := c.1) (f := c.2) hC hT hs) g544 g8 hl g517 (by decide) g543 g542 hd rfl ey_Rule_choose (hRm 0 0 6 (by omega) (by omega)) rfl rfl hst hf (fun r u hB => ?_)
    obtain ⟨rfl, rfl⟩ := hB
    exact kk
  · refine e_cU C hX 21 (k_Lately_choose (v := c.1) (f := c.2) hC hs) g527 g9 hl g517 (by decide) g526 g525 hd rfl ey_Rule_choose (hRm 0 0 5 (by omega) (by omega)) rfl rfl hst hf (fun r u hB => ?_)
    obtain ⟨rfl, rfl⟩ := hB
    exact kk
  · refine e_cU C hX 21 (k_Age_choose (v := c.1) (f := c.2) hC hs) g520 g10 hl g517 (by decide) g519 g518 hd rfl ey_Rule_choose (hRm 0 0 6 (by omega) (by omega)) rfl rfl hst hf (fun r u hB => ?_)
    obtain ⟨rfl, rfl⟩ := hB
    exact kk
  · refine e_cU C hX 21 (k_Time_choose (v := c.1) (f := c.2) hC hs) g537 g11 hl g517 (by decide) g536 g535 hd rfl ey_Rule_choose (hRm 1 22 6 (by omega) (by omega)) rfl rfl hst hf (fun r u hB => ?_)
    obtain ⟨rfl, rfl⟩ := hB
    exact kk
  · refine e_cU C hX 21 (k_Time_choose (v := c.1) (f := c.2) hC hs) g537 g11 hl g517 (by decide) g536 g535 hd rfl ey_Rule_choose (hRm 1 22 6 (by omega) (by omega)) rfl rfl hst hf (fun r u hB => ?_)
    obtain ⟨rfl, rfl⟩ := hB
    exact kk
  · refine e_cU C hX 21 (k_Time_choose (v := c.1) (f := c.2) hC hs) g537 g11 hl g517 (by decide) g536 g535 hd rfl ey_Rule_choose (hRm 1 22 6 (by omega) (by omega)) rfl rfl hst hf (fun r u hB => ?_)
    obtain ⟨rfl, rfl⟩ := hB
    exact kk
  · refine e_cU C hX 21 (k_Time_choose (v := c.1) (f := c.2) hC hs) g537 g11 hl g517 (by decide) g536 g535 hd rfl ey_Rule_choose (hRm 1 22 6 (by omega) (by omega)) rfl rfl hst hf (fun r u hB => ?_)
    obtain ⟨rfl, rfl⟩ := hB
    exact kk
  · refine e_cU C hX 21 (k_Time_choose (v := c.1) (f := c.2) hC hs) g537 g11 hl g517 (by decide) g536 g535 hd rfl ey_Rule_choose (hRm 1 22 6 (by omega) (by omega)) rfl rfl hst hf (fun r u hB => ?_)
    obtain ⟨rfl, rfl⟩ := hB
    exact kk
theorem ey_Rule_settle : eY ⟨"CacheRules$Rule", "settle", "(II[Z)V"⟩ 3 = true := by decide +kernel
set_option maxRecDepth 100000 in
theorem e_rule_settle (C : EC X G "CacheRules" cc nL) {Rm : Room} (hX : X.R = Rm) (h : RC S wd kd c) (hs : s < S) (hw : w < wd) {index : Nat} (hl : Cond.methodLink "CacheRules" index ⟨"CacheRules$Rule", "settle", "(II[Z)V"⟩ ∈ GT) (hd : decode cc pc = .ok (.invokevirtual index, 3)) (hF : (Nat.ble 2 Rm.frames && Nat.ble 49 Rm.locals) = true) (hst : Nat.ble (st.map fun v : Value => v.category).sum 8 = true) (hf : cells ≤ X.R.cells ∧ slots ≤ X.R.slots)
    (kk : EW X G nL cells slots (pc + 3) lv st (wK G a (rSettle wd kd c s w) S wd V kd)) : EW X G nL cells slots pc lv (.ref (a 6) :: .int (nI w) :: .int (nI s) :: .ref (a 21) :: st) (wK G a c S wd V kd) := by
  obtain ⟨hC, hI, hk⟩ := h
  have hw8 := hC.2.2.2.2
  rw [Bool.and_eq_true] at hF
  have hF1 := Nat.le_of_ble_eq_true hF.1
  have hF2 := Nat.le_of_ble_eq_true hF.2
  have hRm : ∀ (fr lo mL : Nat), fr ≤ 1 → 8 + (mL + 11) + lo ≤ 49 → eR (rz fr lo) Rm mL = true := by
    intro fr lo mL h1 h2
    simp only [eR, Bool.and_eq_true, Nat.ble_eq]
    exact ⟨by omega, by omega⟩
  rcases kd_cases hk with rfl | rfl | rfl | rfl | rfl | rfl | rfl | rfl | rfl | rfl
  · refine e_cU C hX 21 (k_Chance_settle (v := c.1) (f := c.2) _ _) g553 g6 hl g547 (by decide) g552 g551 hd rfl ey_Rule_settle (hRm 0 0 4 (by omega) (by omega)) rfl rfl hst hf (fun r u hB => ?_)
    obtain ⟨rfl, rfl⟩ := hB
    exact kk
  · obtain ⟨h0, hh0, hhe⟩ := hI s hs
    have hcl : (c.2 23 s).toNatClampNeg = h0 := by rw [hhe]; exact nI_clamp (by omega)
    simp only [rSettle, hcl] at kk
    refine e_cU C hX 21 (k_Round_settle (v := c.1) (f := c.2) hC hs hw hh0 hhe) g561 g7 hl g547 (by decide) g560 g559 hd rfl ey_Rule_settle (hRm 1 23 7 (by omega) (by omega)) rfl rfl hst hf (fun r u hB => ?_)
    obtain ⟨rfl, rfl⟩ := hB
    exact kk
  · have hT := lvN_TD (v := c.1) hI hw8.1 hw8.2
    refine e_cU C hX 21 (k_Tree_settle (v := c.1) (f := c.2) _ _) g567 g8 hl g547 (by decide) g566 g565 hd rfl ey_Rule_settle (hRm 0 0 4 (by omega) (by omega)) rfl rfl hst hf (fun r u hB => ?_)
    obtain ⟨rfl, rfl⟩ := hB
    exact kk
  · refine e_cU C hX 21 (k_Lately_settle (v := c.1) (f := c.2) _ _) g558 g9 hl g547 (by decide) g557 g556 hd rfl ey_Rule_settle (hRm 0 0 4 (by omega) (by omega)) rfl rfl hst hf (fun r u hB => ?_)
    obtain ⟨rfl, rfl⟩ := hB
    exact kk
  · refine e_cU C hX 21 (k_Age_settle (v := c.1) (f := c.2) hC hs hw) g550 g10 hl g547 (by decide) g549 g548 hd rfl ey_Rule_settle (hRm 0 0 6 (by omega) (by omega)) rfl rfl hst hf (fun r u hB => ?_)
    obtain ⟨rfl, rfl⟩ := hB
    exact kk
  · refine e_cU C hX 21 (k_Time_settle (v := c.1) (f := c.2) _ _) g564 g11 hl g547 (by decide) g563 g562 hd rfl ey_Rule_settle (hRm 0 0 4 (by omega) (by omega)) rfl rfl hst hf (fun r u hB => ?_)
    obtain ⟨rfl, rfl⟩ := hB
    exact kk
  · refine e_cU C hX 21 (k_Time_settle (v := c.1) (f := c.2) _ _) g564 g11 hl g547 (by decide) g563 g562 hd rfl ey_Rule_settle (hRm 0 0 4 (by omega) (by omega)) rfl rfl hst hf (fun r u hB => ?_)
    obtain ⟨rfl, rfl⟩ := hB
    exact kk
  · refine e_cU C hX 21 (k_Time_settle (v := c.1) (f := c.2) _ _) g564 g11 hl g547 (by decide) g563 g562 hd rfl ey_Rule_settle (hRm 0 0 4 (by omega) (by omega)) rfl rfl hst hf (fun r u hB => ?_)
    obtain ⟨rfl, rfl⟩ := hB
    exact kk
  · refine e_cU C hX 21 (k_Time_settle (v := c.1) (f := c.2) _ _) g564 g11 hl g547 (by decide) g563 g562 hd rfl ey_Rule_settle (hRm 0 0 4 (by omega) (by omega)) rfl rfl hst hf (fun r u hB => ?_)
    obtain ⟨rfl, rfl⟩ := hB
    exact kk
  · refine e_cU C hX 21 (k_Time_settle (v := c.1) (f := c.2) _ _) g564 g11 hl g547 (by decide) g563 g562 hd rfl ey_Rule_settle (hRm 0 0 4 (by omega) (by omega)) rfl rfl hst hf (fun r u hB => ?_)
    obtain ⟨rfl, rfl⟩ := hB
    exact kk
end RuleCalls
end
section
/-! THE CLASS'S OWN STEPS, as functions of its state, and what they keep -/
def popI (x : Int32) : Int32 := nI (pop4 x.toBitVec.toNat)
theorem popI_eq {b : Nat} (h : b < 16) : popI (nI b) = nI (pop4 b) := by
  unfold popI
  rw [pk_tn (by omega)]
/-- four bits -/
def NB (x : Int32) : Prop := ∃ b, b < 16 ∧ x = nI b
theorem NB.z : NB 0 := ⟨0, by omega, rfl⟩
theorem or16 : ∀ p, p < 16 → ∀ q, q < 16 → nI p ||| nI q = nI (p ||| q) ∧ p ||| q < 16 := by decide +kernel
theorem NB.or {x y : Int32} (hx : NB x) (hy : NB y) : NB (x ||| y) := by
  obtain ⟨p, hp, rfl⟩ := hx
  obtain ⟨q, hq, rfl⟩ := hy
  exact ⟨p ||| q, (or16 p hp q hq).2, (or16 p hp q hq).1⟩
theorem NB.up {g : Nat → Int32} (h : ∀ j, NB (g j)) (k : Nat) {x : Int32} (hx : NB x) : ∀ j, NB (upd g k x j) := by
  intro j
  by_cases hj : j = k
  · subst hj
    rw [pk_us]
    exact hx
  · rw [pk_un hj]
    exact h j
theorem NB.sh {g : Nat → Int32} (h : ∀ j, NB (g j)) (lo hi : Nat) : ∀ j, NB (shf g lo hi j) := by
  intro j
  unfold shf
  split
  · exact h _
  · exact h _
/-- how many rows -/
def nz (c : CS) : Nat := (c.1 10).toNatClampNeg
theorem nz_eq {c : CS} {V z : Nat} (h : RD c.1 V z) : nz c = z := by
  unfold nz
  rw [h.2.1]
  exact nI_clamp (by have := h.2.2; omega)
/-- the rule's part is the same -/
def RA (c c' : CS) : Prop := (c'.1 6 = c.1 6 ∧ c'.1 7 = c.1 7 ∧ c'.1 8 = c.1 8 ∧ c'.1 16 = c.1 16 ∧ c'.1 17 = c.1 17 ∧ c'.1 18 = c.1 18 ∧ c'.1 19 = c.1 19) ∧ c'.2 22 = c.2 22 ∧ c'.2 23 = c.2 23 ∧ c'.2 24 = c.2 24
theorem RA.rw {c c' : CS} (h : RA c c') (G : EG) (a : Nat → Nat) (n S kd : Nat) : rW G a c'.1 c'.2 n S kd = rW G a c.1 c.2 n S kd := by
  obtain ⟨⟨h6, h7, h8, h16, h17, h18, h19⟩, f22, f23, f24⟩ := h
  unfold rW
  split <;> simp only [rTime, rChance, rRound, rTree, rLately, rAge, h7, h16, h17, h18, h19, f22, f23, f24]
theorem RA.rc {c c' : CS} (h : RA c c') {S wd kd : Nat} (hc : RC S wd kd c) : RC S wd kd c' := by
  obtain ⟨⟨h6, h7, h8, h16, h17, h18, h19⟩, f22, f23, f24⟩ := h
  obtain ⟨⟨c6, c7, c8, cr⟩, hI, hk⟩ := hc
  refine ⟨⟨h6.trans c6, h7.trans c7, h8.trans c8, cr⟩, ?_, hk⟩
  rcases kd_cases hk with rfl | rfl | rfl | rfl | rfl | rfl | rfl | rfl | rfl | rfl
  · obtain ⟨x, hx, he⟩ := hI
    exact ⟨x, hx, h19.trans he⟩
  · intro s hs
    obtain ⟨h0, hh, he⟩ := hI s hs
    exact ⟨h0, hh, by rw [f23]; exact he⟩
  · exact h16.trans hI
  all_goals trivial
/-- the cells behind a step that leaves the rule alone -/
theorem wK_of {c c' : CS} (h : RA c c') (G : EG) (a : Nat → Nat) (S wd V kd : Nat) : cF G a c'.1 c'.2 (S * wd) V (rW G a c.1 c.2 (S * wd) S kd) = wK G a c' S wd V kd := by
  show _ = cF G a c'.1 c'.2 (S * wd) V (rW G a c'.1 c'.2 (S * wd) S kd)
  rw [h.rw]
/-- what the class keeps (asks and history apart) -/
def CI (S wd V kd : Nat) (c : CS) : Prop := RC S wd kd c ∧ (∃ z, RD c.1 V z) ∧ (∀ j, NB (c.2 5 j)) ∧ ∀ j, NB (c.2 10 j)
/-- a line goes out of its way -/
def poS (V : Nat) (c : CS) (j : Nat) : CS :=
  if V = 0 then (upd (upd c.1 5 (c.1 5 + 1)) 4 (c.1 4 + popI (c.2 5 j)), c.2)
  else if nz c < V then (upd (upd c.1 5 (c.1 5 + 1)) 10 (nI (nz c + 1)), raF c.2 (nz c) (c.2 2 j) (c.2 4 j) (c.2 5 j))
  else (upd (upd (upd (upd c.1 5 (c.1 5 + 1)) 4 (c.1 4 + popI (c.2 10 0))) 10 (nI (V - 1))) 10 (nI (V - 1 + 1)), raF (rmF c.2 0 (V - 1)) (V - 1) (c.2 2 j) (c.2 4 j) (c.2 5 j))
theorem poS_RA (V : Nat) (c : CS) (j : Nat) : RA c (poS V c j) := by
  unfold poS
  split
  · exact ⟨⟨rfl, rfl, rfl, rfl, rfl, rfl, rfl⟩, rfl, rfl, rfl⟩
  · split <;> exact ⟨⟨rfl, rfl, rfl, rfl, rfl, rfl, rfl⟩, rfl, rfl, rfl⟩
theorem poS_CI {S wd V kd : Nat} {c : CS} (h : CI S wd V kd c) (j : Nat) : CI S wd V kd (poS V c j) := by
  obtain ⟨hC, ⟨z, hz⟩, h5, h10⟩ := h
  refine ⟨(poS_RA V c j).rc hC, ?_, ?_, ?_⟩
  · have he := nz_eq hz
    obtain ⟨r9, r10, r1, r2⟩ := hz
    unfold poS
    split
    · exact ⟨z, r9, r10, r1, r2⟩
    · split
      · rename_i hlt
        rw [he] at hlt ⊢
        exact ⟨z + 1, r9, rfl, hlt, r2⟩
      · exact ⟨V - 1 + 1, r9, rfl, by omega, r2⟩
  · unfold poS
    split
    · exact h5
    · split <;> exact h5
  · unfold poS
    split
    · exact h10
    · split
      · exact NB.up h10 _ (h5 j)
      · exact NB.up (NB.sh h10 _ _) _ (h5 j)
/-- a line put -/
theorem putF_RA (c : CS) (j : Nat) (x t ch : Int32) : RA c (c.1, putF c.2 j x t ch) := ⟨⟨rfl, rfl, rfl, rfl, rfl, rfl, rfl⟩, rfl, rfl, rfl⟩
theorem putF_CI {S wd V kd : Nat} {c : CS} (h : CI S wd V kd c) (j : Nat) (x t : Int32) {ch : Int32} (hc : NB ch) : CI S wd V kd (c.1, putF c.2 j x t ch) :=
  ⟨(putF_RA c j x t ch).rc h.1, h.2.1, NB.up h.2.2.1 _ hc, h.2.2.2⟩
/-- a rule's step leaves the rest alone -/
def RO (c c' : CS) : Prop := (∀ k, k < 16 → c'.1 k = c.1 k) ∧ ∀ k, k < 22 → c'.2 k = c.2 k
theorem RO.rf (c : CS) : RO c c := ⟨fun _ _ => rfl, fun _ _ => rfl⟩
theorem RO.f {c : CS} {v : Nat → Int32} {f : Nat → Nat → Int32} (hv : ∀ k, k < 16 → v k = c.1 k) (hf : ∀ k, k < 22 → f k = c.2 k) : RO c (v, f) := ⟨hv, hf⟩
theorem up_lt {v : Nat → Int32} {k j : Nat} {x : Int32} (h : j < k) : upd v k x j = v j := pk_un (by omega)
theorem up2_lt {f : Nat → Nat → Int32} {k j : Nat} {g : Nat → Int32} (h : j < k) : up2 f k g j = f j := up2_n g (by omega)
theorem rUse_RO (wd kd : Nat) (c : CS) (s w : Nat) : RO c (rUse wd kd c s w) := by
  unfold rUse
  split
  · exact RO.rf c
  all_goals refine ⟨fun k hk => ?_, fun k hk => ?_⟩
  all_goals first | rfl | (simp only [up_lt (show k < 17 by omega)]; done) | (simp only [up2_lt (show k < 22 by omega)]; done) | (simp only [up2_lt (show k < 22 by omega), up2_lt (show k < 24 by omega)])
theorem rCome_RO (wd kd : Nat) (c : CS) (s w : Nat) : RO c (rCome wd kd c s w) := by
  unfold rCome
  split
  · exact RO.rf c
  all_goals refine ⟨fun k hk => ?_, fun k hk => ?_⟩
  all_goals first | rfl | (simp only [up_lt (show k < 18 by omega), up_lt (show k < 17 by omega)]; done) | (simp only [up2_lt (show k < 22 by omega)]; done) | (simp only [up2_lt (show k < 22 by omega), up2_lt (show k < 23 by omega), up2_lt (show k < 24 by omega)])
theorem rSettle_RO (wd kd : Nat) (c : CS) (s w : Nat) : RO c (rSettle wd kd c s w) := by
  unfold rSettle
  split
  all_goals first | exact RO.rf c | refine ⟨fun k hk => ?_, fun k hk => ?_⟩
  all_goals first | rfl | (simp only [up_lt (show k < 19 by omega)]; done) | (simp only [up2_lt (show k < 22 by omega)]; done) | (simp only [up2_lt (show k < 22 by omega), up2_lt (show k < 23 by omega)])
theorem RO.cd {c c' : CS} (h : RO c c') {S wd : Nat} (hc : CD c.1 S wd) : CD c'.1 S wd := ⟨(h.1 6 (by omega)).trans hc.1, (h.1 7 (by omega)).trans hc.2.1, (h.1 8 (by omega)).trans hc.2.2.1, hc.2.2.2⟩
theorem RO.ci {c c' : CS} (h : RO c c') {S wd V kd : Nat} (hc : CI S wd V kd c) (hi : RI S wd kd c') : CI S wd V kd c' := by
  obtain ⟨⟨hC, -, hk⟩, ⟨z, z1, z2, z3⟩, h5, h10⟩ := hc
  exact ⟨⟨h.cd hC, hi, hk⟩, ⟨z, (h.1 9 (by omega)).trans z1, (h.1 10 (by omega)).trans z2, z3⟩, by rw [h.2 5 (by omega)]; exact h5, by rw [h.2 10 (by omega)]; exact h10⟩
theorem rUse_CI {S wd V kd : Nat} {c : CS} (h : CI S wd V kd c) (s w : Nat) : CI S wd V kd (rUse wd kd c s w) := by
  refine (rUse_RO wd kd c s w).ci h ?_
  obtain ⟨⟨-, hI, hk⟩, -⟩ := h
  rcases kd_cases hk with rfl | rfl | rfl | rfl | rfl | rfl | rfl | rfl | rfl | rfl
  · exact hI
  · exact hI
  · exact hI
  all_goals trivial
theorem rCome_CI {S wd V kd : Nat} {c : CS} (h : CI S wd V kd c) (s w : Nat) : CI S wd V kd (rCome wd kd c s w) := by
  refine (rCome_RO wd kd c s w).ci h ?_
  obtain ⟨⟨-, hI, hk⟩, -⟩ := h
  rcases kd_cases hk with rfl | rfl | rfl | rfl | rfl | rfl | rfl | rfl | rfl | rfl
  · exact hI
  · exact hI
  · exact hI
  all_goals trivial
theorem nxt_lt {wd w : Nat} (h : 1 ≤ wd) : nxt wd w < wd := by
  unfold nxt
  split <;> omega
theorem rSettle_CI {S wd V kd : Nat} {c : CS} (h : CI S wd V kd c) (s w : Nat) : CI S wd V kd (rSettle wd kd c s w) := by
  refine (rSettle_RO wd kd c s w).ci h ?_
  obtain ⟨⟨hC, hI, hk⟩, -⟩ := h
  rcases kd_cases hk with rfl | rfl | rfl | rfl | rfl | rfl | rfl | rfl | rfl | rfl
  · refine ⟨((1103515245 * c.1 19 + 12345 : Int32).toBitVec.toNat) % 2 ^ 31, Nat.mod_lt _ (by decide), ?_⟩
    show ((1103515245 * c.1 19 + 12345) &&& 2147483647 : Int32) = _
    exact pk_and _ 31 (by decide)
  · intro s2 hs2
    show ∃ h0, h0 < wd ∧ upd (c.2 23) s (nI (nxt wd w)) s2 = nI h0
    by_cases hj : s2 = s
    · subst hj
      exact ⟨nxt wd w, nxt_lt hC.2.2.2.2.1, pk_us⟩
    · rw [pk_un hj]
      exact hI s2 hs2
  · exact hI
  all_goals trivial
/-- a line is placed -/
def plS (S wd V kd : Nat) (c : CS) (x t ch : Int32) : CS := match fst1 (fun w => c.2 3 (sN S x * wd + w) == 0) 0 wd with
  | some w => rCome wd kd (c.1, putF c.2 (sN S x * wd + w) x t ch) (sN S x) w
  | none => match rChoose wd kd c (sN S x) with
    | none => c
    | some w => rCome wd kd ((poS V (rSettle wd kd c (sN S x) w) (sN S x * wd + w)).1, putF (poS V (rSettle wd kd c (sN S x) w) (sN S x * wd + w)).2 (sN S x * wd + w) x t ch) (sN S x) w
theorem plS_CI {S wd V kd : Nat} {c : CS} (h : CI S wd V kd c) (x t : Int32) {ch : Int32} (hc : NB ch) : CI S wd V kd (plS S wd V kd c x t ch) := by
  unfold plS
  split
  · exact rCome_CI (putF_CI h _ _ _ hc) _ _
  · split
    · exact h
    · exact rCome_CI (putF_CI (poS_CI (rSettle_CI h _ _) _) _ _ _ hc) _ _
/-- a part is written -/
def wpS (S wd : Nat) (c : CS) (x bit : Int32) : CS := if ¬ c.1 0 = 0 then (upd c.1 4 (c.1 4 + 1), c.2) else match fst1 (hasL c.2 x) (sN S x * wd) wd with
  | some j => (c.1, up2 c.2 5 (upd (c.2 5) j (c.2 5 j ||| bit)))
  | none => match fst1 (fun k => c.2 8 k == x) 0 (nz c) with
    | some k => (c.1, up2 c.2 10 (upd (c.2 10) k (c.2 10 k ||| bit)))
    | none => (upd c.1 4 (c.1 4 + 1), c.2)
theorem wpS_RA (S wd : Nat) (c : CS) (x bit : Int32) : RA c (wpS S wd c x bit) := by
  unfold wpS
  split
  · exact ⟨⟨rfl, rfl, rfl, rfl, rfl, rfl, rfl⟩, rfl, rfl, rfl⟩
  · split
    · exact ⟨⟨rfl, rfl, rfl, rfl, rfl, rfl, rfl⟩, rfl, rfl, rfl⟩
    · split <;> exact ⟨⟨rfl, rfl, rfl, rfl, rfl, rfl, rfl⟩, rfl, rfl, rfl⟩
theorem wpS_CI {S wd V kd : Nat} {c : CS} (h : CI S wd V kd c) (x : Int32) {bit : Int32} (hb : NB bit) : CI S wd V kd (wpS S wd c x bit) := by
  refine ⟨(wpS_RA S wd c x bit).rc h.1, ?_, ?_, ?_⟩
  all_goals obtain ⟨-, ⟨z, hz⟩, h5, h10⟩ := h
  · unfold wpS
    split
    · exact ⟨z, hz⟩
    · split
      · exact ⟨z, hz⟩
      · split <;> exact ⟨z, hz⟩
  · unfold wpS
    split
    · exact h5
    · split
      · exact NB.up h5 _ ((h5 _).or hb)
      · split <;> exact h5
  · unfold wpS
    split
    · exact h10
    · split
      · exact h10
      · split
        · exact NB.up h10 _ ((h10 _).or hb)
        · exact h10
/-- a way is used -/
def uwS (wd kd : Nat) (c : CS) (s w : Nat) (bit : Int32) : CS × Int32 := if c.2 4 (s * wd + w) &&& bit = 0 then
    ((upd (rUse wd kd c s w).1 3 (c.1 3 + 1), up2 (rUse wd kd c s w).2 4 (upd (c.2 4) (s * wd + w) (c.2 4 (s * wd + w) ||| bit))), 1)
  else (rUse wd kd c s w, 0)
/-- a row's part is fetched -/
def ftS (c : CS) (k : Nat) (bit : Int32) : CS := if c.2 9 k &&& bit = 0 then (upd c.1 3 (c.1 3 + 1), up2 c.2 9 (upd (c.2 9) k (c.2 9 k ||| bit))) else c
/-- a caught line comes back -/
def rcS (S wd V kd : Nat) (c : CS) (k : Nat) (bit : Int32) : CS := if allL (ftS c k bit).2 wd (sN S (c.2 8 k)) = true then ftS c k bit
  else plS S wd V kd (upd (ftS c k bit).1 10 (nI (nz c - 1)), rmF (ftS c k bit).2 k (nz c - 1)) (c.2 8 k) ((ftS c k bit).2 9 k) (c.2 10 k)
/-- a line is reached -/
def rhS (S wd V kd : Nat) (c : CS) (x bit wr : Int32) : CS × Int32 := match fst1 (hasL c.2 x) (sN S x * wd) wd with
  | some j => uwS wd kd c (sN S x) (j - sN S x * wd) bit
  | none => match fst1 (fun k => c.2 8 k == x) 0 (nz c) with
    | some k => (rcS S wd V kd c k bit, 2)
    | none => if ¬ wr = 0 ∧ c.1 1 = 0 then (c, 3)
      else if allL c.2 wd (sN S x) = true then ((upd c.1 3 (c.1 3 + 1), c.2), 4)
      else (plS S wd V kd (upd c.1 3 (c.1 3 + 1), c.2) x bit 0, 3)
end
section
/-! WHAT THE STEPS KEEP -/
theorem pickB_lt {lk : Nat → Bool} {bt : Nat → Nat → Bool} {N : Nat} : ∀ {m k : Nat} {b : Option Nat} {w : Nat}, k + m ≤ N → (∀ j, b = some j → j < N ∧ lk j = false) → pickB lk bt b k m = some w → w < N ∧ lk w = false
  | 0, _, b, w, _, hb, h => hb w h
  | m + 1, k, b, w, hk, hb, h => by
    unfold pickB at h
    refine pickB_lt (by omega) ?_ h
    intro j hj
    by_cases hl : lk k = true
    · rw [if_pos hl] at hj
      exact hb j hj
    · rw [if_neg hl] at hj
      have hl : lk k = false := by simpa using hl
      cases b with
      | none => cases hj; exact ⟨by omega, hl⟩
      | some i =>
        dsimp only at hj
        split at hj
        · cases hj; exact ⟨by omega, hl⟩
        · exact hb j hj
theorem rndC_lt {lk mk : Nat → Bool} {wy : Nat → Nat} {N : Nat} (hwy : ∀ k, k < N → wy k < N) : ∀ {m k : Nat} {b : Option Nat} {w : Nat}, k + m ≤ N → (∀ j, b = some j → j < N ∧ lk j = false) → rndC lk mk wy b k m = some w → w < N ∧ lk w = false
  | 0, _, b, w, _, hb, h => hb w h
  | m + 1, k, b, w, hk, hb, h => by
    unfold rndC at h
    by_cases hl : lk (wy k) = true
    · rw [if_pos hl] at h
      exact rndC_lt hwy (by omega) hb h
    · rw [if_neg hl] at h
      have hl : lk (wy k) = false := by simpa using hl
      by_cases hm : mk (wy k) = true
      · rw [if_pos hm] at h
        refine rndC_lt hwy (by omega) ?_ h
        intro j hj
        cases b with
        | none => cases hj; exact ⟨hwy k (by omega), hl⟩
        | some i => exact hb j hj
      · rw [if_neg hm] at h
        cases h
        exact ⟨hwy k (by omega), hl⟩
theorem nthU_lt {lk : Nat → Bool} {N : Nat} : ∀ {m t k w : Nat}, k + m ≤ N → nthU lk t k m = some w → w < N ∧ lk w = false
  | 0, _, _, _, _, h => by cases h
  | m + 1, t, k, w, hk, h => by
    unfold nthU at h
    by_cases hl : lk k = true
    · rw [if_pos hl] at h
      exact nthU_lt (by omega) h
    · rw [if_neg hl] at h
      have hl : lk k = false := by simpa using hl
      split at h
      · cases h; exact ⟨by omega, hl⟩
      · exact nthU_lt (by omega) h
theorem rChoose_lt {S wd kd : Nat} {c : CS} (h : RC S wd kd c) {s w : Nat} (hs : s < S) (hw : rChoose wd kd c s = some w) : w < wd ∧ lkd c.2 wd s w = false := by
  obtain ⟨hC, hI, hk⟩ := h
  have hw8 := hC.2.2.2.2
  rcases kd_cases hk with rfl | rfl | rfl | rfl | rfl | rfl | rfl | rfl | rfl | rfl
  · simp only [rChoose, chC] at hw
    split at hw
    · cases hw
    · exact nthU_lt (by omega) hw
  · obtain ⟨h0, hh, he⟩ := hI s hs
    simp only [rChoose, he, nI_clamp (show h0 < 2 ^ 31 by omega)] at hw
    exact rndC_lt (fun k hk => wfh_lt hh hk) (by omega) (fun j hj => by cases hj) hw
  · simp only [rChoose, trP] at hw
    obtain ⟨k, hk1, hk2⟩ := Option.map_eq_some_iff.mp hw
    have h3 := (fst1_some hk1).2.2
    simp only [Bool.and_eq_true, decide_eq_true_eq, Bool.not_eq_true'] at h3
    rw [hk2] at h3
    exact h3
  · exact rndC_lt (fun k hk => hk) (by omega) (fun j hj => by cases hj) hw
  all_goals exact pickB_lt (by omega) (fun j hj => by cases hj) hw
/-- history, asks, flags and sizes are left alone, and what is locked -/
def KP (c c' : CS) : Prop := (∀ k, k < 16 → k ≠ 3 → k ≠ 4 → k ≠ 5 → k ≠ 10 → c'.1 k = c.1 k) ∧ ∀ k, k < 22 → (k = 6 ∨ 11 < k) → c'.2 k = c.2 k
theorem KP.rf (c : CS) : KP c c := ⟨fun _ _ _ _ _ _ => rfl, fun _ _ _ => rfl⟩
theorem KP.tr {a b c : CS} (h : KP a b) (h2 : KP b c) : KP a c := ⟨fun k k1 k2 k3 k4 k5 => (h2.1 k k1 k2 k3 k4 k5).trans (h.1 k k1 k2 k3 k4 k5), fun k k1 k2 => (h2.2 k k1 k2).trans (h.2 k k1 k2)⟩
theorem RO.kp {c c' : CS} (h : RO c c') : KP c c' := ⟨fun k k1 _ _ _ _ => h.1 k k1, fun k k1 _ => h.2 k k1⟩
theorem poS_KP (V : Nat) (c : CS) (j : Nat) : KP c (poS V c j) := by
  unfold poS
  split
  · exact ⟨fun k k1 k2 k3 k4 k5 => by simp only [pk_un k3, pk_un k4], fun _ _ _ => rfl⟩
  · split
    · exact ⟨fun k k1 k2 k3 k4 k5 => by simp only [pk_un k5, pk_un k4], fun k k1 k2 => by simp only [raF, up2_n _ (show k ≠ 8 by omega), up2_n _ (show k ≠ 9 by omega), up2_n _ (show k ≠ 10 by omega)]⟩
    · exact ⟨fun k k1 k2 k3 k4 k5 => by simp only [pk_un k5, pk_un k4, pk_un k3], fun k k1 k2 => by simp only [raF, rmF, up2_n _ (show k ≠ 8 by omega), up2_n _ (show k ≠ 9 by omega), up2_n _ (show k ≠ 10 by omega)]⟩
theorem putF_KP (c : CS) (j : Nat) (x t ch : Int32) : KP c (c.1, putF c.2 j x t ch) := ⟨fun _ _ _ _ _ _ => rfl, fun k k1 k2 => by simp only [putF, up2_n _ (show k ≠ 2 by omega), up2_n _ (show k ≠ 3 by omega), up2_n _ (show k ≠ 4 by omega), up2_n _ (show k ≠ 5 by omega)]⟩
theorem plS_KP (S wd V kd : Nat) (c : CS) (x t ch : Int32) : KP c (plS S wd V kd c x t ch) := by
  unfold plS
  split
  · exact (putF_KP c _ _ _ _).tr (rCome_RO _ _ _ _ _).kp
  · split
    · exact KP.rf c
    · exact (rSettle_RO _ _ _ _ _).kp.tr ((poS_KP _ _ _).tr ((putF_KP (poS V _ _) _ _ _ _).tr (rCome_RO _ _ _ _ _).kp))
theorem wpS_KP (S wd : Nat) (c : CS) (x bit : Int32) : KP c (wpS S wd c x bit) := by
  unfold wpS
  split
  · exact ⟨fun k k1 k2 k3 k4 k5 => pk_un k3, fun _ _ _ => rfl⟩
  · split
    · exact ⟨fun _ _ _ _ _ _ => rfl, fun k k1 k2 => up2_n _ (by omega)⟩
    · split
      · exact ⟨fun _ _ _ _ _ _ => rfl, fun k k1 k2 => up2_n _ (by omega)⟩
      · exact ⟨fun k k1 k2 k3 k4 k5 => pk_un k3, fun _ _ _ => rfl⟩
theorem ftS_KP (c : CS) (k : Nat) (bit : Int32) : KP c (ftS c k bit) := by
  unfold ftS
  split
  · exact ⟨fun k k1 k2 k3 k4 k5 => pk_un k2, fun k k1 k2 => up2_n _ (by omega)⟩
  · exact KP.rf c
theorem rcS_KP (S wd V kd : Nat) (c : CS) (k : Nat) (bit : Int32) : KP c (rcS S wd V kd c k bit) := by
  unfold rcS
  split
  · exact ftS_KP c k bit
  · refine (ftS_KP c k bit).tr (KP.tr ?_ (plS_KP _ _ _ _ _ _ _ _))
    exact ⟨fun k k1 k2 k3 k4 k5 => pk_un k5, fun k k1 k2 => by simp only [rmF, up2_n _ (show k ≠ 8 by omega), up2_n _ (show k ≠ 9 by omega), up2_n _ (show k ≠ 10 by omega)]⟩
theorem uwS_KP (wd kd : Nat) (c : CS) (s w : Nat) (bit : Int32) : KP c (uwS wd kd c s w bit).1 := by
  unfold uwS
  split
  · refine (rUse_RO wd kd c s w).kp.tr ?_
    exact ⟨fun k k1 k2 k3 k4 k5 => pk_un k2, fun k k1 k2 => up2_n _ (by omega)⟩
  · exact (rUse_RO wd kd c s w).kp
theorem rhS_KP (S wd V kd : Nat) (c : CS) (x bit wr : Int32) : KP c (rhS S wd V kd c x bit wr).1 := by
  unfold rhS
  split
  · exact uwS_KP _ _ _ _ _ _
  · split
    · exact rcS_KP _ _ _ _ _ _ _
    · split
      · exact KP.rf c
      · split
        · exact ⟨fun k k1 k2 k3 k4 k5 => pk_un k2, fun _ _ _ => rfl⟩
        · refine KP.tr ?_ (plS_KP _ _ _ _ _ _ _ _)
          exact ⟨fun k k1 k2 k3 k4 k5 => pk_un k2, fun _ _ _ => rfl⟩
theorem ftS_CI {S wd V kd : Nat} {c : CS} (h : CI S wd V kd c) (k : Nat) (bit : Int32) : CI S wd V kd (ftS c k bit) := by
  unfold ftS
  split
  · exact ⟨RA.rc (c := c) ⟨⟨rfl, rfl, rfl, rfl, rfl, rfl, rfl⟩, rfl, rfl, rfl⟩ h.1, h.2.1, h.2.2.1, h.2.2.2⟩
  · exact h
theorem f3_CI {S wd V kd : Nat} {c : CS} (h : CI S wd V kd c) (y : Int32) : CI S wd V kd (upd c.1 3 y, c.2) := ⟨RA.rc (c := c) ⟨⟨rfl, rfl, rfl, rfl, rfl, rfl, rfl⟩, rfl, rfl, rfl⟩ h.1, h.2.1, h.2.2.1, h.2.2.2⟩
theorem rcS_CI {S wd V kd : Nat} {c : CS} (h : CI S wd V kd c) {k : Nat} (hk : k < nz c) (bit : Int32) : CI S wd V kd (rcS S wd V kd c k bit) := by
  unfold rcS
  have h1 := ftS_CI h k bit
  obtain ⟨z, hz⟩ := h.2.1
  have hze := nz_eq hz
  split
  · exact h1
  · refine plS_CI ?_ _ _ (h.2.2.2 k)
    obtain ⟨z1, hz1⟩ := h1.2.1
    exact ⟨RA.rc (c := ftS c k bit) ⟨⟨rfl, rfl, rfl, rfl, rfl, rfl, rfl⟩, rfl, rfl, rfl⟩ h1.1, ⟨nz c - 1, hz1.1, rfl, by rw [hze]; have := hz.2.2; omega, hz1.2.2.2⟩, h1.2.2.1, NB.sh h1.2.2.2 _ _⟩
theorem uwS_CI {S wd V kd : Nat} {c : CS} (h : CI S wd V kd c) (s w : Nat) (bit : Int32) : CI S wd V kd (uwS wd kd c s w bit).1 := by
  unfold uwS
  have h1 := rUse_CI h s w
  split
  · exact ⟨RA.rc (c := rUse wd kd c s w) ⟨⟨rfl, rfl, rfl, rfl, rfl, rfl, rfl⟩, rfl, rfl, rfl⟩ h1.1, h1.2.1, h1.2.2.1, h1.2.2.2⟩
  · exact h1
theorem rhS_CI {S wd V kd : Nat} {c : CS} (h : CI S wd V kd c) (x bit wr : Int32) : CI S wd V kd (rhS S wd V kd c x bit wr).1 := by
  unfold rhS
  split
  · exact uwS_CI h _ _ _
  · split
    · rename_i k hk
      exact rcS_CI h (by have := fst1_some hk; omega) bit
    · split
      · exact h
      · split
        · exact f3_CI h _
        · exact plS_CI (f3_CI h _) _ _ NB.z
/-- how an access was: five kinds -/
theorem rhS_kind (S wd V kd : Nat) (c : CS) (x bit wr : Int32) : ∃ q, q < 5 ∧ (rhS S wd V kd c x bit wr).2 = nI q := by
  unfold rhS
  split
  · unfold uwS
    split
    · exact ⟨1, by omega, rfl⟩
    · exact ⟨0, by omega, rfl⟩
  · split
    · exact ⟨2, by omega, rfl⟩
    · split
      · exact ⟨3, by omega, rfl⟩
      · split
        · exact ⟨4, by omega, rfl⟩
        · exact ⟨3, by omega, rfl⟩
/-- how many lines back -/
def nh (c : CS) : Nat := (c.1 14).toNatClampNeg
theorem nh_eq {c : CS} {hs : Nat} (h : HD c.1 hs) : nh c = hs := by
  unfold nh
  rw [h.1]
  exact nI_clamp (by have := h.2; omega)
def ntS (c : CS) (x : Int32) : CS := (ntV c.1 c.2 (nh c) x, ntF c.2 (nh c) x)
theorem ntS_RA (c : CS) (x : Int32) : RA c (ntS c x) := by
  unfold ntS ntV ntF
  split <;> exact ⟨⟨rfl, rfl, rfl, rfl, rfl, rfl, rfl⟩, rfl, rfl, rfl⟩
theorem ntS_CI {S wd V kd : Nat} {c : CS} (h : CI S wd V kd c) (x : Int32) : CI S wd V kd (ntS c x) := by
  refine ⟨(ntS_RA c x).rc h.1, ?_, ?_, ?_⟩
  all_goals obtain ⟨-, ⟨z, hz⟩, h5, h10⟩ := h
  all_goals unfold ntS ntV ntF
  all_goals split
  all_goals first | exact ⟨z, hz⟩ | exact h5 | exact h10
theorem ntS_HD {c : CS} {hs : Nat} (h : HD c.1 hs) (x : Int32) : ∃ hs', HD (ntS c x).1 hs' := by
  have he := nh_eq h
  unfold ntS ntV
  rw [he]
  split
  · exact ⟨hs, h⟩
  · rename_i hn
    refine ⟨ntK c.2 hs x + 1, rfl, ?_⟩
    simp only [ntK, hn]
    split <;> omega
def bitI (p : Nat) : Int32 := (1 : Int32) <<< (nI p &&& 31)
theorem bitI_NB : ∀ {p : Nat}, p < 4 → NB (bitI p) := by
  intro p hp
  rcases (by omega : p = 0 ∨ p = 1 ∨ p = 2 ∨ p = 3) with rfl | rfl | rfl | rfl
  · exact ⟨1, by omega, by decide⟩
  · exact ⟨2, by omega, by decide⟩
  · exact ⟨4, by omega, by decide⟩
  · exact ⟨8, by omega, by decide⟩
/-- an access -/
def pf3 (S wd V kd : Nat) (c : CS) (x : Int32) (p : Nat) (wr : Int32) : CS := if wr = 0 then (rhS S wd V kd (ntS c x) x (bitI p) wr).1 else wpS S wd (rhS S wd V kd (ntS c x) x (bitI p) wr).1 x (bitI p)
def pfK (S wd V kd : Nat) (c : CS) (x : Int32) (p : Nat) (wr : Int32) : Int32 := (rhS S wd V kd (ntS c x) x (bitI p) wr).2
def pfS (S wd V kd : Nat) (c : CS) (x : Int32) (p : Nat) (wr : Int32) : CS :=
  (upd (pf3 S wd V kd c x p wr).1 2 ((pf3 S wd V kd c x p wr).1 2 + 1), up2 (pf3 S wd V kd c x p wr).2 20 (upd ((pf3 S wd V kd c x p wr).2 20) (pfK S wd V kd c x p wr).toNatClampNeg ((pf3 S wd V kd c x p wr).2 20 (pfK S wd V kd c x p wr).toNatClampNeg + 1)))
theorem pf3_CI {S wd V kd : Nat} {c : CS} (h : CI S wd V kd c) (x : Int32) {p : Nat} (hp : p < 4) (wr : Int32) : CI S wd V kd (pf3 S wd V kd c x p wr) := by
  unfold pf3
  split
  · exact rhS_CI (ntS_CI h x) _ _ _
  · exact wpS_CI (rhS_CI (ntS_CI h x) _ _ _) _ (bitI_NB hp)
theorem pfS_CI {S wd V kd : Nat} {c : CS} (h : CI S wd V kd c) (x : Int32) {p : Nat} (hp : p < 4) (wr : Int32) : CI S wd V kd (pfS S wd V kd c x p wr) := by
  have h1 := pf3_CI h x hp wr
  unfold pfS
  exact ⟨RA.rc (c := pf3 S wd V kd c x p wr) ⟨⟨rfl, rfl, rfl, rfl, rfl, rfl, rfl⟩, rfl, rfl, rfl⟩ h1.1, h1.2.1, h1.2.2.1, h1.2.2.2⟩
theorem pf3_KP (S wd V kd : Nat) (c : CS) (x : Int32) (p : Nat) (wr : Int32) : KP (ntS c x) (pf3 S wd V kd c x p wr) := by
  unfold pf3
  split
  · exact rhS_KP _ _ _ _ _ _ _ _
  · exact (rhS_KP _ _ _ _ _ _ _ _).tr (wpS_KP _ _ _ _ _)
/-- an access leaves the asks alone -/
theorem pfS_asks (S wd V kd : Nat) (c : CS) (x : Int32) (p : Nat) (wr : Int32) : (∀ k, (k < 2 ∨ 11 ≤ k ∧ k ≤ 13) → (pfS S wd V kd c x p wr).1 k = c.1 k) ∧ ∀ k, (k = 6 ∨ 12 ≤ k ∧ k ≤ 16) → (pfS S wd V kd c x p wr).2 k = c.2 k := by
  have h := pf3_KP S wd V kd c x p wr
  constructor
  · intro k hk
    show upd (pf3 S wd V kd c x p wr).1 2 _ k = _
    rw [pk_un (by omega), h.1 k (by omega) (by omega) (by omega) (by omega) (by omega)]
    unfold ntS ntV
    split
    · rfl
    · simp only [pk_un (show k ≠ 14 by omega), pk_un (show k ≠ 15 by omega)]
  · intro k hk
    show up2 (pf3 S wd V kd c x p wr).2 20 _ k = _
    rw [up2_n _ (by omega), h.2 k (by omega) (by omega)]
    show ntF c.2 (nh c) x k = _
    unfold ntF
    rw [up2_n _ (show k ≠ 18 by omega)]
    cases hfd c.2 (nh c) x with
    | some i => exact up2_n _ (by omega)
    | none => rfl
theorem pfS_HD {c : CS} {hs : Nat} (h : HD c.1 hs) (S wd V kd : Nat) (x : Int32) (p : Nat) (wr : Int32) : ∃ hs', HD (pfS S wd V kd c x p wr).1 hs' := by
  obtain ⟨hs', h1, h2⟩ := ntS_HD h x
  refine ⟨hs', ?_, h2⟩
  unfold pfS
  dsimp only
  rw [pk_un (by omega), (pf3_KP S wd V kd c x p wr).1 14 (by omega) (by omega) (by omega) (by omega) (by omega)]
  exact h1
end
section
/-! THE CLASS'S PRIVATE METHODS -/
theorem ey_C_putOut : eY y_C_putOut 1 = true := by decide +kernel
theorem d_C_putOut_0 : decode c_C_putOut 0 = .ok (.aload_n 0, 1) := by decide +kernel
theorem d_C_putOut_1 : decode c_C_putOut 1 = .ok (.dup, 1) := by decide +kernel
theorem d_C_putOut_2 : decode c_C_putOut 2 = .ok (.getfield 225, 3) := by decide +kernel
theorem d_C_putOut_5 : decode c_C_putOut 5 = .ok (.iconst 1, 1) := by decide +kernel
theorem d_C_putOut_6 : decode c_C_putOut 6 = .ok (.iadd, 1) := by decide +kernel
theorem d_C_putOut_7 : decode c_C_putOut 7 = .ok (.putfield 225, 3) := by decide +kernel
theorem d_C_putOut_10 : decode c_C_putOut 10 = .ok (.aload_n 0, 1) := by decide +kernel
theorem d_C_putOut_11 : decode c_C_putOut 11 = .ok (.getfield 29, 3) := by decide +kernel
theorem d_C_putOut_14 : decode c_C_putOut 14 = .ok (.getfield 271, 3) := by decide +kernel
theorem d_C_putOut_17 : decode c_C_putOut 17 = .ok (.ifCond .ne 25, 3) := by decide +kernel
theorem d_C_putOut_20 : decode c_C_putOut 20 = .ok (.aload_n 0, 1) := by decide +kernel
theorem d_C_putOut_21 : decode c_C_putOut 21 = .ok (.dup, 1) := by decide +kernel
theorem d_C_putOut_22 : decode c_C_putOut 22 = .ok (.getfield 155, 3) := by decide +kernel
theorem d_C_putOut_25 : decode c_C_putOut 25 = .ok (.aload_n 0, 1) := by decide +kernel
theorem d_C_putOut_26 : decode c_C_putOut 26 = .ok (.getfield 18, 3) := by decide +kernel
theorem d_C_putOut_29 : decode c_C_putOut 29 = .ok (.getfield 164, 3) := by decide +kernel
theorem d_C_putOut_32 : decode c_C_putOut 32 = .ok (.iload_n 1, 1) := by decide +kernel
theorem d_C_putOut_33 : decode c_C_putOut 33 = .ok (.iaload, 1) := by decide +kernel
theorem d_C_putOut_34 : decode c_C_putOut 34 = .ok (.invokestatic 167, 3) := by decide +kernel
theorem d_C_putOut_37 : decode c_C_putOut 37 = .ok (.iadd, 1) := by decide +kernel
theorem d_C_putOut_38 : decode c_C_putOut 38 = .ok (.putfield 155, 3) := by decide +kernel
theorem d_C_putOut_41 : decode c_C_putOut 41 = .ok (.return_, 1) := by decide +kernel
theorem d_C_putOut_42 : decode c_C_putOut 42 = .ok (.aload_n 0, 1) := by decide +kernel
theorem d_C_putOut_43 : decode c_C_putOut 43 = .ok (.getfield 29, 3) := by decide +kernel
theorem d_C_putOut_46 : decode c_C_putOut 46 = .ok (.getfield 161, 3) := by decide +kernel
theorem d_C_putOut_49 : decode c_C_putOut 49 = .ok (.aload_n 0, 1) := by decide +kernel
theorem d_C_putOut_50 : decode c_C_putOut 50 = .ok (.getfield 29, 3) := by decide +kernel
theorem d_C_putOut_53 : decode c_C_putOut 53 = .ok (.getfield 271, 3) := by decide +kernel
theorem d_C_putOut_56 : decode c_C_putOut 56 = .ok (.if_icmp .lt 32, 3) := by decide +kernel
theorem d_C_putOut_59 : decode c_C_putOut 59 = .ok (.aload_n 0, 1) := by decide +kernel
theorem d_C_putOut_60 : decode c_C_putOut 60 = .ok (.dup, 1) := by decide +kernel
theorem d_C_putOut_61 : decode c_C_putOut 61 = .ok (.getfield 155, 3) := by decide +kernel
theorem d_C_putOut_64 : decode c_C_putOut 64 = .ok (.aload_n 0, 1) := by decide +kernel
theorem d_C_putOut_65 : decode c_C_putOut 65 = .ok (.getfield 29, 3) := by decide +kernel
theorem d_C_putOut_68 : decode c_C_putOut 68 = .ok (.getfield 175, 3) := by decide +kernel
theorem d_C_putOut_71 : decode c_C_putOut 71 = .ok (.iconst 0, 1) := by decide +kernel
theorem d_C_putOut_72 : decode c_C_putOut 72 = .ok (.iaload, 1) := by decide +kernel
theorem d_C_putOut_73 : decode c_C_putOut 73 = .ok (.invokestatic 167, 3) := by decide +kernel
theorem d_C_putOut_76 : decode c_C_putOut 76 = .ok (.iadd, 1) := by decide +kernel
theorem d_C_putOut_77 : decode c_C_putOut 77 = .ok (.putfield 155, 3) := by decide +kernel
theorem d_C_putOut_80 : decode c_C_putOut 80 = .ok (.aload_n 0, 1) := by decide +kernel
theorem d_C_putOut_81 : decode c_C_putOut 81 = .ok (.getfield 29, 3) := by decide +kernel
theorem d_C_putOut_84 : decode c_C_putOut 84 = .ok (.iconst 0, 1) := by decide +kernel
theorem d_C_putOut_85 : decode c_C_putOut 85 = .ok (.invokevirtual 176, 3) := by decide +kernel
theorem d_C_putOut_88 : decode c_C_putOut 88 = .ok (.aload_n 0, 1) := by decide +kernel
theorem d_C_putOut_89 : decode c_C_putOut 89 = .ok (.getfield 29, 3) := by decide +kernel
theorem d_C_putOut_92 : decode c_C_putOut 92 = .ok (.aload_n 0, 1) := by decide +kernel
theorem d_C_putOut_93 : decode c_C_putOut 93 = .ok (.getfield 18, 3) := by decide +kernel
theorem d_C_putOut_96 : decode c_C_putOut 96 = .ok (.getfield 187, 3) := by decide +kernel
theorem d_C_putOut_99 : decode c_C_putOut 99 = .ok (.iload_n 1, 1) := by decide +kernel
theorem d_C_putOut_100 : decode c_C_putOut 100 = .ok (.iaload, 1) := by decide +kernel
theorem d_C_putOut_101 : decode c_C_putOut 101 = .ok (.aload_n 0, 1) := by decide +kernel
theorem d_C_putOut_102 : decode c_C_putOut 102 = .ok (.getfield 18, 3) := by decide +kernel
theorem d_C_putOut_105 : decode c_C_putOut 105 = .ok (.getfield 105, 3) := by decide +kernel
theorem d_C_putOut_108 : decode c_C_putOut 108 = .ok (.iload_n 1, 1) := by decide +kernel
theorem d_C_putOut_109 : decode c_C_putOut 109 = .ok (.iaload, 1) := by decide +kernel
theorem d_C_putOut_110 : decode c_C_putOut 110 = .ok (.aload_n 0, 1) := by decide +kernel
theorem d_C_putOut_111 : decode c_C_putOut 111 = .ok (.getfield 18, 3) := by decide +kernel
theorem d_C_putOut_114 : decode c_C_putOut 114 = .ok (.getfield 164, 3) := by decide +kernel
theorem d_C_putOut_117 : decode c_C_putOut 117 = .ok (.iload_n 1, 1) := by decide +kernel
theorem d_C_putOut_118 : decode c_C_putOut 118 = .ok (.iaload, 1) := by decide +kernel
theorem d_C_putOut_119 : decode c_C_putOut 119 = .ok (.invokevirtual 274, 3) := by decide +kernel
theorem d_C_putOut_122 : decode c_C_putOut 122 = .ok (.return_, 1) := by decide +kernel
theorem ey_C_writePart : eY y_C_writePart 2 = true := by decide +kernel
theorem d_C_writePart_0 : decode c_C_writePart 0 = .ok (.aload_n 0, 1) := by decide +kernel
theorem d_C_writePart_1 : decode c_C_writePart 1 = .ok (.getfield 18, 3) := by decide +kernel
theorem d_C_writePart_4 : decode c_C_writePart 4 = .ok (.iload_n 1, 1) := by decide +kernel
theorem d_C_writePart_5 : decode c_C_writePart 5 = .ok (.invokevirtual 101, 3) := by decide +kernel
theorem d_C_writePart_8 : decode c_C_writePart 8 = .ok (.istore_n 3, 1) := by decide +kernel
theorem d_C_writePart_9 : decode c_C_writePart 9 = .ok (.aload_n 0, 1) := by decide +kernel
theorem d_C_writePart_10 : decode c_C_writePart 10 = .ok (.getfield 29, 3) := by decide +kernel
theorem d_C_writePart_13 : decode c_C_writePart 13 = .ok (.iload_n 1, 1) := by decide +kernel
theorem d_C_writePart_14 : decode c_C_writePart 14 = .ok (.invokevirtual 148, 3) := by decide +kernel
theorem d_C_writePart_17 : decode c_C_writePart 17 = .ok (.istore 4, 2) := by decide +kernel
theorem d_C_writePart_19 : decode c_C_writePart 19 = .ok (.aload_n 0, 1) := by decide +kernel
theorem d_C_writePart_20 : decode c_C_writePart 20 = .ok (.getfield 59, 3) := by decide +kernel
theorem d_C_writePart_23 : decode c_C_writePart 23 = .ok (.ifCond .ne 14, 3) := by decide +kernel
theorem d_C_writePart_26 : decode c_C_writePart 26 = .ok (.iload_n 3, 1) := by decide +kernel
theorem d_C_writePart_27 : decode c_C_writePart 27 = .ok (.iconst (-1), 1) := by decide +kernel
theorem d_C_writePart_28 : decode c_C_writePart 28 = .ok (.if_icmp .ne 22, 3) := by decide +kernel
theorem d_C_writePart_31 : decode c_C_writePart 31 = .ok (.iload 4, 2) := by decide +kernel
theorem d_C_writePart_33 : decode c_C_writePart 33 = .ok (.iconst (-1), 1) := by decide +kernel
theorem d_C_writePart_34 : decode c_C_writePart 34 = .ok (.if_icmp .ne 16, 3) := by decide +kernel
theorem d_C_writePart_37 : decode c_C_writePart 37 = .ok (.aload_n 0, 1) := by decide +kernel
theorem d_C_writePart_38 : decode c_C_writePart 38 = .ok (.dup, 1) := by decide +kernel
theorem d_C_writePart_39 : decode c_C_writePart 39 = .ok (.getfield 155, 3) := by decide +kernel
theorem d_C_writePart_42 : decode c_C_writePart 42 = .ok (.iconst 1, 1) := by decide +kernel
theorem d_C_writePart_43 : decode c_C_writePart 43 = .ok (.iadd, 1) := by decide +kernel
theorem d_C_writePart_44 : decode c_C_writePart 44 = .ok (.putfield 155, 3) := by decide +kernel
theorem d_C_writePart_47 : decode c_C_writePart 47 = .ok (.goto 38, 3) := by decide +kernel
theorem d_C_writePart_50 : decode c_C_writePart 50 = .ok (.iload_n 3, 1) := by decide +kernel
theorem d_C_writePart_51 : decode c_C_writePart 51 = .ok (.iconst (-1), 1) := by decide +kernel
theorem d_C_writePart_52 : decode c_C_writePart 52 = .ok (.if_icmp .eq 19, 3) := by decide +kernel
theorem d_C_writePart_55 : decode c_C_writePart 55 = .ok (.aload_n 0, 1) := by decide +kernel
theorem d_C_writePart_56 : decode c_C_writePart 56 = .ok (.getfield 18, 3) := by decide +kernel
theorem d_C_writePart_59 : decode c_C_writePart 59 = .ok (.getfield 164, 3) := by decide +kernel
theorem d_C_writePart_62 : decode c_C_writePart 62 = .ok (.iload_n 3, 1) := by decide +kernel
theorem d_C_writePart_63 : decode c_C_writePart 63 = .ok (.dup2, 1) := by decide +kernel
theorem d_C_writePart_64 : decode c_C_writePart 64 = .ok (.iaload, 1) := by decide +kernel
theorem d_C_writePart_65 : decode c_C_writePart 65 = .ok (.iload_n 2, 1) := by decide +kernel
theorem d_C_writePart_66 : decode c_C_writePart 66 = .ok (.ior, 1) := by decide +kernel
theorem d_C_writePart_67 : decode c_C_writePart 67 = .ok (.iastore, 1) := by decide +kernel
theorem d_C_writePart_68 : decode c_C_writePart 68 = .ok (.goto 17, 3) := by decide +kernel
theorem d_C_writePart_71 : decode c_C_writePart 71 = .ok (.aload_n 0, 1) := by decide +kernel
theorem d_C_writePart_72 : decode c_C_writePart 72 = .ok (.getfield 29, 3) := by decide +kernel
theorem d_C_writePart_75 : decode c_C_writePart 75 = .ok (.getfield 175, 3) := by decide +kernel
theorem d_C_writePart_78 : decode c_C_writePart 78 = .ok (.iload 4, 2) := by decide +kernel
theorem d_C_writePart_80 : decode c_C_writePart 80 = .ok (.dup2, 1) := by decide +kernel
theorem d_C_writePart_81 : decode c_C_writePart 81 = .ok (.iaload, 1) := by decide +kernel
theorem d_C_writePart_82 : decode c_C_writePart 82 = .ok (.iload_n 2, 1) := by decide +kernel
theorem d_C_writePart_83 : decode c_C_writePart 83 = .ok (.ior, 1) := by decide +kernel
theorem d_C_writePart_84 : decode c_C_writePart 84 = .ok (.iastore, 1) := by decide +kernel
theorem d_C_writePart_85 : decode c_C_writePart 85 = .ok (.return_, 1) := by decide +kernel
theorem ey_C_place : eY y_C_place 3 = true := by decide +kernel
theorem d_C_place_0 : decode c_C_place 0 = .ok (.aload_n 0, 1) := by decide +kernel
theorem d_C_place_1 : decode c_C_place 1 = .ok (.getfield 18, 3) := by decide +kernel
theorem d_C_place_4 : decode c_C_place 4 = .ok (.iload_n 1, 1) := by decide +kernel
theorem d_C_place_5 : decode c_C_place 5 = .ok (.invokevirtual 238, 3) := by decide +kernel
theorem d_C_place_8 : decode c_C_place 8 = .ok (.istore 4, 2) := by decide +kernel
theorem d_C_place_10 : decode c_C_place 10 = .ok (.aload_n 0, 1) := by decide +kernel
theorem d_C_place_11 : decode c_C_place 11 = .ok (.getfield 18, 3) := by decide +kernel
theorem d_C_place_14 : decode c_C_place 14 = .ok (.iload 4, 2) := by decide +kernel
theorem d_C_place_16 : decode c_C_place 16 = .ok (.invokevirtual 201, 3) := by decide +kernel
theorem d_C_place_19 : decode c_C_place 19 = .ok (.istore 5, 2) := by decide +kernel
theorem d_C_place_21 : decode c_C_place 21 = .ok (.iload 5, 2) := by decide +kernel
theorem d_C_place_23 : decode c_C_place 23 = .ok (.iconst (-1), 1) := by decide +kernel
theorem d_C_place_24 : decode c_C_place 24 = .ok (.if_icmp .ne 63, 3) := by decide +kernel
theorem d_C_place_27 : decode c_C_place 27 = .ok (.aload_n 0, 1) := by decide +kernel
theorem d_C_place_28 : decode c_C_place 28 = .ok (.getfield 37, 3) := by decide +kernel
theorem d_C_place_31 : decode c_C_place 31 = .ok (.iload 4, 2) := by decide +kernel
theorem d_C_place_33 : decode c_C_place 33 = .ok (.aload_n 0, 1) := by decide +kernel
theorem d_C_place_34 : decode c_C_place 34 = .ok (.getfield 18, 3) := by decide +kernel
theorem d_C_place_37 : decode c_C_place 37 = .ok (.getfield 144, 3) := by decide +kernel
theorem d_C_place_40 : decode c_C_place 40 = .ok (.invokevirtual 204, 3) := by decide +kernel
theorem d_C_place_43 : decode c_C_place 43 = .ok (.istore 5, 2) := by decide +kernel
theorem d_C_place_45 : decode c_C_place 45 = .ok (.iload 5, 2) := by decide +kernel
theorem d_C_place_47 : decode c_C_place 47 = .ok (.iconst (-1), 1) := by decide +kernel
theorem d_C_place_48 : decode c_C_place 48 = .ok (.if_icmp .ne 4, 3) := by decide +kernel
theorem d_C_place_51 : decode c_C_place 51 = .ok (.return_, 1) := by decide +kernel
theorem d_C_place_52 : decode c_C_place 52 = .ok (.aload_n 0, 1) := by decide +kernel
theorem d_C_place_53 : decode c_C_place 53 = .ok (.getfield 37, 3) := by decide +kernel
theorem d_C_place_56 : decode c_C_place 56 = .ok (.iload 4, 2) := by decide +kernel
theorem d_C_place_58 : decode c_C_place 58 = .ok (.iload 5, 2) := by decide +kernel
theorem d_C_place_60 : decode c_C_place 60 = .ok (.aload_n 0, 1) := by decide +kernel
theorem d_C_place_61 : decode c_C_place 61 = .ok (.getfield 18, 3) := by decide +kernel
theorem d_C_place_64 : decode c_C_place 64 = .ok (.getfield 144, 3) := by decide +kernel
theorem d_C_place_67 : decode c_C_place 67 = .ok (.invokevirtual 257, 3) := by decide +kernel
theorem d_C_place_70 : decode c_C_place 70 = .ok (.aload_n 0, 1) := by decide +kernel
theorem d_C_place_71 : decode c_C_place 71 = .ok (.iload 4, 2) := by decide +kernel
theorem d_C_place_73 : decode c_C_place 73 = .ok (.aload_n 0, 1) := by decide +kernel
theorem d_C_place_74 : decode c_C_place 74 = .ok (.getfield 18, 3) := by decide +kernel
theorem d_C_place_77 : decode c_C_place 77 = .ok (.getfield 182, 3) := by decide +kernel
theorem d_C_place_80 : decode c_C_place 80 = .ok (.imul, 1) := by decide +kernel
theorem d_C_place_81 : decode c_C_place 81 = .ok (.iload 5, 2) := by decide +kernel
theorem d_C_place_83 : decode c_C_place 83 = .ok (.iadd, 1) := by decide +kernel
theorem d_C_place_84 : decode c_C_place 84 = .ok (.invokevirtual 261, 3) := by decide +kernel
theorem d_C_place_87 : decode c_C_place 87 = .ok (.aload_n 0, 1) := by decide +kernel
theorem d_C_place_88 : decode c_C_place 88 = .ok (.getfield 18, 3) := by decide +kernel
theorem d_C_place_91 : decode c_C_place 91 = .ok (.iload 4, 2) := by decide +kernel
theorem d_C_place_93 : decode c_C_place 93 = .ok (.aload_n 0, 1) := by decide +kernel
theorem d_C_place_94 : decode c_C_place 94 = .ok (.getfield 18, 3) := by decide +kernel
theorem d_C_place_97 : decode c_C_place 97 = .ok (.getfield 182, 3) := by decide +kernel
theorem d_C_place_100 : decode c_C_place 100 = .ok (.imul, 1) := by decide +kernel
theorem d_C_place_101 : decode c_C_place 101 = .ok (.iload 5, 2) := by decide +kernel
theorem d_C_place_103 : decode c_C_place 103 = .ok (.iadd, 1) := by decide +kernel
theorem d_C_place_104 : decode c_C_place 104 = .ok (.iload_n 1, 1) := by decide +kernel
theorem d_C_place_105 : decode c_C_place 105 = .ok (.iload_n 2, 1) := by decide +kernel
theorem d_C_place_106 : decode c_C_place 106 = .ok (.iload_n 3, 1) := by decide +kernel
theorem d_C_place_107 : decode c_C_place 107 = .ok (.invokevirtual 264, 3) := by decide +kernel
theorem d_C_place_110 : decode c_C_place 110 = .ok (.aload_n 0, 1) := by decide +kernel
theorem d_C_place_111 : decode c_C_place 111 = .ok (.getfield 37, 3) := by decide +kernel
theorem d_C_place_114 : decode c_C_place 114 = .ok (.iload 4, 2) := by decide +kernel
theorem d_C_place_116 : decode c_C_place 116 = .ok (.iload 5, 2) := by decide +kernel
theorem d_C_place_118 : decode c_C_place 118 = .ok (.invokevirtual 268, 3) := by decide +kernel
theorem d_C_place_121 : decode c_C_place 121 = .ok (.return_, 1) := by decide +kernel
theorem ey_C_useWay : eY y_C_useWay 3 = true := by decide +kernel
theorem d_C_useWay_0 : decode c_C_useWay 0 = .ok (.aload_n 0, 1) := by decide +kernel
theorem d_C_useWay_1 : decode c_C_useWay 1 = .ok (.getfield 37, 3) := by decide +kernel
theorem d_C_useWay_4 : decode c_C_useWay 4 = .ok (.iload_n 1, 1) := by decide +kernel
theorem d_C_useWay_5 : decode c_C_useWay 5 = .ok (.iload_n 2, 1) := by decide +kernel
theorem d_C_useWay_6 : decode c_C_useWay 6 = .ok (.iload_n 1, 1) := by decide +kernel
theorem d_C_useWay_7 : decode c_C_useWay 7 = .ok (.aload_n 0, 1) := by decide +kernel
theorem d_C_useWay_8 : decode c_C_useWay 8 = .ok (.getfield 18, 3) := by decide +kernel
theorem d_C_useWay_11 : decode c_C_useWay 11 = .ok (.getfield 182, 3) := by decide +kernel
theorem d_C_useWay_14 : decode c_C_useWay 14 = .ok (.imul, 1) := by decide +kernel
theorem d_C_useWay_15 : decode c_C_useWay 15 = .ok (.isub, 1) := by decide +kernel
theorem d_C_useWay_16 : decode c_C_useWay 16 = .ok (.invokevirtual 254, 3) := by decide +kernel
theorem d_C_useWay_19 : decode c_C_useWay 19 = .ok (.aload_n 0, 1) := by decide +kernel
theorem d_C_useWay_20 : decode c_C_useWay 20 = .ok (.getfield 18, 3) := by decide +kernel
theorem d_C_useWay_23 : decode c_C_useWay 23 = .ok (.getfield 105, 3) := by decide +kernel
theorem d_C_useWay_26 : decode c_C_useWay 26 = .ok (.iload_n 2, 1) := by decide +kernel
theorem d_C_useWay_27 : decode c_C_useWay 27 = .ok (.iaload, 1) := by decide +kernel
theorem d_C_useWay_28 : decode c_C_useWay 28 = .ok (.iload_n 3, 1) := by decide +kernel
theorem d_C_useWay_29 : decode c_C_useWay 29 = .ok (.iand, 1) := by decide +kernel
theorem d_C_useWay_30 : decode c_C_useWay 30 = .ok (.ifCond .eq 5, 3) := by decide +kernel
theorem d_C_useWay_33 : decode c_C_useWay 33 = .ok (.iconst 0, 1) := by decide +kernel
theorem d_C_useWay_34 : decode c_C_useWay 34 = .ok (.ireturn, 1) := by decide +kernel
theorem d_C_useWay_35 : decode c_C_useWay 35 = .ok (.aload_n 0, 1) := by decide +kernel
theorem d_C_useWay_36 : decode c_C_useWay 36 = .ok (.getfield 18, 3) := by decide +kernel
theorem d_C_useWay_39 : decode c_C_useWay 39 = .ok (.getfield 105, 3) := by decide +kernel
theorem d_C_useWay_42 : decode c_C_useWay 42 = .ok (.iload_n 2, 1) := by decide +kernel
theorem d_C_useWay_43 : decode c_C_useWay 43 = .ok (.dup2, 1) := by decide +kernel
theorem d_C_useWay_44 : decode c_C_useWay 44 = .ok (.iaload, 1) := by decide +kernel
theorem d_C_useWay_45 : decode c_C_useWay 45 = .ok (.iload_n 3, 1) := by decide +kernel
theorem d_C_useWay_46 : decode c_C_useWay 46 = .ok (.ior, 1) := by decide +kernel
theorem d_C_useWay_47 : decode c_C_useWay 47 = .ok (.iastore, 1) := by decide +kernel
theorem d_C_useWay_48 : decode c_C_useWay 48 = .ok (.aload_n 0, 1) := by decide +kernel
theorem d_C_useWay_49 : decode c_C_useWay 49 = .ok (.dup, 1) := by decide +kernel
theorem d_C_useWay_50 : decode c_C_useWay 50 = .ok (.getfield 222, 3) := by decide +kernel
theorem d_C_useWay_53 : decode c_C_useWay 53 = .ok (.iconst 1, 1) := by decide +kernel
theorem d_C_useWay_54 : decode c_C_useWay 54 = .ok (.iadd, 1) := by decide +kernel
theorem d_C_useWay_55 : decode c_C_useWay 55 = .ok (.putfield 222, 3) := by decide +kernel
theorem d_C_useWay_58 : decode c_C_useWay 58 = .ok (.iconst 1, 1) := by decide +kernel
theorem d_C_useWay_59 : decode c_C_useWay 59 = .ok (.ireturn, 1) := by decide +kernel
theorem ey_C_recall : eY y_C_recall 2 = true := by decide +kernel
theorem d_C_recall_0 : decode c_C_recall 0 = .ok (.aload_n 0, 1) := by decide +kernel
theorem d_C_recall_1 : decode c_C_recall 1 = .ok (.getfield 29, 3) := by decide +kernel
theorem d_C_recall_4 : decode c_C_recall 4 = .ok (.getfield 198, 3) := by decide +kernel
theorem d_C_recall_7 : decode c_C_recall 7 = .ok (.iload_n 1, 1) := by decide +kernel
theorem d_C_recall_8 : decode c_C_recall 8 = .ok (.iaload, 1) := by decide +kernel
theorem d_C_recall_9 : decode c_C_recall 9 = .ok (.iload_n 2, 1) := by decide +kernel
theorem d_C_recall_10 : decode c_C_recall 10 = .ok (.iand, 1) := by decide +kernel
theorem d_C_recall_11 : decode c_C_recall 11 = .ok (.ifCond .ne 26, 3) := by decide +kernel
theorem d_C_recall_14 : decode c_C_recall 14 = .ok (.aload_n 0, 1) := by decide +kernel
theorem d_C_recall_15 : decode c_C_recall 15 = .ok (.getfield 29, 3) := by decide +kernel
theorem d_C_recall_18 : decode c_C_recall 18 = .ok (.getfield 198, 3) := by decide +kernel
theorem d_C_recall_21 : decode c_C_recall 21 = .ok (.iload_n 1, 1) := by decide +kernel
theorem d_C_recall_22 : decode c_C_recall 22 = .ok (.dup2, 1) := by decide +kernel
theorem d_C_recall_23 : decode c_C_recall 23 = .ok (.iaload, 1) := by decide +kernel
theorem d_C_recall_24 : decode c_C_recall 24 = .ok (.iload_n 2, 1) := by decide +kernel
theorem d_C_recall_25 : decode c_C_recall 25 = .ok (.ior, 1) := by decide +kernel
theorem d_C_recall_26 : decode c_C_recall 26 = .ok (.iastore, 1) := by decide +kernel
theorem d_C_recall_27 : decode c_C_recall 27 = .ok (.aload_n 0, 1) := by decide +kernel
theorem d_C_recall_28 : decode c_C_recall 28 = .ok (.dup, 1) := by decide +kernel
theorem d_C_recall_29 : decode c_C_recall 29 = .ok (.getfield 222, 3) := by decide +kernel
theorem d_C_recall_32 : decode c_C_recall 32 = .ok (.iconst 1, 1) := by decide +kernel
theorem d_C_recall_33 : decode c_C_recall 33 = .ok (.iadd, 1) := by decide +kernel
theorem d_C_recall_34 : decode c_C_recall 34 = .ok (.putfield 222, 3) := by decide +kernel
theorem d_C_recall_37 : decode c_C_recall 37 = .ok (.aload_n 0, 1) := by decide +kernel
theorem d_C_recall_38 : decode c_C_recall 38 = .ok (.getfield 29, 3) := by decide +kernel
theorem d_C_recall_41 : decode c_C_recall 41 = .ok (.getfield 197, 3) := by decide +kernel
theorem d_C_recall_44 : decode c_C_recall 44 = .ok (.iload_n 1, 1) := by decide +kernel
theorem d_C_recall_45 : decode c_C_recall 45 = .ok (.iaload, 1) := by decide +kernel
theorem d_C_recall_46 : decode c_C_recall 46 = .ok (.istore_n 3, 1) := by decide +kernel
theorem d_C_recall_47 : decode c_C_recall 47 = .ok (.aload_n 0, 1) := by decide +kernel
theorem d_C_recall_48 : decode c_C_recall 48 = .ok (.getfield 18, 3) := by decide +kernel
theorem d_C_recall_51 : decode c_C_recall 51 = .ok (.aload_n 0, 1) := by decide +kernel
theorem d_C_recall_52 : decode c_C_recall 52 = .ok (.getfield 18, 3) := by decide +kernel
theorem d_C_recall_55 : decode c_C_recall 55 = .ok (.iload_n 3, 1) := by decide +kernel
theorem d_C_recall_56 : decode c_C_recall 56 = .ok (.invokevirtual 238, 3) := by decide +kernel
theorem d_C_recall_59 : decode c_C_recall 59 = .ok (.invokevirtual 248, 3) := by decide +kernel
theorem d_C_recall_62 : decode c_C_recall 62 = .ok (.ifCond .ne 42, 3) := by decide +kernel
theorem d_C_recall_65 : decode c_C_recall 65 = .ok (.aload_n 0, 1) := by decide +kernel
theorem d_C_recall_66 : decode c_C_recall 66 = .ok (.getfield 29, 3) := by decide +kernel
theorem d_C_recall_69 : decode c_C_recall 69 = .ok (.getfield 198, 3) := by decide +kernel
theorem d_C_recall_72 : decode c_C_recall 72 = .ok (.iload_n 1, 1) := by decide +kernel
theorem d_C_recall_73 : decode c_C_recall 73 = .ok (.iaload, 1) := by decide +kernel
theorem d_C_recall_74 : decode c_C_recall 74 = .ok (.istore 4, 2) := by decide +kernel
theorem d_C_recall_76 : decode c_C_recall 76 = .ok (.aload_n 0, 1) := by decide +kernel
theorem d_C_recall_77 : decode c_C_recall 77 = .ok (.getfield 29, 3) := by decide +kernel
theorem d_C_recall_80 : decode c_C_recall 80 = .ok (.getfield 175, 3) := by decide +kernel
theorem d_C_recall_83 : decode c_C_recall 83 = .ok (.iload_n 1, 1) := by decide +kernel
theorem d_C_recall_84 : decode c_C_recall 84 = .ok (.iaload, 1) := by decide +kernel
theorem d_C_recall_85 : decode c_C_recall 85 = .ok (.istore 5, 2) := by decide +kernel
theorem d_C_recall_87 : decode c_C_recall 87 = .ok (.aload_n 0, 1) := by decide +kernel
theorem d_C_recall_88 : decode c_C_recall 88 = .ok (.getfield 29, 3) := by decide +kernel
theorem d_C_recall_91 : decode c_C_recall 91 = .ok (.iload_n 1, 1) := by decide +kernel
theorem d_C_recall_92 : decode c_C_recall 92 = .ok (.invokevirtual 176, 3) := by decide +kernel
theorem d_C_recall_95 : decode c_C_recall 95 = .ok (.aload_n 0, 1) := by decide +kernel
theorem d_C_recall_96 : decode c_C_recall 96 = .ok (.iload_n 3, 1) := by decide +kernel
theorem d_C_recall_97 : decode c_C_recall 97 = .ok (.iload 4, 2) := by decide +kernel
theorem d_C_recall_99 : decode c_C_recall 99 = .ok (.iload 5, 2) := by decide +kernel
theorem d_C_recall_101 : decode c_C_recall 101 = .ok (.invokevirtual 251, 3) := by decide +kernel
theorem d_C_recall_104 : decode c_C_recall 104 = .ok (.iconst 2, 1) := by decide +kernel
theorem d_C_recall_105 : decode c_C_recall 105 = .ok (.ireturn, 1) := by decide +kernel
theorem ey_C_reach : eY y_C_reach 3 = true := by decide +kernel
theorem d_C_reach_0 : decode c_C_reach 0 = .ok (.aload_n 0, 1) := by decide +kernel
theorem d_C_reach_1 : decode c_C_reach 1 = .ok (.getfield 18, 3) := by decide +kernel
theorem d_C_reach_4 : decode c_C_reach 4 = .ok (.iload_n 1, 1) := by decide +kernel
theorem d_C_reach_5 : decode c_C_reach 5 = .ok (.invokevirtual 101, 3) := by decide +kernel
theorem d_C_reach_8 : decode c_C_reach 8 = .ok (.istore 4, 2) := by decide +kernel
theorem d_C_reach_10 : decode c_C_reach 10 = .ok (.iload 4, 2) := by decide +kernel
theorem d_C_reach_12 : decode c_C_reach 12 = .ok (.iconst (-1), 1) := by decide +kernel
theorem d_C_reach_13 : decode c_C_reach 13 = .ok (.if_icmp .eq 19, 3) := by decide +kernel
theorem d_C_reach_16 : decode c_C_reach 16 = .ok (.aload_n 0, 1) := by decide +kernel
theorem d_C_reach_17 : decode c_C_reach 17 = .ok (.aload_n 0, 1) := by decide +kernel
theorem d_C_reach_18 : decode c_C_reach 18 = .ok (.getfield 18, 3) := by decide +kernel
theorem d_C_reach_21 : decode c_C_reach 21 = .ok (.iload_n 1, 1) := by decide +kernel
theorem d_C_reach_22 : decode c_C_reach 22 = .ok (.invokevirtual 238, 3) := by decide +kernel
theorem d_C_reach_25 : decode c_C_reach 25 = .ok (.iload 4, 2) := by decide +kernel
theorem d_C_reach_27 : decode c_C_reach 27 = .ok (.iload_n 2, 1) := by decide +kernel
theorem d_C_reach_28 : decode c_C_reach 28 = .ok (.invokevirtual 241, 3) := by decide +kernel
theorem d_C_reach_31 : decode c_C_reach 31 = .ok (.ireturn, 1) := by decide +kernel
theorem d_C_reach_32 : decode c_C_reach 32 = .ok (.aload_n 0, 1) := by decide +kernel
theorem d_C_reach_33 : decode c_C_reach 33 = .ok (.getfield 29, 3) := by decide +kernel
theorem d_C_reach_36 : decode c_C_reach 36 = .ok (.iload_n 1, 1) := by decide +kernel
theorem d_C_reach_37 : decode c_C_reach 37 = .ok (.invokevirtual 148, 3) := by decide +kernel
theorem d_C_reach_40 : decode c_C_reach 40 = .ok (.istore 5, 2) := by decide +kernel
theorem d_C_reach_42 : decode c_C_reach 42 = .ok (.iload 5, 2) := by decide +kernel
theorem d_C_reach_44 : decode c_C_reach 44 = .ok (.iconst (-1), 1) := by decide +kernel
theorem d_C_reach_45 : decode c_C_reach 45 = .ok (.if_icmp .eq 11, 3) := by decide +kernel
theorem d_C_reach_48 : decode c_C_reach 48 = .ok (.aload_n 0, 1) := by decide +kernel
theorem d_C_reach_49 : decode c_C_reach 49 = .ok (.iload 5, 2) := by decide +kernel
theorem d_C_reach_51 : decode c_C_reach 51 = .ok (.iload_n 2, 1) := by decide +kernel
theorem d_C_reach_52 : decode c_C_reach 52 = .ok (.invokevirtual 245, 3) := by decide +kernel
theorem d_C_reach_55 : decode c_C_reach 55 = .ok (.ireturn, 1) := by decide +kernel
theorem d_C_reach_56 : decode c_C_reach 56 = .ok (.iload_n 3, 1) := by decide +kernel
theorem d_C_reach_57 : decode c_C_reach 57 = .ok (.ifCond .eq 12, 3) := by decide +kernel
theorem d_C_reach_60 : decode c_C_reach 60 = .ok (.aload_n 0, 1) := by decide +kernel
theorem d_C_reach_61 : decode c_C_reach 61 = .ok (.getfield 63, 3) := by decide +kernel
theorem d_C_reach_64 : decode c_C_reach 64 = .ok (.ifCond .ne 5, 3) := by decide +kernel
theorem d_C_reach_67 : decode c_C_reach 67 = .ok (.iconst 3, 1) := by decide +kernel
theorem d_C_reach_68 : decode c_C_reach 68 = .ok (.ireturn, 1) := by decide +kernel
theorem d_C_reach_69 : decode c_C_reach 69 = .ok (.aload_n 0, 1) := by decide +kernel
theorem d_C_reach_70 : decode c_C_reach 70 = .ok (.dup, 1) := by decide +kernel
theorem d_C_reach_71 : decode c_C_reach 71 = .ok (.getfield 222, 3) := by decide +kernel
theorem d_C_reach_74 : decode c_C_reach 74 = .ok (.iconst 1, 1) := by decide +kernel
theorem d_C_reach_75 : decode c_C_reach 75 = .ok (.iadd, 1) := by decide +kernel
theorem d_C_reach_76 : decode c_C_reach 76 = .ok (.putfield 222, 3) := by decide +kernel
theorem d_C_reach_79 : decode c_C_reach 79 = .ok (.aload_n 0, 1) := by decide +kernel
theorem d_C_reach_80 : decode c_C_reach 80 = .ok (.getfield 18, 3) := by decide +kernel
theorem d_C_reach_83 : decode c_C_reach 83 = .ok (.aload_n 0, 1) := by decide +kernel
theorem d_C_reach_84 : decode c_C_reach 84 = .ok (.getfield 18, 3) := by decide +kernel
theorem d_C_reach_87 : decode c_C_reach 87 = .ok (.iload_n 1, 1) := by decide +kernel
theorem d_C_reach_88 : decode c_C_reach 88 = .ok (.invokevirtual 238, 3) := by decide +kernel
theorem d_C_reach_91 : decode c_C_reach 91 = .ok (.invokevirtual 248, 3) := by decide +kernel
theorem d_C_reach_94 : decode c_C_reach 94 = .ok (.ifCond .eq 5, 3) := by decide +kernel
theorem d_C_reach_97 : decode c_C_reach 97 = .ok (.iconst 4, 1) := by decide +kernel
theorem d_C_reach_98 : decode c_C_reach 98 = .ok (.ireturn, 1) := by decide +kernel
theorem d_C_reach_99 : decode c_C_reach 99 = .ok (.aload_n 0, 1) := by decide +kernel
theorem d_C_reach_100 : decode c_C_reach 100 = .ok (.iload_n 1, 1) := by decide +kernel
theorem d_C_reach_101 : decode c_C_reach 101 = .ok (.iload_n 2, 1) := by decide +kernel
theorem d_C_reach_102 : decode c_C_reach 102 = .ok (.iconst 0, 1) := by decide +kernel
theorem d_C_reach_103 : decode c_C_reach 103 = .ok (.invokevirtual 251, 3) := by decide +kernel
theorem d_C_reach_106 : decode c_C_reach 106 = .ok (.iconst 3, 1) := by decide +kernel
theorem d_C_reach_107 : decode c_C_reach 107 = .ok (.ireturn, 1) := by decide +kernel
theorem ey_C_perform : eY y_C_perform 3 = true := by decide +kernel
theorem d_C_perform_0 : decode c_C_perform 0 = .ok (.iconst 1, 1) := by decide +kernel
theorem d_C_perform_1 : decode c_C_perform 1 = .ok (.iload_n 2, 1) := by decide +kernel
theorem d_C_perform_2 : decode c_C_perform 2 = .ok (.ishl, 1) := by decide +kernel
theorem d_C_perform_3 : decode c_C_perform 3 = .ok (.istore 4, 2) := by decide +kernel
theorem d_C_perform_5 : decode c_C_perform 5 = .ok (.aload_n 0, 1) := by decide +kernel
theorem d_C_perform_6 : decode c_C_perform 6 = .ok (.getfield 51, 3) := by decide +kernel
theorem d_C_perform_9 : decode c_C_perform 9 = .ok (.iload_n 1, 1) := by decide +kernel
theorem d_C_perform_10 : decode c_C_perform 10 = .ok (.invokevirtual 229, 3) := by decide +kernel
theorem d_C_perform_13 : decode c_C_perform 13 = .ok (.aload_n 0, 1) := by decide +kernel
theorem d_C_perform_14 : decode c_C_perform 14 = .ok (.iload_n 1, 1) := by decide +kernel
theorem d_C_perform_15 : decode c_C_perform 15 = .ok (.iload 4, 2) := by decide +kernel
theorem d_C_perform_17 : decode c_C_perform 17 = .ok (.iload_n 3, 1) := by decide +kernel
theorem d_C_perform_18 : decode c_C_perform 18 = .ok (.invokevirtual 232, 3) := by decide +kernel
theorem d_C_perform_21 : decode c_C_perform 21 = .ok (.istore 5, 2) := by decide +kernel
theorem d_C_perform_23 : decode c_C_perform 23 = .ok (.iload_n 3, 1) := by decide +kernel
theorem d_C_perform_24 : decode c_C_perform 24 = .ok (.ifCond .eq 10, 3) := by decide +kernel
theorem d_C_perform_27 : decode c_C_perform 27 = .ok (.aload_n 0, 1) := by decide +kernel
theorem d_C_perform_28 : decode c_C_perform 28 = .ok (.iload_n 1, 1) := by decide +kernel
theorem d_C_perform_29 : decode c_C_perform 29 = .ok (.iload 4, 2) := by decide +kernel
theorem d_C_perform_31 : decode c_C_perform 31 = .ok (.invokevirtual 235, 3) := by decide +kernel
theorem d_C_perform_34 : decode c_C_perform 34 = .ok (.aload_n 0, 1) := by decide +kernel
theorem d_C_perform_35 : decode c_C_perform 35 = .ok (.dup, 1) := by decide +kernel
theorem d_C_perform_36 : decode c_C_perform 36 = .ok (.getfield 219, 3) := by decide +kernel
theorem d_C_perform_39 : decode c_C_perform 39 = .ok (.iconst 1, 1) := by decide +kernel
theorem d_C_perform_40 : decode c_C_perform 40 = .ok (.iadd, 1) := by decide +kernel
theorem d_C_perform_41 : decode c_C_perform 41 = .ok (.putfield 219, 3) := by decide +kernel
theorem d_C_perform_44 : decode c_C_perform 44 = .ok (.aload_n 0, 1) := by decide +kernel
theorem d_C_perform_45 : decode c_C_perform 45 = .ok (.getfield 55, 3) := by decide +kernel
theorem d_C_perform_48 : decode c_C_perform 48 = .ok (.iload 5, 2) := by decide +kernel
theorem d_C_perform_50 : decode c_C_perform 50 = .ok (.dup2, 1) := by decide +kernel
theorem d_C_perform_51 : decode c_C_perform 51 = .ok (.iaload, 1) := by decide +kernel
theorem d_C_perform_52 : decode c_C_perform 52 = .ok (.iconst 1, 1) := by decide +kernel
theorem d_C_perform_53 : decode c_C_perform 53 = .ok (.iadd, 1) := by decide +kernel
theorem d_C_perform_54 : decode c_C_perform 54 = .ok (.iastore, 1) := by decide +kernel
theorem d_C_perform_55 : decode c_C_perform 55 = .ok (.iload 5, 2) := by decide +kernel
theorem d_C_perform_57 : decode c_C_perform 57 = .ok (.ireturn, 1) := by decide +kernel
theorem fb {P : Nat → Bool} {k m : Nat} (h : k + m < 2 ^ 31) : ∀ j, fst1 P k m = some j → j < 2 ^ 31 := fun j hj => by have := fst1_some hj; omega
theorem r9_of {v : Nat → Int32} {V z : Nat} (h : RD v V z) : v 9 = nI V := h.1
section CPriv
variable {l : Launch} {G : EG} {a : Nat → Nat} {c : CS} {n S wd V kd z : Nat} {wr : va_W}
set_option maxRecDepth 100000 in
theorem k_C_putOut (hz : RD c.1 V z) (hn : n ≤ 128) {j : Nat} (hj : j < n) (h5 : NB (c.2 5 j)) (h10 : NB (c.2 10 0)) : Con l G y_C_putOut c_C_putOut 2 none (rz 1 23) [.ref (a 0), .int (nI j)] (cF G a c.1 c.2 n V wr) (DV (cF G a (poS V c j).1 (poS V c j).2 n V wr)) := by
  refine Con.of rfl rfl (fun X C E hR hl hnm => ?_)
  have hze := nz_eq hz
  have hz0 := hz
  obtain ⟨r9, r10, r1, r2⟩ := hz
  obtain ⟨b5, hb5, e5⟩ := h5
  obtain ⟨b10, hb10, e10⟩ := h10
  refine e_aload_n C d_C_putOut_0 rfl ?_
  refine e_dup C d_C_putOut_1 rfl ?_
  refine e_get C 0 (k := 11) in_C g275 d_C_putOut_2 rfl rfl rfl rfl ?_
  refine e_iconst C d_C_putOut_5 (v := 1) (by decide) ?_
  refine e_iadd C d_C_putOut_6 ?_
  refine e_put C 0 (k := 11) in_C tk_C nm_C g275 d_C_putOut_7 rfl rfl rfl rfl rfl rfl rfl rfl ?_
  refine e_eq (ws' := cF G a (upd c.1 5 (c.1 5 + 1)) c.2 n V wr) rfl ?_
  refine e_aload_n C d_C_putOut_10 rfl ?_
  refine e_get C 0 (k := 1) in_C g265 d_C_putOut_11 rfl rfl rfl rfl ?_
  refine e_get C 7 (k := 0) in_Rows g82 d_C_putOut_14 rfl rfl rfl rfl ?_
  refine e_top (show _ = nI V from r9) ?_
  refine e_if_ne C d_C_putOut_17 (tgt := 42) (by decide) (fun h17 => ?_) (fun h17 => ?_)
  · have hV : ¬ V = 0 := fun q => h17 (by rw [q]; rfl)
    refine e_aload_n C d_C_putOut_42 rfl ?_
    refine e_get C 0 (k := 1) in_C g265 d_C_putOut_43 rfl rfl rfl rfl ?_
    refine e_get C 7 (k := 4) in_Rows g90 d_C_putOut_46 rfl rfl rfl rfl ?_
    refine e_top (show _ = nI z from r10) ?_
    refine e_aload_n C d_C_putOut_49 rfl ?_
    refine e_get C 0 (k := 1) in_C g265 d_C_putOut_50 rfl rfl rfl rfl ?_
    refine e_get C 7 (k := 0) in_Rows g82 d_C_putOut_53 rfl rfl rfl rfl ?_
    refine e_top (show _ = nI V from r9) ?_
    refine e_icmp_lt C d_C_putOut_56 (tgt := 88) (by decide) (fun h56 => ?_) (fun h56 => ?_)
    · rw [nI_ltI (by omega) (by omega)] at h56
      rw [show poS V c j = (upd (upd c.1 5 (c.1 5 + 1)) 10 (nI (z + 1)), raF c.2 z (c.2 2 j) (c.2 4 j) (c.2 5 j)) by simp only [poS, if_neg hV, hze, if_pos h56]] at E
      refine e_aload_n C d_C_putOut_88 rfl ?_
      refine e_get C 0 (k := 1) in_C g265 d_C_putOut_89 rfl rfl rfl rfl ?_
      refine e_aload_n C d_C_putOut_92 rfl ?_
      refine e_get C 0 (k := 0) in_C g264 d_C_putOut_93 rfl rfl rfl rfl ?_
      refine e_get C 1 (k := 3) in_Ways g47 d_C_putOut_96 rfl rfl rfl rfl ?_
      refine e_iload_n C d_C_putOut_99 rfl ?_
      refine e_iald C 2 0 d_C_putOut_100 rfl rfl j rfl hj (by omega) ?_
      refine e_aload_n C d_C_putOut_101 rfl ?_
      refine e_get C 0 (k := 0) in_C g264 d_C_putOut_102 rfl rfl rfl rfl ?_
      refine e_get C 1 (k := 5) in_Ways g51 d_C_putOut_105 rfl rfl rfl rfl ?_
      refine e_iload_n C d_C_putOut_108 rfl ?_
      refine e_iald C 4 0 d_C_putOut_109 rfl rfl j rfl hj (by omega) ?_
      refine e_aload_n C d_C_putOut_110 rfl ?_
      refine e_get C 0 (k := 0) in_C g264 d_C_putOut_111 rfl rfl rfl rfl ?_
      refine e_get C 1 (k := 6) in_Ways g53 d_C_putOut_114 rfl rfl rfl rfl ?_
      refine e_iload_n C d_C_putOut_117 rfl ?_
      refine e_iald C 5 0 d_C_putOut_118 rfl rfl j rfl hj (by omega) ?_
      refine e_cVv C hR 7 (k_Rows_add (v := upd c.1 5 (c.1 5 + 1)) (f := c.2) hz0 h56 _ _ _) g575 g4 g572 g573 g574 d_C_putOut_119 rfl ey_Rows_add rfl rfl rfl rfl ⟨Nat.zero_le _, Nat.zero_le _⟩ ?_
      exact e_vret C E d_C_putOut_122 (Nat.le_refl _) (Nat.le_refl _) ⟨rfl, rfl⟩
    · rw [nI_ltI (by omega) (by omega)] at h56
      obtain rfl : z = V := by omega
      rw [show poS z c j = (upd (upd (upd (upd c.1 5 (c.1 5 + 1)) 4 (c.1 4 + nI (pop4 b10))) 10 (nI (z - 1))) 10 (nI (z - 1 + 1)), raF (rmF c.2 0 (z - 1)) (z - 1) (c.2 2 j) (c.2 4 j) (c.2 5 j)) by simp only [poS, if_neg hV, hze, if_neg h56, e10, popI_eq hb10]] at E
      refine e_aload_n C d_C_putOut_59 rfl ?_
      refine e_dup C d_C_putOut_60 rfl ?_
      refine e_get C 0 (k := 10) in_C g274 d_C_putOut_61 rfl rfl rfl rfl ?_
      refine e_aload_n C d_C_putOut_64 rfl ?_
      refine e_get C 0 (k := 1) in_C g265 d_C_putOut_65 rfl rfl rfl rfl ?_
      refine e_get C 7 (k := 3) in_Rows g88 d_C_putOut_68 rfl rfl rfl rfl ?_
      refine e_iconst C d_C_putOut_71 (v := 0) (by decide) ?_
      refine e_iald C 10 0 d_C_putOut_72 rfl rfl 0 rfl (by omega) (by omega) ?_
      refine e_top e10 ?_
      refine e_cSi C hR (k_bitCount hb10) g331 g19 g348 g330 d_C_putOut_73 rfl ey_Integer_bitCount rfl rfl ⟨Nat.zero_le _, Nat.zero_le _⟩ ?_
      refine e_iadd C d_C_putOut_76 ?_
      refine e_put C 0 (k := 10) in_C tk_C nm_C g274 d_C_putOut_77 rfl rfl rfl rfl rfl rfl rfl rfl ?_
      refine e_eq (ws' := cF G a (upd (upd c.1 5 (c.1 5 + 1)) 4 (c.1 4 + nI (pop4 b10))) c.2 n z wr) rfl ?_
      refine e_aload_n C d_C_putOut_80 rfl ?_
      refine e_get C 0 (k := 1) in_C g265 d_C_putOut_81 rfl rfl rfl rfl ?_
      refine e_iconst C d_C_putOut_84 (v := nI 0) (by decide) ?_
      refine e_cVv C hR 7 (k_Rows_remove (v := upd (upd c.1 5 (c.1 5 + 1)) 4 (c.1 4 + nI (pop4 b10))) (f := c.2) hz0 (show 0 < z by omega)) g356 g4 g353 g354 g355 d_C_putOut_85 rfl ey_Rows_remove rfl rfl rfl rfl ⟨Nat.zero_le _, Nat.zero_le _⟩ ?_
      refine e_aload_n C d_C_putOut_88 rfl ?_
      refine e_get C 0 (k := 1) in_C g265 d_C_putOut_89 rfl rfl rfl rfl ?_
      refine e_aload_n C d_C_putOut_92 rfl ?_
      refine e_get C 0 (k := 0) in_C g264 d_C_putOut_93 rfl rfl rfl rfl ?_
      refine e_get C 1 (k := 3) in_Ways g47 d_C_putOut_96 rfl rfl rfl rfl ?_
      refine e_iload_n C d_C_putOut_99 rfl ?_
      refine e_iald C 2 0 d_C_putOut_100 rfl rfl j rfl hj (by omega) ?_
      refine e_aload_n C d_C_putOut_101 rfl ?_
      refine e_get C 0 (k := 0) in_C g264 d_C_putOut_102 rfl rfl rfl rfl ?_
      refine e_get C 1 (k := 5) in_Ways g51 d_C_putOut_105 rfl rfl rfl rfl ?_
      refine e_iload_n C d_C_putOut_108 rfl ?_
      refine e_iald C 4 0 d_C_putOut_109 rfl rfl j rfl hj (by omega) ?_
      refine e_aload_n C d_C_putOut_110 rfl ?_
      refine e_get C 0 (k := 0) in_C g264 d_C_putOut_111 rfl rfl rfl rfl ?_
      refine e_get C 1 (k := 6) in_Ways g53 d_C_putOut_114 rfl rfl rfl rfl ?_
      refine e_iload_n C d_C_putOut_117 rfl ?_
      refine e_iald C 5 0 d_C_putOut_118 rfl rfl j rfl hj (by omega) ?_
      refine e_cVv C hR 7 (k_Rows_add (v := upd (upd (upd c.1 5 (c.1 5 + 1)) 4 (c.1 4 + nI (pop4 b10))) 10 (nI (z - 1))) (f := rmF c.2 0 (z - 1)) (z := z - 1) ⟨r9, rfl, by omega, r2⟩ (by omega) _ _ _) g575 g4 g572 g573 g574 d_C_putOut_119 rfl ey_Rows_add rfl rfl rfl rfl ⟨Nat.zero_le _, Nat.zero_le _⟩ ?_
      exact e_vret C E d_C_putOut_122 (Nat.le_refl _) (Nat.le_refl _) ⟨rfl, rfl⟩
  · have hV : V = 0 := by
      rcases Nat.eq_zero_or_pos V with q | q
      · exact q
      · exact absurd h17 (nI_ne0 q (by omega))
    rw [show poS V c j = (upd (upd c.1 5 (c.1 5 + 1)) 4 (c.1 4 + nI (pop4 b5)), c.2) by simp only [poS, if_pos hV, e5, popI_eq hb5]] at E
    refine e_aload_n C d_C_putOut_20 rfl ?_
    refine e_dup C d_C_putOut_21 rfl ?_
    refine e_get C 0 (k := 10) in_C g274 d_C_putOut_22 rfl rfl rfl rfl ?_
    refine e_aload_n C d_C_putOut_25 rfl ?_
    refine e_get C 0 (k := 0) in_C g264 d_C_putOut_26 rfl rfl rfl rfl ?_
    refine e_get C 1 (k := 6) in_Ways g53 d_C_putOut_29 rfl rfl rfl rfl ?_
    refine e_iload_n C d_C_putOut_32 rfl ?_
    refine e_iald C 5 0 d_C_putOut_33 rfl rfl j rfl hj (by omega) ?_
    refine e_top e5 ?_
    refine e_cSi C hR (k_bitCount hb5) g331 g19 g348 g330 d_C_putOut_34 rfl ey_Integer_bitCount rfl rfl ⟨Nat.zero_le _, Nat.zero_le _⟩ ?_
    refine e_iadd C d_C_putOut_37 ?_
    refine e_put C 0 (k := 10) in_C tk_C nm_C g274 d_C_putOut_38 rfl rfl rfl rfl rfl rfl rfl rfl ?_
    exact e_vret C E d_C_putOut_41 (Nat.le_refl _) (Nat.le_refl _) ⟨rfl, rfl⟩
set_option maxRecDepth 100000 in
theorem k_C_writePart (h : CD c.1 S wd) (hz : RD c.1 V z) (x bit : Int32) : Con l G y_C_writePart c_C_writePart 5 none (rz 2 44) [.ref (a 0), .int x, .int bit] (cF G a c.1 c.2 (S * wd) V wr) (DV (cF G a (wpS S wd c x bit).1 (wpS S wd c x bit).2 (S * wd) V wr)) := by
  refine Con.of rfl rfl (fun X C E hR hl hnm => ?_)
  have hze := nz_eq hz
  have hn1 := h.n128
  have hlt0 := sN_lt h x
  have hb2 : sN S x * wd + wd ≤ S * wd := by
    have := slot_lt (wd := wd) (w := wd - 1) hlt0 (by have := h.2.2.2.2; omega)
    have := h.2.2.2.2
    omega
  have hz0 := hz
  obtain ⟨r9, r10, r1, r2⟩ := hz
  unfold wpS at E
  rw [hze] at E
  refine e_aload_n C d_C_writePart_0 rfl ?_
  refine e_get C 0 (k := 0) in_C g264 d_C_writePart_1 rfl rfl rfl rfl ?_
  refine e_iload_n C d_C_writePart_4 rfl ?_
  refine e_cVi C hR 1 (k_Ways_find h x) g312 g3 g309 g310 g311 d_C_writePart_5 rfl ey_Ways_find rfl rfl rfl rfl ⟨Nat.zero_le _, Nat.zero_le _⟩ ?_
  refine e_istore_n C d_C_writePart_8 rfl ?_
  refine e_aload_n C d_C_writePart_9 rfl ?_
  refine e_get C 0 (k := 1) in_C g265 d_C_writePart_10 rfl rfl rfl rfl ?_
  refine e_iload_n C d_C_writePart_13 rfl ?_
  refine e_cVi C hR 7 (k_Rows_find hz0 x) g324 g4 g321 g322 g323 d_C_writePart_14 rfl ey_Rows_find rfl rfl rfl rfl ⟨Nat.zero_le _, Nat.zero_le _⟩ ?_
  refine e_istore C d_C_writePart_17 rfl ?_
  refine e_aload_n C d_C_writePart_19 rfl ?_
  refine e_get C 0 (k := 6) in_C g270 d_C_writePart_20 rfl rfl rfl rfl ?_
  refine e_if_ne C d_C_writePart_23 (tgt := 37) (by decide) (fun h23 => ?_) (fun h23 => ?_)
  · have h23 : ¬ c.1 0 = 0 := h23
    rw [if_pos h23] at E
    refine e_aload_n C d_C_writePart_37 rfl ?_
    refine e_dup C d_C_writePart_38 rfl ?_
    refine e_get C 0 (k := 10) in_C g274 d_C_writePart_39 rfl rfl rfl rfl ?_
    refine e_iconst C d_C_writePart_42 (v := 1) (by decide) ?_
    refine e_iadd C d_C_writePart_43 ?_
    refine e_put C 0 (k := 10) in_C tk_C nm_C g274 d_C_writePart_44 rfl rfl rfl rfl rfl rfl rfl rfl ?_
    refine e_goto C d_C_writePart_47 (tgt := 85) (by decide) ?_
    exact e_vret C E d_C_writePart_85 (Nat.le_refl _) (Nat.le_refl _) ⟨rfl, rfl⟩
  · have h23 : c.1 0 = 0 := h23
    rw [if_neg (fun q => q h23)] at E
    refine e_iload_n C d_C_writePart_26 rfl ?_
    refine e_iconst C d_C_writePart_27 (v := (-1)) (by decide) ?_
    refine e_icmp_ne C d_C_writePart_28 (tgt := 50) (by decide) (fun h28 => ?_) (fun h28 => ?_)
    · rw [oI_n1 (fb (by omega))] at h28
      obtain ⟨j, hj⟩ := Option.ne_none_iff_exists'.mp h28
      have hj2 := fst1_some hj
      rw [hj] at E
      rw [hj]
      refine e_iload_n C d_C_writePart_50 rfl ?_
      refine e_iconst C d_C_writePart_51 (v := (-1)) (by decide) ?_
      refine e_icmp_eq C d_C_writePart_52 (tgt := 71) (by decide) (fun h52 => ?_) (fun h52 => ?_)
      · exact absurd h52 (by rw [oI_n1 (fun k hk => by cases hk; omega)]; simp)
      · skip
        refine e_aload_n C d_C_writePart_55 rfl ?_
        refine e_get C 0 (k := 0) in_C g264 d_C_writePart_56 rfl rfl rfl rfl ?_
        refine e_get C 1 (k := 6) in_Ways g53 d_C_writePart_59 rfl rfl rfl rfl ?_
        refine e_iload_n C d_C_writePart_62 rfl ?_
        refine e_dup2 C d_C_writePart_63 rfl rfl ?_
        refine e_iald C 5 0 d_C_writePart_64 rfl rfl j rfl (by omega) (by omega) ?_
        refine e_iload_n C d_C_writePart_65 rfl ?_
        refine e_ior C d_C_writePart_66 ?_
        refine e_iast C 5 0 d_C_writePart_67 rfl rfl j rfl (by omega) (by omega) ?_
        refine e_goto C d_C_writePart_68 (tgt := 85) (by decide) ?_
        exact e_vret C E d_C_writePart_85 (Nat.le_refl _) (Nat.le_refl _) ⟨rfl, rfl⟩
    · rw [oI_n1 (fb (by omega))] at h28
      rw [h28] at E
      refine e_iload C d_C_writePart_31 rfl ?_
      refine e_iconst C d_C_writePart_33 (v := (-1)) (by decide) ?_
      refine e_icmp_ne C d_C_writePart_34 (tgt := 50) (by decide) (fun h34 => ?_) (fun h34 => ?_)
      · rw [oI_n1 (fb (by omega))] at h34
        obtain ⟨k, hk⟩ := Option.ne_none_iff_exists'.mp h34
        have hk2 := fst1_some hk
        rw [hk] at E
        rw [hk, h28]
        refine e_iload_n C d_C_writePart_50 rfl ?_
        refine e_iconst C d_C_writePart_51 (v := (-1)) (by decide) ?_
        refine e_icmp_eq C d_C_writePart_52 (tgt := 71) (by decide) (fun h52 => ?_) (fun h52 => ?_)
        · skip
          refine e_aload_n C d_C_writePart_71 rfl ?_
          refine e_get C 0 (k := 1) in_C g265 d_C_writePart_72 rfl rfl rfl rfl ?_
          refine e_get C 7 (k := 3) in_Rows g88 d_C_writePart_75 rfl rfl rfl rfl ?_
          refine e_iload C d_C_writePart_78 rfl ?_
          refine e_dup2 C d_C_writePart_80 rfl rfl ?_
          refine e_iald C 10 0 d_C_writePart_81 rfl rfl k rfl (by omega) (by omega) ?_
          refine e_iload_n C d_C_writePart_82 rfl ?_
          refine e_ior C d_C_writePart_83 ?_
          refine e_iast C 10 0 d_C_writePart_84 rfl rfl k rfl (by omega) (by omega) ?_
          exact e_vret C E d_C_writePart_85 (Nat.le_refl _) (Nat.le_refl _) ⟨rfl, rfl⟩
        · exact absurd rfl h52
      · rw [oI_n1 (fb (by omega))] at h34
        rw [h34] at E
        refine e_aload_n C d_C_writePart_37 rfl ?_
        refine e_dup C d_C_writePart_38 rfl ?_
        refine e_get C 0 (k := 10) in_C g274 d_C_writePart_39 rfl rfl rfl rfl ?_
        refine e_iconst C d_C_writePart_42 (v := 1) (by decide) ?_
        refine e_iadd C d_C_writePart_43 ?_
        refine e_put C 0 (k := 10) in_C tk_C nm_C g274 d_C_writePart_44 rfl rfl rfl rfl rfl rfl rfl rfl ?_
        refine e_goto C d_C_writePart_47 (tgt := 85) (by decide) ?_
        exact e_vret C E d_C_writePart_85 (Nat.le_refl _) (Nat.le_refl _) ⟨rfl, rfl⟩
set_option maxRecDepth 100000 in
theorem k_C_useWay (h : RC S wd kd c) {s w : Nat} (hs : s < S) (hw : w < wd) (bit : Int32) : Con l G y_C_useWay c_C_useWay 4 (some .int) (rz 2 47) [.ref (a 0), .int (nI s), .int (nI (s * wd + w)), .int bit] (wK G a c S wd V kd) (DI (uwS wd kd c s w bit).2 (wK G a (uwS wd kd c s w bit).1 S wd V kd)) := by
  refine Con.of rfl rfl (fun X C E hR hl hnm => ?_)
  have hn1 := h.1.n128
  have hlt := slot_lt hs hw
  have hro := rUse_RO wd kd c s w
  refine e_aload_n C d_C_useWay_0 rfl ?_
  refine e_get C 0 (k := 2) in_C g266 d_C_useWay_1 rfl rfl rfl rfl ?_
  refine e_iload_n C d_C_useWay_4 rfl ?_
  refine e_iload_n C d_C_useWay_5 rfl ?_
  refine e_iload_n C d_C_useWay_6 rfl ?_
  refine e_aload_n C d_C_useWay_7 rfl ?_
  refine e_get C 0 (k := 0) in_C g264 d_C_useWay_8 rfl rfl rfl rfl ?_
  refine e_get C 1 (k := 1) in_Ways g43 d_C_useWay_11 rfl rfl rfl rfl ?_
  refine e_top (show _ = nI wd from h.1.2.1) ?_
  refine e_imul C d_C_useWay_14 ?_
  refine e_top (pk_mul _ _) ?_
  refine e_isub C d_C_useWay_15 ?_
  refine e_top (y := nI w) (by rw [pk_sub (by omega)]; congr 1; omega) ?_
  refine e_rule_use C hR h hs hw g470 d_C_useWay_16 rfl rfl ⟨Nat.zero_le _, Nat.zero_le _⟩ ?_
  refine e_aload_n C d_C_useWay_19 rfl ?_
  refine e_get C 0 (k := 0) in_C g264 d_C_useWay_20 rfl rfl rfl rfl ?_
  refine e_get C 1 (k := 5) in_Ways g51 d_C_useWay_23 rfl rfl rfl rfl ?_
  refine e_iload_n C d_C_useWay_26 rfl ?_
  refine e_iald C 4 0 d_C_useWay_27 rfl rfl (s * wd + w) rfl hlt (by omega) ?_
  refine e_iload_n C d_C_useWay_28 rfl ?_
  refine e_iand C d_C_useWay_29 ?_
  refine e_top (y := c.2 4 (s * wd + w) &&& bit) (by rw [hro.2 4 (by omega)]) ?_
  refine e_if_eq C d_C_useWay_30 (tgt := 35) (by decide) (fun h30 => ?_) (fun h30 => ?_)
  · rw [show uwS wd kd c s w bit = ((upd (rUse wd kd c s w).1 3 ((rUse wd kd c s w).1 3 + 1), up2 (rUse wd kd c s w).2 4 (upd ((rUse wd kd c s w).2 4) (s * wd + w) ((rUse wd kd c s w).2 4 (s * wd + w) ||| bit))), 1) by rw [hro.2 4 (by omega), hro.1 3 (by omega)]; simp only [uwS, if_pos h30]] at E
    generalize rUse wd kd c s w = c1 at E ⊢
    refine e_aload_n C d_C_useWay_35 rfl ?_
    refine e_get C 0 (k := 0) in_C g264 d_C_useWay_36 rfl rfl rfl rfl ?_
    refine e_get C 1 (k := 5) in_Ways g51 d_C_useWay_39 rfl rfl rfl rfl ?_
    refine e_iload_n C d_C_useWay_42 rfl ?_
    refine e_dup2 C d_C_useWay_43 rfl rfl ?_
    refine e_iald C 4 0 d_C_useWay_44 rfl rfl (s * wd + w) rfl hlt (by omega) ?_
    refine e_iload_n C d_C_useWay_45 rfl ?_
    refine e_ior C d_C_useWay_46 ?_
    refine e_iast C 4 0 d_C_useWay_47 rfl rfl (s * wd + w) rfl hlt (by omega) ?_
    refine e_aload_n C d_C_useWay_48 rfl ?_
    refine e_dup C d_C_useWay_49 rfl ?_
    refine e_get C 0 (k := 9) in_C g273 d_C_useWay_50 rfl rfl rfl rfl ?_
    refine e_iconst C d_C_useWay_53 (v := 1) (by decide) ?_
    refine e_iadd C d_C_useWay_54 ?_
    refine e_put C 0 (k := 9) in_C tk_C nm_C g273 d_C_useWay_55 rfl rfl rfl rfl rfl rfl rfl rfl ?_
    refine e_eq (ws' := wK G a (upd c1.1 3 (c1.1 3 + 1), up2 c1.2 4 (upd (c1.2 4) (s * wd + w) (c1.2 4 (s * wd + w) ||| bit))) S wd V kd) (wK_of (c := c1) (c' := (upd c1.1 3 (c1.1 3 + 1), up2 c1.2 4 (upd (c1.2 4) (s * wd + w) (c1.2 4 (s * wd + w) ||| bit)))) ⟨⟨rfl, rfl, rfl, rfl, rfl, rfl, rfl⟩, rfl, rfl, rfl⟩ G a S wd V kd) ?_
    refine e_iconst C d_C_useWay_58 (v := 1) (by decide) ?_
    exact e_iret C E d_C_useWay_59 (Nat.le_refl _) (Nat.le_refl _) rfl ⟨rfl, rfl⟩
  · rw [show uwS wd kd c s w bit = (rUse wd kd c s w, 0) by simp only [uwS, if_neg h30]] at E
    refine e_iconst C d_C_useWay_33 (v := 0) (by decide) ?_
    exact e_iret C E d_C_useWay_34 (Nat.le_refl _) (Nat.le_refl _) rfl ⟨rfl, rfl⟩
set_option maxRecDepth 100000 in
theorem k_C_place (h : CI S wd V kd c) (x t : Int32) {ch : Int32} (hch : NB ch) (hcw : ∀ w, rChoose wd kd c (sN S x) = some w → w < wd) : Con l G y_C_place c_C_place 6 none (rz 2 49) [.ref (a 0), .int x, .int t, .int ch] (wK G a c S wd V kd) (DV (wK G a (plS S wd V kd c x t ch) S wd V kd)) := by
  refine Con.of rfl rfl (fun X C E hR hl hnm => ?_)
  have hC := h.1.1
  have hn1 := hC.n128
  have hw8 := hC.2.2.2.2
  have hs := sN_lt hC x
  unfold plS at E
  generalize hsn : sN S x = s at hs E hcw
  refine e_aload_n C d_C_place_0 rfl ?_
  refine e_get C 0 (k := 0) in_C g264 d_C_place_1 rfl rfl rfl rfl ?_
  refine e_iload_n C d_C_place_4 rfl ?_
  refine e_cVi C hR 1 (k_Ways_setOf hC x) g316 g3 g465 g314 g315 d_C_place_5 rfl ey_Ways_setOf rfl rfl rfl rfl ⟨Nat.zero_le _, Nat.zero_le _⟩ ?_
  rw [hsn]
  refine e_istore C d_C_place_8 rfl ?_
  refine e_aload_n C d_C_place_10 rfl ?_
  refine e_get C 0 (k := 0) in_C g264 d_C_place_11 rfl rfl rfl rfl ?_
  refine e_iload C d_C_place_14 rfl ?_
  refine e_cVi C hR 1 (k_Ways_emptyWay hC hs) g514 g3 g511 g512 g513 d_C_place_16 rfl ey_Ways_emptyWay rfl rfl rfl rfl ⟨Nat.zero_le _, Nat.zero_le _⟩ ?_
  refine e_istore C d_C_place_19 rfl ?_
  refine e_iload C d_C_place_21 rfl ?_
  refine e_iconst C d_C_place_23 (v := (-1)) (by decide) ?_
  refine e_icmp_ne C d_C_place_24 (tgt := 87) (by decide) (fun h24 => ?_) (fun h24 => ?_)
  · rw [oI_n1 (fb (by omega))] at h24
    obtain ⟨w, hw⟩ := Option.ne_none_iff_exists'.mp h24
    have hw2 := fst1_some hw
    have hlt := slot_lt (w := w) hs (show w < wd by omega)
    rw [hw] at E
    rw [hw]
    refine e_aload_n C d_C_place_87 rfl ?_
    refine e_get C 0 (k := 0) in_C g264 d_C_place_88 rfl rfl rfl rfl ?_
    refine e_iload C d_C_place_91 rfl ?_
    refine e_aload_n C d_C_place_93 rfl ?_
    refine e_get C 0 (k := 0) in_C g264 d_C_place_94 rfl rfl rfl rfl ?_
    refine e_get C 1 (k := 1) in_Ways g43 d_C_place_97 rfl rfl rfl rfl ?_
    refine e_top (show _ = nI wd from hC.2.1) ?_
    refine e_imul C d_C_place_100 ?_
    refine e_iload C d_C_place_101 rfl ?_
    refine e_iadd C d_C_place_103 ?_
    refine e_top (y := nI (s * wd + w)) (by show nI s * nI wd + nI w = _; rw [pk_mul, nI_add]) ?_
    refine e_iload_n C d_C_place_104 rfl ?_
    refine e_iload_n C d_C_place_105 rfl ?_
    refine e_iload_n C d_C_place_106 rfl ?_
    refine e_cVv C hR 1 (k_Ways_put hC hlt x t ch) g579 g3 g576 g577 g578 d_C_place_107 rfl ey_Ways_put rfl rfl rfl rfl ⟨Nat.zero_le _, Nat.zero_le _⟩ ?_
    refine e_eq (wK_of (putF_RA c (s * wd + w) x t ch) G a S wd V kd) ?_
    refine e_aload_n C d_C_place_110 rfl ?_
    refine e_get C 0 (k := 2) in_C g266 d_C_place_111 rfl rfl rfl rfl ?_
    refine e_iload C d_C_place_114 rfl ?_
    refine e_iload C d_C_place_116 rfl ?_
    refine e_rule_come C hR (putF_CI h (s * wd + w) x t hch).1 hs (show w < wd by omega) g580 d_C_place_118 rfl rfl ⟨Nat.zero_le _, Nat.zero_le _⟩ ?_
    exact e_vret C E d_C_place_121 (Nat.le_refl _) (Nat.le_refl _) ⟨rfl, rfl⟩
  · rw [oI_n1 (fb (by omega))] at h24
    rw [h24] at E
    refine e_aload_n C d_C_place_27 rfl ?_
    refine e_get C 0 (k := 2) in_C g266 d_C_place_28 rfl rfl rfl rfl ?_
    refine e_iload C d_C_place_31 rfl ?_
    refine e_aload_n C d_C_place_33 rfl ?_
    refine e_get C 0 (k := 0) in_C g264 d_C_place_34 rfl rfl rfl rfl ?_
    refine e_get C 1 (k := 7) in_Ways g55 d_C_place_37 rfl rfl rfl rfl ?_
    refine e_rule_choose C hR h.1 hs g515 d_C_place_40 rfl rfl ⟨Nat.zero_le _, Nat.zero_le _⟩ ?_
    refine e_istore C d_C_place_43 rfl ?_
    refine e_iload C d_C_place_45 rfl ?_
    refine e_iconst C d_C_place_47 (v := (-1)) (by decide) ?_
    refine e_icmp_ne C d_C_place_48 (tgt := 52) (by decide) (fun h48 => ?_) (fun h48 => ?_)
    · rw [oI_n1 (fun k hk => by have := hcw k hk; omega)] at h48
      obtain ⟨w, hw⟩ := Option.ne_none_iff_exists'.mp h48
      have hww := hcw w hw
      have hlt := slot_lt (w := w) hs hww
      rw [hw] at E
      rw [hw]
      dsimp only at E
      have h1 := rSettle_CI h s w
      have h2 := poS_CI h1 (s * wd + w)
      have h3 := putF_CI h2 (s * wd + w) x t hch
      refine e_aload_n C d_C_place_52 rfl ?_
      refine e_get C 0 (k := 2) in_C g266 d_C_place_53 rfl rfl rfl rfl ?_
      refine e_iload C d_C_place_56 rfl ?_
      refine e_iload C d_C_place_58 rfl ?_
      refine e_aload_n C d_C_place_60 rfl ?_
      refine e_get C 0 (k := 0) in_C g264 d_C_place_61 rfl rfl rfl rfl ?_
      refine e_get C 1 (k := 7) in_Ways g55 d_C_place_64 rfl rfl rfl rfl ?_
      refine e_rule_settle C hR h.1 hs hww g545 d_C_place_67 rfl rfl ⟨Nat.zero_le _, Nat.zero_le _⟩ ?_
      generalize rSettle wd kd c s w = c1 at h1 h2 h3 E ⊢
      obtain ⟨z1, hz1⟩ := h1.2.1
      refine e_aload_n C d_C_place_70 rfl ?_
      refine e_iload C d_C_place_71 rfl ?_
      refine e_aload_n C d_C_place_73 rfl ?_
      refine e_get C 0 (k := 0) in_C g264 d_C_place_74 rfl rfl rfl rfl ?_
      refine e_get C 1 (k := 1) in_Ways g43 d_C_place_77 rfl rfl rfl rfl ?_
      refine e_top (show _ = nI wd from h1.1.1.2.1) ?_
      refine e_imul C d_C_place_80 ?_
      refine e_iload C d_C_place_81 rfl ?_
      refine e_iadd C d_C_place_83 ?_
      refine e_top (y := nI (s * wd + w)) (by show nI s * nI wd + nI w = _; rw [pk_mul, nI_add]) ?_
      refine e_cVv C hR 0 (k_C_putOut hz1 hn1 hlt (h1.2.2.1 _) (h1.2.2.2 _)) g571 g1 g568 g570 (gt_sel 10 (by decide +kernel) (by decide +kernel)) d_C_place_84 rfl ey_C_putOut rfl rfl rfl rfl ⟨Nat.zero_le _, Nat.zero_le _⟩ ?_
      refine e_eq (wK_of (poS_RA V c1 (s * wd + w)) G a S wd V kd) ?_
      generalize poS V c1 (s * wd + w) = c2 at h2 h3 E ⊢
      refine e_aload_n C d_C_place_87 rfl ?_
      refine e_get C 0 (k := 0) in_C g264 d_C_place_88 rfl rfl rfl rfl ?_
      refine e_iload C d_C_place_91 rfl ?_
      refine e_aload_n C d_C_place_93 rfl ?_
      refine e_get C 0 (k := 0) in_C g264 d_C_place_94 rfl rfl rfl rfl ?_
      refine e_get C 1 (k := 1) in_Ways g43 d_C_place_97 rfl rfl rfl rfl ?_
      refine e_top (show _ = nI wd from h2.1.1.2.1) ?_
      refine e_imul C d_C_place_100 ?_
      refine e_iload C d_C_place_101 rfl ?_
      refine e_iadd C d_C_place_103 ?_
      refine e_top (y := nI (s * wd + w)) (by show nI s * nI wd + nI w = _; rw [pk_mul, nI_add]) ?_
      refine e_iload_n C d_C_place_104 rfl ?_
      refine e_iload_n C d_C_place_105 rfl ?_
      refine e_iload_n C d_C_place_106 rfl ?_
      refine e_cVv C hR 1 (k_Ways_put h2.1.1 hlt x t ch) g579 g3 g576 g577 g578 d_C_place_107 rfl ey_Ways_put rfl rfl rfl rfl ⟨Nat.zero_le _, Nat.zero_le _⟩ ?_
      refine e_eq (wK_of (putF_RA c2 (s * wd + w) x t ch) G a S wd V kd) ?_
      refine e_aload_n C d_C_place_110 rfl ?_
      refine e_get C 0 (k := 2) in_C g266 d_C_place_111 rfl rfl rfl rfl ?_
      refine e_iload C d_C_place_114 rfl ?_
      refine e_iload C d_C_place_116 rfl ?_
      refine e_rule_come C hR h3.1 hs hww g580 d_C_place_118 rfl rfl ⟨Nat.zero_le _, Nat.zero_le _⟩ ?_
      exact e_vret C E d_C_place_121 (Nat.le_refl _) (Nat.le_refl _) ⟨rfl, rfl⟩
    · rw [oI_n1 (fun k hk => by have := hcw k hk; omega)] at h48
      rw [h48] at E
      exact e_vret C E d_C_place_51 (Nat.le_refl _) (Nat.le_refl _) ⟨rfl, rfl⟩
set_option maxRecDepth 100000 in
theorem k_C_recall (h : CI S wd V kd c) {k : Nat} (hk : k < nz c) {bit : Int32} (hbit : NB bit) (hcw : ∀ c' : CS, c'.2 6 = c.2 6 → RC S wd kd c' → ∀ s w, s < S → rChoose wd kd c' s = some w → w < wd) : Con l G y_C_recall c_C_recall 6 (some .int) (rz 3 74) [.ref (a 0), .int (nI k), .int bit] (wK G a c S wd V kd) (DI 2 (wK G a (rcS S wd V kd c k bit) S wd V kd)) := by
  refine Con.of rfl rfl (fun X C E hR hl hnm => ?_)
  obtain ⟨z, hz⟩ := h.2.1
  have hze := nz_eq hz
  rw [hze] at hk
  have hz0 := hz
  have hC := h.1.1
  have hn1 := hC.n128
  obtain ⟨r9, r10, r1, r2⟩ := hz
  unfold rcS at E
  rw [hze] at E
  have hft : ∀ c1 : CS, c1 = ftS c k bit → CI S wd V kd c1 ∧ RD c1.1 V z ∧ c1.2 8 = c.2 8 ∧ c1.2 10 = c.2 10 ∧ c1.2 6 = c.2 6 := by
    intro c1 e
    subst e
    unfold ftS
    split
    · exact ⟨⟨RA.rc (c := c) ⟨⟨rfl, rfl, rfl, rfl, rfl, rfl, rfl⟩, rfl, rfl, rfl⟩ h.1, ⟨z, hz0⟩, h.2.2.1, h.2.2.2⟩, hz0, rfl, rfl, rfl⟩
    · exact ⟨h, hz0, rfl, rfl, rfl⟩
  have tail : ∀ c1 : CS, c1 = ftS c k bit → EW X G 6 0 0 37 [(0, .ref (a 0)), (1, .int (nI k)), (2, .int bit)] [] (wK G a c1 S wd V kd) := by
    intro c1 e
    obtain ⟨h1, hz1, e8, e10, e6⟩ := hft c1 e
    rw [← e] at E
    have hs := sN_lt hC (c.2 8 k)
    have hC1 := h1.1.1
    refine e_aload_n C d_C_recall_37 rfl ?_
    refine e_get C 0 (k := 1) in_C g265 d_C_recall_38 rfl rfl rfl rfl ?_
    refine e_get C 7 (k := 1) in_Rows g84 d_C_recall_41 rfl rfl rfl rfl ?_
    refine e_iload_n C d_C_recall_44 rfl ?_
    refine e_iald C 8 0 d_C_recall_45 rfl rfl k rfl (by omega) (by omega) ?_
    refine e_top (congrFun e8 k) ?_
    refine e_istore_n C d_C_recall_46 rfl ?_
    refine e_aload_n C d_C_recall_47 rfl ?_
    refine e_get C 0 (k := 0) in_C g264 d_C_recall_48 rfl rfl rfl rfl ?_
    refine e_aload_n C d_C_recall_51 rfl ?_
    refine e_get C 0 (k := 0) in_C g264 d_C_recall_52 rfl rfl rfl rfl ?_
    refine e_iload_n C d_C_recall_55 rfl ?_
    refine e_cVi C hR 1 (k_Ways_setOf hC1 (c.2 8 k)) g316 g3 g465 g314 g315 d_C_recall_56 rfl ey_Ways_setOf rfl rfl rfl rfl ⟨Nat.zero_le _, Nat.zero_le _⟩ ?_
    refine e_cVi C hR 1 (k_Ways_allLocked hC1 hs) g506 g3 g503 g504 g505 d_C_recall_59 rfl ey_Ways_allLocked rfl rfl rfl rfl ⟨Nat.zero_le _, Nat.zero_le _⟩ ?_
    refine e_if_ne C d_C_recall_62 (tgt := 104) (by decide) (fun h62 => ?_) (fun h62 => ?_)
    · rw [bI_n] at h62
      rw [if_pos h62] at E
      refine e_iconst C d_C_recall_104 (v := 2) (by decide) ?_
      exact e_iret C E d_C_recall_105 (Nat.le_refl _) (Nat.le_refl _) rfl ⟨rfl, rfl⟩
    · rw [bI_0] at h62
      rw [if_neg (by rw [h62]; decide)] at E
      refine e_aload_n C d_C_recall_65 rfl ?_
      refine e_get C 0 (k := 1) in_C g265 d_C_recall_66 rfl rfl rfl rfl ?_
      refine e_get C 7 (k := 2) in_Rows g86 d_C_recall_69 rfl rfl rfl rfl ?_
      refine e_iload_n C d_C_recall_72 rfl ?_
      refine e_iald C 9 0 d_C_recall_73 rfl rfl k rfl (by omega) (by omega) ?_
      refine e_istore C d_C_recall_74 rfl ?_
      refine e_aload_n C d_C_recall_76 rfl ?_
      refine e_get C 0 (k := 1) in_C g265 d_C_recall_77 rfl rfl rfl rfl ?_
      refine e_get C 7 (k := 3) in_Rows g88 d_C_recall_80 rfl rfl rfl rfl ?_
      refine e_iload_n C d_C_recall_83 rfl ?_
      refine e_iald C 10 0 d_C_recall_84 rfl rfl k rfl (by omega) (by omega) ?_
      refine e_top (congrFun e10 k) ?_
      refine e_istore C d_C_recall_85 rfl ?_
      have hR3 : RA c1 (upd c1.1 10 (nI (z - 1)), rmF c1.2 k (z - 1)) := ⟨⟨rfl, rfl, rfl, rfl, rfl, rfl, rfl⟩, rfl, rfl, rfl⟩
      have h3 : CI S wd V kd (upd c1.1 10 (nI (z - 1)), rmF c1.2 k (z - 1)) := ⟨hR3.rc h1.1, ⟨z - 1, (show c1.1 9 = nI V from hz1.1), rfl, by omega, r2⟩, h1.2.2.1, NB.sh h1.2.2.2 _ _⟩
      refine e_aload_n C d_C_recall_87 rfl ?_
      refine e_get C 0 (k := 1) in_C g265 d_C_recall_88 rfl rfl rfl rfl ?_
      refine e_iload_n C d_C_recall_91 rfl ?_
      refine e_cVv C hR 7 (k_Rows_remove hz1 hk) g356 g4 g353 g354 g355 d_C_recall_92 rfl ey_Rows_remove rfl rfl rfl rfl ⟨Nat.zero_le _, Nat.zero_le _⟩ ?_
      refine e_eq (wK_of hR3 G a S wd V kd) ?_
      refine e_aload_n C d_C_recall_95 rfl ?_
      refine e_iload_n C d_C_recall_96 rfl ?_
      refine e_iload C d_C_recall_97 rfl ?_
      refine e_iload C d_C_recall_99 rfl ?_
      refine e_cVv C hR 0 (k_C_place h3 (c.2 8 k) (c1.2 9 k) (h.2.2.2 k) (fun w hw => hcw _ e6 h3.1 _ w hs hw)) g510 g1 g507 g509 (gt_sel 7 (by decide +kernel) (by decide +kernel)) d_C_recall_101 rfl ey_C_place rfl rfl rfl rfl ⟨Nat.zero_le _, Nat.zero_le _⟩ ?_
      refine e_iconst C d_C_recall_104 (v := 2) (by decide) ?_
      exact e_iret C E d_C_recall_105 (Nat.le_refl _) (Nat.le_refl _) rfl ⟨rfl, rfl⟩
  refine e_aload_n C d_C_recall_0 rfl ?_
  refine e_get C 0 (k := 1) in_C g265 d_C_recall_1 rfl rfl rfl rfl ?_
  refine e_get C 7 (k := 2) in_Rows g86 d_C_recall_4 rfl rfl rfl rfl ?_
  refine e_iload_n C d_C_recall_7 rfl ?_
  refine e_iald C 9 0 d_C_recall_8 rfl rfl k rfl (by omega) (by omega) ?_
  refine e_iload_n C d_C_recall_9 rfl ?_
  refine e_iand C d_C_recall_10 ?_
  refine e_if_ne C d_C_recall_11 (tgt := 37) (by decide) (fun h11 => ?_) (fun h11 => ?_)
  · refine e_lv2 (tail c ?_) rfl
    simp only [ftS, if_neg (show ¬ c.2 9 k &&& bit = 0 from h11)]
  · have e : (upd c.1 3 (c.1 3 + 1), up2 c.2 9 (upd (c.2 9) k (c.2 9 k ||| bit))) = ftS c k bit := by simp only [ftS, if_pos (show c.2 9 k &&& bit = 0 from h11)]
    refine e_aload_n C d_C_recall_14 rfl ?_
    refine e_get C 0 (k := 1) in_C g265 d_C_recall_15 rfl rfl rfl rfl ?_
    refine e_get C 7 (k := 2) in_Rows g86 d_C_recall_18 rfl rfl rfl rfl ?_
    refine e_iload_n C d_C_recall_21 rfl ?_
    refine e_dup2 C d_C_recall_22 rfl rfl ?_
    refine e_iald C 9 0 d_C_recall_23 rfl rfl k rfl (by omega) (by omega) ?_
    refine e_iload_n C d_C_recall_24 rfl ?_
    refine e_ior C d_C_recall_25 ?_
    refine e_iast C 9 0 d_C_recall_26 rfl rfl k rfl (by omega) (by omega) ?_
    refine e_aload_n C d_C_recall_27 rfl ?_
    refine e_dup C d_C_recall_28 rfl ?_
    refine e_get C 0 (k := 9) in_C g273 d_C_recall_29 rfl rfl rfl rfl ?_
    refine e_iconst C d_C_recall_32 (v := 1) (by decide) ?_
    refine e_iadd C d_C_recall_33 ?_
    refine e_put C 0 (k := 9) in_C tk_C nm_C g273 d_C_recall_34 rfl rfl rfl rfl rfl rfl rfl rfl ?_
    refine e_eq (wK_of (c := c) (c' := (upd c.1 3 (c.1 3 + 1), up2 c.2 9 (upd (c.2 9) k (c.2 9 k ||| bit)))) ⟨⟨rfl, rfl, rfl, rfl, rfl, rfl, rfl⟩, rfl, rfl, rfl⟩ G a S wd V kd) ?_
    exact e_lv2 (tail _ e) rfl
set_option maxRecDepth 100000 in
theorem k_C_reach (h : CI S wd V kd c) (x : Int32) {bit : Int32} (hbit : NB bit) (wt : Int32) : Con l G y_C_reach c_C_reach 6 (some .int) (rz 4 99) [.ref (a 0), .int x, .int bit, .int wt] (wK G a c S wd V kd) (DI (rhS S wd V kd c x bit wt).2 (wK G a (rhS S wd V kd c x bit wt).1 S wd V kd)) := by
  refine Con.of rfl rfl (fun X C E hR hl hnm => ?_)
  obtain ⟨z, hz⟩ := h.2.1
  have hze := nz_eq hz
  have hC := h.1.1
  have hn1 := hC.n128
  have hw8 := hC.2.2.2.2
  have hs := sN_lt hC x
  have hb2 : sN S x * wd + wd ≤ S * wd := by
    have := slot_lt (wd := wd) (w := wd - 1) hs (by omega)
    omega
  unfold rhS at E
  rw [hze] at E
  refine e_aload_n C d_C_reach_0 rfl ?_
  refine e_get C 0 (k := 0) in_C g264 d_C_reach_1 rfl rfl rfl rfl ?_
  refine e_iload_n C d_C_reach_4 rfl ?_
  refine e_cVi C hR 1 (k_Ways_find hC x) g312 g3 g309 g310 g311 d_C_reach_5 rfl ey_Ways_find rfl rfl rfl rfl ⟨Nat.zero_le _, Nat.zero_le _⟩ ?_
  refine e_istore C d_C_reach_8 rfl ?_
  refine e_iload C d_C_reach_10 rfl ?_
  refine e_iconst C d_C_reach_12 (v := (-1)) (by decide) ?_
  refine e_icmp_eq C d_C_reach_13 (tgt := 32) (by decide) (fun h13 => ?_) (fun h13 => ?_)
  · rw [oI_n1 (fb (by omega))] at h13
    rw [h13] at E
    dsimp only at E
    refine e_aload_n C d_C_reach_32 rfl ?_
    refine e_get C 0 (k := 1) in_C g265 d_C_reach_33 rfl rfl rfl rfl ?_
    refine e_iload_n C d_C_reach_36 rfl ?_
    refine e_cVi C hR 7 (k_Rows_find hz x) g324 g4 g321 g322 g323 d_C_reach_37 rfl ey_Rows_find rfl rfl rfl rfl ⟨Nat.zero_le _, Nat.zero_le _⟩ ?_
    refine e_istore C d_C_reach_40 rfl ?_
    refine e_iload C d_C_reach_42 rfl ?_
    refine e_iconst C d_C_reach_44 (v := (-1)) (by decide) ?_
    refine e_icmp_eq C d_C_reach_45 (tgt := 56) (by decide) (fun h45 => ?_) (fun h45 => ?_)
    · rw [oI_n1 (fb (by have := hz.2.2; omega))] at h45
      rw [h45] at E
      dsimp only at E
      have fet : ¬ (¬ wt = 0 ∧ c.1 1 = 0) → EW X G 6 0 0 69 [(0, .ref (a 0)), (1, .int x), (2, .int bit), (3, .int wt)] [] (wK G a c S wd V kd) := by
        intro hne
        rw [if_neg hne] at E
        have h2 := f3_CI h (c.1 3 + 1)
        refine e_aload_n C d_C_reach_69 rfl ?_
        refine e_dup C d_C_reach_70 rfl ?_
        refine e_get C 0 (k := 9) in_C g273 d_C_reach_71 rfl rfl rfl rfl ?_
        refine e_iconst C d_C_reach_74 (v := 1) (by decide) ?_
        refine e_iadd C d_C_reach_75 ?_
        refine e_put C 0 (k := 9) in_C tk_C nm_C g273 d_C_reach_76 rfl rfl rfl rfl rfl rfl rfl rfl ?_
        refine e_eq (wK_of (c := c) (c' := (upd c.1 3 (c.1 3 + 1), c.2)) ⟨⟨rfl, rfl, rfl, rfl, rfl, rfl, rfl⟩, rfl, rfl, rfl⟩ G a S wd V kd) ?_
        refine e_aload_n C d_C_reach_79 rfl ?_
        refine e_get C 0 (k := 0) in_C g264 d_C_reach_80 rfl rfl rfl rfl ?_
        refine e_aload_n C d_C_reach_83 rfl ?_
        refine e_get C 0 (k := 0) in_C g264 d_C_reach_84 rfl rfl rfl rfl ?_
        refine e_iload_n C d_C_reach_87 rfl ?_
        refine e_cVi C hR 1 (k_Ways_setOf h2.1.1 x) g316 g3 g465 g314 g315 d_C_reach_88 rfl ey_Ways_setOf rfl rfl rfl rfl ⟨Nat.zero_le _, Nat.zero_le _⟩ ?_
        refine e_cVi C hR 1 (k_Ways_allLocked h2.1.1 hs) g506 g3 g503 g504 g505 d_C_reach_91 rfl ey_Ways_allLocked rfl rfl rfl rfl ⟨Nat.zero_le _, Nat.zero_le _⟩ ?_
        refine e_if_eq C d_C_reach_94 (tgt := 99) (by decide) (fun h94 => ?_) (fun h94 => ?_)
        · rw [bI_0] at h94
          rw [if_neg (by rw [show allL c.2 wd (sN S x) = false from h94]; decide)] at E
          refine e_aload_n C d_C_reach_99 rfl ?_
          refine e_iload_n C d_C_reach_100 rfl ?_
          refine e_iload_n C d_C_reach_101 rfl ?_
          refine e_iconst C d_C_reach_102 (v := 0) (by decide) ?_
          refine e_cVv C hR 0 (k_C_place h2 x bit NB.z (fun w hw => (rChoose_lt h2.1 hs hw).1)) g510 g1 g507 g509 (gt_sel 7 (by decide +kernel) (by decide +kernel)) d_C_reach_103 rfl ey_C_place rfl rfl rfl rfl ⟨Nat.zero_le _, Nat.zero_le _⟩ ?_
          refine e_iconst C d_C_reach_106 (v := 3) (by decide) ?_
          exact e_iret C E d_C_reach_107 (Nat.le_refl _) (Nat.le_refl _) rfl ⟨rfl, rfl⟩
        · rw [bI_n] at h94
          rw [if_pos (show allL c.2 wd (sN S x) = true from h94)] at E
          refine e_iconst C d_C_reach_97 (v := 4) (by decide) ?_
          exact e_iret C E d_C_reach_98 (Nat.le_refl _) (Nat.le_refl _) rfl ⟨rfl, rfl⟩
      refine e_iload_n C d_C_reach_56 rfl ?_
      refine e_if_eq C d_C_reach_57 (tgt := 69) (by decide) (fun h57 => ?_) (fun h57 => ?_)
      · exact e_lv2 (fet (fun q => q.1 h57)) rfl
      · skip
        refine e_aload_n C d_C_reach_60 rfl ?_
        refine e_get C 0 (k := 7) in_C g271 d_C_reach_61 rfl rfl rfl rfl ?_
        refine e_if_ne C d_C_reach_64 (tgt := 69) (by decide) (fun h64 => ?_) (fun h64 => ?_)
        · exact e_lv2 (fet (fun q => h64 q.2)) rfl
        · rw [if_pos (⟨h57, h64⟩ : ¬ wt = 0 ∧ c.1 1 = 0)] at E
          refine e_iconst C d_C_reach_67 (v := 3) (by decide) ?_
          exact e_iret C E d_C_reach_68 (Nat.le_refl _) (Nat.le_refl _) rfl ⟨rfl, rfl⟩
    · rw [oI_n1 (fb (by have := hz.2.2; omega))] at h45
      obtain ⟨k, hk⟩ := Option.ne_none_iff_exists'.mp h45
      have hk2 := fst1_some hk
      rw [hk] at E
      rw [hk]
      dsimp only at E
      refine e_aload_n C d_C_reach_48 rfl ?_
      refine e_iload C d_C_reach_49 rfl ?_
      refine e_iload_n C d_C_reach_51 rfl ?_
      refine e_cVi C hR 0 (k_C_recall h (by rw [hze]; omega) hbit (fun c' _ hc' s w hs2 hw => (rChoose_lt hc' hs2 hw).1)) g502 g1 g499 g501 (gt_sel 6 (by decide +kernel) (by decide +kernel)) d_C_reach_52 rfl ey_C_recall rfl rfl rfl rfl ⟨Nat.zero_le _, Nat.zero_le _⟩ ?_
      exact e_iret C E d_C_reach_55 (Nat.le_refl _) (Nat.le_refl _) rfl ⟨rfl, rfl⟩
  · rw [oI_n1 (fb (by omega))] at h13
    obtain ⟨j, hj⟩ := Option.ne_none_iff_exists'.mp h13
    have hj2 := fst1_some hj
    obtain ⟨w, rfl⟩ : ∃ w, j = sN S x * wd + w := ⟨j - sN S x * wd, by omega⟩
    rw [hj] at E
    rw [hj]
    dsimp only at E
    rw [show sN S x * wd + w - sN S x * wd = w by omega] at E
    refine e_aload_n C d_C_reach_16 rfl ?_
    refine e_aload_n C d_C_reach_17 rfl ?_
    refine e_get C 0 (k := 0) in_C g264 d_C_reach_18 rfl rfl rfl rfl ?_
    refine e_iload_n C d_C_reach_21 rfl ?_
    refine e_cVi C hR 1 (k_Ways_setOf hC x) g316 g3 g465 g314 g315 d_C_reach_22 rfl ey_Ways_setOf rfl rfl rfl rfl ⟨Nat.zero_le _, Nat.zero_le _⟩ ?_
    refine e_iload C d_C_reach_25 rfl ?_
    refine e_iload_n C d_C_reach_27 rfl ?_
    refine e_cVi C hR 0 (k_C_useWay h.1 hs (show w < wd by omega) bit) g469 g1 g466 g468 (gt_sel 3 (by decide +kernel) (by decide +kernel)) d_C_reach_28 rfl ey_C_useWay rfl rfl rfl rfl ⟨Nat.zero_le _, Nat.zero_le _⟩ ?_
    exact e_iret C E d_C_reach_31 (Nat.le_refl _) (Nat.le_refl _) rfl ⟨rfl, rfl⟩
set_option maxRecDepth 100000 in
theorem k_C_perform (h : CI S wd V kd c) {hs : Nat} (hH : HD c.1 hs) (x : Int32) {p : Nat} (hp : p < 4) (wt : Int32) : Con l G y_C_perform c_C_perform 6 (some .int) (rz 5 124) [.ref (a 0), .int x, .int (nI p), .int wt] (wK G a c S wd V kd) (DI (pfK S wd V kd c x p wt) (wK G a (pfS S wd V kd c x p wt) S wd V kd)) := by
  refine Con.of rfl rfl (fun X C E hR hl hnm => ?_)
  have h1 := ntS_CI h x
  have h2 := rhS_CI h1 x (bitI p) wt
  obtain ⟨q, hq, eq⟩ := rhS_kind S wd V kd (ntS c x) x (bitI p) wt
  have hcl : (pfK S wd V kd c x p wt).toNatClampNeg = q := by unfold pfK; rw [eq]; exact nI_clamp (by omega)
  unfold pfS at E
  rw [hcl] at E
  have eK : pfK S wd V kd c x p wt = nI q := eq
  have tail : ∀ c3 : CS, c3 = pf3 S wd V kd c x p wt → EW X G 6 0 0 34 [(0, .ref (a 0)), (5, .int (nI q))] [] (wK G a c3 S wd V kd) := by
    intro c3 e
    rw [← e, eK] at E
    refine e_aload_n C d_C_perform_34 rfl ?_
    refine e_dup C d_C_perform_35 rfl ?_
    refine e_get C 0 (k := 8) in_C g272 d_C_perform_36 rfl rfl rfl rfl ?_
    refine e_iconst C d_C_perform_39 (v := 1) (by decide) ?_
    refine e_iadd C d_C_perform_40 ?_
    refine e_put C 0 (k := 8) in_C tk_C nm_C g272 d_C_perform_41 rfl rfl rfl rfl rfl rfl rfl rfl ?_
    refine e_aload_n C d_C_perform_44 rfl ?_
    refine e_get C 0 (k := 5) in_C g269 d_C_perform_45 rfl rfl rfl rfl ?_
    refine e_iload C d_C_perform_48 rfl ?_
    refine e_dup2 C d_C_perform_50 rfl rfl ?_
    refine e_iald C 20 0 d_C_perform_51 rfl rfl q rfl (by omega) (by omega) ?_
    refine e_iconst C d_C_perform_52 (v := 1) (by decide) ?_
    refine e_iadd C d_C_perform_53 ?_
    refine e_iast C 20 0 d_C_perform_54 rfl rfl q rfl (by omega) (by omega) ?_
    refine e_eq (wK_of (c := c3) (c' := (upd c3.1 2 (c3.1 2 + 1), up2 c3.2 20 (upd (c3.2 20) q (c3.2 20 q + 1)))) ⟨⟨rfl, rfl, rfl, rfl, rfl, rfl, rfl⟩, rfl, rfl, rfl⟩ G a S wd V kd) ?_
    refine e_iload C d_C_perform_55 rfl ?_
    exact e_iret C E d_C_perform_57 (Nat.le_refl _) (Nat.le_refl _) rfl ⟨rfl, rfl⟩
  refine e_iconst C d_C_perform_0 (v := 1) (by decide) ?_
  refine e_iload_n C d_C_perform_1 rfl ?_
  refine e_ishl C d_C_perform_2 ?_
  refine e_istore C d_C_perform_3 rfl ?_
  refine e_aload_n C d_C_perform_5 rfl ?_
  refine e_get C 0 (k := 4) in_C g268 d_C_perform_6 rfl rfl rfl rfl ?_
  refine e_iload_n C d_C_perform_9 rfl ?_
  refine e_cVv C hR 17 (k_Hist_note hH x) g459 g13 g456 g457 g458 d_C_perform_10 rfl ey_Hist_note rfl rfl rfl rfl ⟨Nat.zero_le _, Nat.zero_le _⟩ ?_
  refine e_eq (ws' := wK G a (ntS c x) S wd V kd) (by rw [← wK_of (ntS_RA c x) G a S wd V kd]; unfold ntS; rw [nh_eq hH]) ?_
  refine e_aload_n C d_C_perform_13 rfl ?_
  refine e_iload_n C d_C_perform_14 rfl ?_
  refine e_iload C d_C_perform_15 rfl ?_
  refine e_iload_n C d_C_perform_17 rfl ?_
  refine e_cVi C hR 0 (k_C_reach h1 x (bitI_NB hp) wt) g464 g1 g461 g463 (gt_sel 2 (by decide +kernel) (by decide +kernel)) d_C_perform_18 rfl ey_C_reach rfl rfl rfl rfl ⟨Nat.zero_le _, Nat.zero_le _⟩ ?_
  refine e_top eq ?_
  refine e_istore C d_C_perform_21 rfl ?_
  refine e_iload_n C d_C_perform_23 rfl ?_
  refine e_if_eq C d_C_perform_24 (tgt := 34) (by decide) (fun h24 => ?_) (fun h24 => ?_)
  · refine e_lv2 (tail _ ?_) rfl
    simp only [pf3, if_pos h24]
  · obtain ⟨z, hz⟩ := h2.2.1
    refine e_aload_n C d_C_perform_27 rfl ?_
    refine e_iload_n C d_C_perform_28 rfl ?_
    refine e_iload C d_C_perform_29 rfl ?_
    refine e_cVv C hR 0 (k_C_writePart h2.1.1 hz x (bitI p)) g604 g1 g601 g603 (gt_sel 11 (by decide +kernel) (by decide +kernel)) d_C_perform_31 rfl ey_C_writePart rfl rfl rfl rfl ⟨Nat.zero_le _, Nat.zero_le _⟩ ?_
    refine e_eq (wK_of (wpS_RA S wd (rhS S wd V kd (ntS c x) x (bitI p) wt).1 x (bitI p)) G a S wd V kd) ?_
    refine e_lv2 (tail _ ?_) rfl
    simp only [pf3, if_neg h24]
end CPriv
end
section
/-! THE CLASS'S PUBLIC METHODS, where they return -/
theorem ey_C_mode : eY y_C_mode 2 = true := by decide +kernel
theorem d_C_mode_0 : decode c_C_mode 0 = .ok (.aload_n 0, 1) := by decide +kernel
theorem d_C_mode_1 : decode c_C_mode 1 = .ok (.getfield 59, 3) := by decide +kernel
theorem d_C_mode_4 : decode c_C_mode 4 = .ok (.ifCond .eq 7, 3) := by decide +kernel
theorem d_C_mode_7 : decode c_C_mode 7 = .ok (.iconst 1, 1) := by decide +kernel
theorem d_C_mode_8 : decode c_C_mode 8 = .ok (.goto 4, 3) := by decide +kernel
theorem d_C_mode_11 : decode c_C_mode 11 = .ok (.iconst 0, 1) := by decide +kernel
theorem d_C_mode_12 : decode c_C_mode 12 = .ok (.aload_n 0, 1) := by decide +kernel
theorem d_C_mode_13 : decode c_C_mode 13 = .ok (.getfield 63, 3) := by decide +kernel
theorem d_C_mode_16 : decode c_C_mode 16 = .ok (.ifCond .eq 7, 3) := by decide +kernel
theorem d_C_mode_19 : decode c_C_mode 19 = .ok (.iconst 2, 1) := by decide +kernel
theorem d_C_mode_20 : decode c_C_mode 20 = .ok (.goto 4, 3) := by decide +kernel
theorem d_C_mode_23 : decode c_C_mode 23 = .ok (.iconst 0, 1) := by decide +kernel
theorem d_C_mode_24 : decode c_C_mode 24 = .ok (.iadd, 1) := by decide +kernel
theorem d_C_mode_25 : decode c_C_mode 25 = .ok (.istore_n 3, 1) := by decide +kernel
theorem d_C_mode_26 : decode c_C_mode 26 = .ok (.aload_n 0, 1) := by decide +kernel
theorem d_C_mode_27 : decode c_C_mode 27 = .ok (.iload_n 1, 1) := by decide +kernel
theorem d_C_mode_28 : decode c_C_mode 28 = .ok (.putfield 59, 3) := by decide +kernel
theorem d_C_mode_31 : decode c_C_mode 31 = .ok (.aload_n 0, 1) := by decide +kernel
theorem d_C_mode_32 : decode c_C_mode 32 = .ok (.iload_n 2, 1) := by decide +kernel
theorem d_C_mode_33 : decode c_C_mode 33 = .ok (.putfield 63, 3) := by decide +kernel
theorem d_C_mode_36 : decode c_C_mode 36 = .ok (.iload_n 3, 1) := by decide +kernel
theorem d_C_mode_37 : decode c_C_mode 37 = .ok (.ireturn, 1) := by decide +kernel
theorem ey_C_lock : eY y_C_lock 2 = true := by decide +kernel
theorem d_C_lock_0 : decode c_C_lock 0 = .ok (.aload_n 0, 1) := by decide +kernel
theorem d_C_lock_1 : decode c_C_lock 1 = .ok (.getfield 18, 3) := by decide +kernel
theorem d_C_lock_4 : decode c_C_lock 4 = .ok (.iload_n 1, 1) := by decide +kernel
theorem d_C_lock_5 : decode c_C_lock 5 = .ok (.invokevirtual 101, 3) := by decide +kernel
theorem d_C_lock_8 : decode c_C_lock 8 = .ok (.istore_n 3, 1) := by decide +kernel
theorem d_C_lock_9 : decode c_C_lock 9 = .ok (.iload_n 3, 1) := by decide +kernel
theorem d_C_lock_10 : decode c_C_lock 10 = .ok (.iconst (-1), 1) := by decide +kernel
theorem d_C_lock_11 : decode c_C_lock 11 = .ok (.if_icmp .eq 16, 3) := by decide +kernel
theorem d_C_lock_14 : decode c_C_lock 14 = .ok (.aload_n 0, 1) := by decide +kernel
theorem d_C_lock_15 : decode c_C_lock 15 = .ok (.getfield 18, 3) := by decide +kernel
theorem d_C_lock_18 : decode c_C_lock 18 = .ok (.getfield 144, 3) := by decide +kernel
theorem d_C_lock_21 : decode c_C_lock 21 = .ok (.iload_n 3, 1) := by decide +kernel
theorem d_C_lock_22 : decode c_C_lock 22 = .ok (.baload, 1) := by decide +kernel
theorem d_C_lock_23 : decode c_C_lock 23 = .ok (.iload_n 2, 1) := by decide +kernel
theorem d_C_lock_24 : decode c_C_lock 24 = .ok (.if_icmp .ne 5, 3) := by decide +kernel
theorem d_C_lock_27 : decode c_C_lock 27 = .ok (.iconst 0, 1) := by decide +kernel
theorem d_C_lock_28 : decode c_C_lock 28 = .ok (.ireturn, 1) := by decide +kernel
theorem d_C_lock_29 : decode c_C_lock 29 = .ok (.aload_n 0, 1) := by decide +kernel
theorem d_C_lock_30 : decode c_C_lock 30 = .ok (.getfield 18, 3) := by decide +kernel
theorem d_C_lock_33 : decode c_C_lock 33 = .ok (.getfield 144, 3) := by decide +kernel
theorem d_C_lock_36 : decode c_C_lock 36 = .ok (.iload_n 3, 1) := by decide +kernel
theorem d_C_lock_37 : decode c_C_lock 37 = .ok (.iload_n 2, 1) := by decide +kernel
theorem d_C_lock_38 : decode c_C_lock 38 = .ok (.bastore, 1) := by decide +kernel
theorem d_C_lock_39 : decode c_C_lock 39 = .ok (.iconst 1, 1) := by decide +kernel
theorem d_C_lock_40 : decode c_C_lock 40 = .ok (.ireturn, 1) := by decide +kernel
theorem ey_C_clean : eY y_C_clean 1 = true := by decide +kernel
theorem d_C_clean_0 : decode c_C_clean 0 = .ok (.iconst 0, 1) := by decide +kernel
theorem d_C_clean_1 : decode c_C_clean 1 = .ok (.istore_n 2, 1) := by decide +kernel
theorem d_C_clean_2 : decode c_C_clean 2 = .ok (.aload_n 0, 1) := by decide +kernel
theorem d_C_clean_3 : decode c_C_clean 3 = .ok (.getfield 18, 3) := by decide +kernel
theorem d_C_clean_6 : decode c_C_clean 6 = .ok (.iload_n 1, 1) := by decide +kernel
theorem d_C_clean_7 : decode c_C_clean 7 = .ok (.invokevirtual 101, 3) := by decide +kernel
theorem d_C_clean_10 : decode c_C_clean 10 = .ok (.istore_n 3, 1) := by decide +kernel
theorem d_C_clean_11 : decode c_C_clean 11 = .ok (.aload_n 0, 1) := by decide +kernel
theorem d_C_clean_12 : decode c_C_clean 12 = .ok (.getfield 29, 3) := by decide +kernel
theorem d_C_clean_15 : decode c_C_clean 15 = .ok (.iload_n 1, 1) := by decide +kernel
theorem d_C_clean_16 : decode c_C_clean 16 = .ok (.invokevirtual 148, 3) := by decide +kernel
theorem d_C_clean_19 : decode c_C_clean 19 = .ok (.istore 4, 2) := by decide +kernel
theorem d_C_clean_21 : decode c_C_clean 21 = .ok (.iload_n 3, 1) := by decide +kernel
theorem d_C_clean_22 : decode c_C_clean 22 = .ok (.iconst (-1), 1) := by decide +kernel
theorem d_C_clean_23 : decode c_C_clean 23 = .ok (.if_icmp .eq 15, 3) := by decide +kernel
theorem d_C_clean_26 : decode c_C_clean 26 = .ok (.aload_n 0, 1) := by decide +kernel
theorem d_C_clean_27 : decode c_C_clean 27 = .ok (.getfield 18, 3) := by decide +kernel
theorem d_C_clean_30 : decode c_C_clean 30 = .ok (.iload_n 3, 1) := by decide +kernel
theorem d_C_clean_31 : decode c_C_clean 31 = .ok (.invokevirtual 149, 3) := by decide +kernel
theorem d_C_clean_34 : decode c_C_clean 34 = .ok (.istore_n 2, 1) := by decide +kernel
theorem d_C_clean_35 : decode c_C_clean 35 = .ok (.goto 19, 3) := by decide +kernel
theorem d_C_clean_38 : decode c_C_clean 38 = .ok (.iload 4, 2) := by decide +kernel
theorem d_C_clean_40 : decode c_C_clean 40 = .ok (.iconst (-1), 1) := by decide +kernel
theorem d_C_clean_41 : decode c_C_clean 41 = .ok (.if_icmp .eq 13, 3) := by decide +kernel
theorem d_C_clean_44 : decode c_C_clean 44 = .ok (.aload_n 0, 1) := by decide +kernel
theorem d_C_clean_45 : decode c_C_clean 45 = .ok (.getfield 29, 3) := by decide +kernel
theorem d_C_clean_48 : decode c_C_clean 48 = .ok (.iload 4, 2) := by decide +kernel
theorem d_C_clean_50 : decode c_C_clean 50 = .ok (.invokevirtual 152, 3) := by decide +kernel
theorem d_C_clean_53 : decode c_C_clean 53 = .ok (.istore_n 2, 1) := by decide +kernel
theorem d_C_clean_54 : decode c_C_clean 54 = .ok (.aload_n 0, 1) := by decide +kernel
theorem d_C_clean_55 : decode c_C_clean 55 = .ok (.dup, 1) := by decide +kernel
theorem d_C_clean_56 : decode c_C_clean 56 = .ok (.getfield 155, 3) := by decide +kernel
theorem d_C_clean_59 : decode c_C_clean 59 = .ok (.iload_n 2, 1) := by decide +kernel
theorem d_C_clean_60 : decode c_C_clean 60 = .ok (.iadd, 1) := by decide +kernel
theorem d_C_clean_61 : decode c_C_clean 61 = .ok (.putfield 155, 3) := by decide +kernel
theorem d_C_clean_64 : decode c_C_clean 64 = .ok (.iload_n 2, 1) := by decide +kernel
theorem d_C_clean_65 : decode c_C_clean 65 = .ok (.ireturn, 1) := by decide +kernel
theorem ey_C_cleanAll : eY y_C_cleanAll 0 = true := by decide +kernel
theorem d_C_cleanAll_0 : decode c_C_cleanAll 0 = .ok (.iconst 0, 1) := by decide +kernel
theorem d_C_cleanAll_1 : decode c_C_cleanAll 1 = .ok (.istore_n 1, 1) := by decide +kernel
theorem d_C_cleanAll_2 : decode c_C_cleanAll 2 = .ok (.iconst 0, 1) := by decide +kernel
theorem d_C_cleanAll_3 : decode c_C_cleanAll 3 = .ok (.istore_n 2, 1) := by decide +kernel
theorem d_C_cleanAll_4 : decode c_C_cleanAll 4 = .ok (.iload_n 2, 1) := by decide +kernel
theorem d_C_cleanAll_5 : decode c_C_cleanAll 5 = .ok (.aload_n 0, 1) := by decide +kernel
theorem d_C_cleanAll_6 : decode c_C_cleanAll 6 = .ok (.getfield 18, 3) := by decide +kernel
theorem d_C_cleanAll_9 : decode c_C_cleanAll 9 = .ok (.getfield 158, 3) := by decide +kernel
theorem d_C_cleanAll_12 : decode c_C_cleanAll 12 = .ok (.if_icmp .ge 20, 3) := by decide +kernel
theorem d_C_cleanAll_15 : decode c_C_cleanAll 15 = .ok (.iload_n 1, 1) := by decide +kernel
theorem d_C_cleanAll_16 : decode c_C_cleanAll 16 = .ok (.aload_n 0, 1) := by decide +kernel
theorem d_C_cleanAll_17 : decode c_C_cleanAll 17 = .ok (.getfield 18, 3) := by decide +kernel
theorem d_C_cleanAll_20 : decode c_C_cleanAll 20 = .ok (.iload_n 2, 1) := by decide +kernel
theorem d_C_cleanAll_21 : decode c_C_cleanAll 21 = .ok (.invokevirtual 149, 3) := by decide +kernel
theorem d_C_cleanAll_24 : decode c_C_cleanAll 24 = .ok (.iadd, 1) := by decide +kernel
theorem d_C_cleanAll_25 : decode c_C_cleanAll 25 = .ok (.istore_n 1, 1) := by decide +kernel
theorem d_C_cleanAll_26 : decode c_C_cleanAll 26 = .ok (.iinc 2 1, 3) := by decide +kernel
theorem d_C_cleanAll_29 : decode c_C_cleanAll 29 = .ok (.goto (-25), 3) := by decide +kernel
theorem d_C_cleanAll_32 : decode c_C_cleanAll 32 = .ok (.iconst 0, 1) := by decide +kernel
theorem d_C_cleanAll_33 : decode c_C_cleanAll 33 = .ok (.istore_n 2, 1) := by decide +kernel
theorem d_C_cleanAll_34 : decode c_C_cleanAll 34 = .ok (.iload_n 2, 1) := by decide +kernel
theorem d_C_cleanAll_35 : decode c_C_cleanAll 35 = .ok (.aload_n 0, 1) := by decide +kernel
theorem d_C_cleanAll_36 : decode c_C_cleanAll 36 = .ok (.getfield 29, 3) := by decide +kernel
theorem d_C_cleanAll_39 : decode c_C_cleanAll 39 = .ok (.getfield 161, 3) := by decide +kernel
theorem d_C_cleanAll_42 : decode c_C_cleanAll 42 = .ok (.if_icmp .ge 20, 3) := by decide +kernel
theorem d_C_cleanAll_45 : decode c_C_cleanAll 45 = .ok (.iload_n 1, 1) := by decide +kernel
theorem d_C_cleanAll_46 : decode c_C_cleanAll 46 = .ok (.aload_n 0, 1) := by decide +kernel
theorem d_C_cleanAll_47 : decode c_C_cleanAll 47 = .ok (.getfield 29, 3) := by decide +kernel
theorem d_C_cleanAll_50 : decode c_C_cleanAll 50 = .ok (.iload_n 2, 1) := by decide +kernel
theorem d_C_cleanAll_51 : decode c_C_cleanAll 51 = .ok (.invokevirtual 152, 3) := by decide +kernel
theorem d_C_cleanAll_54 : decode c_C_cleanAll 54 = .ok (.iadd, 1) := by decide +kernel
theorem d_C_cleanAll_55 : decode c_C_cleanAll 55 = .ok (.istore_n 1, 1) := by decide +kernel
theorem d_C_cleanAll_56 : decode c_C_cleanAll 56 = .ok (.iinc 2 1, 3) := by decide +kernel
theorem d_C_cleanAll_59 : decode c_C_cleanAll 59 = .ok (.goto (-25), 3) := by decide +kernel
theorem d_C_cleanAll_62 : decode c_C_cleanAll 62 = .ok (.aload_n 0, 1) := by decide +kernel
theorem d_C_cleanAll_63 : decode c_C_cleanAll 63 = .ok (.dup, 1) := by decide +kernel
theorem d_C_cleanAll_64 : decode c_C_cleanAll 64 = .ok (.getfield 155, 3) := by decide +kernel
theorem d_C_cleanAll_67 : decode c_C_cleanAll 67 = .ok (.iload_n 1, 1) := by decide +kernel
theorem d_C_cleanAll_68 : decode c_C_cleanAll 68 = .ok (.iadd, 1) := by decide +kernel
theorem d_C_cleanAll_69 : decode c_C_cleanAll 69 = .ok (.putfield 155, 3) := by decide +kernel
theorem d_C_cleanAll_72 : decode c_C_cleanAll 72 = .ok (.iload_n 1, 1) := by decide +kernel
theorem d_C_cleanAll_73 : decode c_C_cleanAll 73 = .ok (.ireturn, 1) := by decide +kernel
theorem ey_C_drop : eY y_C_drop 1 = true := by decide +kernel
theorem d_C_drop_0 : decode c_C_drop 0 = .ok (.aload_n 0, 1) := by decide +kernel
theorem d_C_drop_1 : decode c_C_drop 1 = .ok (.getfield 18, 3) := by decide +kernel
theorem d_C_drop_4 : decode c_C_drop 4 = .ok (.iload_n 1, 1) := by decide +kernel
theorem d_C_drop_5 : decode c_C_drop 5 = .ok (.invokevirtual 101, 3) := by decide +kernel
theorem d_C_drop_8 : decode c_C_drop 8 = .ok (.istore_n 2, 1) := by decide +kernel
theorem d_C_drop_9 : decode c_C_drop 9 = .ok (.iload_n 2, 1) := by decide +kernel
theorem d_C_drop_10 : decode c_C_drop 10 = .ok (.iconst (-1), 1) := by decide +kernel
theorem d_C_drop_11 : decode c_C_drop 11 = .ok (.if_icmp .eq 26, 3) := by decide +kernel
theorem d_C_drop_14 : decode c_C_drop 14 = .ok (.aload_n 0, 1) := by decide +kernel
theorem d_C_drop_15 : decode c_C_drop 15 = .ok (.getfield 18, 3) := by decide +kernel
theorem d_C_drop_18 : decode c_C_drop 18 = .ok (.getfield 164, 3) := by decide +kernel
theorem d_C_drop_21 : decode c_C_drop 21 = .ok (.iload_n 2, 1) := by decide +kernel
theorem d_C_drop_22 : decode c_C_drop 22 = .ok (.iaload, 1) := by decide +kernel
theorem d_C_drop_23 : decode c_C_drop 23 = .ok (.invokestatic 167, 3) := by decide +kernel
theorem d_C_drop_26 : decode c_C_drop 26 = .ok (.istore_n 3, 1) := by decide +kernel
theorem d_C_drop_27 : decode c_C_drop 27 = .ok (.aload_n 0, 1) := by decide +kernel
theorem d_C_drop_28 : decode c_C_drop 28 = .ok (.getfield 18, 3) := by decide +kernel
theorem d_C_drop_31 : decode c_C_drop 31 = .ok (.iload_n 2, 1) := by decide +kernel
theorem d_C_drop_32 : decode c_C_drop 32 = .ok (.invokevirtual 172, 3) := by decide +kernel
theorem d_C_drop_35 : decode c_C_drop 35 = .ok (.iload_n 3, 1) := by decide +kernel
theorem d_C_drop_36 : decode c_C_drop 36 = .ok (.ireturn, 1) := by decide +kernel
theorem d_C_drop_37 : decode c_C_drop 37 = .ok (.aload_n 0, 1) := by decide +kernel
theorem d_C_drop_38 : decode c_C_drop 38 = .ok (.getfield 29, 3) := by decide +kernel
theorem d_C_drop_41 : decode c_C_drop 41 = .ok (.iload_n 1, 1) := by decide +kernel
theorem d_C_drop_42 : decode c_C_drop 42 = .ok (.invokevirtual 148, 3) := by decide +kernel
theorem d_C_drop_45 : decode c_C_drop 45 = .ok (.istore_n 3, 1) := by decide +kernel
theorem d_C_drop_46 : decode c_C_drop 46 = .ok (.iload_n 3, 1) := by decide +kernel
theorem d_C_drop_47 : decode c_C_drop 47 = .ok (.iconst (-1), 1) := by decide +kernel
theorem d_C_drop_48 : decode c_C_drop 48 = .ok (.if_icmp .eq 28, 3) := by decide +kernel
theorem d_C_drop_51 : decode c_C_drop 51 = .ok (.aload_n 0, 1) := by decide +kernel
theorem d_C_drop_52 : decode c_C_drop 52 = .ok (.getfield 29, 3) := by decide +kernel
theorem d_C_drop_55 : decode c_C_drop 55 = .ok (.getfield 175, 3) := by decide +kernel
theorem d_C_drop_58 : decode c_C_drop 58 = .ok (.iload_n 3, 1) := by decide +kernel
theorem d_C_drop_59 : decode c_C_drop 59 = .ok (.iaload, 1) := by decide +kernel
theorem d_C_drop_60 : decode c_C_drop 60 = .ok (.invokestatic 167, 3) := by decide +kernel
theorem d_C_drop_63 : decode c_C_drop 63 = .ok (.istore 4, 2) := by decide +kernel
theorem d_C_drop_65 : decode c_C_drop 65 = .ok (.aload_n 0, 1) := by decide +kernel
theorem d_C_drop_66 : decode c_C_drop 66 = .ok (.getfield 29, 3) := by decide +kernel
theorem d_C_drop_69 : decode c_C_drop 69 = .ok (.iload_n 3, 1) := by decide +kernel
theorem d_C_drop_70 : decode c_C_drop 70 = .ok (.invokevirtual 176, 3) := by decide +kernel
theorem d_C_drop_73 : decode c_C_drop 73 = .ok (.iload 4, 2) := by decide +kernel
theorem d_C_drop_75 : decode c_C_drop 75 = .ok (.ireturn, 1) := by decide +kernel
theorem d_C_drop_76 : decode c_C_drop 76 = .ok (.iconst (-1), 1) := by decide +kernel
theorem d_C_drop_77 : decode c_C_drop 77 = .ok (.ireturn, 1) := by decide +kernel
theorem ey_C_distance : eY y_C_distance 1 = true := by decide +kernel
theorem d_C_distance_0 : decode c_C_distance 0 = .ok (.aload_n 0, 1) := by decide +kernel
theorem d_C_distance_1 : decode c_C_distance 1 = .ok (.getfield 51, 3) := by decide +kernel
theorem d_C_distance_4 : decode c_C_distance 4 = .ok (.iload_n 1, 1) := by decide +kernel
theorem d_C_distance_5 : decode c_C_distance 5 = .ok (.invokevirtual 218, 3) := by decide +kernel
theorem d_C_distance_8 : decode c_C_distance 8 = .ok (.ireturn, 1) := by decide +kernel
theorem ey_C_count : eY y_C_count 1 = true := by decide +kernel
theorem d_C_count_0 : decode c_C_count 0 = .ok (.iload_n 1, 1) := by decide +kernel
theorem d_C_count_1 : decode c_C_count 1 = .ok (.iconst 1, 1) := by decide +kernel
theorem d_C_count_2 : decode c_C_count 2 = .ok (.if_icmp .lt 17, 3) := by decide +kernel
theorem d_C_count_5 : decode c_C_count 5 = .ok (.iload_n 1, 1) := by decide +kernel
theorem d_C_count_6 : decode c_C_count 6 = .ok (.iconst 5, 1) := by decide +kernel
theorem d_C_count_7 : decode c_C_count 7 = .ok (.if_icmp .gt 12, 3) := by decide +kernel
theorem d_C_count_10 : decode c_C_count 10 = .ok (.aload_n 0, 1) := by decide +kernel
theorem d_C_count_11 : decode c_C_count 11 = .ok (.getfield 55, 3) := by decide +kernel
theorem d_C_count_14 : decode c_C_count 14 = .ok (.iload_n 1, 1) := by decide +kernel
theorem d_C_count_15 : decode c_C_count 15 = .ok (.iconst 1, 1) := by decide +kernel
theorem d_C_count_16 : decode c_C_count 16 = .ok (.isub, 1) := by decide +kernel
theorem d_C_count_17 : decode c_C_count 17 = .ok (.iaload, 1) := by decide +kernel
theorem d_C_count_18 : decode c_C_count 18 = .ok (.ireturn, 1) := by decide +kernel
theorem d_C_count_19 : decode c_C_count 19 = .ok (.iload_n 1, 1) := by decide +kernel
theorem d_C_count_20 : decode c_C_count 20 = .ok (.tableswitch 132 0 13 #[72, 132, 132, 132, 132, 132, 77, 82, 87, 92, 100, 108, 116, 124], 72) := by decide +kernel
theorem d_C_count_92 : decode c_C_count 92 = .ok (.aload_n 0, 1) := by decide +kernel
theorem d_C_count_93 : decode c_C_count 93 = .ok (.getfield 219, 3) := by decide +kernel
theorem d_C_count_96 : decode c_C_count 96 = .ok (.ireturn, 1) := by decide +kernel
theorem d_C_count_97 : decode c_C_count 97 = .ok (.aload_n 0, 1) := by decide +kernel
theorem d_C_count_98 : decode c_C_count 98 = .ok (.getfield 222, 3) := by decide +kernel
theorem d_C_count_101 : decode c_C_count 101 = .ok (.ireturn, 1) := by decide +kernel
theorem d_C_count_102 : decode c_C_count 102 = .ok (.aload_n 0, 1) := by decide +kernel
theorem d_C_count_103 : decode c_C_count 103 = .ok (.getfield 155, 3) := by decide +kernel
theorem d_C_count_106 : decode c_C_count 106 = .ok (.ireturn, 1) := by decide +kernel
theorem d_C_count_107 : decode c_C_count 107 = .ok (.aload_n 0, 1) := by decide +kernel
theorem d_C_count_108 : decode c_C_count 108 = .ok (.getfield 225, 3) := by decide +kernel
theorem d_C_count_111 : decode c_C_count 111 = .ok (.ireturn, 1) := by decide +kernel
theorem d_C_count_112 : decode c_C_count 112 = .ok (.aload_n 0, 1) := by decide +kernel
theorem d_C_count_113 : decode c_C_count 113 = .ok (.getfield 29, 3) := by decide +kernel
theorem d_C_count_116 : decode c_C_count 116 = .ok (.getfield 161, 3) := by decide +kernel
theorem d_C_count_119 : decode c_C_count 119 = .ok (.ireturn, 1) := by decide +kernel
theorem d_C_count_120 : decode c_C_count 120 = .ok (.aload_n 0, 1) := by decide +kernel
theorem d_C_count_121 : decode c_C_count 121 = .ok (.getfield 44, 3) := by decide +kernel
theorem d_C_count_124 : decode c_C_count 124 = .ok (.getfield 228, 3) := by decide +kernel
theorem d_C_count_127 : decode c_C_count 127 = .ok (.ireturn, 1) := by decide +kernel
theorem d_C_count_128 : decode c_C_count 128 = .ok (.aload_n 0, 1) := by decide +kernel
theorem d_C_count_129 : decode c_C_count 129 = .ok (.getfield 44, 3) := by decide +kernel
theorem d_C_count_132 : decode c_C_count 132 = .ok (.getfield 120, 3) := by decide +kernel
theorem d_C_count_135 : decode c_C_count 135 = .ok (.ireturn, 1) := by decide +kernel
theorem d_C_count_136 : decode c_C_count 136 = .ok (.aload_n 0, 1) := by decide +kernel
theorem d_C_count_137 : decode c_C_count 137 = .ok (.getfield 18, 3) := by decide +kernel
theorem d_C_count_140 : decode c_C_count 140 = .ok (.getfield 179, 3) := by decide +kernel
theorem d_C_count_143 : decode c_C_count 143 = .ok (.ireturn, 1) := by decide +kernel
theorem d_C_count_144 : decode c_C_count 144 = .ok (.aload_n 0, 1) := by decide +kernel
theorem d_C_count_145 : decode c_C_count 145 = .ok (.getfield 18, 3) := by decide +kernel
theorem d_C_count_148 : decode c_C_count 148 = .ok (.getfield 182, 3) := by decide +kernel
theorem d_C_count_151 : decode c_C_count 151 = .ok (.ireturn, 1) := by decide +kernel
theorem d_C_count_152 : decode c_C_count 152 = .ok (.iconst (-1), 1) := by decide +kernel
theorem d_C_count_153 : decode c_C_count 153 = .ok (.ireturn, 1) := by decide +kernel
theorem ey_C_isNoPart : eY y_C_isNoPart 1 = true := by decide +kernel
theorem d_C_isNoPart_0 : decode c_C_isNoPart 0 = .ok (.iload_n 0, 1) := by decide +kernel
theorem d_C_isNoPart_1 : decode c_C_isNoPart 1 = .ok (.ifCond .lt 8, 3) := by decide +kernel
theorem d_C_isNoPart_4 : decode c_C_isNoPart 4 = .ok (.iload_n 0, 1) := by decide +kernel
theorem d_C_isNoPart_5 : decode c_C_isNoPart 5 = .ok (.iconst 4, 1) := by decide +kernel
theorem d_C_isNoPart_6 : decode c_C_isNoPart 6 = .ok (.if_icmp .lt 7, 3) := by decide +kernel
theorem d_C_isNoPart_9 : decode c_C_isNoPart 9 = .ok (.iconst 1, 1) := by decide +kernel
theorem d_C_isNoPart_10 : decode c_C_isNoPart 10 = .ok (.goto 4, 3) := by decide +kernel
theorem d_C_isNoPart_13 : decode c_C_isNoPart 13 = .ok (.iconst 0, 1) := by decide +kernel
theorem d_C_isNoPart_14 : decode c_C_isNoPart 14 = .ok (.ireturn, 1) := by decide +kernel
theorem ey_C_access : eY y_C_access 3 = true := by decide +kernel
theorem d_C_access_0 : decode c_C_access 0 = .ok (.iload_n 2, 1) := by decide +kernel
theorem d_C_access_1 : decode c_C_access 1 = .ok (.invokestatic 86, 3) := by decide +kernel
theorem d_C_access_4 : decode c_C_access 4 = .ok (.ifCond .eq 13, 3) := by decide +kernel
theorem d_C_access_7 : decode c_C_access 7 = .ok (.new 90, 3) := by decide +kernel
theorem d_C_access_10 : decode c_C_access 10 = .ok (.dup, 1) := by decide +kernel
theorem d_C_access_11 : decode c_C_access 11 = .ok (.ldc 92, 2) := by decide +kernel
theorem d_C_access_13 : decode c_C_access 13 = .ok (.invokespecial 94, 3) := by decide +kernel
theorem d_C_access_16 : decode c_C_access 16 = .ok (.athrow, 1) := by decide +kernel
theorem d_C_access_17 : decode c_C_access 17 = .ok (.aload_n 0, 1) := by decide +kernel
theorem d_C_access_18 : decode c_C_access 18 = .ok (.iload_n 1, 1) := by decide +kernel
theorem d_C_access_19 : decode c_C_access 19 = .ok (.iload_n 2, 1) := by decide +kernel
theorem d_C_access_20 : decode c_C_access 20 = .ok (.iload_n 3, 1) := by decide +kernel
theorem d_C_access_21 : decode c_C_access 21 = .ok (.invokevirtual 97, 3) := by decide +kernel
theorem d_C_access_24 : decode c_C_access 24 = .ok (.ireturn, 1) := by decide +kernel
theorem ey_C_ask : eY y_C_ask 2 = true := by decide +kernel
theorem d_C_ask_0 : decode c_C_ask 0 = .ok (.iload_n 2, 1) := by decide +kernel
theorem d_C_ask_1 : decode c_C_ask 1 = .ok (.invokestatic 86, 3) := by decide +kernel
theorem d_C_ask_4 : decode c_C_ask 4 = .ok (.ifCond .eq 13, 3) := by decide +kernel
theorem d_C_ask_7 : decode c_C_ask 7 = .ok (.new 90, 3) := by decide +kernel
theorem d_C_ask_10 : decode c_C_ask 10 = .ok (.dup, 1) := by decide +kernel
theorem d_C_ask_11 : decode c_C_ask 11 = .ok (.ldc 92, 2) := by decide +kernel
theorem d_C_ask_13 : decode c_C_ask 13 = .ok (.invokespecial 94, 3) := by decide +kernel
theorem d_C_ask_16 : decode c_C_ask 16 = .ok (.athrow, 1) := by decide +kernel
theorem d_C_ask_17 : decode c_C_ask 17 = .ok (.aload_n 0, 1) := by decide +kernel
theorem d_C_ask_18 : decode c_C_ask 18 = .ok (.getfield 18, 3) := by decide +kernel
theorem d_C_ask_21 : decode c_C_ask 21 = .ok (.iload_n 1, 1) := by decide +kernel
theorem d_C_ask_22 : decode c_C_ask 22 = .ok (.invokevirtual 101, 3) := by decide +kernel
theorem d_C_ask_25 : decode c_C_ask 25 = .ok (.istore_n 3, 1) := by decide +kernel
theorem d_C_ask_26 : decode c_C_ask 26 = .ok (.iload_n 3, 1) := by decide +kernel
theorem d_C_ask_27 : decode c_C_ask 27 = .ok (.iconst (-1), 1) := by decide +kernel
theorem d_C_ask_28 : decode c_C_ask 28 = .ok (.if_icmp .eq 29, 3) := by decide +kernel
theorem d_C_ask_31 : decode c_C_ask 31 = .ok (.aload_n 0, 1) := by decide +kernel
theorem d_C_ask_32 : decode c_C_ask 32 = .ok (.getfield 18, 3) := by decide +kernel
theorem d_C_ask_35 : decode c_C_ask 35 = .ok (.getfield 105, 3) := by decide +kernel
theorem d_C_ask_38 : decode c_C_ask 38 = .ok (.iload_n 3, 1) := by decide +kernel
theorem d_C_ask_39 : decode c_C_ask 39 = .ok (.iaload, 1) := by decide +kernel
theorem d_C_ask_40 : decode c_C_ask 40 = .ok (.iconst 1, 1) := by decide +kernel
theorem d_C_ask_41 : decode c_C_ask 41 = .ok (.iload_n 2, 1) := by decide +kernel
theorem d_C_ask_42 : decode c_C_ask 42 = .ok (.ishl, 1) := by decide +kernel
theorem d_C_ask_43 : decode c_C_ask 43 = .ok (.iand, 1) := by decide +kernel
theorem d_C_ask_44 : decode c_C_ask 44 = .ok (.ifCond .eq 13, 3) := by decide +kernel
theorem d_C_ask_47 : decode c_C_ask 47 = .ok (.aload_n 0, 1) := by decide +kernel
theorem d_C_ask_48 : decode c_C_ask 48 = .ok (.iload_n 1, 1) := by decide +kernel
theorem d_C_ask_49 : decode c_C_ask 49 = .ok (.iload_n 2, 1) := by decide +kernel
theorem d_C_ask_50 : decode c_C_ask 50 = .ok (.iconst 0, 1) := by decide +kernel
theorem d_C_ask_51 : decode c_C_ask 51 = .ok (.invokevirtual 97, 3) := by decide +kernel
theorem d_C_ask_54 : decode c_C_ask 54 = .ok (.pop, 1) := by decide +kernel
theorem d_C_ask_55 : decode c_C_ask 55 = .ok (.iconst 0, 1) := by decide +kernel
theorem d_C_ask_56 : decode c_C_ask 56 = .ok (.ireturn, 1) := by decide +kernel
theorem d_C_ask_57 : decode c_C_ask 57 = .ok (.aload_n 0, 1) := by decide +kernel
theorem d_C_ask_58 : decode c_C_ask 58 = .ok (.getfield 44, 3) := by decide +kernel
theorem d_C_ask_61 : decode c_C_ask 61 = .ok (.iload_n 1, 1) := by decide +kernel
theorem d_C_ask_62 : decode c_C_ask 62 = .ok (.invokevirtual 108, 3) := by decide +kernel
theorem d_C_ask_65 : decode c_C_ask 65 = .ok (.ifCond .ne 13, 3) := by decide +kernel
theorem d_C_ask_68 : decode c_C_ask 68 = .ok (.new 111, 3) := by decide +kernel
theorem d_C_ask_71 : decode c_C_ask 71 = .ok (.dup, 1) := by decide +kernel
theorem d_C_ask_72 : decode c_C_ask 72 = .ok (.ldc 113, 2) := by decide +kernel
theorem d_C_ask_74 : decode c_C_ask 74 = .ok (.invokespecial 115, 3) := by decide +kernel
theorem d_C_ask_77 : decode c_C_ask 77 = .ok (.athrow, 1) := by decide +kernel
theorem d_C_ask_78 : decode c_C_ask 78 = .ok (.aload_n 0, 1) := by decide +kernel
theorem d_C_ask_79 : decode c_C_ask 79 = .ok (.getfield 44, 3) := by decide +kernel
theorem d_C_ask_82 : decode c_C_ask 82 = .ok (.iload_n 1, 1) := by decide +kernel
theorem d_C_ask_83 : decode c_C_ask 83 = .ok (.iload_n 2, 1) := by decide +kernel
theorem d_C_ask_84 : decode c_C_ask 84 = .ok (.invokevirtual 116, 3) := by decide +kernel
theorem d_C_ask_87 : decode c_C_ask 87 = .ok (.ifCond .eq 7, 3) := by decide +kernel
theorem d_C_ask_90 : decode c_C_ask 90 = .ok (.iconst 1, 1) := by decide +kernel
theorem d_C_ask_91 : decode c_C_ask 91 = .ok (.goto 4, 3) := by decide +kernel
theorem d_C_ask_94 : decode c_C_ask 94 = .ok (.iconst 2, 1) := by decide +kernel
theorem d_C_ask_95 : decode c_C_ask 95 = .ok (.ireturn, 1) := by decide +kernel
theorem ey_C_answer : eY y_C_answer 0 = true := by decide +kernel
theorem d_C_answer_0 : decode c_C_answer 0 = .ok (.aload_n 0, 1) := by decide +kernel
theorem d_C_answer_1 : decode c_C_answer 1 = .ok (.getfield 44, 3) := by decide +kernel
theorem d_C_answer_4 : decode c_C_answer 4 = .ok (.getfield 120, 3) := by decide +kernel
theorem d_C_answer_7 : decode c_C_answer 7 = .ok (.ifCond .ne 13, 3) := by decide +kernel
theorem d_C_answer_10 : decode c_C_answer 10 = .ok (.new 124, 3) := by decide +kernel
theorem d_C_answer_13 : decode c_C_answer 13 = .ok (.dup, 1) := by decide +kernel
theorem d_C_answer_14 : decode c_C_answer 14 = .ok (.ldc 126, 2) := by decide +kernel
theorem d_C_answer_16 : decode c_C_answer 16 = .ok (.invokespecial 128, 3) := by decide +kernel
theorem d_C_answer_19 : decode c_C_answer 19 = .ok (.athrow, 1) := by decide +kernel
theorem d_C_answer_20 : decode c_C_answer 20 = .ok (.aload_n 0, 1) := by decide +kernel
theorem d_C_answer_21 : decode c_C_answer 21 = .ok (.getfield 44, 3) := by decide +kernel
theorem d_C_answer_24 : decode c_C_answer 24 = .ok (.invokevirtual 129, 3) := by decide +kernel
theorem d_C_answer_27 : decode c_C_answer 27 = .ok (.istore_n 1, 1) := by decide +kernel
theorem d_C_answer_28 : decode c_C_answer 28 = .ok (.iconst 0, 1) := by decide +kernel
theorem d_C_answer_29 : decode c_C_answer 29 = .ok (.istore_n 2, 1) := by decide +kernel
theorem d_C_answer_30 : decode c_C_answer 30 = .ok (.iload_n 2, 1) := by decide +kernel
theorem d_C_answer_31 : decode c_C_answer 31 = .ok (.aload_n 0, 1) := by decide +kernel
theorem d_C_answer_32 : decode c_C_answer 32 = .ok (.getfield 44, 3) := by decide +kernel
theorem d_C_answer_35 : decode c_C_answer 35 = .ok (.getfield 133, 3) := by decide +kernel
theorem d_C_answer_38 : decode c_C_answer 38 = .ok (.if_icmp .ge 33, 3) := by decide +kernel
theorem d_C_answer_41 : decode c_C_answer 41 = .ok (.aload_n 0, 1) := by decide +kernel
theorem d_C_answer_42 : decode c_C_answer 42 = .ok (.getfield 44, 3) := by decide +kernel
theorem d_C_answer_45 : decode c_C_answer 45 = .ok (.getfield 136, 3) := by decide +kernel
theorem d_C_answer_48 : decode c_C_answer 48 = .ok (.iload_n 2, 1) := by decide +kernel
theorem d_C_answer_49 : decode c_C_answer 49 = .ok (.aload_n 0, 1) := by decide +kernel
theorem d_C_answer_50 : decode c_C_answer 50 = .ok (.iload_n 1, 1) := by decide +kernel
theorem d_C_answer_51 : decode c_C_answer 51 = .ok (.aload_n 0, 1) := by decide +kernel
theorem d_C_answer_52 : decode c_C_answer 52 = .ok (.getfield 44, 3) := by decide +kernel
theorem d_C_answer_55 : decode c_C_answer 55 = .ok (.getfield 139, 3) := by decide +kernel
theorem d_C_answer_58 : decode c_C_answer 58 = .ok (.iload_n 2, 1) := by decide +kernel
theorem d_C_answer_59 : decode c_C_answer 59 = .ok (.iaload, 1) := by decide +kernel
theorem d_C_answer_60 : decode c_C_answer 60 = .ok (.iconst 0, 1) := by decide +kernel
theorem d_C_answer_61 : decode c_C_answer 61 = .ok (.invokevirtual 97, 3) := by decide +kernel
theorem d_C_answer_64 : decode c_C_answer 64 = .ok (.iastore, 1) := by decide +kernel
theorem d_C_answer_65 : decode c_C_answer 65 = .ok (.iinc 2 1, 3) := by decide +kernel
theorem d_C_answer_68 : decode c_C_answer 68 = .ok (.goto (-38), 3) := by decide +kernel
theorem d_C_answer_71 : decode c_C_answer 71 = .ok (.aload_n 0, 1) := by decide +kernel
theorem d_C_answer_72 : decode c_C_answer 72 = .ok (.getfield 44, 3) := by decide +kernel
theorem d_C_answer_75 : decode c_C_answer 75 = .ok (.getfield 133, 3) := by decide +kernel
theorem d_C_answer_78 : decode c_C_answer 78 = .ok (.ireturn, 1) := by decide +kernel
theorem ey_C_answered : eY y_C_answered 2 = true := by decide +kernel
theorem d_C_answered_0 : decode c_C_answered 0 = .ok (.iload_n 1, 1) := by decide +kernel
theorem d_C_answered_1 : decode c_C_answered 1 = .ok (.ifCond .lt 23, 3) := by decide +kernel
theorem d_C_answered_4 : decode c_C_answered 4 = .ok (.iload_n 1, 1) := by decide +kernel
theorem d_C_answered_5 : decode c_C_answered 5 = .ok (.aload_n 0, 1) := by decide +kernel
theorem d_C_answered_6 : decode c_C_answered 6 = .ok (.getfield 44, 3) := by decide +kernel
theorem d_C_answered_9 : decode c_C_answered 9 = .ok (.getfield 133, 3) := by decide +kernel
theorem d_C_answered_12 : decode c_C_answered 12 = .ok (.if_icmp .ge 12, 3) := by decide +kernel
theorem d_C_answered_15 : decode c_C_answered 15 = .ok (.iload_n 2, 1) := by decide +kernel
theorem d_C_answered_16 : decode c_C_answered 16 = .ok (.ifCond .lt 8, 3) := by decide +kernel
theorem d_C_answered_19 : decode c_C_answered 19 = .ok (.iload_n 2, 1) := by decide +kernel
theorem d_C_answered_20 : decode c_C_answered 20 = .ok (.iconst 1, 1) := by decide +kernel
theorem d_C_answered_21 : decode c_C_answered 21 = .ok (.if_icmp .le 13, 3) := by decide +kernel
theorem d_C_answered_24 : decode c_C_answered 24 = .ok (.new 90, 3) := by decide +kernel
theorem d_C_answered_27 : decode c_C_answered 27 = .ok (.dup, 1) := by decide +kernel
theorem d_C_answered_28 : decode c_C_answered 28 = .ok (.ldc 142, 2) := by decide +kernel
theorem d_C_answered_30 : decode c_C_answered 30 = .ok (.invokespecial 94, 3) := by decide +kernel
theorem d_C_answered_33 : decode c_C_answered 33 = .ok (.athrow, 1) := by decide +kernel
theorem d_C_answered_34 : decode c_C_answered 34 = .ok (.iload_n 2, 1) := by decide +kernel
theorem d_C_answered_35 : decode c_C_answered 35 = .ok (.ifCond .ne 15, 3) := by decide +kernel
theorem d_C_answered_38 : decode c_C_answered 38 = .ok (.aload_n 0, 1) := by decide +kernel
theorem d_C_answered_39 : decode c_C_answered 39 = .ok (.getfield 44, 3) := by decide +kernel
theorem d_C_answered_42 : decode c_C_answered 42 = .ok (.getfield 139, 3) := by decide +kernel
theorem d_C_answered_45 : decode c_C_answered 45 = .ok (.iload_n 1, 1) := by decide +kernel
theorem d_C_answered_46 : decode c_C_answered 46 = .ok (.iaload, 1) := by decide +kernel
theorem d_C_answered_47 : decode c_C_answered 47 = .ok (.goto 12, 3) := by decide +kernel
theorem d_C_answered_50 : decode c_C_answered 50 = .ok (.aload_n 0, 1) := by decide +kernel
theorem d_C_answered_51 : decode c_C_answered 51 = .ok (.getfield 44, 3) := by decide +kernel
theorem d_C_answered_54 : decode c_C_answered 54 = .ok (.getfield 136, 3) := by decide +kernel
theorem d_C_answered_57 : decode c_C_answered 57 = .ok (.iload_n 1, 1) := by decide +kernel
theorem d_C_answered_58 : decode c_C_answered 58 = .ok (.iaload, 1) := by decide +kernel
theorem d_C_answered_59 : decode c_C_answered 59 = .ok (.ireturn, 1) := by decide +kernel
theorem ey_C_way : eY y_C_way 3 = true := by decide +kernel
theorem d_C_way_0 : decode c_C_way 0 = .ok (.iload_n 1, 1) := by decide +kernel
theorem d_C_way_1 : decode c_C_way 1 = .ok (.ifCond .lt 29, 3) := by decide +kernel
theorem d_C_way_4 : decode c_C_way 4 = .ok (.iload_n 1, 1) := by decide +kernel
theorem d_C_way_5 : decode c_C_way 5 = .ok (.aload_n 0, 1) := by decide +kernel
theorem d_C_way_6 : decode c_C_way 6 = .ok (.getfield 18, 3) := by decide +kernel
theorem d_C_way_9 : decode c_C_way 9 = .ok (.getfield 179, 3) := by decide +kernel
theorem d_C_way_12 : decode c_C_way 12 = .ok (.if_icmp .ge 18, 3) := by decide +kernel
theorem d_C_way_15 : decode c_C_way 15 = .ok (.iload_n 2, 1) := by decide +kernel
theorem d_C_way_16 : decode c_C_way 16 = .ok (.ifCond .lt 14, 3) := by decide +kernel
theorem d_C_way_19 : decode c_C_way 19 = .ok (.iload_n 2, 1) := by decide +kernel
theorem d_C_way_20 : decode c_C_way 20 = .ok (.aload_n 0, 1) := by decide +kernel
theorem d_C_way_21 : decode c_C_way 21 = .ok (.getfield 18, 3) := by decide +kernel
theorem d_C_way_24 : decode c_C_way 24 = .ok (.getfield 182, 3) := by decide +kernel
theorem d_C_way_27 : decode c_C_way 27 = .ok (.if_icmp .lt 13, 3) := by decide +kernel
theorem d_C_way_30 : decode c_C_way 30 = .ok (.new 90, 3) := by decide +kernel
theorem d_C_way_33 : decode c_C_way 33 = .ok (.dup, 1) := by decide +kernel
theorem d_C_way_34 : decode c_C_way 34 = .ok (.ldc 185, 2) := by decide +kernel
theorem d_C_way_36 : decode c_C_way 36 = .ok (.invokespecial 94, 3) := by decide +kernel
theorem d_C_way_39 : decode c_C_way 39 = .ok (.athrow, 1) := by decide +kernel
theorem d_C_way_40 : decode c_C_way 40 = .ok (.iload_n 1, 1) := by decide +kernel
theorem d_C_way_41 : decode c_C_way 41 = .ok (.aload_n 0, 1) := by decide +kernel
theorem d_C_way_42 : decode c_C_way 42 = .ok (.getfield 18, 3) := by decide +kernel
theorem d_C_way_45 : decode c_C_way 45 = .ok (.getfield 182, 3) := by decide +kernel
theorem d_C_way_48 : decode c_C_way 48 = .ok (.imul, 1) := by decide +kernel
theorem d_C_way_49 : decode c_C_way 49 = .ok (.iload_n 2, 1) := by decide +kernel
theorem d_C_way_50 : decode c_C_way 50 = .ok (.iadd, 1) := by decide +kernel
theorem d_C_way_51 : decode c_C_way 51 = .ok (.istore 4, 2) := by decide +kernel
theorem d_C_way_53 : decode c_C_way 53 = .ok (.iload_n 3, 1) := by decide +kernel
theorem d_C_way_54 : decode c_C_way 54 = .ok (.tableswitch 105 0 4 #[34, 45, 64, 75, 86], 34) := by decide +kernel
theorem d_C_way_88 : decode c_C_way 88 = .ok (.aload_n 0, 1) := by decide +kernel
theorem d_C_way_89 : decode c_C_way 89 = .ok (.getfield 18, 3) := by decide +kernel
theorem d_C_way_92 : decode c_C_way 92 = .ok (.getfield 187, 3) := by decide +kernel
theorem d_C_way_95 : decode c_C_way 95 = .ok (.iload 4, 2) := by decide +kernel
theorem d_C_way_97 : decode c_C_way 97 = .ok (.iaload, 1) := by decide +kernel
theorem d_C_way_98 : decode c_C_way 98 = .ok (.ireturn, 1) := by decide +kernel
theorem d_C_way_99 : decode c_C_way 99 = .ok (.aload_n 0, 1) := by decide +kernel
theorem d_C_way_100 : decode c_C_way 100 = .ok (.getfield 18, 3) := by decide +kernel
theorem d_C_way_103 : decode c_C_way 103 = .ok (.getfield 190, 3) := by decide +kernel
theorem d_C_way_106 : decode c_C_way 106 = .ok (.iload 4, 2) := by decide +kernel
theorem d_C_way_108 : decode c_C_way 108 = .ok (.baload, 1) := by decide +kernel
theorem d_C_way_109 : decode c_C_way 109 = .ok (.ifCond .eq 7, 3) := by decide +kernel
theorem d_C_way_112 : decode c_C_way 112 = .ok (.iconst 1, 1) := by decide +kernel
theorem d_C_way_113 : decode c_C_way 113 = .ok (.goto 4, 3) := by decide +kernel
theorem d_C_way_116 : decode c_C_way 116 = .ok (.iconst 0, 1) := by decide +kernel
theorem d_C_way_117 : decode c_C_way 117 = .ok (.ireturn, 1) := by decide +kernel
theorem d_C_way_118 : decode c_C_way 118 = .ok (.aload_n 0, 1) := by decide +kernel
theorem d_C_way_119 : decode c_C_way 119 = .ok (.getfield 18, 3) := by decide +kernel
theorem d_C_way_122 : decode c_C_way 122 = .ok (.getfield 105, 3) := by decide +kernel
theorem d_C_way_125 : decode c_C_way 125 = .ok (.iload 4, 2) := by decide +kernel
theorem d_C_way_127 : decode c_C_way 127 = .ok (.iaload, 1) := by decide +kernel
theorem d_C_way_128 : decode c_C_way 128 = .ok (.ireturn, 1) := by decide +kernel
theorem d_C_way_129 : decode c_C_way 129 = .ok (.aload_n 0, 1) := by decide +kernel
theorem d_C_way_130 : decode c_C_way 130 = .ok (.getfield 18, 3) := by decide +kernel
theorem d_C_way_133 : decode c_C_way 133 = .ok (.getfield 164, 3) := by decide +kernel
theorem d_C_way_136 : decode c_C_way 136 = .ok (.iload 4, 2) := by decide +kernel
theorem d_C_way_138 : decode c_C_way 138 = .ok (.iaload, 1) := by decide +kernel
theorem d_C_way_139 : decode c_C_way 139 = .ok (.ireturn, 1) := by decide +kernel
theorem d_C_way_140 : decode c_C_way 140 = .ok (.aload_n 0, 1) := by decide +kernel
theorem d_C_way_141 : decode c_C_way 141 = .ok (.getfield 18, 3) := by decide +kernel
theorem d_C_way_144 : decode c_C_way 144 = .ok (.getfield 144, 3) := by decide +kernel
theorem d_C_way_147 : decode c_C_way 147 = .ok (.iload 4, 2) := by decide +kernel
theorem d_C_way_149 : decode c_C_way 149 = .ok (.baload, 1) := by decide +kernel
theorem d_C_way_150 : decode c_C_way 150 = .ok (.ifCond .eq 7, 3) := by decide +kernel
theorem d_C_way_153 : decode c_C_way 153 = .ok (.iconst 1, 1) := by decide +kernel
theorem d_C_way_154 : decode c_C_way 154 = .ok (.goto 4, 3) := by decide +kernel
theorem d_C_way_157 : decode c_C_way 157 = .ok (.iconst 0, 1) := by decide +kernel
theorem d_C_way_158 : decode c_C_way 158 = .ok (.ireturn, 1) := by decide +kernel
theorem d_C_way_159 : decode c_C_way 159 = .ok (.new 90, 3) := by decide +kernel
theorem d_C_way_162 : decode c_C_way 162 = .ok (.dup, 1) := by decide +kernel
theorem d_C_way_163 : decode c_C_way 163 = .ok (.ldc 193, 2) := by decide +kernel
theorem d_C_way_165 : decode c_C_way 165 = .ok (.invokespecial 94, 3) := by decide +kernel
theorem d_C_way_168 : decode c_C_way 168 = .ok (.athrow, 1) := by decide +kernel
theorem ey_C_caught : eY y_C_caught 2 = true := by decide +kernel
theorem d_C_caught_0 : decode c_C_caught 0 = .ok (.iload_n 1, 1) := by decide +kernel
theorem d_C_caught_1 : decode c_C_caught 1 = .ok (.ifCond .lt 14, 3) := by decide +kernel
theorem d_C_caught_4 : decode c_C_caught 4 = .ok (.iload_n 1, 1) := by decide +kernel
theorem d_C_caught_5 : decode c_C_caught 5 = .ok (.aload_n 0, 1) := by decide +kernel
theorem d_C_caught_6 : decode c_C_caught 6 = .ok (.getfield 29, 3) := by decide +kernel
theorem d_C_caught_9 : decode c_C_caught 9 = .ok (.getfield 161, 3) := by decide +kernel
theorem d_C_caught_12 : decode c_C_caught 12 = .ok (.if_icmp .lt 13, 3) := by decide +kernel
theorem d_C_caught_15 : decode c_C_caught 15 = .ok (.new 90, 3) := by decide +kernel
theorem d_C_caught_18 : decode c_C_caught 18 = .ok (.dup, 1) := by decide +kernel
theorem d_C_caught_19 : decode c_C_caught 19 = .ok (.ldc 195, 2) := by decide +kernel
theorem d_C_caught_21 : decode c_C_caught 21 = .ok (.invokespecial 94, 3) := by decide +kernel
theorem d_C_caught_24 : decode c_C_caught 24 = .ok (.athrow, 1) := by decide +kernel
theorem d_C_caught_25 : decode c_C_caught 25 = .ok (.iload_n 2, 1) := by decide +kernel
theorem d_C_caught_26 : decode c_C_caught 26 = .ok (.tableswitch 56 0 2 #[26, 36, 46], 26) := by decide +kernel
theorem d_C_caught_52 : decode c_C_caught 52 = .ok (.aload_n 0, 1) := by decide +kernel
theorem d_C_caught_53 : decode c_C_caught 53 = .ok (.getfield 29, 3) := by decide +kernel
theorem d_C_caught_56 : decode c_C_caught 56 = .ok (.getfield 197, 3) := by decide +kernel
theorem d_C_caught_59 : decode c_C_caught 59 = .ok (.iload_n 1, 1) := by decide +kernel
theorem d_C_caught_60 : decode c_C_caught 60 = .ok (.iaload, 1) := by decide +kernel
theorem d_C_caught_61 : decode c_C_caught 61 = .ok (.ireturn, 1) := by decide +kernel
theorem d_C_caught_62 : decode c_C_caught 62 = .ok (.aload_n 0, 1) := by decide +kernel
theorem d_C_caught_63 : decode c_C_caught 63 = .ok (.getfield 29, 3) := by decide +kernel
theorem d_C_caught_66 : decode c_C_caught 66 = .ok (.getfield 198, 3) := by decide +kernel
theorem d_C_caught_69 : decode c_C_caught 69 = .ok (.iload_n 1, 1) := by decide +kernel
theorem d_C_caught_70 : decode c_C_caught 70 = .ok (.iaload, 1) := by decide +kernel
theorem d_C_caught_71 : decode c_C_caught 71 = .ok (.ireturn, 1) := by decide +kernel
theorem d_C_caught_72 : decode c_C_caught 72 = .ok (.aload_n 0, 1) := by decide +kernel
theorem d_C_caught_73 : decode c_C_caught 73 = .ok (.getfield 29, 3) := by decide +kernel
theorem d_C_caught_76 : decode c_C_caught 76 = .ok (.getfield 175, 3) := by decide +kernel
theorem d_C_caught_79 : decode c_C_caught 79 = .ok (.iload_n 1, 1) := by decide +kernel
theorem d_C_caught_80 : decode c_C_caught 80 = .ok (.iaload, 1) := by decide +kernel
theorem d_C_caught_81 : decode c_C_caught 81 = .ok (.ireturn, 1) := by decide +kernel
theorem d_C_caught_82 : decode c_C_caught 82 = .ok (.new 90, 3) := by decide +kernel
theorem d_C_caught_85 : decode c_C_caught 85 = .ok (.dup, 1) := by decide +kernel
theorem d_C_caught_86 : decode c_C_caught 86 = .ok (.ldc 193, 2) := by decide +kernel
theorem d_C_caught_88 : decode c_C_caught 88 = .ok (.invokespecial 94, 3) := by decide +kernel
theorem d_C_caught_91 : decode c_C_caught 91 = .ok (.athrow, 1) := by decide +kernel
theorem ey_C_next : eY y_C_next 1 = true := by decide +kernel
theorem d_C_next_0 : decode c_C_next 0 = .ok (.iload_n 1, 1) := by decide +kernel
theorem d_C_next_1 : decode c_C_next 1 = .ok (.ifCond .lt 14, 3) := by decide +kernel
theorem d_C_next_4 : decode c_C_next 4 = .ok (.iload_n 1, 1) := by decide +kernel
theorem d_C_next_5 : decode c_C_next 5 = .ok (.aload_n 0, 1) := by decide +kernel
theorem d_C_next_6 : decode c_C_next 6 = .ok (.getfield 18, 3) := by decide +kernel
theorem d_C_next_9 : decode c_C_next 9 = .ok (.getfield 179, 3) := by decide +kernel
theorem d_C_next_12 : decode c_C_next 12 = .ok (.if_icmp .lt 13, 3) := by decide +kernel
theorem d_C_next_15 : decode c_C_next 15 = .ok (.new 90, 3) := by decide +kernel
theorem d_C_next_18 : decode c_C_next 18 = .ok (.dup, 1) := by decide +kernel
theorem d_C_next_19 : decode c_C_next 19 = .ok (.ldc 199, 2) := by decide +kernel
theorem d_C_next_21 : decode c_C_next 21 = .ok (.invokespecial 94, 3) := by decide +kernel
theorem d_C_next_24 : decode c_C_next 24 = .ok (.athrow, 1) := by decide +kernel
theorem d_C_next_25 : decode c_C_next 25 = .ok (.aload_n 0, 1) := by decide +kernel
theorem d_C_next_26 : decode c_C_next 26 = .ok (.getfield 18, 3) := by decide +kernel
theorem d_C_next_29 : decode c_C_next 29 = .ok (.iload_n 1, 1) := by decide +kernel
theorem d_C_next_30 : decode c_C_next 30 = .ok (.invokevirtual 201, 3) := by decide +kernel
theorem d_C_next_33 : decode c_C_next 33 = .ok (.iconst (-1), 1) := by decide +kernel
theorem d_C_next_34 : decode c_C_next 34 = .ok (.if_icmp .eq 7, 3) := by decide +kernel
theorem d_C_next_37 : decode c_C_next 37 = .ok (.iconst (-1), 1) := by decide +kernel
theorem d_C_next_38 : decode c_C_next 38 = .ok (.goto 18, 3) := by decide +kernel
theorem d_C_next_41 : decode c_C_next 41 = .ok (.aload_n 0, 1) := by decide +kernel
theorem d_C_next_42 : decode c_C_next 42 = .ok (.getfield 37, 3) := by decide +kernel
theorem d_C_next_45 : decode c_C_next 45 = .ok (.iload_n 1, 1) := by decide +kernel
theorem d_C_next_46 : decode c_C_next 46 = .ok (.aload_n 0, 1) := by decide +kernel
theorem d_C_next_47 : decode c_C_next 47 = .ok (.getfield 18, 3) := by decide +kernel
theorem d_C_next_50 : decode c_C_next 50 = .ok (.getfield 144, 3) := by decide +kernel
theorem d_C_next_53 : decode c_C_next 53 = .ok (.invokevirtual 204, 3) := by decide +kernel
theorem d_C_next_56 : decode c_C_next 56 = .ok (.ireturn, 1) := by decide +kernel
theorem ey_C_misses : eY y_C_misses 1 = true := by decide +kernel
theorem d_C_misses_0 : decode c_C_misses 0 = .ok (.iload_n 1, 1) := by decide +kernel
theorem d_C_misses_1 : decode c_C_misses 1 = .ok (.iconst 1, 1) := by decide +kernel
theorem d_C_misses_2 : decode c_C_misses 2 = .ok (.if_icmp .lt 9, 3) := by decide +kernel
theorem d_C_misses_5 : decode c_C_misses 5 = .ok (.iload_n 1, 1) := by decide +kernel
theorem d_C_misses_6 : decode c_C_misses 6 = .ok (.bipush 64, 2) := by decide +kernel
theorem d_C_misses_8 : decode c_C_misses 8 = .ok (.if_icmp .le 13, 3) := by decide +kernel
theorem d_C_misses_11 : decode c_C_misses 11 = .ok (.new 210, 3) := by decide +kernel
theorem d_C_misses_14 : decode c_C_misses 14 = .ok (.dup, 1) := by decide +kernel
theorem d_C_misses_15 : decode c_C_misses 15 = .ok (.ldc 212, 2) := by decide +kernel
theorem d_C_misses_17 : decode c_C_misses 17 = .ok (.invokespecial 214, 3) := by decide +kernel
theorem d_C_misses_20 : decode c_C_misses 20 = .ok (.athrow, 1) := by decide +kernel
theorem d_C_misses_21 : decode c_C_misses 21 = .ok (.aload_n 0, 1) := by decide +kernel
theorem d_C_misses_22 : decode c_C_misses 22 = .ok (.getfield 51, 3) := by decide +kernel
theorem d_C_misses_25 : decode c_C_misses 25 = .ok (.iload_n 1, 1) := by decide +kernel
theorem d_C_misses_26 : decode c_C_misses 26 = .ok (.invokevirtual 215, 3) := by decide +kernel
theorem d_C_misses_29 : decode c_C_misses 29 = .ok (.ireturn, 1) := by decide +kernel
theorem narrow_bI (b : Bool) : narrow .boolean (.int (bI b)) = .int (bI b) := by cases b <;> rfl
theorem fits_bI (b : Bool) : fits .boolean (.int (bI b)) = true := by cases b <;> rfl
theorem nar_bI (b : Bool) : vp_nar .boolean (bI b) = bI b := by cases b <;> rfl
/-- the slot that has the line -/
def fdW (S wd : Nat) (c : CS) (x : Int32) : Option Nat := fst1 (hasL c.2 x) (sN S x * wd) wd
/-- the row that has the line -/
def fdR (c : CS) (x : Int32) : Option Nat := fst1 (fun k => c.2 8 k == x) 0 (nz c)
def lkS (S wd : Nat) (c : CS) (x : Int32) (b : Bool) : CS × Int32 := match fdW S wd c x with
  | none => (c, 0)
  | some j => if c.2 6 j = bI b then (c, 0) else ((c.1, up2 c.2 6 (upd (c.2 6) j (bI b))), 1)
def clS (S wd : Nat) (c : CS) (x : Int32) : CS × Int32 := match fdW S wd c x with
  | some j => ((upd c.1 4 (c.1 4 + popI (c.2 5 j)), up2 c.2 5 (upd (c.2 5) j 0)), popI (c.2 5 j))
  | none => match fdR c x with
    | some k => ((upd c.1 4 (c.1 4 + popI (c.2 10 k)), up2 c.2 10 (upd (c.2 10) k 0)), popI (c.2 10 k))
    | none => ((upd c.1 4 (c.1 4 + 0), c.2), 0)
def dpS (S wd : Nat) (c : CS) (x : Int32) : CS × Int32 := match fdW S wd c x with
  | some j => ((c.1, emptyF c.2 j), popI (c.2 5 j))
  | none => match fdR c x with
    | some k => ((upd c.1 10 (nI (nz c - 1)), rmF c.2 k (nz c - 1)), popI (c.2 10 k))
    | none => (c, -1)
section CPub
variable {l : Launch} {G : EG} {a : Nat → Nat} {c : CS} {n S wd V kd z : Nat} {wr ws : va_W}
set_option maxRecDepth 100000 in
theorem k_C_mode (t p : Bool) : Con l G y_C_mode c_C_mode 4 (some .int) (rz 0 0) [.ref (a 0), .int (bI t), .int (bI p)] (cF G a c.1 c.2 n V wr) (DI ((if c.1 0 = 0 then 0 else 1) + (if c.1 1 = 0 then 0 else 2)) (cF G a (upd (upd c.1 0 (bI t)) 1 (bI p)) c.2 n V wr)) := by
  refine Con.of rfl rfl (fun X C E hR hl hnm => ?_)
  have tail : ∀ y : Int32, y = ((if c.1 0 = 0 then 0 else 1) + (if c.1 1 = 0 then 0 else 2)) → EW X G 4 0 0 25 [(0, .ref (a 0)), (1, .int (bI t)), (2, .int (bI p))] [.int y] (cF G a c.1 c.2 n V wr) := by
    intro y hy
    rw [← hy] at E
    refine e_istore_n C d_C_mode_25 rfl ?_
    refine e_aload_n C d_C_mode_26 rfl ?_
    refine e_iload_n C d_C_mode_27 rfl ?_
    refine e_put C 0 (k := 6) in_C tk_C nm_C g270 d_C_mode_28 rfl rfl rfl rfl rfl rfl (narrow_bI t) (fits_bI t) ?_
    refine e_aload_n C d_C_mode_31 rfl ?_
    refine e_iload_n C d_C_mode_32 rfl ?_
    refine e_put C 0 (k := 7) in_C tk_C nm_C g271 d_C_mode_33 rfl rfl rfl rfl rfl rfl (narrow_bI p) (fits_bI p) ?_
    refine e_iload_n C d_C_mode_36 rfl ?_
    exact e_iret C E d_C_mode_37 (Nat.le_refl _) (Nat.le_refl _) rfl ⟨rfl, rfl⟩
  have mid : ∀ y : Int32, y = (if c.1 0 = 0 then 0 else 1) → EW X G 4 0 0 12 [(0, .ref (a 0)), (1, .int (bI t)), (2, .int (bI p))] [.int y] (cF G a c.1 c.2 n V wr) := by
    intro y hy
    refine e_aload_n C d_C_mode_12 rfl ?_
    refine e_get C 0 (k := 7) in_C g271 d_C_mode_13 rfl rfl rfl rfl ?_
    refine e_if_eq C d_C_mode_16 (tgt := 23) (by decide) (fun h16 => ?_) (fun h16 => ?_)
    · skip
      refine e_iconst C d_C_mode_23 (v := 0) (by decide) ?_
      refine e_iadd C d_C_mode_24 ?_
      exact tail _ (by rw [hy, if_pos (show c.1 1 = 0 from h16)])
    · skip
      refine e_iconst C d_C_mode_19 (v := 2) (by decide) ?_
      refine e_goto C d_C_mode_20 (tgt := 24) (by decide) ?_
      refine e_iadd C d_C_mode_24 ?_
      exact tail _ (by rw [hy, if_neg (show ¬ c.1 1 = 0 from h16)])
  refine e_aload_n C d_C_mode_0 rfl ?_
  refine e_get C 0 (k := 6) in_C g270 d_C_mode_1 rfl rfl rfl rfl ?_
  refine e_if_eq C d_C_mode_4 (tgt := 11) (by decide) (fun h4 => ?_) (fun h4 => ?_)
  · skip
    refine e_iconst C d_C_mode_11 (v := 0) (by decide) ?_
    exact e_lv2 (mid _ (by rw [if_pos (show c.1 0 = 0 from h4)])) rfl
  · skip
    refine e_iconst C d_C_mode_7 (v := 1) (by decide) ?_
    refine e_goto C d_C_mode_8 (tgt := 12) (by decide) ?_
    exact e_lv2 (mid _ (by rw [if_neg (show ¬ c.1 0 = 0 from h4)])) rfl
set_option maxRecDepth 100000 in
theorem k_C_lock (h : CD c.1 S wd) (x : Int32) (b : Bool) : Con l G y_C_lock c_C_lock 4 (some .boolean) (rz 2 44) [.ref (a 0), .int x, .int (bI b)] (cF G a c.1 c.2 (S * wd) V wr) (DI (lkS S wd c x b).2 (cF G a (lkS S wd c x b).1.1 (lkS S wd c x b).1.2 (S * wd) V wr)) := by
  refine Con.of rfl rfl (fun X C E hR hl hnm => ?_)
  have hn1 := h.n128
  have hs := sN_lt h x
  have hb2 : sN S x * wd + wd ≤ S * wd := by
    have := slot_lt (wd := wd) (w := wd - 1) hs (by have := h.2.2.2.2; omega)
    have := h.2.2.2.2
    omega
  unfold lkS fdW at E
  refine e_aload_n C d_C_lock_0 rfl ?_
  refine e_get C 0 (k := 0) in_C g264 d_C_lock_1 rfl rfl rfl rfl ?_
  refine e_iload_n C d_C_lock_4 rfl ?_
  refine e_cVi C hR 1 (k_Ways_find h x) g312 g3 g309 g310 g311 d_C_lock_5 rfl ey_Ways_find rfl rfl rfl rfl ⟨Nat.zero_le _, Nat.zero_le _⟩ ?_
  refine e_istore_n C d_C_lock_8 rfl ?_
  refine e_iload_n C d_C_lock_9 rfl ?_
  refine e_iconst C d_C_lock_10 (v := (-1)) (by decide) ?_
  refine e_icmp_eq C d_C_lock_11 (tgt := 27) (by decide) (fun h11 => ?_) (fun h11 => ?_)
  · rw [oI_n1 (fb (by omega))] at h11
    rw [h11] at E
    refine e_iconst C d_C_lock_27 (v := 0) (by decide) ?_
    exact e_iret C E d_C_lock_28 (Nat.le_refl _) (Nat.le_refl _) rfl ⟨rfl, rfl⟩
  · rw [oI_n1 (fb (by omega))] at h11
    obtain ⟨j, hj⟩ := Option.ne_none_iff_exists'.mp h11
    have hj2 := fst1_some hj
    rw [hj] at E ⊢
    dsimp only at E
    refine e_aload_n C d_C_lock_14 rfl ?_
    refine e_get C 0 (k := 0) in_C g264 d_C_lock_15 rfl rfl rfl rfl ?_
    refine e_get C 1 (k := 7) in_Ways g55 d_C_lock_18 rfl rfl rfl rfl ?_
    refine e_iload_n C d_C_lock_21 rfl ?_
    refine e_zald C 6 1 d_C_lock_22 rfl rfl j rfl (by omega) (by omega) ?_
    refine e_iload_n C d_C_lock_23 rfl ?_
    refine e_icmp_ne C d_C_lock_24 (tgt := 29) (by decide) (fun h24 => ?_) (fun h24 => ?_)
    · have h24 : ¬ c.2 6 j = bI b := h24
      rw [if_neg h24] at E
      refine e_aload_n C d_C_lock_29 rfl ?_
      refine e_get C 0 (k := 0) in_C g264 d_C_lock_30 rfl rfl rfl rfl ?_
      refine e_get C 1 (k := 7) in_Ways g55 d_C_lock_33 rfl rfl rfl rfl ?_
      refine e_iload_n C d_C_lock_36 rfl ?_
      refine e_iload_n C d_C_lock_37 rfl ?_
      refine e_zast C 6 1 d_C_lock_38 rfl rfl j rfl (by omega) (by omega) (nar_bI b) ?_
      refine e_iconst C d_C_lock_39 (v := 1) (by decide) ?_
      exact e_iret C E d_C_lock_40 (Nat.le_refl _) (Nat.le_refl _) rfl ⟨rfl, rfl⟩
    · have h24 : c.2 6 j = bI b := h24
      rw [if_pos h24] at E
      refine e_iconst C d_C_lock_27 (v := 0) (by decide) ?_
      exact e_iret C E d_C_lock_28 (Nat.le_refl _) (Nat.le_refl _) rfl ⟨rfl, rfl⟩
set_option maxRecDepth 100000 in
theorem k_C_clean (h : CD c.1 S wd) (hz : RD c.1 V z) (h5 : ∀ j, NB (c.2 5 j)) (h10 : ∀ j, NB (c.2 10 j)) (x : Int32) : Con l G y_C_clean c_C_clean 5 (some .int) (rz 2 44) [.ref (a 0), .int x] (cF G a c.1 c.2 (S * wd) V wr) (DI (clS S wd c x).2 (cF G a (clS S wd c x).1.1 (clS S wd c x).1.2 (S * wd) V wr)) := by
  refine Con.of rfl rfl (fun X C E hR hl hnm => ?_)
  have hze := nz_eq hz
  have hn1 := h.n128
  have hs := sN_lt h x
  have hb2 : sN S x * wd + wd ≤ S * wd := by
    have := slot_lt (wd := wd) (w := wd - 1) hs (by have := h.2.2.2.2; omega)
    have := h.2.2.2.2
    omega
  unfold clS fdW fdR at E
  rw [hze] at E
  refine e_iconst C d_C_clean_0 (v := 0) (by decide) ?_
  refine e_istore_n C d_C_clean_1 rfl ?_
  refine e_aload_n C d_C_clean_2 rfl ?_
  refine e_get C 0 (k := 0) in_C g264 d_C_clean_3 rfl rfl rfl rfl ?_
  refine e_iload_n C d_C_clean_6 rfl ?_
  refine e_cVi C hR 1 (k_Ways_find h x) g312 g3 g309 g310 g311 d_C_clean_7 rfl ey_Ways_find rfl rfl rfl rfl ⟨Nat.zero_le _, Nat.zero_le _⟩ ?_
  refine e_istore_n C d_C_clean_10 rfl ?_
  refine e_aload_n C d_C_clean_11 rfl ?_
  refine e_get C 0 (k := 1) in_C g265 d_C_clean_12 rfl rfl rfl rfl ?_
  refine e_iload_n C d_C_clean_15 rfl ?_
  refine e_cVi C hR 7 (k_Rows_find hz x) g324 g4 g321 g322 g323 d_C_clean_16 rfl ey_Rows_find rfl rfl rfl rfl ⟨Nat.zero_le _, Nat.zero_le _⟩ ?_
  refine e_istore C d_C_clean_19 rfl ?_
  refine e_iload_n C d_C_clean_21 rfl ?_
  refine e_iconst C d_C_clean_22 (v := (-1)) (by decide) ?_
  refine e_icmp_eq C d_C_clean_23 (tgt := 38) (by decide) (fun h23 => ?_) (fun h23 => ?_)
  · rw [oI_n1 (fb (by omega))] at h23
    rw [h23] at E
    dsimp only at E
    refine e_iload C d_C_clean_38 rfl ?_
    refine e_iconst C d_C_clean_40 (v := (-1)) (by decide) ?_
    refine e_icmp_eq C d_C_clean_41 (tgt := 54) (by decide) (fun h41 => ?_) (fun h41 => ?_)
    · rw [oI_n1 (fb (by have := hz.2.2; omega))] at h41
      rw [h41] at E
      refine e_aload_n C d_C_clean_54 rfl ?_
      refine e_dup C d_C_clean_55 rfl ?_
      refine e_get C 0 (k := 10) in_C g274 d_C_clean_56 rfl rfl rfl rfl ?_
      refine e_iload_n C d_C_clean_59 rfl ?_
      refine e_iadd C d_C_clean_60 ?_
      refine e_put C 0 (k := 10) in_C tk_C nm_C g274 d_C_clean_61 rfl rfl rfl rfl rfl rfl rfl rfl ?_
      refine e_iload_n C d_C_clean_64 rfl ?_
      exact e_iret C E d_C_clean_65 (Nat.le_refl _) (Nat.le_refl _) rfl ⟨rfl, rfl⟩
    · rw [oI_n1 (fb (by have := hz.2.2; omega))] at h41
      obtain ⟨k, hk⟩ := Option.ne_none_iff_exists'.mp h41
      have hk2 := fst1_some hk
      obtain ⟨b, hb, eb⟩ := h10 k
      rw [hk] at E ⊢
      dsimp only at E
      rw [show popI (c.2 10 k) = nI (pop4 b) by rw [eb, popI_eq hb]] at E
      refine e_aload_n C d_C_clean_44 rfl ?_
      refine e_get C 0 (k := 1) in_C g265 d_C_clean_45 rfl rfl rfl rfl ?_
      refine e_iload C d_C_clean_48 rfl ?_
      refine e_cVi C hR 7 (k_Rows_cleanRow hz (show k < z by omega) hb eb) g338 g4 g335 g336 g337 d_C_clean_50 rfl ey_Rows_cleanRow rfl rfl rfl rfl ⟨Nat.zero_le _, Nat.zero_le _⟩ ?_
      refine e_istore_n C d_C_clean_53 rfl ?_
      refine e_aload_n C d_C_clean_54 rfl ?_
      refine e_dup C d_C_clean_55 rfl ?_
      refine e_get C 0 (k := 10) in_C g274 d_C_clean_56 rfl rfl rfl rfl ?_
      refine e_iload_n C d_C_clean_59 rfl ?_
      refine e_iadd C d_C_clean_60 ?_
      refine e_put C 0 (k := 10) in_C tk_C nm_C g274 d_C_clean_61 rfl rfl rfl rfl rfl rfl rfl rfl ?_
      refine e_iload_n C d_C_clean_64 rfl ?_
      exact e_iret C E d_C_clean_65 (Nat.le_refl _) (Nat.le_refl _) rfl ⟨rfl, rfl⟩
  · rw [oI_n1 (fb (by omega))] at h23
    obtain ⟨j, hj⟩ := Option.ne_none_iff_exists'.mp h23
    have hj2 := fst1_some hj
    obtain ⟨b, hb, eb⟩ := h5 j
    rw [hj] at E ⊢
    dsimp only at E
    rw [show popI (c.2 5 j) = nI (pop4 b) by rw [eb, popI_eq hb]] at E
    refine e_aload_n C d_C_clean_26 rfl ?_
    refine e_get C 0 (k := 0) in_C g264 d_C_clean_27 rfl rfl rfl rfl ?_
    refine e_iload_n C d_C_clean_30 rfl ?_
    refine e_cVi C hR 1 (k_Ways_cleanSlot h (show j < S * wd by omega) hb eb) g328 g3 g325 g326 g327 d_C_clean_31 rfl ey_Ways_cleanSlot rfl rfl rfl rfl ⟨Nat.zero_le _, Nat.zero_le _⟩ ?_
    refine e_istore_n C d_C_clean_34 rfl ?_
    refine e_goto C d_C_clean_35 (tgt := 54) (by decide) ?_
    refine e_aload_n C d_C_clean_54 rfl ?_
    refine e_dup C d_C_clean_55 rfl ?_
    refine e_get C 0 (k := 10) in_C g274 d_C_clean_56 rfl rfl rfl rfl ?_
    refine e_iload_n C d_C_clean_59 rfl ?_
    refine e_iadd C d_C_clean_60 ?_
    refine e_put C 0 (k := 10) in_C tk_C nm_C g274 d_C_clean_61 rfl rfl rfl rfl rfl rfl rfl rfl ?_
    refine e_iload_n C d_C_clean_64 rfl ?_
    exact e_iret C E d_C_clean_65 (Nat.le_refl _) (Nat.le_refl _) rfl ⟨rfl, rfl⟩
set_option maxRecDepth 100000 in
theorem k_C_drop (h : CD c.1 S wd) (hz : RD c.1 V z) (h5 : ∀ j, NB (c.2 5 j)) (h10 : ∀ j, NB (c.2 10 j)) (x : Int32) : Con l G y_C_drop c_C_drop 5 (some .int) (rz 2 44) [.ref (a 0), .int x] (cF G a c.1 c.2 (S * wd) V wr) (DI (dpS S wd c x).2 (cF G a (dpS S wd c x).1.1 (dpS S wd c x).1.2 (S * wd) V wr)) := by
  refine Con.of rfl rfl (fun X C E hR hl hnm => ?_)
  have hze := nz_eq hz
  have hn1 := h.n128
  have hs := sN_lt h x
  have hb2 : sN S x * wd + wd ≤ S * wd := by
    have := slot_lt (wd := wd) (w := wd - 1) hs (by have := h.2.2.2.2; omega)
    have := h.2.2.2.2
    omega
  unfold dpS fdW fdR at E
  rw [hze] at E
  refine e_aload_n C d_C_drop_0 rfl ?_
  refine e_get C 0 (k := 0) in_C g264 d_C_drop_1 rfl rfl rfl rfl ?_
  refine e_iload_n C d_C_drop_4 rfl ?_
  refine e_cVi C hR 1 (k_Ways_find h x) g312 g3 g309 g310 g311 d_C_drop_5 rfl ey_Ways_find rfl rfl rfl rfl ⟨Nat.zero_le _, Nat.zero_le _⟩ ?_
  refine e_istore_n C d_C_drop_8 rfl ?_
  refine e_iload_n C d_C_drop_9 rfl ?_
  refine e_iconst C d_C_drop_10 (v := (-1)) (by decide) ?_
  refine e_icmp_eq C d_C_drop_11 (tgt := 37) (by decide) (fun h11 => ?_) (fun h11 => ?_)
  · rw [oI_n1 (fb (by omega))] at h11
    rw [h11] at E
    dsimp only at E
    refine e_aload_n C d_C_drop_37 rfl ?_
    refine e_get C 0 (k := 1) in_C g265 d_C_drop_38 rfl rfl rfl rfl ?_
    refine e_iload_n C d_C_drop_41 rfl ?_
    refine e_cVi C hR 7 (k_Rows_find hz x) g324 g4 g321 g322 g323 d_C_drop_42 rfl ey_Rows_find rfl rfl rfl rfl ⟨Nat.zero_le _, Nat.zero_le _⟩ ?_
    refine e_istore_n C d_C_drop_45 rfl ?_
    refine e_iload_n C d_C_drop_46 rfl ?_
    refine e_iconst C d_C_drop_47 (v := (-1)) (by decide) ?_
    refine e_icmp_eq C d_C_drop_48 (tgt := 76) (by decide) (fun h48 => ?_) (fun h48 => ?_)
    · rw [oI_n1 (fb (by have := hz.2.2; omega))] at h48
      rw [h48] at E
      refine e_iconst C d_C_drop_76 (v := (-1)) (by decide) ?_
      exact e_iret C E d_C_drop_77 (Nat.le_refl _) (Nat.le_refl _) rfl ⟨rfl, rfl⟩
    · rw [oI_n1 (fb (by have := hz.2.2; omega))] at h48
      obtain ⟨k, hk⟩ := Option.ne_none_iff_exists'.mp h48
      have hk2 := fst1_some hk
      have hz2 := hz.2.2
      obtain ⟨b, hb, eb⟩ := h10 k
      rw [hk] at E ⊢
      dsimp only at E
      rw [show popI (c.2 10 k) = nI (pop4 b) by rw [eb, popI_eq hb]] at E
      refine e_aload_n C d_C_drop_51 rfl ?_
      refine e_get C 0 (k := 1) in_C g265 d_C_drop_52 rfl rfl rfl rfl ?_
      refine e_get C 7 (k := 3) in_Rows g88 d_C_drop_55 rfl rfl rfl rfl ?_
      refine e_iload_n C d_C_drop_58 rfl ?_
      refine e_iald C 10 0 d_C_drop_59 rfl rfl k rfl (by omega) (by omega) ?_
      refine e_top eb ?_
      refine e_cSi C hR (k_bitCount hb) g331 g19 g348 g330 d_C_drop_60 rfl ey_Integer_bitCount rfl rfl ⟨Nat.zero_le _, Nat.zero_le _⟩ ?_
      refine e_istore C d_C_drop_63 rfl ?_
      refine e_aload_n C d_C_drop_65 rfl ?_
      refine e_get C 0 (k := 1) in_C g265 d_C_drop_66 rfl rfl rfl rfl ?_
      refine e_iload_n C d_C_drop_69 rfl ?_
      refine e_cVv C hR 7 (k_Rows_remove hz (show k < z by omega)) g356 g4 g353 g354 g355 d_C_drop_70 rfl ey_Rows_remove rfl rfl rfl rfl ⟨Nat.zero_le _, Nat.zero_le _⟩ ?_
      refine e_iload C d_C_drop_73 rfl ?_
      exact e_iret C E d_C_drop_75 (Nat.le_refl _) (Nat.le_refl _) rfl ⟨rfl, rfl⟩
  · rw [oI_n1 (fb (by omega))] at h11
    obtain ⟨j, hj⟩ := Option.ne_none_iff_exists'.mp h11
    have hj2 := fst1_some hj
    obtain ⟨b, hb, eb⟩ := h5 j
    rw [hj] at E ⊢
    dsimp only at E
    rw [show popI (c.2 5 j) = nI (pop4 b) by rw [eb, popI_eq hb]] at E
    refine e_aload_n C d_C_drop_14 rfl ?_
    refine e_get C 0 (k := 0) in_C g264 d_C_drop_15 rfl rfl rfl rfl ?_
    refine e_get C 1 (k := 6) in_Ways g53 d_C_drop_18 rfl rfl rfl rfl ?_
    refine e_iload_n C d_C_drop_21 rfl ?_
    refine e_iald C 5 0 d_C_drop_22 rfl rfl j rfl (by omega) (by omega) ?_
    refine e_top eb ?_
    refine e_cSi C hR (k_bitCount hb) g331 g19 g348 g330 d_C_drop_23 rfl ey_Integer_bitCount rfl rfl ⟨Nat.zero_le _, Nat.zero_le _⟩ ?_
    refine e_istore_n C d_C_drop_26 rfl ?_
    refine e_aload_n C d_C_drop_27 rfl ?_
    refine e_get C 0 (k := 0) in_C g264 d_C_drop_28 rfl rfl rfl rfl ?_
    refine e_iload_n C d_C_drop_31 rfl ?_
    refine e_cVv C hR 1 (k_Ways_empty h (show j < S * wd by omega)) g352 g3 g349 g350 g351 d_C_drop_32 rfl ey_Ways_empty rfl rfl rfl rfl ⟨Nat.zero_le _, Nat.zero_le _⟩ ?_
    refine e_iload_n C d_C_drop_35 rfl ?_
    exact e_iret C E d_C_drop_36 (Nat.le_refl _) (Nat.le_refl _) rfl ⟨rfl, rfl⟩
/-- the first k are 0 -/
def zr (g : Nat → Int32) (k : Nat) : Nat → Int32 := fun j => if j < k then 0 else g j
theorem zr_0 (g : Nat → Int32) : zr g 0 = g := by
  funext j
  simp [zr]
theorem zr_s (g : Nat → Int32) (k : Nat) : zr g (k + 1) = upd (zr g k) k 0 := by
  funext j
  by_cases hj : j = k
  · subst hj
    rw [pk_us]
    simp [zr]
  · rw [pk_un hj]
    unfold zr
    by_cases h2 : j < k
    · rw [if_pos (by omega), if_pos h2]
    · rw [if_neg (by omega), if_neg h2]
theorem zr_k (g : Nat → Int32) (k : Nat) : zr g k k = g k := by simp [zr]
def spS (g : Nat → Int32) : Nat → Int32
  | 0 => 0
  | k + 1 => spS g k + popI (g k)
/-- how many, from a sum on -/
def spA (g : Nat → Int32) (y : Int32) : Nat → Int32
  | 0 => y
  | k + 1 => spA g y k + popI (g k)
set_option maxRecDepth 100000 in
theorem k_C_cleanAll (h : CD c.1 S wd) (hz : RD c.1 V z) (h5 : ∀ j, NB (c.2 5 j)) (h10 : ∀ j, NB (c.2 10 j)) : Con l G y_C_cleanAll c_C_cleanAll 3 (some .int) (rz 2 42) [.ref (a 0)] (cF G a c.1 c.2 (S * wd) V wr) (DI (spA (c.2 10) (spA (c.2 5) 0 (S * wd)) z) (cF G a (upd c.1 4 (c.1 4 + spA (c.2 10) (spA (c.2 5) 0 (S * wd)) z)) (up2 (up2 c.2 5 (zr (c.2 5) (S * wd))) 10 (zr (c.2 10) z)) (S * wd) V wr)) := by
  refine Con.of rfl rfl (fun X C E hR hl hnm => ?_)
  have hn1 := h.n128
  have hz0 := hz
  obtain ⟨r9, r10, r1, r2⟩ := hz
  refine e_iconst C d_C_cleanAll_0 (v := 0) (by decide) ?_
  refine e_istore_n C d_C_cleanAll_1 rfl ?_
  refine e_iconst C d_C_cleanAll_2 (v := 0) (by decide) ?_
  refine e_istore_n C d_C_cleanAll_3 rfl ?_
  have L : ∀ m k : Nat, k + m = S * wd → EW X G 3 0 0 4 [(0, .ref (a 0)), (1, .int (spA (c.2 5) 0 k)), (2, .int (nI k))] [] (cF G a c.1 (up2 c.2 5 (zr (c.2 5) k)) (S * wd) V wr) := by
    intro m
    induction m with
    | zero =>
      intro k hk
      obtain rfl : k = S * wd := by omega
      refine e_iload_n C d_C_cleanAll_4 rfl ?_
      refine e_aload_n C d_C_cleanAll_5 rfl ?_
      refine e_get C 0 (k := 0) in_C g264 d_C_cleanAll_6 rfl rfl rfl rfl ?_
      refine e_get C 1 (k := 2) in_Ways g45 d_C_cleanAll_9 rfl rfl rfl rfl ?_
      refine e_top h.2.2.1 ?_
      refine e_icmp_ge C d_C_cleanAll_12 (tgt := 32) (by decide) (fun h12 => ?_) (fun h12 => ?_)
      · skip
        refine e_iconst C d_C_cleanAll_32 (v := 0) (by decide) ?_
        refine e_istore_n C d_C_cleanAll_33 rfl ?_
        have L2 : ∀ m k : Nat, k + m = z → EW X G 3 0 0 34 [(0, .ref (a 0)), (1, .int (spA (c.2 10) (spA (c.2 5) 0 (S * wd)) k)), (2, .int (nI k))] [] (cF G a c.1 (up2 (up2 c.2 5 (zr (c.2 5) (S * wd))) 10 (zr (c.2 10) k)) (S * wd) V wr) := by
          intro m
          induction m with
          | zero =>
            intro k hk
            obtain rfl : k = z := by omega
            refine e_iload_n C d_C_cleanAll_34 rfl ?_
            refine e_aload_n C d_C_cleanAll_35 rfl ?_
            refine e_get C 0 (k := 1) in_C g265 d_C_cleanAll_36 rfl rfl rfl rfl ?_
            refine e_get C 7 (k := 4) in_Rows g90 d_C_cleanAll_39 rfl rfl rfl rfl ?_
            refine e_top r10 ?_
            refine e_icmp_ge C d_C_cleanAll_42 (tgt := 62) (by decide) (fun h42 => ?_) (fun h42 => ?_)
            · skip
              refine e_aload_n C d_C_cleanAll_62 rfl ?_
              refine e_dup C d_C_cleanAll_63 rfl ?_
              refine e_get C 0 (k := 10) in_C g274 d_C_cleanAll_64 rfl rfl rfl rfl ?_
              refine e_iload_n C d_C_cleanAll_67 rfl ?_
              refine e_iadd C d_C_cleanAll_68 ?_
              refine e_put C 0 (k := 10) in_C tk_C nm_C g274 d_C_cleanAll_69 rfl rfl rfl rfl rfl rfl rfl rfl ?_
              refine e_iload_n C d_C_cleanAll_72 rfl ?_
              exact e_iret C E d_C_cleanAll_73 (Nat.le_refl _) (Nat.le_refl _) rfl ⟨rfl, rfl⟩
            · exact absurd (nI_le (by omega) (by omega)) h42
          | succ m ih =>
            intro k hk
            obtain ⟨b, hb, eb⟩ := h10 k
            have ih := ih (k + 1) (by omega)
            rw [zr_s, spA, show popI (c.2 10 k) = nI (pop4 b) by rw [eb, popI_eq hb]] at ih
            refine e_iload_n C d_C_cleanAll_34 rfl ?_
            refine e_aload_n C d_C_cleanAll_35 rfl ?_
            refine e_get C 0 (k := 1) in_C g265 d_C_cleanAll_36 rfl rfl rfl rfl ?_
            refine e_get C 7 (k := 4) in_Rows g90 d_C_cleanAll_39 rfl rfl rfl rfl ?_
            refine e_top r10 ?_
            refine e_icmp_ge C d_C_cleanAll_42 (tgt := 62) (by decide) (fun h42 => ?_) (fun h42 => ?_)
            · exact absurd h42 (nI_ge (by omega) (by omega))
            · skip
              refine e_iload_n C d_C_cleanAll_45 rfl ?_
              refine e_aload_n C d_C_cleanAll_46 rfl ?_
              refine e_get C 0 (k := 1) in_C g265 d_C_cleanAll_47 rfl rfl rfl rfl ?_
              refine e_iload_n C d_C_cleanAll_50 rfl ?_
              refine e_cVi C hR 7 (k_Rows_cleanRow (f := up2 (up2 c.2 5 (zr (c.2 5) (S * wd))) 10 (zr (c.2 10) k)) hz0 (show k < z by omega) hb (show zr (c.2 10) k k = nI b by rw [zr_k]; exact eb)) g338 g4 g335 g336 g337 d_C_cleanAll_51 rfl ey_Rows_cleanRow rfl rfl rfl rfl ⟨Nat.zero_le _, Nat.zero_le _⟩ ?_
              refine e_iadd C d_C_cleanAll_54 ?_
              refine e_istore_n C d_C_cleanAll_55 rfl ?_
              refine e_iinc C d_C_cleanAll_56 rfl (nI_1 k) rfl ?_
              refine e_goto C d_C_cleanAll_59 (tgt := 34) (by decide) ?_
              exact e_lv2 ih rfl
        refine e_eq (ws' := cF G a c.1 (up2 (up2 c.2 5 (zr (c.2 5) (S * wd))) 10 (zr (c.2 10) 0)) (S * wd) V wr) (by rw [zr_0]; rfl) ?_
        exact e_lv2 (L2 z 0 (by omega)) rfl
      · exact absurd (nI_le (by omega) (by omega)) h12
    | succ m ih =>
      intro k hk
      obtain ⟨b, hb, eb⟩ := h5 k
      have ih := ih (k + 1) (by omega)
      rw [zr_s, spA, show popI (c.2 5 k) = nI (pop4 b) by rw [eb, popI_eq hb]] at ih
      refine e_iload_n C d_C_cleanAll_4 rfl ?_
      refine e_aload_n C d_C_cleanAll_5 rfl ?_
      refine e_get C 0 (k := 0) in_C g264 d_C_cleanAll_6 rfl rfl rfl rfl ?_
      refine e_get C 1 (k := 2) in_Ways g45 d_C_cleanAll_9 rfl rfl rfl rfl ?_
      refine e_top h.2.2.1 ?_
      refine e_icmp_ge C d_C_cleanAll_12 (tgt := 32) (by decide) (fun h12 => ?_) (fun h12 => ?_)
      · exact absurd h12 (nI_ge (by omega) (by omega))
      · skip
        refine e_iload_n C d_C_cleanAll_15 rfl ?_
        refine e_aload_n C d_C_cleanAll_16 rfl ?_
        refine e_get C 0 (k := 0) in_C g264 d_C_cleanAll_17 rfl rfl rfl rfl ?_
        refine e_iload_n C d_C_cleanAll_20 rfl ?_
        refine e_cVi C hR 1 (k_Ways_cleanSlot (f := up2 c.2 5 (zr (c.2 5) k)) h (show k < S * wd by omega) hb (show zr (c.2 5) k k = nI b by rw [zr_k]; exact eb)) g328 g3 g325 g326 g327 d_C_cleanAll_21 rfl ey_Ways_cleanSlot rfl rfl rfl rfl ⟨Nat.zero_le _, Nat.zero_le _⟩ ?_
        refine e_iadd C d_C_cleanAll_24 ?_
        refine e_istore_n C d_C_cleanAll_25 rfl ?_
        refine e_iinc C d_C_cleanAll_26 rfl (nI_1 k) rfl ?_
        refine e_goto C d_C_cleanAll_29 (tgt := 4) (by decide) ?_
        exact e_lv2 ih rfl
  refine e_eq (ws' := cF G a c.1 (up2 c.2 5 (zr (c.2 5) 0)) (S * wd) V wr) (by rw [zr_0]; rfl) ?_
  exact e_lv2 (L (S * wd) 0 (by omega)) rfl
theorem k_C_distance {hs : Nat} (h : HD c.1 hs) (x : Int32) : Con l G y_C_distance c_C_distance 2 (some .int) (rz 1 22) [.ref (a 0), .int x] (cF G a c.1 c.2 n V wr) (DI (oI (hfd c.2 hs x)) (cF G a c.1 c.2 n V wr)) := by
  refine Con.of rfl rfl (fun X C E hR hl hnm => ?_)
  refine e_aload_n C d_C_distance_0 rfl ?_
  refine e_get C 0 (k := 4) in_C g268 d_C_distance_1 rfl rfl rfl rfl ?_
  refine e_iload_n C d_C_distance_4 rfl ?_
  refine e_cVi C hR 17 (k_Hist_find h x) g364 g13 g361 g362 g363 d_C_distance_5 rfl ey_Hist_find rfl rfl rfl rfl ⟨Nat.zero_le _, Nat.zero_le _⟩ ?_
  exact e_iret C E d_C_distance_8 (Nat.le_refl _) (Nat.le_refl _) rfl ⟨rfl, rfl⟩
theorem k_C_isNoPart0 {p : Nat} (hp : p < 4) : Con l G y_C_isNoPart c_C_isNoPart 1 (some .boolean) (rz 0 0) [.int (nI p)] ws (DI 0 ws) := by
  refine Con.of rfl rfl (fun X C E hR hl hnm => ?_)
  refine e_iload_n C d_C_isNoPart_0 rfl ?_
  refine e_if_lt C d_C_isNoPart_1 (tgt := 9) (by decide) (fun h1 => ?_) (fun h1 => ?_)
  · exact absurd h1 (nI_pos (by omega))
  · skip
    refine e_iload_n C d_C_isNoPart_4 rfl ?_
    refine e_iconst C d_C_isNoPart_5 (v := nI 4) (by decide) ?_
    refine e_icmp_lt C d_C_isNoPart_6 (tgt := 13) (by decide) (fun h6 => ?_) (fun h6 => ?_)
    · skip
      refine e_iconst C d_C_isNoPart_13 (v := 0) (by decide) ?_
      exact e_iret C E d_C_isNoPart_14 (Nat.le_refl _) (Nat.le_refl _) rfl ⟨rfl, rfl⟩
    · rw [nI_ltI (by omega) (by omega)] at h6
      omega
theorem k_C_isNoPart1 {p : Int32} (hp : p < 0 ∨ ¬ p < 4) : Con l G y_C_isNoPart c_C_isNoPart 1 (some .boolean) (rz 0 0) [.int p] ws (DI 1 ws) := by
  refine Con.of rfl rfl (fun X C E hR hl hnm => ?_)
  refine e_iload_n C d_C_isNoPart_0 rfl ?_
  refine e_if_lt C d_C_isNoPart_1 (tgt := 9) (by decide) (fun h1 => ?_) (fun h1 => ?_)
  · skip
    refine e_iconst C d_C_isNoPart_9 (v := 1) (by decide) ?_
    refine e_goto C d_C_isNoPart_10 (tgt := 14) (by decide) ?_
    exact e_iret C E d_C_isNoPart_14 (Nat.le_refl _) (Nat.le_refl _) rfl ⟨rfl, rfl⟩
  · skip
    refine e_iload_n C d_C_isNoPart_4 rfl ?_
    refine e_iconst C d_C_isNoPart_5 (v := 4) (by decide) ?_
    refine e_icmp_lt C d_C_isNoPart_6 (tgt := 13) (by decide) (fun h6 => ?_) (fun h6 => ?_)
    · rcases hp with q | q
      · exact absurd q h1
      · exact absurd h6 q
    · skip
      refine e_iconst C d_C_isNoPart_9 (v := 1) (by decide) ?_
      refine e_goto C d_C_isNoPart_10 (tgt := 14) (by decide) ?_
      exact e_iret C E d_C_isNoPart_14 (Nat.le_refl _) (Nat.le_refl _) rfl ⟨rfl, rfl⟩
theorem k_C_access (h : CI S wd V kd c) {hs : Nat} (hH : HD c.1 hs) (x : Int32) {p : Nat} (hp : p < 4) (wt : Int32) : Con l G y_C_access c_C_access 4 (some .int) (rz 6 149) [.ref (a 0), .int x, .int (nI p), .int wt] (wK G a c S wd V kd) (DI (pfK S wd V kd c x p wt) (wK G a (pfS S wd V kd c x p wt) S wd V kd)) := by
  refine Con.of rfl rfl (fun X C E hR hl hnm => ?_)
  refine e_iload_n C d_C_access_0 rfl ?_
  refine e_cSi C hR (k_C_isNoPart0 hp) g382 g1 g380 g381 d_C_access_1 rfl ey_C_isNoPart rfl rfl ⟨Nat.zero_le _, Nat.zero_le _⟩ ?_
  refine e_if_eq C d_C_access_4 (tgt := 17) (by decide) (fun h4 => ?_) (fun h4 => ?_)
  · skip
    refine e_aload_n C d_C_access_17 rfl ?_
    refine e_iload_n C d_C_access_18 rfl ?_
    refine e_iload_n C d_C_access_19 rfl ?_
    refine e_iload_n C d_C_access_20 rfl ?_
    refine e_cVi C hR 0 (k_C_perform h hH x hp wt) g455 g1 g452 g454 (gt_sel 1 (by decide +kernel) (by decide +kernel)) d_C_access_21 rfl ey_C_perform rfl rfl rfl rfl ⟨Nat.zero_le _, Nat.zero_le _⟩ ?_
    exact e_iret C E d_C_access_24 (Nat.le_refl _) (Nat.le_refl _) rfl ⟨rfl, rfl⟩
  · exact absurd rfl h4
end CPub
end
section
/-! THE CLASS'S PUBLIC METHODS, where they return: the others -/
/-- what count answers -/
def ctI (c : CS) (q : Nat) : Int32 := match q with
  | 0 => c.1 2
  | 1 => c.2 20 0
  | 2 => c.2 20 1
  | 3 => c.2 20 2
  | 4 => c.2 20 3
  | 5 => c.2 20 4
  | 6 => c.1 3
  | 7 => c.1 4
  | 8 => c.1 5
  | 9 => c.1 10
  | 10 => c.1 11
  | 11 => c.1 12
  | 12 => c.1 6
  | _ => c.1 7
/-- the ask is a hit -/
def hitB (S wd : Nat) (c : CS) (x : Int32) (p : Nat) : Bool := match fdW S wd c x with
  | none => false
  | some j => !(c.2 4 j &&& bitI p == 0)
def nA (c : CS) : Nat := (c.1 11).toNatClampNeg
def nLc (c : CS) : Nat := (c.1 12).toNatClampNeg
def nD (c : CS) : Nat := (c.1 13).toNatClampNeg
theorem nA_eq {c : CS} {z lc : Nat} (h : AD c.1 z lc) : nA c = z ∧ nLc c = lc := by
  unfold nA nLc
  rw [h.1, h.2.1]
  exact ⟨nI_clamp (by have := h.2.2; omega), nI_clamp (by have := h.2.2; omega)⟩
def asS (c : CS) (x : Int32) (p : Nat) : CS := (adV c.1 c.2 (nA c) (nLc c) x, adF c.2 (nA c) (nLc c) x (nI p))
theorem asS_RA (c : CS) (x : Int32) (p : Nat) : RA c (asS c x p) := by
  unfold asS adV adF
  split <;> exact ⟨⟨rfl, rfl, rfl, rfl, rfl, rfl, rfl⟩, rfl, rfl, rfl⟩
/-- the first line's asks are taken out -/
def tkS (c : CS) : CS := (upd (upd (upd c.1 13 (nI (tk (c.2 14 0) (c.2 12) (c.2 13) (c.2 15) (nA c)).2.2.2.2)) 11 (nI (tk (c.2 14 0) (c.2 12) (c.2 13) (c.2 15) (nA c)).2.2.2.1)) 12 (nI (nLc c - 1)), up2 (tkF c.2 (tk (c.2 14 0) (c.2 12) (c.2 13) (c.2 15) (nA c))) 14 (shf (c.2 14) 0 (nLc c - 1)))
theorem tkS_RA (c : CS) : RA c (tkS c) := ⟨⟨rfl, rfl, rfl, rfl, rfl, rfl, rfl⟩, rfl, rfl, rfl⟩
/-- the asks done, from the k-th on, are accessed -/
def anL (S wd V kd : Nat) (x : Int32) : CS → Nat → Nat → CS
  | c, _, 0 => c
  | c, k, m + 1 => anL S wd V kd x ((pfS S wd V kd c x (c.2 15 k).toNatClampNeg 0).1, up2 (pfS S wd V kd c x (c.2 15 k).toNatClampNeg 0).2 16 (upd ((pfS S wd V kd c x (c.2 15 k).toNatClampNeg 0).2 16) k (pfK S wd V kd c x (c.2 15 k).toNatClampNeg 0))) (k + 1) m
/-- all parts that wait or are done are parts -/
def PT (c : CS) : Prop := (∀ j, ∃ p, p < 4 ∧ c.2 13 j = nI p) ∧ ∀ j, ∃ p, p < 4 ∧ c.2 15 j = nI p
theorem PT_up {g : Nat → Int32} (h : ∀ j, ∃ p, p < 4 ∧ g j = nI p) (k : Nat) {y : Int32} (hy : ∃ p, p < 4 ∧ y = nI p) : ∀ j, ∃ p, p < 4 ∧ upd g k y j = nI p := by
  intro j
  by_cases hj : j = k
  · subst hj
    rw [pk_us]
    exact hy
  · rw [pk_un hj]
    exact h j
theorem tk_PT (x : Int32) (p q r : Nat → Int32) (hq : ∀ j, ∃ p, p < 4 ∧ q j = nI p) (hr : ∀ j, ∃ p, p < 4 ∧ r j = nI p) : ∀ k, (∀ j, ∃ u, u < 4 ∧ (tk x p q r k).2.1 j = nI u) ∧ ∀ j, ∃ u, u < 4 ∧ (tk x p q r k).2.2.1 j = nI u
  | 0 => ⟨hq, hr⟩
  | k + 1 => by
    have h := tk_PT x p q r hq hr k
    unfold tk
    split
    · exact ⟨h.1, PT_up h.2 _ (h.1 k)⟩
    · exact ⟨PT_up h.1 _ (h.1 k), h.2⟩
theorem tkS_PT {c : CS} (h : PT c) : PT (tkS c) := tk_PT _ _ _ _ h.1 h.2 _
section CPub2
variable {l : Launch} {G : EG} {a : Nat → Nat} {c : CS} {n S wd V kd z lc : Nat} {wr ws : va_W}
set_option maxRecDepth 100000 in
theorem k_C_count0 {q : Int32} (hq : q < 0 ∨ 13 < q) : Con l G y_C_count c_C_count 2 (some .int) (rz 0 0) [.ref (a 0), .int q] (cF G a c.1 c.2 n V wr) (DI (-1) (cF G a c.1 c.2 n V wr)) := by
  refine Con.of rfl rfl (fun X C E hR hl hnm => ?_)
  have hq2 : q.toInt < 0 ∨ 13 < q.toInt := by
    rcases hq with h | h
    · left
      simpa [Int32.lt_iff_toInt_lt] using h
    · right
      simpa [Int32.lt_iff_toInt_lt] using h
  have tail : EW X G 2 0 0 19 [(0, .ref (a 0)), (1, .int q)] [] (cF G a c.1 c.2 n V wr) := by
    refine e_iload_n C d_C_count_19 rfl ?_
    refine e_tableOut C d_C_count_20 hq2 (tgt := 152) (by decide) ?_
    refine e_iconst C d_C_count_152 (v := (-1)) (by decide) ?_
    exact e_iret C E d_C_count_153 (Nat.le_refl _) (Nat.le_refl _) rfl ⟨rfl, rfl⟩
  refine e_iload_n C d_C_count_0 rfl ?_
  refine e_iconst C d_C_count_1 (v := 1) (by decide) ?_
  refine e_icmp_lt C d_C_count_2 (tgt := 19) (by decide) (fun h2 => ?_) (fun h2 => ?_)
  · exact e_lv2 tail rfl
  · skip
    refine e_iload_n C d_C_count_5 rfl ?_
    refine e_iconst C d_C_count_6 (v := 5) (by decide) ?_
    refine e_icmp_gt C d_C_count_7 (tgt := 19) (by decide) (fun h7 => ?_) (fun h7 => ?_)
    · exact e_lv2 tail rfl
    · exfalso
      rw [Int32.lt_iff_toInt_lt] at h2 h7
      have e1 : (1 : Int32).toInt = 1 := by decide
      have e5 : (5 : Int32).toInt = 5 := by decide
      rw [e1] at h2
      rw [e5] at h7
      omega
set_option maxRecDepth 100000 in
theorem k_C_count {q : Nat} (hq : q < 14) : Con l G y_C_count c_C_count 2 (some .int) (rz 0 0) [.ref (a 0), .int (nI q)] (cF G a c.1 c.2 n V wr) (DI (ctI c q) (cF G a c.1 c.2 n V wr)) := by
  refine Con.of rfl rfl (fun X C E hR hl hnm => ?_)
  rcases (by omega : q = 0 ∨ q = 1 ∨ q = 2 ∨ q = 3 ∨ q = 4 ∨ q = 5 ∨ q = 6 ∨ q = 7 ∨ q = 8 ∨ q = 9 ∨ q = 10 ∨ q = 11 ∨ q = 12 ∨ q = 13) with rfl | rfl | rfl | rfl | rfl | rfl | rfl | rfl | rfl | rfl | rfl | rfl | rfl | rfl
  · skip
    refine e_iload_n C d_C_count_0 rfl ?_
    refine e_iconst C d_C_count_1 (v := 1) (by decide) ?_
    refine e_icmp_lt C d_C_count_2 (tgt := 19) (by decide) (fun h2 => ?_) (fun h2 => ?_)
    · skip
      refine e_iload_n C d_C_count_19 rfl ?_
      refine e_tableIn C d_C_count_20 (off := 72) (by decide) (by decide) (by decide) (tgt := 92) (by decide) ?_
      refine e_aload_n C d_C_count_92 rfl ?_
      refine e_get C 0 (k := 8) in_C g272 d_C_count_93 rfl rfl rfl rfl ?_
      exact e_iret C E d_C_count_96 (Nat.le_refl _) (Nat.le_refl _) rfl ⟨rfl, rfl⟩
    · exact absurd (by decide) h2
  · skip
    refine e_iload_n C d_C_count_0 rfl ?_
    refine e_iconst C d_C_count_1 (v := 1) (by decide) ?_
    refine e_icmp_lt C d_C_count_2 (tgt := 19) (by decide) (fun h2 => ?_) (fun h2 => ?_)
    · exact absurd h2 (by decide)
    · skip
      refine e_iload_n C d_C_count_5 rfl ?_
      refine e_iconst C d_C_count_6 (v := 5) (by decide) ?_
      refine e_icmp_gt C d_C_count_7 (tgt := 19) (by decide) (fun h7 => ?_) (fun h7 => ?_)
      · exact absurd h7 (by decide)
      · skip
        refine e_aload_n C d_C_count_10 rfl ?_
        refine e_get C 0 (k := 5) in_C g269 d_C_count_11 rfl rfl rfl rfl ?_
        refine e_iload_n C d_C_count_14 rfl ?_
        refine e_iconst C d_C_count_15 (v := 1) (by decide) ?_
        refine e_isub C d_C_count_16 ?_
        refine e_iald C 20 0 d_C_count_17 rfl rfl 0 (by decide) (by omega) (by omega) ?_
        exact e_iret C E d_C_count_18 (Nat.le_refl _) (Nat.le_refl _) rfl ⟨rfl, rfl⟩
  · skip
    refine e_iload_n C d_C_count_0 rfl ?_
    refine e_iconst C d_C_count_1 (v := 1) (by decide) ?_
    refine e_icmp_lt C d_C_count_2 (tgt := 19) (by decide) (fun h2 => ?_) (fun h2 => ?_)
    · exact absurd h2 (by decide)
    · skip
      refine e_iload_n C d_C_count_5 rfl ?_
      refine e_iconst C d_C_count_6 (v := 5) (by decide) ?_
      refine e_icmp_gt C d_C_count_7 (tgt := 19) (by decide) (fun h7 => ?_) (fun h7 => ?_)
      · exact absurd h7 (by decide)
      · skip
        refine e_aload_n C d_C_count_10 rfl ?_
        refine e_get C 0 (k := 5) in_C g269 d_C_count_11 rfl rfl rfl rfl ?_
        refine e_iload_n C d_C_count_14 rfl ?_
        refine e_iconst C d_C_count_15 (v := 1) (by decide) ?_
        refine e_isub C d_C_count_16 ?_
        refine e_iald C 20 0 d_C_count_17 rfl rfl 1 (by decide) (by omega) (by omega) ?_
        exact e_iret C E d_C_count_18 (Nat.le_refl _) (Nat.le_refl _) rfl ⟨rfl, rfl⟩
  · skip
    refine e_iload_n C d_C_count_0 rfl ?_
    refine e_iconst C d_C_count_1 (v := 1) (by decide) ?_
    refine e_icmp_lt C d_C_count_2 (tgt := 19) (by decide) (fun h2 => ?_) (fun h2 => ?_)
    · exact absurd h2 (by decide)
    · skip
      refine e_iload_n C d_C_count_5 rfl ?_
      refine e_iconst C d_C_count_6 (v := 5) (by decide) ?_
      refine e_icmp_gt C d_C_count_7 (tgt := 19) (by decide) (fun h7 => ?_) (fun h7 => ?_)
      · exact absurd h7 (by decide)
      · skip
        refine e_aload_n C d_C_count_10 rfl ?_
        refine e_get C 0 (k := 5) in_C g269 d_C_count_11 rfl rfl rfl rfl ?_
        refine e_iload_n C d_C_count_14 rfl ?_
        refine e_iconst C d_C_count_15 (v := 1) (by decide) ?_
        refine e_isub C d_C_count_16 ?_
        refine e_iald C 20 0 d_C_count_17 rfl rfl 2 (by decide) (by omega) (by omega) ?_
        exact e_iret C E d_C_count_18 (Nat.le_refl _) (Nat.le_refl _) rfl ⟨rfl, rfl⟩
  · skip
    refine e_iload_n C d_C_count_0 rfl ?_
    refine e_iconst C d_C_count_1 (v := 1) (by decide) ?_
    refine e_icmp_lt C d_C_count_2 (tgt := 19) (by decide) (fun h2 => ?_) (fun h2 => ?_)
    · exact absurd h2 (by decide)
    · skip
      refine e_iload_n C d_C_count_5 rfl ?_
      refine e_iconst C d_C_count_6 (v := 5) (by decide) ?_
      refine e_icmp_gt C d_C_count_7 (tgt := 19) (by decide) (fun h7 => ?_) (fun h7 => ?_)
      · exact absurd h7 (by decide)
      · skip
        refine e_aload_n C d_C_count_10 rfl ?_
        refine e_get C 0 (k := 5) in_C g269 d_C_count_11 rfl rfl rfl rfl ?_
        refine e_iload_n C d_C_count_14 rfl ?_
        refine e_iconst C d_C_count_15 (v := 1) (by decide) ?_
        refine e_isub C d_C_count_16 ?_
        refine e_iald C 20 0 d_C_count_17 rfl rfl 3 (by decide) (by omega) (by omega) ?_
        exact e_iret C E d_C_count_18 (Nat.le_refl _) (Nat.le_refl _) rfl ⟨rfl, rfl⟩
  · skip
    refine e_iload_n C d_C_count_0 rfl ?_
    refine e_iconst C d_C_count_1 (v := 1) (by decide) ?_
    refine e_icmp_lt C d_C_count_2 (tgt := 19) (by decide) (fun h2 => ?_) (fun h2 => ?_)
    · exact absurd h2 (by decide)
    · skip
      refine e_iload_n C d_C_count_5 rfl ?_
      refine e_iconst C d_C_count_6 (v := 5) (by decide) ?_
      refine e_icmp_gt C d_C_count_7 (tgt := 19) (by decide) (fun h7 => ?_) (fun h7 => ?_)
      · exact absurd h7 (by decide)
      · skip
        refine e_aload_n C d_C_count_10 rfl ?_
        refine e_get C 0 (k := 5) in_C g269 d_C_count_11 rfl rfl rfl rfl ?_
        refine e_iload_n C d_C_count_14 rfl ?_
        refine e_iconst C d_C_count_15 (v := 1) (by decide) ?_
        refine e_isub C d_C_count_16 ?_
        refine e_iald C 20 0 d_C_count_17 rfl rfl 4 (by decide) (by omega) (by omega) ?_
        exact e_iret C E d_C_count_18 (Nat.le_refl _) (Nat.le_refl _) rfl ⟨rfl, rfl⟩
  · skip
    refine e_iload_n C d_C_count_0 rfl ?_
    refine e_iconst C d_C_count_1 (v := 1) (by decide) ?_
    refine e_icmp_lt C d_C_count_2 (tgt := 19) (by decide) (fun h2 => ?_) (fun h2 => ?_)
    · exact absurd h2 (by decide)
    · skip
      refine e_iload_n C d_C_count_5 rfl ?_
      refine e_iconst C d_C_count_6 (v := 5) (by decide) ?_
      refine e_icmp_gt C d_C_count_7 (tgt := 19) (by decide) (fun h7 => ?_) (fun h7 => ?_)
      · skip
        refine e_iload_n C d_C_count_19 rfl ?_
        refine e_tableIn C d_C_count_20 (off := 77) (by decide) (by decide) (by decide) (tgt := 97) (by decide) ?_
        refine e_aload_n C d_C_count_97 rfl ?_
        refine e_get C 0 (k := 9) in_C g273 d_C_count_98 rfl rfl rfl rfl ?_
        exact e_iret C E d_C_count_101 (Nat.le_refl _) (Nat.le_refl _) rfl ⟨rfl, rfl⟩
      · exact absurd (by decide) h7
  · skip
    refine e_iload_n C d_C_count_0 rfl ?_
    refine e_iconst C d_C_count_1 (v := 1) (by decide) ?_
    refine e_icmp_lt C d_C_count_2 (tgt := 19) (by decide) (fun h2 => ?_) (fun h2 => ?_)
    · exact absurd h2 (by decide)
    · skip
      refine e_iload_n C d_C_count_5 rfl ?_
      refine e_iconst C d_C_count_6 (v := 5) (by decide) ?_
      refine e_icmp_gt C d_C_count_7 (tgt := 19) (by decide) (fun h7 => ?_) (fun h7 => ?_)
      · skip
        refine e_iload_n C d_C_count_19 rfl ?_
        refine e_tableIn C d_C_count_20 (off := 82) (by decide) (by decide) (by decide) (tgt := 102) (by decide) ?_
        refine e_aload_n C d_C_count_102 rfl ?_
        refine e_get C 0 (k := 10) in_C g274 d_C_count_103 rfl rfl rfl rfl ?_
        exact e_iret C E d_C_count_106 (Nat.le_refl _) (Nat.le_refl _) rfl ⟨rfl, rfl⟩
      · exact absurd (by decide) h7
  · skip
    refine e_iload_n C d_C_count_0 rfl ?_
    refine e_iconst C d_C_count_1 (v := 1) (by decide) ?_
    refine e_icmp_lt C d_C_count_2 (tgt := 19) (by decide) (fun h2 => ?_) (fun h2 => ?_)
    · exact absurd h2 (by decide)
    · skip
      refine e_iload_n C d_C_count_5 rfl ?_
      refine e_iconst C d_C_count_6 (v := 5) (by decide) ?_
      refine e_icmp_gt C d_C_count_7 (tgt := 19) (by decide) (fun h7 => ?_) (fun h7 => ?_)
      · skip
        refine e_iload_n C d_C_count_19 rfl ?_
        refine e_tableIn C d_C_count_20 (off := 87) (by decide) (by decide) (by decide) (tgt := 107) (by decide) ?_
        refine e_aload_n C d_C_count_107 rfl ?_
        refine e_get C 0 (k := 11) in_C g275 d_C_count_108 rfl rfl rfl rfl ?_
        exact e_iret C E d_C_count_111 (Nat.le_refl _) (Nat.le_refl _) rfl ⟨rfl, rfl⟩
      · exact absurd (by decide) h7
  · skip
    refine e_iload_n C d_C_count_0 rfl ?_
    refine e_iconst C d_C_count_1 (v := 1) (by decide) ?_
    refine e_icmp_lt C d_C_count_2 (tgt := 19) (by decide) (fun h2 => ?_) (fun h2 => ?_)
    · exact absurd h2 (by decide)
    · skip
      refine e_iload_n C d_C_count_5 rfl ?_
      refine e_iconst C d_C_count_6 (v := 5) (by decide) ?_
      refine e_icmp_gt C d_C_count_7 (tgt := 19) (by decide) (fun h7 => ?_) (fun h7 => ?_)
      · skip
        refine e_iload_n C d_C_count_19 rfl ?_
        refine e_tableIn C d_C_count_20 (off := 92) (by decide) (by decide) (by decide) (tgt := 112) (by decide) ?_
        refine e_aload_n C d_C_count_112 rfl ?_
        refine e_get C 0 (k := 1) in_C g265 d_C_count_113 rfl rfl rfl rfl ?_
        refine e_get C 7 (k := 4) in_Rows g90 d_C_count_116 rfl rfl rfl rfl ?_
        exact e_iret C E d_C_count_119 (Nat.le_refl _) (Nat.le_refl _) rfl ⟨rfl, rfl⟩
      · exact absurd (by decide) h7
  · skip
    refine e_iload_n C d_C_count_0 rfl ?_
    refine e_iconst C d_C_count_1 (v := 1) (by decide) ?_
    refine e_icmp_lt C d_C_count_2 (tgt := 19) (by decide) (fun h2 => ?_) (fun h2 => ?_)
    · exact absurd h2 (by decide)
    · skip
      refine e_iload_n C d_C_count_5 rfl ?_
      refine e_iconst C d_C_count_6 (v := 5) (by decide) ?_
      refine e_icmp_gt C d_C_count_7 (tgt := 19) (by decide) (fun h7 => ?_) (fun h7 => ?_)
      · skip
        refine e_iload_n C d_C_count_19 rfl ?_
        refine e_tableIn C d_C_count_20 (off := 100) (by decide) (by decide) (by decide) (tgt := 120) (by decide) ?_
        refine e_aload_n C d_C_count_120 rfl ?_
        refine e_get C 0 (k := 3) in_C g267 d_C_count_121 rfl rfl rfl rfl ?_
        refine e_get C 11 (k := 5) in_Asks g223 d_C_count_124 rfl rfl rfl rfl ?_
        exact e_iret C E d_C_count_127 (Nat.le_refl _) (Nat.le_refl _) rfl ⟨rfl, rfl⟩
      · exact absurd (by decide) h7
  · skip
    refine e_iload_n C d_C_count_0 rfl ?_
    refine e_iconst C d_C_count_1 (v := 1) (by decide) ?_
    refine e_icmp_lt C d_C_count_2 (tgt := 19) (by decide) (fun h2 => ?_) (fun h2 => ?_)
    · exact absurd h2 (by decide)
    · skip
      refine e_iload_n C d_C_count_5 rfl ?_
      refine e_iconst C d_C_count_6 (v := 5) (by decide) ?_
      refine e_icmp_gt C d_C_count_7 (tgt := 19) (by decide) (fun h7 => ?_) (fun h7 => ?_)
      · skip
        refine e_iload_n C d_C_count_19 rfl ?_
        refine e_tableIn C d_C_count_20 (off := 108) (by decide) (by decide) (by decide) (tgt := 128) (by decide) ?_
        refine e_aload_n C d_C_count_128 rfl ?_
        refine e_get C 0 (k := 3) in_C g267 d_C_count_129 rfl rfl rfl rfl ?_
        refine e_get C 11 (k := 6) in_Asks g225 d_C_count_132 rfl rfl rfl rfl ?_
        exact e_iret C E d_C_count_135 (Nat.le_refl _) (Nat.le_refl _) rfl ⟨rfl, rfl⟩
      · exact absurd (by decide) h7
  · skip
    refine e_iload_n C d_C_count_0 rfl ?_
    refine e_iconst C d_C_count_1 (v := 1) (by decide) ?_
    refine e_icmp_lt C d_C_count_2 (tgt := 19) (by decide) (fun h2 => ?_) (fun h2 => ?_)
    · exact absurd h2 (by decide)
    · skip
      refine e_iload_n C d_C_count_5 rfl ?_
      refine e_iconst C d_C_count_6 (v := 5) (by decide) ?_
      refine e_icmp_gt C d_C_count_7 (tgt := 19) (by decide) (fun h7 => ?_) (fun h7 => ?_)
      · skip
        refine e_iload_n C d_C_count_19 rfl ?_
        refine e_tableIn C d_C_count_20 (off := 116) (by decide) (by decide) (by decide) (tgt := 136) (by decide) ?_
        refine e_aload_n C d_C_count_136 rfl ?_
        refine e_get C 0 (k := 0) in_C g264 d_C_count_137 rfl rfl rfl rfl ?_
        refine e_get C 1 (k := 0) in_Ways g41 d_C_count_140 rfl rfl rfl rfl ?_
        exact e_iret C E d_C_count_143 (Nat.le_refl _) (Nat.le_refl _) rfl ⟨rfl, rfl⟩
      · exact absurd (by decide) h7
  · skip
    refine e_iload_n C d_C_count_0 rfl ?_
    refine e_iconst C d_C_count_1 (v := 1) (by decide) ?_
    refine e_icmp_lt C d_C_count_2 (tgt := 19) (by decide) (fun h2 => ?_) (fun h2 => ?_)
    · exact absurd h2 (by decide)
    · skip
      refine e_iload_n C d_C_count_5 rfl ?_
      refine e_iconst C d_C_count_6 (v := 5) (by decide) ?_
      refine e_icmp_gt C d_C_count_7 (tgt := 19) (by decide) (fun h7 => ?_) (fun h7 => ?_)
      · skip
        refine e_iload_n C d_C_count_19 rfl ?_
        refine e_tableIn C d_C_count_20 (off := 124) (by decide) (by decide) (by decide) (tgt := 144) (by decide) ?_
        refine e_aload_n C d_C_count_144 rfl ?_
        refine e_get C 0 (k := 0) in_C g264 d_C_count_145 rfl rfl rfl rfl ?_
        refine e_get C 1 (k := 1) in_Ways g43 d_C_count_148 rfl rfl rfl rfl ?_
        exact e_iret C E d_C_count_151 (Nat.le_refl _) (Nat.le_refl _) rfl ⟨rfl, rfl⟩
      · exact absurd (by decide) h7
set_option maxRecDepth 100000 in
theorem k_C_askHit (h : CI S wd V kd c) {hs : Nat} (hH : HD c.1 hs) (x : Int32) {p : Nat} (hp : p < 4) (hh : hitB S wd c x p = true) : Con l G y_C_ask c_C_ask 4 (some .int) (rz 6 149) [.ref (a 0), .int x, .int (nI p)] (wK G a c S wd V kd) (DI 0 (wK G a (pfS S wd V kd c x p 0) S wd V kd)) := by
  refine Con.of rfl rfl (fun X C E hR hl hnm => ?_)
  have hC := h.1.1
  have hn1 := hC.n128
  have hsn := sN_lt hC x
  have hb2 : sN S x * wd + wd ≤ S * wd := by
    have := slot_lt (wd := wd) (w := wd - 1) hsn (by have := hC.2.2.2.2; omega)
    have := hC.2.2.2.2
    omega
  unfold hitB fdW at hh
  refine e_iload_n C d_C_ask_0 rfl ?_
  refine e_cSi C hR (k_C_isNoPart0 hp) g382 g1 g380 g381 d_C_ask_1 rfl ey_C_isNoPart rfl rfl ⟨Nat.zero_le _, Nat.zero_le _⟩ ?_
  refine e_if_eq C d_C_ask_4 (tgt := 17) (by decide) (fun h4 => ?_) (fun h4 => ?_)
  · skip
    refine e_aload_n C d_C_ask_17 rfl ?_
    refine e_get C 0 (k := 0) in_C g264 d_C_ask_18 rfl rfl rfl rfl ?_
    refine e_iload_n C d_C_ask_21 rfl ?_
    refine e_cVi C hR 1 (k_Ways_find hC x) g312 g3 g309 g310 g311 d_C_ask_22 rfl ey_Ways_find rfl rfl rfl rfl ⟨Nat.zero_le _, Nat.zero_le _⟩ ?_
    refine e_istore_n C d_C_ask_25 rfl ?_
    refine e_iload_n C d_C_ask_26 rfl ?_
    refine e_iconst C d_C_ask_27 (v := (-1)) (by decide) ?_
    refine e_icmp_eq C d_C_ask_28 (tgt := 57) (by decide) (fun h28 => ?_) (fun h28 => ?_)
    · rw [oI_n1 (fb (by omega))] at h28
      rw [h28] at hh
      cases hh
    · rw [oI_n1 (fb (by omega))] at h28
      obtain ⟨j, hj⟩ := Option.ne_none_iff_exists'.mp h28
      have hj2 := fst1_some hj
      rw [hj] at hh ⊢
      have hh : ¬ c.2 4 j &&& bitI p = 0 := by simpa using hh
      refine e_aload_n C d_C_ask_31 rfl ?_
      refine e_get C 0 (k := 0) in_C g264 d_C_ask_32 rfl rfl rfl rfl ?_
      refine e_get C 1 (k := 5) in_Ways g51 d_C_ask_35 rfl rfl rfl rfl ?_
      refine e_iload_n C d_C_ask_38 rfl ?_
      refine e_iald C 4 0 d_C_ask_39 rfl rfl j rfl (by omega) (by omega) ?_
      refine e_iconst C d_C_ask_40 (v := 1) (by decide) ?_
      refine e_iload_n C d_C_ask_41 rfl ?_
      refine e_ishl C d_C_ask_42 ?_
      refine e_iand C d_C_ask_43 ?_
      refine e_if_eq C d_C_ask_44 (tgt := 57) (by decide) (fun h44 => ?_) (fun h44 => ?_)
      · exact absurd h44 hh
      · skip
        refine e_aload_n C d_C_ask_47 rfl ?_
        refine e_iload_n C d_C_ask_48 rfl ?_
        refine e_iload_n C d_C_ask_49 rfl ?_
        refine e_iconst C d_C_ask_50 (v := 0) (by decide) ?_
        refine e_cVi C hR 0 (k_C_perform h hH x hp 0) g455 g1 g452 g454 (gt_sel 1 (by decide +kernel) (by decide +kernel)) d_C_ask_51 rfl ey_C_perform rfl rfl rfl rfl ⟨Nat.zero_le _, Nat.zero_le _⟩ ?_
        refine e_pop C d_C_ask_54 rfl ?_
        refine e_iconst C d_C_ask_55 (v := 0) (by decide) ?_
        exact e_iret C E d_C_ask_56 (Nat.le_refl _) (Nat.le_refl _) rfl ⟨rfl, rfl⟩
  · exact absurd rfl h4
set_option maxRecDepth 100000 in
theorem k_C_askWait (h : CI S wd V kd c) (hA : AD c.1 z lc) (x : Int32) {p : Nat} (hp : p < 4) (hh : hitB S wd c x p = false) (hr : roomA c.2 z lc x = true) : Con l G y_C_ask c_C_ask 4 (some .int) (rz 6 149) [.ref (a 0), .int x, .int (nI p)] (wK G a c S wd V kd) (DI (if wts c.2 lc x then 2 else 1) (wK G a (asS c x p) S wd V kd)) := by
  refine Con.of rfl rfl (fun X C E hR hl hnm => ?_)
  have hC := h.1.1
  have hn1 := hC.n128
  have hsn := sN_lt hC x
  have hb2 : sN S x * wd + wd ≤ S * wd := by
    have := slot_lt (wd := wd) (w := wd - 1) hsn (by have := hC.2.2.2.2; omega)
    have := hC.2.2.2.2
    omega
  have eA := nA_eq hA
  have wait : EW X G 4 0 0 57 [(0, .ref (a 0)), (1, .int x), (2, .int (nI p))] [] (wK G a c S wd V kd) := by
    refine e_aload_n C d_C_ask_57 rfl ?_
    refine e_get C 0 (k := 3) in_C g267 d_C_ask_58 rfl rfl rfl rfl ?_
    refine e_iload_n C d_C_ask_61 rfl ?_
    refine e_cVi C hR 11 (k_Asks_hasRoomFor hA x) g616 g12 g613 g614 g615 d_C_ask_62 rfl ey_Asks_hasRoomFor rfl rfl rfl rfl ⟨Nat.zero_le _, Nat.zero_le _⟩ ?_
    refine e_if_ne C d_C_ask_65 (tgt := 78) (by decide) (fun h65 => ?_) (fun h65 => ?_)
    · skip
      refine e_aload_n C d_C_ask_78 rfl ?_
      refine e_get C 0 (k := 3) in_C g267 d_C_ask_79 rfl rfl rfl rfl ?_
      refine e_iload_n C d_C_ask_82 rfl ?_
      refine e_iload_n C d_C_ask_83 rfl ?_
      refine e_cVi C hR 11 (k_Asks_add hA x (nI p) hr) g640 g12 g637 g638 g639 d_C_ask_84 rfl ey_Asks_add rfl rfl rfl rfl ⟨Nat.zero_le _, Nat.zero_le _⟩ ?_
      refine e_eq (ws' := wK G a (asS c x p) S wd V kd) (by rw [← wK_of (asS_RA c x p) G a S wd V kd]; unfold asS; rw [eA.1, eA.2]) ?_
      refine e_if_eq C d_C_ask_87 (tgt := 94) (by decide) (fun h87 => ?_) (fun h87 => ?_)
      · rw [bI_0] at h87
        rw [show wts c.2 lc x = true by simpa using h87, if_pos rfl] at E
        refine e_iconst C d_C_ask_94 (v := 2) (by decide) ?_
        exact e_iret C E d_C_ask_95 (Nat.le_refl _) (Nat.le_refl _) rfl ⟨rfl, rfl⟩
      · rw [bI_n] at h87
        rw [show wts c.2 lc x = false by simpa using h87, if_neg (by decide)] at E
        refine e_iconst C d_C_ask_90 (v := 1) (by decide) ?_
        refine e_goto C d_C_ask_91 (tgt := 95) (by decide) ?_
        exact e_iret C E d_C_ask_95 (Nat.le_refl _) (Nat.le_refl _) rfl ⟨rfl, rfl⟩
    · rw [bI_0, hr] at h65
      cases h65
  unfold hitB fdW at hh
  refine e_iload_n C d_C_ask_0 rfl ?_
  refine e_cSi C hR (k_C_isNoPart0 hp) g382 g1 g380 g381 d_C_ask_1 rfl ey_C_isNoPart rfl rfl ⟨Nat.zero_le _, Nat.zero_le _⟩ ?_
  refine e_if_eq C d_C_ask_4 (tgt := 17) (by decide) (fun h4 => ?_) (fun h4 => ?_)
  · skip
    refine e_aload_n C d_C_ask_17 rfl ?_
    refine e_get C 0 (k := 0) in_C g264 d_C_ask_18 rfl rfl rfl rfl ?_
    refine e_iload_n C d_C_ask_21 rfl ?_
    refine e_cVi C hR 1 (k_Ways_find hC x) g312 g3 g309 g310 g311 d_C_ask_22 rfl ey_Ways_find rfl rfl rfl rfl ⟨Nat.zero_le _, Nat.zero_le _⟩ ?_
    refine e_istore_n C d_C_ask_25 rfl ?_
    refine e_iload_n C d_C_ask_26 rfl ?_
    refine e_iconst C d_C_ask_27 (v := (-1)) (by decide) ?_
    refine e_icmp_eq C d_C_ask_28 (tgt := 57) (by decide) (fun h28 => ?_) (fun h28 => ?_)
    · exact e_lv2 wait rfl
    · rw [oI_n1 (fb (by omega))] at h28
      obtain ⟨j, hj⟩ := Option.ne_none_iff_exists'.mp h28
      have hj2 := fst1_some hj
      rw [hj] at hh ⊢
      have hh : c.2 4 j &&& bitI p = 0 := by simpa using hh
      refine e_aload_n C d_C_ask_31 rfl ?_
      refine e_get C 0 (k := 0) in_C g264 d_C_ask_32 rfl rfl rfl rfl ?_
      refine e_get C 1 (k := 5) in_Ways g51 d_C_ask_35 rfl rfl rfl rfl ?_
      refine e_iload_n C d_C_ask_38 rfl ?_
      refine e_iald C 4 0 d_C_ask_39 rfl rfl j rfl (by omega) (by omega) ?_
      refine e_iconst C d_C_ask_40 (v := 1) (by decide) ?_
      refine e_iload_n C d_C_ask_41 rfl ?_
      refine e_ishl C d_C_ask_42 ?_
      refine e_iand C d_C_ask_43 ?_
      refine e_if_eq C d_C_ask_44 (tgt := 57) (by decide) (fun h44 => ?_) (fun h44 => ?_)
      · exact e_lv2 wait rfl
      · exact absurd hh h44
  · exact absurd rfl h4
theorem anL_step {S wd V kd : Nat} {x : Int32} {c : CS} {k p : Nat} (hp : c.2 15 k = nI p) (hp4 : p < 4) (m : Nat) : anL S wd V kd x c k (m + 1) = anL S wd V kd x ((pfS S wd V kd c x p 0).1, up2 (pfS S wd V kd c x p 0).2 16 (upd ((pfS S wd V kd c x p 0).2 16) k (pfK S wd V kd c x p 0))) (k + 1) m := by
  rw [anL, hp, nI_clamp (show p < 2 ^ 31 by omega)]
set_option maxRecDepth 100000 in
theorem k_C_answer (h : CI S wd V kd c) {hs : Nat} (hH : HD c.1 hs) (hA : AD c.1 z lc) (hP : PT c) (hlc : 1 ≤ lc) : Con l G y_C_answer c_C_answer 3 (some .int) (rz 6 149) [.ref (a 0)] (wK G a c S wd V kd) (DI (nI (nD (tkS c))) (wK G a (anL S wd V kd (c.2 14 0) (tkS c) 0 (nD (tkS c))) S wd V kd)) := by
  refine Con.of rfl rfl (fun X C E hR hl hnm => ?_)
  have eA := nA_eq hA
  have hlc4 := hA.2.2
  have h1 : CI S wd V kd (tkS c) := ⟨(tkS_RA c).rc h.1, h.2.1, h.2.2.1, h.2.2.2⟩
  have hP1 := tkS_PT hP
  have hle := tk_le (c.2 14 0) (c.2 12) (c.2 13) (c.2 15) z
  obtain ⟨d, hd, hd16⟩ : ∃ d, (tkS c).1 13 = nI d ∧ d ≤ 16 := by
    refine ⟨(tk (c.2 14 0) (c.2 12) (c.2 13) (c.2 15) (nA c)).2.2.2.2, rfl, ?_⟩
    rw [eA.1]
    omega
  have hnD : nD (tkS c) = d := by unfold nD; rw [hd]; exact nI_clamp (by omega)
  have hH1 : HD (tkS c).1 hs := hH
  rw [hnD] at E
  refine e_aload_n C d_C_answer_0 rfl ?_
  refine e_get C 0 (k := 3) in_C g267 d_C_answer_1 rfl rfl rfl rfl ?_
  refine e_get C 11 (k := 6) in_Asks g225 d_C_answer_4 rfl rfl rfl rfl ?_
  refine e_top hA.2.1 ?_
  refine e_if_ne C d_C_answer_7 (tgt := 20) (by decide) (fun h7 => ?_) (fun h7 => ?_)
  · skip
    refine e_aload_n C d_C_answer_20 rfl ?_
    refine e_get C 0 (k := 3) in_C g267 d_C_answer_21 rfl rfl rfl rfl ?_
    refine e_cVi C hR 11 (k_Asks_takeFirstLine hA hlc) g668 g12 g665 g666 g667 d_C_answer_24 rfl ey_Asks_takeFirstLine rfl rfl rfl rfl ⟨Nat.zero_le _, Nat.zero_le _⟩ ?_
    refine e_eq (ws' := wK G a (tkS c) S wd V kd) (by rw [← wK_of (tkS_RA c) G a S wd V kd]; unfold tkS; rw [eA.1, eA.2]) ?_
    refine e_istore_n C d_C_answer_27 rfl ?_
    refine e_iconst C d_C_answer_28 (v := 0) (by decide) ?_
    refine e_istore_n C d_C_answer_29 rfl ?_
    generalize tkS c = c1 at h1 hP1 hd hH1 E ⊢
    generalize c.2 14 0 = x at E ⊢
    have L : ∀ (m k : Nat) (c2 : CS) (hs2 : Nat), k + m = d → CI S wd V kd c2 → HD c2.1 hs2 → PT c2 → c2.1 13 = nI d → anL S wd V kd x c2 k m = anL S wd V kd x c1 0 d → EW X G 3 0 0 30 [(0, .ref (a 0)), (1, .int x), (2, .int (nI k))] [] (wK G a c2 S wd V kd) := by
      intro m
      induction m with
      | zero =>
        intro k c2 hs2 hk i1 i2 i3 i4 hf
        have hf : c2 = _ := hf
        refine e_iload_n C d_C_answer_30 rfl ?_
        refine e_aload_n C d_C_answer_31 rfl ?_
        refine e_get C 0 (k := 3) in_C g267 d_C_answer_32 rfl rfl rfl rfl ?_
        refine e_get C 11 (k := 7) in_Asks g227 d_C_answer_35 rfl rfl rfl rfl ?_
        refine e_top i4 ?_
        refine e_icmp_ge C d_C_answer_38 (tgt := 71) (by decide) (fun h38 => ?_) (fun h38 => ?_)
        · rw [← hf] at E
          refine e_aload_n C d_C_answer_71 rfl ?_
          refine e_get C 0 (k := 3) in_C g267 d_C_answer_72 rfl rfl rfl rfl ?_
          refine e_get C 11 (k := 7) in_Asks g227 d_C_answer_75 rfl rfl rfl rfl ?_
          refine e_top i4 ?_
          exact e_iret C E d_C_answer_78 (Nat.le_refl _) (Nat.le_refl _) rfl ⟨rfl, rfl⟩
        · exact absurd (nI_le (by omega) (by omega)) h38
      | succ m ih =>
        intro k c2 hs2 hk i1 i2 i3 i4 hf
        obtain ⟨p, hp, ep⟩ := i3.2 k
        obtain ⟨q, hq, eq⟩ := rhS_kind S wd V kd (ntS c2 x) x (bitI p) 0
        rw [anL_step ep hp] at hf
        have ka := pfS_asks S wd V kd c2 x p 0
        have j1 := pfS_CI i1 x hp 0
        obtain ⟨hs3, j2⟩ := pfS_HD i2 S wd V kd x p 0
        refine e_iload_n C d_C_answer_30 rfl ?_
        refine e_aload_n C d_C_answer_31 rfl ?_
        refine e_get C 0 (k := 3) in_C g267 d_C_answer_32 rfl rfl rfl rfl ?_
        refine e_get C 11 (k := 7) in_Asks g227 d_C_answer_35 rfl rfl rfl rfl ?_
        refine e_top i4 ?_
        refine e_icmp_ge C d_C_answer_38 (tgt := 71) (by decide) (fun h38 => ?_) (fun h38 => ?_)
        · exact absurd h38 (nI_ge (by omega) (by omega))
        · skip
          refine e_aload_n C d_C_answer_41 rfl ?_
          refine e_get C 0 (k := 3) in_C g267 d_C_answer_42 rfl rfl rfl rfl ?_
          refine e_get C 11 (k := 4) in_Asks g221 d_C_answer_45 rfl rfl rfl rfl ?_
          refine e_iload_n C d_C_answer_48 rfl ?_
          refine e_aload_n C d_C_answer_49 rfl ?_
          refine e_iload_n C d_C_answer_50 rfl ?_
          refine e_aload_n C d_C_answer_51 rfl ?_
          refine e_get C 0 (k := 3) in_C g267 d_C_answer_52 rfl rfl rfl rfl ?_
          refine e_get C 11 (k := 3) in_Asks g219 d_C_answer_55 rfl rfl rfl rfl ?_
          refine e_iload_n C d_C_answer_58 rfl ?_
          refine e_iald C 15 0 d_C_answer_59 rfl rfl k rfl (by omega) (by omega) ?_
          refine e_top ep ?_
          refine e_iconst C d_C_answer_60 (v := 0) (by decide) ?_
          refine e_cVi C hR 0 (k_C_perform i1 i2 x hp 0) g455 g1 g452 g454 (gt_sel 1 (by decide +kernel) (by decide +kernel)) d_C_answer_61 rfl ey_C_perform rfl rfl rfl rfl ⟨Nat.zero_le _, Nat.zero_le _⟩ ?_
          generalize pfS S wd V kd c2 x p 0 = c3 at hf ka j1 j2 ⊢
          refine e_iast C 16 0 d_C_answer_64 rfl rfl k rfl (by omega) (by omega) ?_
          refine e_eq (wK_of (c := c3) (c' := (c3.1, up2 c3.2 16 (upd (c3.2 16) k (pfK S wd V kd c2 x p 0)))) ⟨⟨rfl, rfl, rfl, rfl, rfl, rfl, rfl⟩, rfl, rfl, rfl⟩ G a S wd V kd) ?_
          refine e_iinc C d_C_answer_65 rfl (nI_1 k) rfl ?_
          refine e_goto C d_C_answer_68 (tgt := 30) (by decide) ?_
          refine e_lv2 (ih (k + 1) _ hs3 (by omega) ?_ j2 ?_ ?_ hf) rfl
          · exact ⟨RA.rc (c := c3) ⟨⟨rfl, rfl, rfl, rfl, rfl, rfl, rfl⟩, rfl, rfl, rfl⟩ j1.1, j1.2.1, j1.2.2.1, j1.2.2.2⟩
          · exact ⟨by show ∀ j, ∃ p, p < 4 ∧ c3.2 13 j = nI p; rw [ka.2 13 (by omega)]; exact i3.1, by show ∀ j, ∃ p, p < 4 ∧ c3.2 15 j = nI p; rw [ka.2 15 (by omega)]; exact i3.2⟩
          · show c3.1 13 = nI d
            rw [ka.1 13 (by omega)]
            exact i4
    exact e_lv2 (L d 0 c1 hs (by omega) h1 hH1 hP1 hd rfl) rfl
  · exact absurd h7 (nI_ne0 (by omega) (by omega))
set_option maxRecDepth 100000 in
theorem k_C_answered {d k : Nat} (hd : c.1 13 = nI d) (hd16 : d ≤ 16) (hk : k < d) (b : Bool) : Con l G y_C_answered c_C_answered 3 (some .int) (rz 5 104) [.ref (a 0), .int (nI k), .int (bI b)] (cF G a c.1 c.2 n V wr) (DI (if b then c.2 16 k else c.2 15 k) (cF G a c.1 c.2 n V wr)) := by
  refine Con.of rfl rfl (fun X C E hR hl hnm => ?_)
  refine e_iload_n C d_C_answered_0 rfl ?_
  refine e_if_lt C d_C_answered_1 (tgt := 24) (by decide) (fun h1 => ?_) (fun h1 => ?_)
  · exact absurd h1 (nI_pos (by omega))
  · skip
    refine e_iload_n C d_C_answered_4 rfl ?_
    refine e_aload_n C d_C_answered_5 rfl ?_
    refine e_get C 0 (k := 3) in_C g267 d_C_answered_6 rfl rfl rfl rfl ?_
    refine e_get C 11 (k := 7) in_Asks g227 d_C_answered_9 rfl rfl rfl rfl ?_
    refine e_top hd ?_
    refine e_icmp_ge C d_C_answered_12 (tgt := 24) (by decide) (fun h12 => ?_) (fun h12 => ?_)
    · exact absurd h12 (nI_ge (by omega) (by omega))
    · cases b with
      | true =>
        refine e_iload_n C d_C_answered_15 rfl ?_
        refine e_if_lt C d_C_answered_16 (tgt := 24) (by decide) (fun h16 => ?_) (fun h16 => ?_)
        · exact absurd h16 (by decide)
        · skip
          refine e_iload_n C d_C_answered_19 rfl ?_
          refine e_iconst C d_C_answered_20 (v := 1) (by decide) ?_
          refine e_icmp_le C d_C_answered_21 (tgt := 34) (by decide) (fun h21 => ?_) (fun h21 => ?_)
          · skip
            refine e_iload_n C d_C_answered_34 rfl ?_
            refine e_if_ne C d_C_answered_35 (tgt := 50) (by decide) (fun h35 => ?_) (fun h35 => ?_)
            · skip
              refine e_aload_n C d_C_answered_50 rfl ?_
              refine e_get C 0 (k := 3) in_C g267 d_C_answered_51 rfl rfl rfl rfl ?_
              refine e_get C 11 (k := 4) in_Asks g221 d_C_answered_54 rfl rfl rfl rfl ?_
              refine e_iload_n C d_C_answered_57 rfl ?_
              refine e_iald C 16 0 d_C_answered_58 rfl rfl k rfl (by omega) (by omega) ?_
              exact e_iret C E d_C_answered_59 (Nat.le_refl _) (Nat.le_refl _) rfl ⟨rfl, rfl⟩
            · exact absurd h35 (by decide)
          · exact absurd (by decide) h21
      | false =>
        refine e_iload_n C d_C_answered_15 rfl ?_
        refine e_if_lt C d_C_answered_16 (tgt := 24) (by decide) (fun h16 => ?_) (fun h16 => ?_)
        · exact absurd h16 (by decide)
        · skip
          refine e_iload_n C d_C_answered_19 rfl ?_
          refine e_iconst C d_C_answered_20 (v := 1) (by decide) ?_
          refine e_icmp_le C d_C_answered_21 (tgt := 34) (by decide) (fun h21 => ?_) (fun h21 => ?_)
          · skip
            refine e_iload_n C d_C_answered_34 rfl ?_
            refine e_if_ne C d_C_answered_35 (tgt := 50) (by decide) (fun h35 => ?_) (fun h35 => ?_)
            · exact absurd rfl h35
            · skip
              refine e_aload_n C d_C_answered_38 rfl ?_
              refine e_get C 0 (k := 3) in_C g267 d_C_answered_39 rfl rfl rfl rfl ?_
              refine e_get C 11 (k := 3) in_Asks g219 d_C_answered_42 rfl rfl rfl rfl ?_
              refine e_iload_n C d_C_answered_45 rfl ?_
              refine e_iald C 15 0 d_C_answered_46 rfl rfl k rfl (by omega) (by omega) ?_
              refine e_goto C d_C_answered_47 (tgt := 59) (by decide) ?_
              exact e_iret C E d_C_answered_59 (Nat.le_refl _) (Nat.le_refl _) rfl ⟨rfl, rfl⟩
          · exact absurd (by decide) h21
theorem b01 {y : Int32} : (if y = 0 then (0 : Int32) else 1) = 0 ∨ (if y = 0 then (0 : Int32) else 1) = 1 := by
  by_cases h : y = 0
  · left; rw [if_pos h]
  · right; rw [if_neg h]
/-- what way answers of a slot -/
def wyI (c : CS) (j q : Nat) : Int32 := match q with
  | 0 => c.2 2 j
  | 1 => if c.2 3 j = 0 then 0 else 1
  | 2 => c.2 4 j
  | 3 => c.2 5 j
  | _ => if c.2 6 j = 0 then 0 else 1
set_option maxRecDepth 100000 in
theorem k_C_way (h : CD c.1 S wd) {s w q : Nat} (hs : s < S) (hw : w < wd) (hq : q < 5) : Con l G y_C_way c_C_way 5 (some .int) (rz 5 104) [.ref (a 0), .int (nI s), .int (nI w), .int (nI q)] (cF G a c.1 c.2 (S * wd) V wr) (DI (wyI c (s * wd + w) q) (cF G a c.1 c.2 (S * wd) V wr)) := by
  refine Con.of rfl rfl (fun X C E hR hl hnm => ?_)
  have hn1 := h.n128
  have hw8 := h.2.2.2.2
  have hS := h.S16
  have hlt := slot_lt hs hw
  refine e_iload_n C d_C_way_0 rfl ?_
  refine e_if_lt C d_C_way_1 (tgt := 30) (by decide) (fun h1 => ?_) (fun h1 => ?_)
  · exact absurd h1 (nI_pos (by omega))
  · skip
    refine e_iload_n C d_C_way_4 rfl ?_
    refine e_aload_n C d_C_way_5 rfl ?_
    refine e_get C 0 (k := 0) in_C g264 d_C_way_6 rfl rfl rfl rfl ?_
    refine e_get C 1 (k := 0) in_Ways g41 d_C_way_9 rfl rfl rfl rfl ?_
    refine e_top h.1 ?_
    refine e_icmp_ge C d_C_way_12 (tgt := 30) (by decide) (fun h12 => ?_) (fun h12 => ?_)
    · exact absurd h12 (nI_ge (by omega) (by omega))
    · skip
      refine e_iload_n C d_C_way_15 rfl ?_
      refine e_if_lt C d_C_way_16 (tgt := 30) (by decide) (fun h16 => ?_) (fun h16 => ?_)
      · exact absurd h16 (nI_pos (by omega))
      · skip
        refine e_iload_n C d_C_way_19 rfl ?_
        refine e_aload_n C d_C_way_20 rfl ?_
        refine e_get C 0 (k := 0) in_C g264 d_C_way_21 rfl rfl rfl rfl ?_
        refine e_get C 1 (k := 1) in_Ways g43 d_C_way_24 rfl rfl rfl rfl ?_
        refine e_top h.2.1 ?_
        refine e_icmp_lt C d_C_way_27 (tgt := 40) (by decide) (fun h27 => ?_) (fun h27 => ?_)
        · skip
          refine e_iload_n C d_C_way_40 rfl ?_
          refine e_aload_n C d_C_way_41 rfl ?_
          refine e_get C 0 (k := 0) in_C g264 d_C_way_42 rfl rfl rfl rfl ?_
          refine e_get C 1 (k := 1) in_Ways g43 d_C_way_45 rfl rfl rfl rfl ?_
          refine e_top h.2.1 ?_
          refine e_imul C d_C_way_48 ?_
          refine e_iload_n C d_C_way_49 rfl ?_
          refine e_iadd C d_C_way_50 ?_
          refine e_top (y := nI (s * wd + w)) (by rw [pk_mul, nI_add]) ?_
          refine e_istore C d_C_way_51 rfl ?_
          refine e_iload_n C d_C_way_53 rfl ?_
          rcases (by omega : q = 0 ∨ q = 1 ∨ q = 2 ∨ q = 3 ∨ q = 4) with rfl | rfl | rfl | rfl | rfl
          · refine e_tableIn C d_C_way_54 (off := 34) (by decide) (by decide) (by decide) (tgt := 88) (by decide) ?_
            refine e_aload_n C d_C_way_88 rfl ?_
            refine e_get C 0 (k := 0) in_C g264 d_C_way_89 rfl rfl rfl rfl ?_
            refine e_get C 1 (k := 3) in_Ways g47 d_C_way_92 rfl rfl rfl rfl ?_
            refine e_iload C d_C_way_95 rfl ?_
            refine e_iald C 2 0 d_C_way_97 rfl rfl _ rfl hlt (by omega) ?_
            exact e_iret C E d_C_way_98 (Nat.le_refl _) (Nat.le_refl _) rfl ⟨rfl, rfl⟩
          · refine e_tableIn C d_C_way_54 (off := 45) (by decide) (by decide) (by decide) (tgt := 99) (by decide) ?_
            refine e_aload_n C d_C_way_99 rfl ?_
            refine e_get C 0 (k := 0) in_C g264 d_C_way_100 rfl rfl rfl rfl ?_
            refine e_get C 1 (k := 4) in_Ways g49 d_C_way_103 rfl rfl rfl rfl ?_
            refine e_iload C d_C_way_106 rfl ?_
            refine e_zald C 3 1 d_C_way_108 rfl rfl _ rfl hlt (by omega) ?_
            refine e_if_eq C d_C_way_109 (tgt := 116) (by decide) (fun h109 => ?_) (fun h109 => ?_)
            · rw [show wyI c (s * wd + w) 1 = 0 by simp only [wyI]; exact if_pos h109] at E
              refine e_iconst C d_C_way_116 (v := 0) (by decide) ?_
              exact e_iret C E d_C_way_117 (Nat.le_refl _) (Nat.le_refl _) rfl ⟨rfl, rfl⟩
            · rw [show wyI c (s * wd + w) 1 = 1 by simp only [wyI]; exact if_neg h109] at E
              refine e_iconst C d_C_way_112 (v := 1) (by decide) ?_
              refine e_goto C d_C_way_113 (tgt := 117) (by decide) ?_
              exact e_iret C E d_C_way_117 (Nat.le_refl _) (Nat.le_refl _) rfl ⟨rfl, rfl⟩
          · refine e_tableIn C d_C_way_54 (off := 64) (by decide) (by decide) (by decide) (tgt := 118) (by decide) ?_
            refine e_aload_n C d_C_way_118 rfl ?_
            refine e_get C 0 (k := 0) in_C g264 d_C_way_119 rfl rfl rfl rfl ?_
            refine e_get C 1 (k := 5) in_Ways g51 d_C_way_122 rfl rfl rfl rfl ?_
            refine e_iload C d_C_way_125 rfl ?_
            refine e_iald C 4 0 d_C_way_127 rfl rfl _ rfl hlt (by omega) ?_
            exact e_iret C E d_C_way_128 (Nat.le_refl _) (Nat.le_refl _) rfl ⟨rfl, rfl⟩
          · refine e_tableIn C d_C_way_54 (off := 75) (by decide) (by decide) (by decide) (tgt := 129) (by decide) ?_
            refine e_aload_n C d_C_way_129 rfl ?_
            refine e_get C 0 (k := 0) in_C g264 d_C_way_130 rfl rfl rfl rfl ?_
            refine e_get C 1 (k := 6) in_Ways g53 d_C_way_133 rfl rfl rfl rfl ?_
            refine e_iload C d_C_way_136 rfl ?_
            refine e_iald C 5 0 d_C_way_138 rfl rfl _ rfl hlt (by omega) ?_
            exact e_iret C E d_C_way_139 (Nat.le_refl _) (Nat.le_refl _) rfl ⟨rfl, rfl⟩
          · refine e_tableIn C d_C_way_54 (off := 86) (by decide) (by decide) (by decide) (tgt := 140) (by decide) ?_
            refine e_aload_n C d_C_way_140 rfl ?_
            refine e_get C 0 (k := 0) in_C g264 d_C_way_141 rfl rfl rfl rfl ?_
            refine e_get C 1 (k := 7) in_Ways g55 d_C_way_144 rfl rfl rfl rfl ?_
            refine e_iload C d_C_way_147 rfl ?_
            refine e_zald C 6 1 d_C_way_149 rfl rfl _ rfl hlt (by omega) ?_
            refine e_if_eq C d_C_way_150 (tgt := 157) (by decide) (fun h150 => ?_) (fun h150 => ?_)
            · rw [show wyI c (s * wd + w) 4 = 0 by simp only [wyI]; exact if_pos h150] at E
              refine e_iconst C d_C_way_157 (v := 0) (by decide) ?_
              exact e_iret C E d_C_way_158 (Nat.le_refl _) (Nat.le_refl _) rfl ⟨rfl, rfl⟩
            · rw [show wyI c (s * wd + w) 4 = 1 by simp only [wyI]; exact if_neg h150] at E
              refine e_iconst C d_C_way_153 (v := 1) (by decide) ?_
              refine e_goto C d_C_way_154 (tgt := 158) (by decide) ?_
              exact e_iret C E d_C_way_158 (Nat.le_refl _) (Nat.le_refl _) rfl ⟨rfl, rfl⟩
        · rw [nI_ltI (by omega) (by omega)] at h27
          omega
/-- what caught answers -/
def cgI (c : CS) (k q : Nat) : Int32 := match q with
  | 0 => c.2 8 k
  | 1 => c.2 9 k
  | _ => c.2 10 k
set_option maxRecDepth 100000 in
theorem k_C_caught (hz : RD c.1 V z) {k q : Nat} (hk : k < z) (hq : q < 3) : Con l G y_C_caught c_C_caught 3 (some .int) (rz 5 104) [.ref (a 0), .int (nI k), .int (nI q)] (cF G a c.1 c.2 n V wr) (DI (cgI c k q) (cF G a c.1 c.2 n V wr)) := by
  refine Con.of rfl rfl (fun X C E hR hl hnm => ?_)
  have hz2 := hz.2.2
  refine e_iload_n C d_C_caught_0 rfl ?_
  refine e_if_lt C d_C_caught_1 (tgt := 15) (by decide) (fun h1 => ?_) (fun h1 => ?_)
  · exact absurd h1 (nI_pos (by omega))
  · skip
    refine e_iload_n C d_C_caught_4 rfl ?_
    refine e_aload_n C d_C_caught_5 rfl ?_
    refine e_get C 0 (k := 1) in_C g265 d_C_caught_6 rfl rfl rfl rfl ?_
    refine e_get C 7 (k := 4) in_Rows g90 d_C_caught_9 rfl rfl rfl rfl ?_
    refine e_top hz.2.1 ?_
    refine e_icmp_lt C d_C_caught_12 (tgt := 25) (by decide) (fun h12 => ?_) (fun h12 => ?_)
    · skip
      refine e_iload_n C d_C_caught_25 rfl ?_
      rcases (by omega : q = 0 ∨ q = 1 ∨ q = 2) with rfl | rfl | rfl
      · refine e_tableIn C d_C_caught_26 (off := 26) (by decide) (by decide) (by decide) (tgt := 52) (by decide) ?_
        refine e_aload_n C d_C_caught_52 rfl ?_
        refine e_get C 0 (k := 1) in_C g265 d_C_caught_53 rfl rfl rfl rfl ?_
        refine e_get C 7 (k := 1) in_Rows g84 d_C_caught_56 rfl rfl rfl rfl ?_
        refine e_iload_n C d_C_caught_59 rfl ?_
        refine e_iald C 8 0 d_C_caught_60 rfl rfl k rfl (by omega) (by omega) ?_
        exact e_iret C E d_C_caught_61 (Nat.le_refl _) (Nat.le_refl _) rfl ⟨rfl, rfl⟩
      · refine e_tableIn C d_C_caught_26 (off := 36) (by decide) (by decide) (by decide) (tgt := 62) (by decide) ?_
        refine e_aload_n C d_C_caught_62 rfl ?_
        refine e_get C 0 (k := 1) in_C g265 d_C_caught_63 rfl rfl rfl rfl ?_
        refine e_get C 7 (k := 2) in_Rows g86 d_C_caught_66 rfl rfl rfl rfl ?_
        refine e_iload_n C d_C_caught_69 rfl ?_
        refine e_iald C 9 0 d_C_caught_70 rfl rfl k rfl (by omega) (by omega) ?_
        exact e_iret C E d_C_caught_71 (Nat.le_refl _) (Nat.le_refl _) rfl ⟨rfl, rfl⟩
      · refine e_tableIn C d_C_caught_26 (off := 46) (by decide) (by decide) (by decide) (tgt := 72) (by decide) ?_
        refine e_aload_n C d_C_caught_72 rfl ?_
        refine e_get C 0 (k := 1) in_C g265 d_C_caught_73 rfl rfl rfl rfl ?_
        refine e_get C 7 (k := 3) in_Rows g88 d_C_caught_76 rfl rfl rfl rfl ?_
        refine e_iload_n C d_C_caught_79 rfl ?_
        refine e_iald C 10 0 d_C_caught_80 rfl rfl k rfl (by omega) (by omega) ?_
        exact e_iret C E d_C_caught_81 (Nat.le_refl _) (Nat.le_refl _) rfl ⟨rfl, rfl⟩
    · rw [nI_ltI (by omega) (by omega)] at h12
      omega
/-- what next answers -/
def nxO (wd kd : Nat) (c : CS) (s : Nat) : Option Nat := match fst1 (fun w => c.2 3 (s * wd + w) == 0) 0 wd with
  | some _ => none
  | none => rChoose wd kd c s
set_option maxRecDepth 100000 in
theorem k_C_next (h : RC S wd kd c) {s : Nat} (hs : s < S) : Con l G y_C_next c_C_next 2 (some .int) (rz 5 104) [.ref (a 0), .int (nI s)] (wK G a c S wd V kd) (DI (oI (nxO wd kd c s)) (wK G a c S wd V kd)) := by
  refine Con.of rfl rfl (fun X C E hR hl hnm => ?_)
  have hS := h.1.S16
  have hw8 := h.1.2.2.2.2
  unfold nxO at E
  refine e_iload_n C d_C_next_0 rfl ?_
  refine e_if_lt C d_C_next_1 (tgt := 15) (by decide) (fun h1 => ?_) (fun h1 => ?_)
  · exact absurd h1 (nI_pos (by omega))
  · skip
    refine e_iload_n C d_C_next_4 rfl ?_
    refine e_aload_n C d_C_next_5 rfl ?_
    refine e_get C 0 (k := 0) in_C g264 d_C_next_6 rfl rfl rfl rfl ?_
    refine e_get C 1 (k := 0) in_Ways g41 d_C_next_9 rfl rfl rfl rfl ?_
    refine e_top h.1.1 ?_
    refine e_icmp_lt C d_C_next_12 (tgt := 25) (by decide) (fun h12 => ?_) (fun h12 => ?_)
    · skip
      refine e_aload_n C d_C_next_25 rfl ?_
      refine e_get C 0 (k := 0) in_C g264 d_C_next_26 rfl rfl rfl rfl ?_
      refine e_iload_n C d_C_next_29 rfl ?_
      refine e_cVi C hR 1 (k_Ways_emptyWay h.1 hs) g514 g3 g511 g512 g513 d_C_next_30 rfl ey_Ways_emptyWay rfl rfl rfl rfl ⟨Nat.zero_le _, Nat.zero_le _⟩ ?_
      refine e_iconst C d_C_next_33 (v := (-1)) (by decide) ?_
      refine e_icmp_eq C d_C_next_34 (tgt := 41) (by decide) (fun h34 => ?_) (fun h34 => ?_)
      · rw [oI_n1 (fb (by omega))] at h34
        rw [h34] at E
        refine e_aload_n C d_C_next_41 rfl ?_
        refine e_get C 0 (k := 2) in_C g266 d_C_next_42 rfl rfl rfl rfl ?_
        refine e_iload_n C d_C_next_45 rfl ?_
        refine e_aload_n C d_C_next_46 rfl ?_
        refine e_get C 0 (k := 0) in_C g264 d_C_next_47 rfl rfl rfl rfl ?_
        refine e_get C 1 (k := 7) in_Ways g55 d_C_next_50 rfl rfl rfl rfl ?_
        refine e_rule_choose C hR h hs g515 d_C_next_53 rfl rfl ⟨Nat.zero_le _, Nat.zero_le _⟩ ?_
        exact e_iret C E d_C_next_56 (Nat.le_refl _) (Nat.le_refl _) rfl ⟨rfl, rfl⟩
      · rw [oI_n1 (fb (by omega))] at h34
        obtain ⟨w, hw⟩ := Option.ne_none_iff_exists'.mp h34
        rw [hw] at E
        refine e_iconst C d_C_next_37 (v := (-1)) (by decide) ?_
        refine e_goto C d_C_next_38 (tgt := 56) (by decide) ?_
        exact e_iret C E d_C_next_56 (Nat.le_refl _) (Nat.le_refl _) rfl ⟨rfl, rfl⟩
    · rw [nI_ltI (by omega) (by omega)] at h12
      omega
set_option maxRecDepth 100000 in
theorem k_C_misses {q : Nat} (h1q : 1 ≤ q) (hq : q ≤ 64) : Con l G y_C_misses c_C_misses 2 (some .int) (rz 5 104) [.ref (a 0), .int (nI q)] (cF G a c.1 c.2 n V wr) (DI (accF (c.2 19) (c.1 15) q (64 - q)) (cF G a c.1 c.2 n V wr)) := by
  refine Con.of rfl rfl (fun X C E hR hl hnm => ?_)
  refine e_iload_n C d_C_misses_0 rfl ?_
  refine e_iconst C d_C_misses_1 (v := nI 1) (by decide) ?_
  refine e_icmp_lt C d_C_misses_2 (tgt := 11) (by decide) (fun h2 => ?_) (fun h2 => ?_)
  · rw [nI_ltI (by omega) (by omega)] at h2
    omega
  · skip
    refine e_iload_n C d_C_misses_5 rfl ?_
    refine e_bipush C d_C_misses_6 (v := nI 64) (by decide) ?_
    refine e_icmp_le C d_C_misses_8 (tgt := 21) (by decide) (fun h8 => ?_) (fun h8 => ?_)
    · skip
      refine e_aload_n C d_C_misses_21 rfl ?_
      refine e_get C 0 (k := 4) in_C g268 d_C_misses_22 rfl rfl rfl rfl ?_
      refine e_iload_n C d_C_misses_25 rfl ?_
      refine e_cVi C hR 17 (k_Hist_countFrom hq) g729 g13 g726 g727 g728 d_C_misses_26 rfl ey_Hist_countFrom rfl rfl rfl rfl ⟨Nat.zero_le _, Nat.zero_le _⟩ ?_
      exact e_iret C E d_C_misses_29 (Nat.le_refl _) (Nat.le_refl _) rfl ⟨rfl, rfl⟩
    · rw [nI_leI (by omega) (by omega)] at h8
      omega
end CPub2
end
section
/-! THE REFERENCE: its small methods -/
theorem ey_M_thrown : eY y_M_thrown 0 = true := by decide +kernel
theorem d_M_thrown_0 : decode c_M_thrown 0 = .ok (.aload_n 0, 1) := by decide +kernel
theorem d_M_thrown_1 : decode c_M_thrown 1 = .ok (.getfield 104, 3) := by decide +kernel
theorem d_M_thrown_4 : decode c_M_thrown 4 = .ok (.ireturn, 1) := by decide +kernel
theorem ey_M_fail : eY y_M_fail 1 = true := by decide +kernel
theorem d_M_fail_0 : decode c_M_fail 0 = .ok (.aload_n 0, 1) := by decide +kernel
theorem d_M_fail_1 : decode c_M_fail 1 = .ok (.iload_n 1, 1) := by decide +kernel
theorem d_M_fail_2 : decode c_M_fail 2 = .ok (.putfield 104, 3) := by decide +kernel
theorem d_M_fail_5 : decode c_M_fail 5 = .ok (.iconst 0, 1) := by decide +kernel
theorem d_M_fail_6 : decode c_M_fail 6 = .ok (.ireturn, 1) := by decide +kernel
theorem ey_M_within : eY y_M_within 3 = true := by decide +kernel
theorem d_M_within_0 : decode c_M_within 0 = .ok (.iload_n 0, 1) := by decide +kernel
theorem d_M_within_1 : decode c_M_within 1 = .ok (.iload_n 1, 1) := by decide +kernel
theorem d_M_within_2 : decode c_M_within 2 = .ok (.if_icmp .lt 12, 3) := by decide +kernel
theorem d_M_within_5 : decode c_M_within 5 = .ok (.iload_n 0, 1) := by decide +kernel
theorem d_M_within_6 : decode c_M_within 6 = .ok (.iload_n 2, 1) := by decide +kernel
theorem d_M_within_7 : decode c_M_within 7 = .ok (.if_icmp .gt 7, 3) := by decide +kernel
theorem d_M_within_10 : decode c_M_within 10 = .ok (.iconst 1, 1) := by decide +kernel
theorem d_M_within_11 : decode c_M_within 11 = .ok (.goto 4, 3) := by decide +kernel
theorem d_M_within_14 : decode c_M_within 14 = .ok (.iconst 0, 1) := by decide +kernel
theorem d_M_within_15 : decode c_M_within 15 = .ok (.ireturn, 1) := by decide +kernel
theorem ey_M_mode : eY y_M_mode 2 = true := by decide +kernel
theorem d_M_mode_0 : decode c_M_mode 0 = .ok (.aload_n 0, 1) := by decide +kernel
theorem d_M_mode_1 : decode c_M_mode 1 = .ok (.iconst 0, 1) := by decide +kernel
theorem d_M_mode_2 : decode c_M_mode 2 = .ok (.putfield 104, 3) := by decide +kernel
theorem d_M_mode_5 : decode c_M_mode 5 = .ok (.aload_n 0, 1) := by decide +kernel
theorem d_M_mode_6 : decode c_M_mode 6 = .ok (.getfield 107, 3) := by decide +kernel
theorem d_M_mode_9 : decode c_M_mode 9 = .ok (.ifCond .eq 7, 3) := by decide +kernel
theorem d_M_mode_12 : decode c_M_mode 12 = .ok (.iconst 1, 1) := by decide +kernel
theorem d_M_mode_13 : decode c_M_mode 13 = .ok (.goto 4, 3) := by decide +kernel
theorem d_M_mode_16 : decode c_M_mode 16 = .ok (.iconst 0, 1) := by decide +kernel
theorem d_M_mode_17 : decode c_M_mode 17 = .ok (.aload_n 0, 1) := by decide +kernel
theorem d_M_mode_18 : decode c_M_mode 18 = .ok (.getfield 7, 3) := by decide +kernel
theorem d_M_mode_21 : decode c_M_mode 21 = .ok (.ifCond .eq 7, 3) := by decide +kernel
theorem d_M_mode_24 : decode c_M_mode 24 = .ok (.iconst 2, 1) := by decide +kernel
theorem d_M_mode_25 : decode c_M_mode 25 = .ok (.goto 4, 3) := by decide +kernel
theorem d_M_mode_28 : decode c_M_mode 28 = .ok (.iconst 0, 1) := by decide +kernel
theorem d_M_mode_29 : decode c_M_mode 29 = .ok (.iadd, 1) := by decide +kernel
theorem d_M_mode_30 : decode c_M_mode 30 = .ok (.istore_n 3, 1) := by decide +kernel
theorem d_M_mode_31 : decode c_M_mode 31 = .ok (.aload_n 0, 1) := by decide +kernel
theorem d_M_mode_32 : decode c_M_mode 32 = .ok (.iload_n 1, 1) := by decide +kernel
theorem d_M_mode_33 : decode c_M_mode 33 = .ok (.putfield 107, 3) := by decide +kernel
theorem d_M_mode_36 : decode c_M_mode 36 = .ok (.aload_n 0, 1) := by decide +kernel
theorem d_M_mode_37 : decode c_M_mode 37 = .ok (.iload_n 2, 1) := by decide +kernel
theorem d_M_mode_38 : decode c_M_mode 38 = .ok (.putfield 7, 3) := by decide +kernel
theorem d_M_mode_41 : decode c_M_mode 41 = .ok (.iload_n 3, 1) := by decide +kernel
theorem d_M_mode_42 : decode c_M_mode 42 = .ok (.ireturn, 1) := by decide +kernel
theorem ey_M_ones : eY y_M_ones 1 = true := by decide +kernel
theorem d_M_ones_0 : decode c_M_ones 0 = .ok (.iload_n 0, 1) := by decide +kernel
theorem d_M_ones_1 : decode c_M_ones 1 = .ok (.iconst 1, 1) := by decide +kernel
theorem d_M_ones_2 : decode c_M_ones 2 = .ok (.iand, 1) := by decide +kernel
theorem d_M_ones_3 : decode c_M_ones 3 = .ok (.iload_n 0, 1) := by decide +kernel
theorem d_M_ones_4 : decode c_M_ones 4 = .ok (.iconst 1, 1) := by decide +kernel
theorem d_M_ones_5 : decode c_M_ones 5 = .ok (.ishr, 1) := by decide +kernel
theorem d_M_ones_6 : decode c_M_ones 6 = .ok (.iconst 1, 1) := by decide +kernel
theorem d_M_ones_7 : decode c_M_ones 7 = .ok (.iand, 1) := by decide +kernel
theorem d_M_ones_8 : decode c_M_ones 8 = .ok (.iadd, 1) := by decide +kernel
theorem d_M_ones_9 : decode c_M_ones 9 = .ok (.iload_n 0, 1) := by decide +kernel
theorem d_M_ones_10 : decode c_M_ones 10 = .ok (.iconst 2, 1) := by decide +kernel
theorem d_M_ones_11 : decode c_M_ones 11 = .ok (.ishr, 1) := by decide +kernel
theorem d_M_ones_12 : decode c_M_ones 12 = .ok (.iconst 1, 1) := by decide +kernel
theorem d_M_ones_13 : decode c_M_ones 13 = .ok (.iand, 1) := by decide +kernel
theorem d_M_ones_14 : decode c_M_ones 14 = .ok (.iadd, 1) := by decide +kernel
theorem d_M_ones_15 : decode c_M_ones 15 = .ok (.iload_n 0, 1) := by decide +kernel
theorem d_M_ones_16 : decode c_M_ones 16 = .ok (.iconst 3, 1) := by decide +kernel
theorem d_M_ones_17 : decode c_M_ones 17 = .ok (.ishr, 1) := by decide +kernel
theorem d_M_ones_18 : decode c_M_ones 18 = .ok (.iconst 1, 1) := by decide +kernel
theorem d_M_ones_19 : decode c_M_ones 19 = .ok (.iand, 1) := by decide +kernel
theorem d_M_ones_20 : decode c_M_ones 20 = .ok (.iadd, 1) := by decide +kernel
theorem d_M_ones_21 : decode c_M_ones 21 = .ok (.ireturn, 1) := by decide +kernel
theorem ey_M_setOf : eY y_M_setOf 1 = true := by decide +kernel
theorem d_M_setOf_0 : decode c_M_setOf 0 = .ok (.iload_n 1, 1) := by decide +kernel
theorem d_M_setOf_1 : decode c_M_setOf 1 = .ok (.aload_n 0, 1) := by decide +kernel
theorem d_M_setOf_2 : decode c_M_setOf 2 = .ok (.getfield 92, 3) := by decide +kernel
theorem d_M_setOf_5 : decode c_M_setOf 5 = .ok (.iconst 1, 1) := by decide +kernel
theorem d_M_setOf_6 : decode c_M_setOf 6 = .ok (.isub, 1) := by decide +kernel
theorem d_M_setOf_7 : decode c_M_setOf 7 = .ok (.iand, 1) := by decide +kernel
theorem d_M_setOf_8 : decode c_M_setOf 8 = .ok (.ireturn, 1) := by decide +kernel
theorem ey_M_find : eY y_M_find 1 = true := by decide +kernel
theorem d_M_find_0 : decode c_M_find 0 = .ok (.iconst (-1), 1) := by decide +kernel
theorem d_M_find_1 : decode c_M_find 1 = .ok (.istore_n 2, 1) := by decide +kernel
theorem d_M_find_2 : decode c_M_find 2 = .ok (.bipush 8, 2) := by decide +kernel
theorem d_M_find_4 : decode c_M_find 4 = .ok (.aload_n 0, 1) := by decide +kernel
theorem d_M_find_5 : decode c_M_find 5 = .ok (.iload_n 1, 1) := by decide +kernel
theorem d_M_find_6 : decode c_M_find 6 = .ok (.invokevirtual 110, 3) := by decide +kernel
theorem d_M_find_9 : decode c_M_find 9 = .ok (.imul, 1) := by decide +kernel
theorem d_M_find_10 : decode c_M_find 10 = .ok (.istore_n 3, 1) := by decide +kernel
theorem d_M_find_11 : decode c_M_find 11 = .ok (.iload_n 3, 1) := by decide +kernel
theorem d_M_find_12 : decode c_M_find 12 = .ok (.istore 4, 2) := by decide +kernel
theorem d_M_find_14 : decode c_M_find 14 = .ok (.iload 4, 2) := by decide +kernel
theorem d_M_find_16 : decode c_M_find 16 = .ok (.iload_n 3, 1) := by decide +kernel
theorem d_M_find_17 : decode c_M_find 17 = .ok (.aload_n 0, 1) := by decide +kernel
theorem d_M_find_18 : decode c_M_find 18 = .ok (.getfield 95, 3) := by decide +kernel
theorem d_M_find_21 : decode c_M_find 21 = .ok (.iadd, 1) := by decide +kernel
theorem d_M_find_22 : decode c_M_find 22 = .ok (.if_icmp .ge 37, 3) := by decide +kernel
theorem d_M_find_25 : decode c_M_find 25 = .ok (.aload_n 0, 1) := by decide +kernel
theorem d_M_find_26 : decode c_M_find 26 = .ok (.getfield 13, 3) := by decide +kernel
theorem d_M_find_29 : decode c_M_find 29 = .ok (.iload 4, 2) := by decide +kernel
theorem d_M_find_31 : decode c_M_find 31 = .ok (.baload, 1) := by decide +kernel
theorem d_M_find_32 : decode c_M_find 32 = .ok (.ifCond .eq 19, 3) := by decide +kernel
theorem d_M_find_35 : decode c_M_find 35 = .ok (.aload_n 0, 1) := by decide +kernel
theorem d_M_find_36 : decode c_M_find 36 = .ok (.getfield 17, 3) := by decide +kernel
theorem d_M_find_39 : decode c_M_find 39 = .ok (.iload 4, 2) := by decide +kernel
theorem d_M_find_41 : decode c_M_find 41 = .ok (.iaload, 1) := by decide +kernel
theorem d_M_find_42 : decode c_M_find 42 = .ok (.iload_n 1, 1) := by decide +kernel
theorem d_M_find_43 : decode c_M_find 43 = .ok (.if_icmp .ne 8, 3) := by decide +kernel
theorem d_M_find_46 : decode c_M_find 46 = .ok (.iload 4, 2) := by decide +kernel
theorem d_M_find_48 : decode c_M_find 48 = .ok (.goto 4, 3) := by decide +kernel
theorem d_M_find_51 : decode c_M_find 51 = .ok (.iload_n 2, 1) := by decide +kernel
theorem d_M_find_52 : decode c_M_find 52 = .ok (.istore_n 2, 1) := by decide +kernel
theorem d_M_find_53 : decode c_M_find 53 = .ok (.iinc 4 1, 3) := by decide +kernel
theorem d_M_find_56 : decode c_M_find 56 = .ok (.goto (-42), 3) := by decide +kernel
theorem d_M_find_59 : decode c_M_find 59 = .ok (.iload_n 2, 1) := by decide +kernel
theorem d_M_find_60 : decode c_M_find 60 = .ok (.ireturn, 1) := by decide +kernel
theorem ey_M_findRow : eY y_M_findRow 1 = true := by decide +kernel
theorem d_M_findRow_0 : decode c_M_findRow 0 = .ok (.iconst (-1), 1) := by decide +kernel
theorem d_M_findRow_1 : decode c_M_findRow 1 = .ok (.istore_n 2, 1) := by decide +kernel
theorem d_M_findRow_2 : decode c_M_findRow 2 = .ok (.iconst 0, 1) := by decide +kernel
theorem d_M_findRow_3 : decode c_M_findRow 3 = .ok (.istore_n 3, 1) := by decide +kernel
theorem d_M_findRow_4 : decode c_M_findRow 4 = .ok (.iload_n 3, 1) := by decide +kernel
theorem d_M_findRow_5 : decode c_M_findRow 5 = .ok (.aload_n 0, 1) := by decide +kernel
theorem d_M_findRow_6 : decode c_M_findRow 6 = .ok (.getfield 114, 3) := by decide +kernel
theorem d_M_findRow_9 : decode c_M_findRow 9 = .ok (.if_icmp .ge 25, 3) := by decide +kernel
theorem d_M_findRow_12 : decode c_M_findRow 12 = .ok (.aload_n 0, 1) := by decide +kernel
theorem d_M_findRow_13 : decode c_M_findRow 13 = .ok (.getfield 55, 3) := by decide +kernel
theorem d_M_findRow_16 : decode c_M_findRow 16 = .ok (.iload_n 3, 1) := by decide +kernel
theorem d_M_findRow_17 : decode c_M_findRow 17 = .ok (.iaload, 1) := by decide +kernel
theorem d_M_findRow_18 : decode c_M_findRow 18 = .ok (.iload_n 1, 1) := by decide +kernel
theorem d_M_findRow_19 : decode c_M_findRow 19 = .ok (.if_icmp .ne 7, 3) := by decide +kernel
theorem d_M_findRow_22 : decode c_M_findRow 22 = .ok (.iload_n 3, 1) := by decide +kernel
theorem d_M_findRow_23 : decode c_M_findRow 23 = .ok (.goto 4, 3) := by decide +kernel
theorem d_M_findRow_26 : decode c_M_findRow 26 = .ok (.iload_n 2, 1) := by decide +kernel
theorem d_M_findRow_27 : decode c_M_findRow 27 = .ok (.istore_n 2, 1) := by decide +kernel
theorem d_M_findRow_28 : decode c_M_findRow 28 = .ok (.iinc 3 1, 3) := by decide +kernel
theorem d_M_findRow_31 : decode c_M_findRow 31 = .ok (.goto (-27), 3) := by decide +kernel
theorem d_M_findRow_34 : decode c_M_findRow 34 = .ok (.iload_n 2, 1) := by decide +kernel
theorem d_M_findRow_35 : decode c_M_findRow 35 = .ok (.ireturn, 1) := by decide +kernel
theorem ey_M_treeSize : eY y_M_treeSize 0 = true := by decide +kernel
theorem d_M_treeSize_0 : decode c_M_treeSize 0 = .ok (.aload_n 0, 1) := by decide +kernel
theorem d_M_treeSize_1 : decode c_M_treeSize 1 = .ok (.getfield 95, 3) := by decide +kernel
theorem d_M_treeSize_4 : decode c_M_treeSize 4 = .ok (.iconst 1, 1) := by decide +kernel
theorem d_M_treeSize_5 : decode c_M_treeSize 5 = .ok (.if_icmp .ne 7, 3) := by decide +kernel
theorem d_M_treeSize_8 : decode c_M_treeSize 8 = .ok (.iconst 1, 1) := by decide +kernel
theorem d_M_treeSize_9 : decode c_M_treeSize 9 = .ok (.goto 29, 3) := by decide +kernel
theorem d_M_treeSize_12 : decode c_M_treeSize 12 = .ok (.aload_n 0, 1) := by decide +kernel
theorem d_M_treeSize_13 : decode c_M_treeSize 13 = .ok (.getfield 95, 3) := by decide +kernel
theorem d_M_treeSize_16 : decode c_M_treeSize 16 = .ok (.iconst 2, 1) := by decide +kernel
theorem d_M_treeSize_17 : decode c_M_treeSize 17 = .ok (.if_icmp .ne 7, 3) := by decide +kernel
theorem d_M_treeSize_20 : decode c_M_treeSize 20 = .ok (.iconst 2, 1) := by decide +kernel
theorem d_M_treeSize_21 : decode c_M_treeSize 21 = .ok (.goto 17, 3) := by decide +kernel
theorem d_M_treeSize_24 : decode c_M_treeSize 24 = .ok (.aload_n 0, 1) := by decide +kernel
theorem d_M_treeSize_25 : decode c_M_treeSize 25 = .ok (.getfield 95, 3) := by decide +kernel
theorem d_M_treeSize_28 : decode c_M_treeSize 28 = .ok (.iconst 5, 1) := by decide +kernel
theorem d_M_treeSize_29 : decode c_M_treeSize 29 = .ok (.if_icmp .ge 7, 3) := by decide +kernel
theorem d_M_treeSize_32 : decode c_M_treeSize 32 = .ok (.iconst 4, 1) := by decide +kernel
theorem d_M_treeSize_33 : decode c_M_treeSize 33 = .ok (.goto 5, 3) := by decide +kernel
theorem d_M_treeSize_36 : decode c_M_treeSize 36 = .ok (.bipush 8, 2) := by decide +kernel
theorem d_M_treeSize_38 : decode c_M_treeSize 38 = .ok (.ireturn, 1) := by decide +kernel
theorem ey_M_turnAway : eY y_M_turnAway 1 = true := by decide +kernel
theorem d_M_turnAway_0 : decode c_M_turnAway 0 = .ok (.aload_n 0, 1) := by decide +kernel
theorem d_M_turnAway_1 : decode c_M_turnAway 1 = .ok (.invokevirtual 117, 3) := by decide +kernel
theorem d_M_turnAway_4 : decode c_M_turnAway 4 = .ok (.istore_n 2, 1) := by decide +kernel
theorem d_M_turnAway_5 : decode c_M_turnAway 5 = .ok (.iload_n 1, 1) := by decide +kernel
theorem d_M_turnAway_6 : decode c_M_turnAway 6 = .ok (.bipush 8, 2) := by decide +kernel
theorem d_M_turnAway_8 : decode c_M_turnAway 8 = .ok (.idiv, 1) := by decide +kernel
theorem d_M_turnAway_9 : decode c_M_turnAway 9 = .ok (.bipush 8, 2) := by decide +kernel
theorem d_M_turnAway_11 : decode c_M_turnAway 11 = .ok (.imul, 1) := by decide +kernel
theorem d_M_turnAway_12 : decode c_M_turnAway 12 = .ok (.istore_n 3, 1) := by decide +kernel
theorem d_M_turnAway_13 : decode c_M_turnAway 13 = .ok (.iload_n 2, 1) := by decide +kernel
theorem d_M_turnAway_14 : decode c_M_turnAway 14 = .ok (.iload_n 1, 1) := by decide +kernel
theorem d_M_turnAway_15 : decode c_M_turnAway 15 = .ok (.bipush 8, 2) := by decide +kernel
theorem d_M_turnAway_17 : decode c_M_turnAway 17 = .ok (.irem, 1) := by decide +kernel
theorem d_M_turnAway_18 : decode c_M_turnAway 18 = .ok (.iadd, 1) := by decide +kernel
theorem d_M_turnAway_19 : decode c_M_turnAway 19 = .ok (.istore 4, 2) := by decide +kernel
theorem d_M_turnAway_21 : decode c_M_turnAway 21 = .ok (.iload 4, 2) := by decide +kernel
theorem d_M_turnAway_23 : decode c_M_turnAway 23 = .ok (.iconst 1, 1) := by decide +kernel
theorem d_M_turnAway_24 : decode c_M_turnAway 24 = .ok (.if_icmp .le 35, 3) := by decide +kernel
theorem d_M_turnAway_27 : decode c_M_turnAway 27 = .ok (.aload_n 0, 1) := by decide +kernel
theorem d_M_turnAway_28 : decode c_M_turnAway 28 = .ok (.getfield 48, 3) := by decide +kernel
theorem d_M_turnAway_31 : decode c_M_turnAway 31 = .ok (.iload_n 3, 1) := by decide +kernel
theorem d_M_turnAway_32 : decode c_M_turnAway 32 = .ok (.iload 4, 2) := by decide +kernel
theorem d_M_turnAway_34 : decode c_M_turnAway 34 = .ok (.iconst 2, 1) := by decide +kernel
theorem d_M_turnAway_35 : decode c_M_turnAway 35 = .ok (.idiv, 1) := by decide +kernel
theorem d_M_turnAway_36 : decode c_M_turnAway 36 = .ok (.iadd, 1) := by decide +kernel
theorem d_M_turnAway_37 : decode c_M_turnAway 37 = .ok (.iload 4, 2) := by decide +kernel
theorem d_M_turnAway_39 : decode c_M_turnAway 39 = .ok (.iconst 2, 1) := by decide +kernel
theorem d_M_turnAway_40 : decode c_M_turnAway 40 = .ok (.irem, 1) := by decide +kernel
theorem d_M_turnAway_41 : decode c_M_turnAway 41 = .ok (.ifCond .ne 7, 3) := by decide +kernel
theorem d_M_turnAway_44 : decode c_M_turnAway 44 = .ok (.iconst 1, 1) := by decide +kernel
theorem d_M_turnAway_45 : decode c_M_turnAway 45 = .ok (.goto 4, 3) := by decide +kernel
theorem d_M_turnAway_48 : decode c_M_turnAway 48 = .ok (.iconst 0, 1) := by decide +kernel
theorem d_M_turnAway_49 : decode c_M_turnAway 49 = .ok (.bastore, 1) := by decide +kernel
theorem d_M_turnAway_50 : decode c_M_turnAway 50 = .ok (.iload 4, 2) := by decide +kernel
theorem d_M_turnAway_52 : decode c_M_turnAway 52 = .ok (.iconst 2, 1) := by decide +kernel
theorem d_M_turnAway_53 : decode c_M_turnAway 53 = .ok (.idiv, 1) := by decide +kernel
theorem d_M_turnAway_54 : decode c_M_turnAway 54 = .ok (.istore 4, 2) := by decide +kernel
theorem d_M_turnAway_56 : decode c_M_turnAway 56 = .ok (.goto (-35), 3) := by decide +kernel
theorem d_M_turnAway_59 : decode c_M_turnAway 59 = .ok (.return_, 1) := by decide +kernel
theorem ey_M_markLately : eY y_M_markLately 1 = true := by decide +kernel
theorem d_M_markLately_0 : decode c_M_markLately 0 = .ok (.iload_n 1, 1) := by decide +kernel
theorem d_M_markLately_1 : decode c_M_markLately 1 = .ok (.bipush 8, 2) := by decide +kernel
theorem d_M_markLately_3 : decode c_M_markLately 3 = .ok (.idiv, 1) := by decide +kernel
theorem d_M_markLately_4 : decode c_M_markLately 4 = .ok (.bipush 8, 2) := by decide +kernel
theorem d_M_markLately_6 : decode c_M_markLately 6 = .ok (.imul, 1) := by decide +kernel
theorem d_M_markLately_7 : decode c_M_markLately 7 = .ok (.istore_n 2, 1) := by decide +kernel
theorem d_M_markLately_8 : decode c_M_markLately 8 = .ok (.aload_n 0, 1) := by decide +kernel
theorem d_M_markLately_9 : decode c_M_markLately 9 = .ok (.getfield 39, 3) := by decide +kernel
theorem d_M_markLately_12 : decode c_M_markLately 12 = .ok (.iload_n 1, 1) := by decide +kernel
theorem d_M_markLately_13 : decode c_M_markLately 13 = .ok (.iconst 1, 1) := by decide +kernel
theorem d_M_markLately_14 : decode c_M_markLately 14 = .ok (.bastore, 1) := by decide +kernel
theorem d_M_markLately_15 : decode c_M_markLately 15 = .ok (.iconst 1, 1) := by decide +kernel
theorem d_M_markLately_16 : decode c_M_markLately 16 = .ok (.istore_n 3, 1) := by decide +kernel
theorem d_M_markLately_17 : decode c_M_markLately 17 = .ok (.iload_n 2, 1) := by decide +kernel
theorem d_M_markLately_18 : decode c_M_markLately 18 = .ok (.istore 4, 2) := by decide +kernel
theorem d_M_markLately_20 : decode c_M_markLately 20 = .ok (.iload 4, 2) := by decide +kernel
theorem d_M_markLately_22 : decode c_M_markLately 22 = .ok (.iload_n 2, 1) := by decide +kernel
theorem d_M_markLately_23 : decode c_M_markLately 23 = .ok (.aload_n 0, 1) := by decide +kernel
theorem d_M_markLately_24 : decode c_M_markLately 24 = .ok (.getfield 95, 3) := by decide +kernel
theorem d_M_markLately_27 : decode c_M_markLately 27 = .ok (.iadd, 1) := by decide +kernel
theorem d_M_markLately_28 : decode c_M_markLately 28 = .ok (.if_icmp .ge 29, 3) := by decide +kernel
theorem d_M_markLately_31 : decode c_M_markLately 31 = .ok (.iload_n 3, 1) := by decide +kernel
theorem d_M_markLately_32 : decode c_M_markLately 32 = .ok (.ifCond .eq 17, 3) := by decide +kernel
theorem d_M_markLately_35 : decode c_M_markLately 35 = .ok (.aload_n 0, 1) := by decide +kernel
theorem d_M_markLately_36 : decode c_M_markLately 36 = .ok (.getfield 39, 3) := by decide +kernel
theorem d_M_markLately_39 : decode c_M_markLately 39 = .ok (.iload 4, 2) := by decide +kernel
theorem d_M_markLately_41 : decode c_M_markLately 41 = .ok (.baload, 1) := by decide +kernel
theorem d_M_markLately_42 : decode c_M_markLately 42 = .ok (.ifCond .eq 7, 3) := by decide +kernel
theorem d_M_markLately_45 : decode c_M_markLately 45 = .ok (.iconst 1, 1) := by decide +kernel
theorem d_M_markLately_46 : decode c_M_markLately 46 = .ok (.goto 4, 3) := by decide +kernel
theorem d_M_markLately_49 : decode c_M_markLately 49 = .ok (.iconst 0, 1) := by decide +kernel
theorem d_M_markLately_50 : decode c_M_markLately 50 = .ok (.istore_n 3, 1) := by decide +kernel
theorem d_M_markLately_51 : decode c_M_markLately 51 = .ok (.iinc 4 1, 3) := by decide +kernel
theorem d_M_markLately_54 : decode c_M_markLately 54 = .ok (.goto (-34), 3) := by decide +kernel
theorem d_M_markLately_57 : decode c_M_markLately 57 = .ok (.iload_n 2, 1) := by decide +kernel
theorem d_M_markLately_58 : decode c_M_markLately 58 = .ok (.istore 4, 2) := by decide +kernel
theorem d_M_markLately_60 : decode c_M_markLately 60 = .ok (.iload 4, 2) := by decide +kernel
theorem d_M_markLately_62 : decode c_M_markLately 62 = .ok (.iload_n 2, 1) := by decide +kernel
theorem d_M_markLately_63 : decode c_M_markLately 63 = .ok (.aload_n 0, 1) := by decide +kernel
theorem d_M_markLately_64 : decode c_M_markLately 64 = .ok (.getfield 95, 3) := by decide +kernel
theorem d_M_markLately_67 : decode c_M_markLately 67 = .ok (.iadd, 1) := by decide +kernel
theorem d_M_markLately_68 : decode c_M_markLately 68 = .ok (.if_icmp .ge 31, 3) := by decide +kernel
theorem d_M_markLately_71 : decode c_M_markLately 71 = .ok (.iload_n 3, 1) := by decide +kernel
theorem d_M_markLately_72 : decode c_M_markLately 72 = .ok (.ifCond .eq 27, 3) := by decide +kernel
theorem d_M_markLately_75 : decode c_M_markLately 75 = .ok (.aload_n 0, 1) := by decide +kernel
theorem d_M_markLately_76 : decode c_M_markLately 76 = .ok (.getfield 39, 3) := by decide +kernel
theorem d_M_markLately_79 : decode c_M_markLately 79 = .ok (.iload 4, 2) := by decide +kernel
theorem d_M_markLately_81 : decode c_M_markLately 81 = .ok (.iload 4, 2) := by decide +kernel
theorem d_M_markLately_83 : decode c_M_markLately 83 = .ok (.iload_n 1, 1) := by decide +kernel
theorem d_M_markLately_84 : decode c_M_markLately 84 = .ok (.if_icmp .ne 7, 3) := by decide +kernel
theorem d_M_markLately_87 : decode c_M_markLately 87 = .ok (.iconst 1, 1) := by decide +kernel
theorem d_M_markLately_88 : decode c_M_markLately 88 = .ok (.goto 4, 3) := by decide +kernel
theorem d_M_markLately_91 : decode c_M_markLately 91 = .ok (.iconst 0, 1) := by decide +kernel
theorem d_M_markLately_92 : decode c_M_markLately 92 = .ok (.bastore, 1) := by decide +kernel
theorem d_M_markLately_93 : decode c_M_markLately 93 = .ok (.iinc 4 1, 3) := by decide +kernel
theorem d_M_markLately_96 : decode c_M_markLately 96 = .ok (.goto (-36), 3) := by decide +kernel
theorem d_M_markLately_99 : decode c_M_markLately 99 = .ok (.return_, 1) := by decide +kernel
theorem ey_M_tellUse : eY y_M_tellUse 1 = true := by decide +kernel
theorem d_M_tellUse_0 : decode c_M_tellUse 0 = .ok (.aload_n 0, 1) := by decide +kernel
theorem d_M_tellUse_1 : decode c_M_tellUse 1 = .ok (.dup, 1) := by decide +kernel
theorem d_M_tellUse_2 : decode c_M_tellUse 2 = .ok (.getfield 121, 3) := by decide +kernel
theorem d_M_tellUse_5 : decode c_M_tellUse 5 = .ok (.iconst 1, 1) := by decide +kernel
theorem d_M_tellUse_6 : decode c_M_tellUse 6 = .ok (.iadd, 1) := by decide +kernel
theorem d_M_tellUse_7 : decode c_M_tellUse 7 = .ok (.putfield 121, 3) := by decide +kernel
theorem d_M_tellUse_10 : decode c_M_tellUse 10 = .ok (.aload_n 0, 1) := by decide +kernel
theorem d_M_tellUse_11 : decode c_M_tellUse 11 = .ok (.getfield 30, 3) := by decide +kernel
theorem d_M_tellUse_14 : decode c_M_tellUse 14 = .ok (.iload_n 1, 1) := by decide +kernel
theorem d_M_tellUse_15 : decode c_M_tellUse 15 = .ok (.aload_n 0, 1) := by decide +kernel
theorem d_M_tellUse_16 : decode c_M_tellUse 16 = .ok (.getfield 121, 3) := by decide +kernel
theorem d_M_tellUse_19 : decode c_M_tellUse 19 = .ok (.iastore, 1) := by decide +kernel
theorem d_M_tellUse_20 : decode c_M_tellUse 20 = .ok (.aload_n 0, 1) := by decide +kernel
theorem d_M_tellUse_21 : decode c_M_tellUse 21 = .ok (.getfield 36, 3) := by decide +kernel
theorem d_M_tellUse_24 : decode c_M_tellUse 24 = .ok (.iload_n 1, 1) := by decide +kernel
theorem d_M_tellUse_25 : decode c_M_tellUse 25 = .ok (.dup2, 1) := by decide +kernel
theorem d_M_tellUse_26 : decode c_M_tellUse 26 = .ok (.iaload, 1) := by decide +kernel
theorem d_M_tellUse_27 : decode c_M_tellUse 27 = .ok (.iconst 1, 1) := by decide +kernel
theorem d_M_tellUse_28 : decode c_M_tellUse 28 = .ok (.iadd, 1) := by decide +kernel
theorem d_M_tellUse_29 : decode c_M_tellUse 29 = .ok (.iastore, 1) := by decide +kernel
theorem d_M_tellUse_30 : decode c_M_tellUse 30 = .ok (.aload_n 0, 1) := by decide +kernel
theorem d_M_tellUse_31 : decode c_M_tellUse 31 = .ok (.getfield 42, 3) := by decide +kernel
theorem d_M_tellUse_34 : decode c_M_tellUse 34 = .ok (.iload_n 1, 1) := by decide +kernel
theorem d_M_tellUse_35 : decode c_M_tellUse 35 = .ok (.iconst 0, 1) := by decide +kernel
theorem d_M_tellUse_36 : decode c_M_tellUse 36 = .ok (.iastore, 1) := by decide +kernel
theorem d_M_tellUse_37 : decode c_M_tellUse 37 = .ok (.aload_n 0, 1) := by decide +kernel
theorem d_M_tellUse_38 : decode c_M_tellUse 38 = .ok (.iload_n 1, 1) := by decide +kernel
theorem d_M_tellUse_39 : decode c_M_tellUse 39 = .ok (.invokevirtual 124, 3) := by decide +kernel
theorem d_M_tellUse_42 : decode c_M_tellUse 42 = .ok (.aload_n 0, 1) := by decide +kernel
theorem d_M_tellUse_43 : decode c_M_tellUse 43 = .ok (.getfield 98, 3) := by decide +kernel
theorem d_M_tellUse_46 : decode c_M_tellUse 46 = .ok (.bipush 7, 2) := by decide +kernel
theorem d_M_tellUse_48 : decode c_M_tellUse 48 = .ok (.if_icmp .ne 11, 3) := by decide +kernel
theorem d_M_tellUse_51 : decode c_M_tellUse 51 = .ok (.aload_n 0, 1) := by decide +kernel
theorem d_M_tellUse_52 : decode c_M_tellUse 52 = .ok (.iload_n 1, 1) := by decide +kernel
theorem d_M_tellUse_53 : decode c_M_tellUse 53 = .ok (.invokevirtual 128, 3) := by decide +kernel
theorem d_M_tellUse_56 : decode c_M_tellUse 56 = .ok (.goto 10, 3) := by decide +kernel
theorem d_M_tellUse_59 : decode c_M_tellUse 59 = .ok (.aload_n 0, 1) := by decide +kernel
theorem d_M_tellUse_60 : decode c_M_tellUse 60 = .ok (.getfield 39, 3) := by decide +kernel
theorem d_M_tellUse_63 : decode c_M_tellUse 63 = .ok (.iload_n 1, 1) := by decide +kernel
theorem d_M_tellUse_64 : decode c_M_tellUse 64 = .ok (.iconst 1, 1) := by decide +kernel
theorem d_M_tellUse_65 : decode c_M_tellUse 65 = .ok (.bastore, 1) := by decide +kernel
theorem d_M_tellUse_66 : decode c_M_tellUse 66 = .ok (.return_, 1) := by decide +kernel
theorem ey_M_tellComing : eY y_M_tellComing 1 = true := by decide +kernel
theorem d_M_tellComing_0 : decode c_M_tellComing 0 = .ok (.aload_n 0, 1) := by decide +kernel
theorem d_M_tellComing_1 : decode c_M_tellComing 1 = .ok (.dup, 1) := by decide +kernel
theorem d_M_tellComing_2 : decode c_M_tellComing 2 = .ok (.getfield 121, 3) := by decide +kernel
theorem d_M_tellComing_5 : decode c_M_tellComing 5 = .ok (.iconst 1, 1) := by decide +kernel
theorem d_M_tellComing_6 : decode c_M_tellComing 6 = .ok (.iadd, 1) := by decide +kernel
theorem d_M_tellComing_7 : decode c_M_tellComing 7 = .ok (.putfield 121, 3) := by decide +kernel
theorem d_M_tellComing_10 : decode c_M_tellComing 10 = .ok (.aload_n 0, 1) := by decide +kernel
theorem d_M_tellComing_11 : decode c_M_tellComing 11 = .ok (.getfield 30, 3) := by decide +kernel
theorem d_M_tellComing_14 : decode c_M_tellComing 14 = .ok (.iload_n 1, 1) := by decide +kernel
theorem d_M_tellComing_15 : decode c_M_tellComing 15 = .ok (.aload_n 0, 1) := by decide +kernel
theorem d_M_tellComing_16 : decode c_M_tellComing 16 = .ok (.getfield 98, 3) := by decide +kernel
theorem d_M_tellComing_19 : decode c_M_tellComing 19 = .ok (.bipush 9, 2) := by decide +kernel
theorem d_M_tellComing_21 : decode c_M_tellComing 21 = .ok (.if_icmp .ne 11, 3) := by decide +kernel
theorem d_M_tellComing_24 : decode c_M_tellComing 24 = .ok (.aload_n 0, 1) := by decide +kernel
theorem d_M_tellComing_25 : decode c_M_tellComing 25 = .ok (.getfield 121, 3) := by decide +kernel
theorem d_M_tellComing_28 : decode c_M_tellComing 28 = .ok (.ineg, 1) := by decide +kernel
theorem d_M_tellComing_29 : decode c_M_tellComing 29 = .ok (.goto 7, 3) := by decide +kernel
theorem d_M_tellComing_32 : decode c_M_tellComing 32 = .ok (.aload_n 0, 1) := by decide +kernel
theorem d_M_tellComing_33 : decode c_M_tellComing 33 = .ok (.getfield 121, 3) := by decide +kernel
theorem d_M_tellComing_36 : decode c_M_tellComing 36 = .ok (.iastore, 1) := by decide +kernel
theorem d_M_tellComing_37 : decode c_M_tellComing 37 = .ok (.aload_n 0, 1) := by decide +kernel
theorem d_M_tellComing_38 : decode c_M_tellComing 38 = .ok (.getfield 33, 3) := by decide +kernel
theorem d_M_tellComing_41 : decode c_M_tellComing 41 = .ok (.iload_n 1, 1) := by decide +kernel
theorem d_M_tellComing_42 : decode c_M_tellComing 42 = .ok (.aload_n 0, 1) := by decide +kernel
theorem d_M_tellComing_43 : decode c_M_tellComing 43 = .ok (.getfield 121, 3) := by decide +kernel
theorem d_M_tellComing_46 : decode c_M_tellComing 46 = .ok (.iastore, 1) := by decide +kernel
theorem d_M_tellComing_47 : decode c_M_tellComing 47 = .ok (.aload_n 0, 1) := by decide +kernel
theorem d_M_tellComing_48 : decode c_M_tellComing 48 = .ok (.getfield 36, 3) := by decide +kernel
theorem d_M_tellComing_51 : decode c_M_tellComing 51 = .ok (.iload_n 1, 1) := by decide +kernel
theorem d_M_tellComing_52 : decode c_M_tellComing 52 = .ok (.iconst 0, 1) := by decide +kernel
theorem d_M_tellComing_53 : decode c_M_tellComing 53 = .ok (.iastore, 1) := by decide +kernel
theorem d_M_tellComing_54 : decode c_M_tellComing 54 = .ok (.aload_n 0, 1) := by decide +kernel
theorem d_M_tellComing_55 : decode c_M_tellComing 55 = .ok (.getfield 42, 3) := by decide +kernel
theorem d_M_tellComing_58 : decode c_M_tellComing 58 = .ok (.iload_n 1, 1) := by decide +kernel
theorem d_M_tellComing_59 : decode c_M_tellComing 59 = .ok (.iconst 2, 1) := by decide +kernel
theorem d_M_tellComing_60 : decode c_M_tellComing 60 = .ok (.iastore, 1) := by decide +kernel
theorem d_M_tellComing_61 : decode c_M_tellComing 61 = .ok (.aload_n 0, 1) := by decide +kernel
theorem d_M_tellComing_62 : decode c_M_tellComing 62 = .ok (.iload_n 1, 1) := by decide +kernel
theorem d_M_tellComing_63 : decode c_M_tellComing 63 = .ok (.invokevirtual 124, 3) := by decide +kernel
theorem d_M_tellComing_66 : decode c_M_tellComing 66 = .ok (.aload_n 0, 1) := by decide +kernel
theorem d_M_tellComing_67 : decode c_M_tellComing 67 = .ok (.getfield 98, 3) := by decide +kernel
theorem d_M_tellComing_70 : decode c_M_tellComing 70 = .ok (.bipush 7, 2) := by decide +kernel
theorem d_M_tellComing_72 : decode c_M_tellComing 72 = .ok (.if_icmp .ne 11, 3) := by decide +kernel
theorem d_M_tellComing_75 : decode c_M_tellComing 75 = .ok (.aload_n 0, 1) := by decide +kernel
theorem d_M_tellComing_76 : decode c_M_tellComing 76 = .ok (.iload_n 1, 1) := by decide +kernel
theorem d_M_tellComing_77 : decode c_M_tellComing 77 = .ok (.invokevirtual 128, 3) := by decide +kernel
theorem d_M_tellComing_80 : decode c_M_tellComing 80 = .ok (.goto 10, 3) := by decide +kernel
theorem d_M_tellComing_83 : decode c_M_tellComing 83 = .ok (.aload_n 0, 1) := by decide +kernel
theorem d_M_tellComing_84 : decode c_M_tellComing 84 = .ok (.getfield 39, 3) := by decide +kernel
theorem d_M_tellComing_87 : decode c_M_tellComing 87 = .ok (.iload_n 1, 1) := by decide +kernel
theorem d_M_tellComing_88 : decode c_M_tellComing 88 = .ok (.iconst 0, 1) := by decide +kernel
theorem d_M_tellComing_89 : decode c_M_tellComing 89 = .ok (.bastore, 1) := by decide +kernel
theorem d_M_tellComing_90 : decode c_M_tellComing 90 = .ok (.return_, 1) := by decide +kernel
theorem ey_M_isBetter : eY y_M_isBetter 2 = true := by decide +kernel
theorem d_M_isBetter_0 : decode c_M_isBetter 0 = .ok (.aload_n 0, 1) := by decide +kernel
theorem d_M_isBetter_1 : decode c_M_isBetter 1 = .ok (.getfield 98, 3) := by decide +kernel
theorem d_M_isBetter_4 : decode c_M_isBetter 4 = .ok (.iconst 1, 1) := by decide +kernel
theorem d_M_isBetter_5 : decode c_M_isBetter 5 = .ok (.if_icmp .ne 24, 3) := by decide +kernel
theorem d_M_isBetter_8 : decode c_M_isBetter 8 = .ok (.aload_n 0, 1) := by decide +kernel
theorem d_M_isBetter_9 : decode c_M_isBetter 9 = .ok (.getfield 33, 3) := by decide +kernel
theorem d_M_isBetter_12 : decode c_M_isBetter 12 = .ok (.iload_n 1, 1) := by decide +kernel
theorem d_M_isBetter_13 : decode c_M_isBetter 13 = .ok (.iaload, 1) := by decide +kernel
theorem d_M_isBetter_14 : decode c_M_isBetter 14 = .ok (.aload_n 0, 1) := by decide +kernel
theorem d_M_isBetter_15 : decode c_M_isBetter 15 = .ok (.getfield 33, 3) := by decide +kernel
theorem d_M_isBetter_18 : decode c_M_isBetter 18 = .ok (.iload_n 2, 1) := by decide +kernel
theorem d_M_isBetter_19 : decode c_M_isBetter 19 = .ok (.iaload, 1) := by decide +kernel
theorem d_M_isBetter_20 : decode c_M_isBetter 20 = .ok (.if_icmp .ge 7, 3) := by decide +kernel
theorem d_M_isBetter_23 : decode c_M_isBetter 23 = .ok (.iconst 1, 1) := by decide +kernel
theorem d_M_isBetter_24 : decode c_M_isBetter 24 = .ok (.goto 4, 3) := by decide +kernel
theorem d_M_isBetter_27 : decode c_M_isBetter 27 = .ok (.iconst 0, 1) := by decide +kernel
theorem d_M_isBetter_28 : decode c_M_isBetter 28 = .ok (.ireturn, 1) := by decide +kernel
theorem d_M_isBetter_29 : decode c_M_isBetter 29 = .ok (.aload_n 0, 1) := by decide +kernel
theorem d_M_isBetter_30 : decode c_M_isBetter 30 = .ok (.getfield 98, 3) := by decide +kernel
theorem d_M_isBetter_33 : decode c_M_isBetter 33 = .ok (.iconst 2, 1) := by decide +kernel
theorem d_M_isBetter_34 : decode c_M_isBetter 34 = .ok (.if_icmp .ne 24, 3) := by decide +kernel
theorem d_M_isBetter_37 : decode c_M_isBetter 37 = .ok (.aload_n 0, 1) := by decide +kernel
theorem d_M_isBetter_38 : decode c_M_isBetter 38 = .ok (.getfield 30, 3) := by decide +kernel
theorem d_M_isBetter_41 : decode c_M_isBetter 41 = .ok (.iload_n 1, 1) := by decide +kernel
theorem d_M_isBetter_42 : decode c_M_isBetter 42 = .ok (.iaload, 1) := by decide +kernel
theorem d_M_isBetter_43 : decode c_M_isBetter 43 = .ok (.aload_n 0, 1) := by decide +kernel
theorem d_M_isBetter_44 : decode c_M_isBetter 44 = .ok (.getfield 30, 3) := by decide +kernel
theorem d_M_isBetter_47 : decode c_M_isBetter 47 = .ok (.iload_n 2, 1) := by decide +kernel
theorem d_M_isBetter_48 : decode c_M_isBetter 48 = .ok (.iaload, 1) := by decide +kernel
theorem d_M_isBetter_49 : decode c_M_isBetter 49 = .ok (.if_icmp .le 7, 3) := by decide +kernel
theorem d_M_isBetter_52 : decode c_M_isBetter 52 = .ok (.iconst 1, 1) := by decide +kernel
theorem d_M_isBetter_53 : decode c_M_isBetter 53 = .ok (.goto 4, 3) := by decide +kernel
theorem d_M_isBetter_56 : decode c_M_isBetter 56 = .ok (.iconst 0, 1) := by decide +kernel
theorem d_M_isBetter_57 : decode c_M_isBetter 57 = .ok (.ireturn, 1) := by decide +kernel
theorem d_M_isBetter_58 : decode c_M_isBetter 58 = .ok (.aload_n 0, 1) := by decide +kernel
theorem d_M_isBetter_59 : decode c_M_isBetter 59 = .ok (.getfield 98, 3) := by decide +kernel
theorem d_M_isBetter_62 : decode c_M_isBetter 62 = .ok (.iconst 4, 1) := by decide +kernel
theorem d_M_isBetter_63 : decode c_M_isBetter 63 = .ok (.if_icmp .ne 39, 3) := by decide +kernel
theorem d_M_isBetter_66 : decode c_M_isBetter 66 = .ok (.aload_n 0, 1) := by decide +kernel
theorem d_M_isBetter_67 : decode c_M_isBetter 67 = .ok (.getfield 36, 3) := by decide +kernel
theorem d_M_isBetter_70 : decode c_M_isBetter 70 = .ok (.iload_n 1, 1) := by decide +kernel
theorem d_M_isBetter_71 : decode c_M_isBetter 71 = .ok (.iaload, 1) := by decide +kernel
theorem d_M_isBetter_72 : decode c_M_isBetter 72 = .ok (.aload_n 0, 1) := by decide +kernel
theorem d_M_isBetter_73 : decode c_M_isBetter 73 = .ok (.getfield 36, 3) := by decide +kernel
theorem d_M_isBetter_76 : decode c_M_isBetter 76 = .ok (.iload_n 2, 1) := by decide +kernel
theorem d_M_isBetter_77 : decode c_M_isBetter 77 = .ok (.iaload, 1) := by decide +kernel
theorem d_M_isBetter_78 : decode c_M_isBetter 78 = .ok (.if_icmp .eq 24, 3) := by decide +kernel
theorem d_M_isBetter_81 : decode c_M_isBetter 81 = .ok (.aload_n 0, 1) := by decide +kernel
theorem d_M_isBetter_82 : decode c_M_isBetter 82 = .ok (.getfield 36, 3) := by decide +kernel
theorem d_M_isBetter_85 : decode c_M_isBetter 85 = .ok (.iload_n 1, 1) := by decide +kernel
theorem d_M_isBetter_86 : decode c_M_isBetter 86 = .ok (.iaload, 1) := by decide +kernel
theorem d_M_isBetter_87 : decode c_M_isBetter 87 = .ok (.aload_n 0, 1) := by decide +kernel
theorem d_M_isBetter_88 : decode c_M_isBetter 88 = .ok (.getfield 36, 3) := by decide +kernel
theorem d_M_isBetter_91 : decode c_M_isBetter 91 = .ok (.iload_n 2, 1) := by decide +kernel
theorem d_M_isBetter_92 : decode c_M_isBetter 92 = .ok (.iaload, 1) := by decide +kernel
theorem d_M_isBetter_93 : decode c_M_isBetter 93 = .ok (.if_icmp .ge 7, 3) := by decide +kernel
theorem d_M_isBetter_96 : decode c_M_isBetter 96 = .ok (.iconst 1, 1) := by decide +kernel
theorem d_M_isBetter_97 : decode c_M_isBetter 97 = .ok (.goto 4, 3) := by decide +kernel
theorem d_M_isBetter_100 : decode c_M_isBetter 100 = .ok (.iconst 0, 1) := by decide +kernel
theorem d_M_isBetter_101 : decode c_M_isBetter 101 = .ok (.ireturn, 1) := by decide +kernel
theorem d_M_isBetter_102 : decode c_M_isBetter 102 = .ok (.aload_n 0, 1) := by decide +kernel
theorem d_M_isBetter_103 : decode c_M_isBetter 103 = .ok (.getfield 30, 3) := by decide +kernel
theorem d_M_isBetter_106 : decode c_M_isBetter 106 = .ok (.iload_n 1, 1) := by decide +kernel
theorem d_M_isBetter_107 : decode c_M_isBetter 107 = .ok (.iaload, 1) := by decide +kernel
theorem d_M_isBetter_108 : decode c_M_isBetter 108 = .ok (.aload_n 0, 1) := by decide +kernel
theorem d_M_isBetter_109 : decode c_M_isBetter 109 = .ok (.getfield 30, 3) := by decide +kernel
theorem d_M_isBetter_112 : decode c_M_isBetter 112 = .ok (.iload_n 2, 1) := by decide +kernel
theorem d_M_isBetter_113 : decode c_M_isBetter 113 = .ok (.iaload, 1) := by decide +kernel
theorem d_M_isBetter_114 : decode c_M_isBetter 114 = .ok (.if_icmp .ge 7, 3) := by decide +kernel
theorem d_M_isBetter_117 : decode c_M_isBetter 117 = .ok (.iconst 1, 1) := by decide +kernel
theorem d_M_isBetter_118 : decode c_M_isBetter 118 = .ok (.goto 4, 3) := by decide +kernel
theorem d_M_isBetter_121 : decode c_M_isBetter 121 = .ok (.iconst 0, 1) := by decide +kernel
theorem d_M_isBetter_122 : decode c_M_isBetter 122 = .ok (.ireturn, 1) := by decide +kernel
theorem ey_M_best : eY y_M_best 1 = true := by decide +kernel
theorem d_M_best_0 : decode c_M_best 0 = .ok (.iconst (-1), 1) := by decide +kernel
theorem d_M_best_1 : decode c_M_best 1 = .ok (.istore_n 2, 1) := by decide +kernel
theorem d_M_best_2 : decode c_M_best 2 = .ok (.iload_n 1, 1) := by decide +kernel
theorem d_M_best_3 : decode c_M_best 3 = .ok (.istore_n 3, 1) := by decide +kernel
theorem d_M_best_4 : decode c_M_best 4 = .ok (.iload_n 3, 1) := by decide +kernel
theorem d_M_best_5 : decode c_M_best 5 = .ok (.iload_n 1, 1) := by decide +kernel
theorem d_M_best_6 : decode c_M_best 6 = .ok (.aload_n 0, 1) := by decide +kernel
theorem d_M_best_7 : decode c_M_best 7 = .ok (.getfield 95, 3) := by decide +kernel
theorem d_M_best_10 : decode c_M_best 10 = .ok (.iadd, 1) := by decide +kernel
theorem d_M_best_11 : decode c_M_best 11 = .ok (.if_icmp .ge 33, 3) := by decide +kernel
theorem d_M_best_14 : decode c_M_best 14 = .ok (.aload_n 0, 1) := by decide +kernel
theorem d_M_best_15 : decode c_M_best 15 = .ok (.getfield 27, 3) := by decide +kernel
theorem d_M_best_18 : decode c_M_best 18 = .ok (.iload_n 3, 1) := by decide +kernel
theorem d_M_best_19 : decode c_M_best 19 = .ok (.baload, 1) := by decide +kernel
theorem d_M_best_20 : decode c_M_best 20 = .ok (.ifCond .ne 18, 3) := by decide +kernel
theorem d_M_best_23 : decode c_M_best 23 = .ok (.iload_n 2, 1) := by decide +kernel
theorem d_M_best_24 : decode c_M_best 24 = .ok (.ifCond .lt 12, 3) := by decide +kernel
theorem d_M_best_27 : decode c_M_best 27 = .ok (.aload_n 0, 1) := by decide +kernel
theorem d_M_best_28 : decode c_M_best 28 = .ok (.iload_n 3, 1) := by decide +kernel
theorem d_M_best_29 : decode c_M_best 29 = .ok (.iload_n 2, 1) := by decide +kernel
theorem d_M_best_30 : decode c_M_best 30 = .ok (.invokevirtual 131, 3) := by decide +kernel
theorem d_M_best_33 : decode c_M_best 33 = .ok (.ifCond .eq 5, 3) := by decide +kernel
theorem d_M_best_36 : decode c_M_best 36 = .ok (.iload_n 3, 1) := by decide +kernel
theorem d_M_best_37 : decode c_M_best 37 = .ok (.istore_n 2, 1) := by decide +kernel
theorem d_M_best_38 : decode c_M_best 38 = .ok (.iinc 3 1, 3) := by decide +kernel
theorem d_M_best_41 : decode c_M_best 41 = .ok (.goto (-37), 3) := by decide +kernel
theorem d_M_best_44 : decode c_M_best 44 = .ok (.iload_n 2, 1) := by decide +kernel
theorem d_M_best_45 : decode c_M_best 45 = .ok (.ireturn, 1) := by decide +kernel
/-- sizes: sets, ways, rule, room -/
def MD (v : Nat → Int32) (S wd V kd : Nat) : Prop := v 1 = nI S ∧ v 2 = nI wd ∧ v 3 = nI kd ∧ v 4 = nI V ∧ (∃ k, k ≤ 4 ∧ S = 2 ^ k) ∧ (1 ≤ wd ∧ wd ≤ 8) ∧ V ≤ 4 ∧ kd < 10
theorem MD.S16 {v : Nat → Int32} {S wd V kd : Nat} (h : MD v S wd V kd) : 1 ≤ S ∧ S ≤ 16 := by
  obtain ⟨-, -, -, -, ⟨k, hk, rfl⟩, -⟩ := h
  rcases (by omega : k = 0 ∨ k = 1 ∨ k = 2 ∨ k = 3 ∨ k = 4) with rfl | rfl | rfl | rfl | rfl <;> decide
theorem MD.w8 {v : Nat → Int32} {S wd V kd : Nat} (h : MD v S wd V kd) : 1 ≤ wd ∧ wd ≤ 8 := h.2.2.2.2.2.1
theorem MD.lt {v : Nat → Int32} {S wd V kd : Nat} (h : MD v S wd V kd) (x : Int32) : sN S x < S := Nat.mod_lt _ h.S16.1
theorem MD.set {v : Nat → Int32} {S wd V kd : Nat} (h : MD v S wd V kd) (x : Int32) : x &&& (v 1 - 1) = nI (sN S x) := by
  obtain ⟨h1, -, -, -, ⟨k, hk, rfl⟩, -⟩ := h
  rw [h1]
  refine pk_and x k ?_
  rcases (by omega : k = 0 ∨ k = 1 ∨ k = 2 ∨ k = 3 ∨ k = 4) with rfl | rfl | rfl | rfl | rfl <;> decide +kernel
/-- the last one that has P; b is the last so far -/
def lstG (P : Nat → Bool) : Option Nat → Nat → Nat → Option Nat
  | b, _, 0 => b
  | b, k, m + 1 => lstG P (if P k then some k else b) (k + 1) m
def hasM (f : Nat → Nat → Int32) (x : Int32) (j : Nat) : Bool := !(f 7 j == 0) && (f 8 j == x)
/-- bits of the tree above a node -/
def taF (b0 : Nat) : Nat → Nat → (Nat → Int32) → (Nat → Int32)
  | 0, _, g => g
  | m + 1, node, g => if node ≤ 1 then g else taF b0 m (node / 2) (upd g (b0 + node / 2) (if node % 2 = 0 then 1 else 0))
/-- all of them -/
def alB (g : Nat → Int32) : Bool → Nat → Nat → Bool
  | b, _, 0 => b
  | b, k, m + 1 => alB g (b && !(g k == 0)) (k + 1) m
theorem alB_f (g : Nat → Int32) : ∀ k m, alB g false k m = false
  | _, 0 => rfl
  | k, m + 1 => by rw [alB, Bool.false_and]; exact alB_f g (k + 1) m
theorem alB_t (g : Nat → Int32) : ∀ k m, alB g true k m = (fst1 (fun j => g j == 0) k m).isNone
  | _, 0 => rfl
  | k, m + 1 => by
    rw [alB, fst1, Bool.true_and]
    by_cases h : (g k == 0) = true
    · rw [if_pos h, h]
      exact alB_f g _ _
    · have h : (g k == 0) = false := by simpa using h
      rw [if_neg (by rw [h]; decide), h]
      exact alB_t g (k + 1) m
/-- goes sooner, by last, came and uses -/
def gsG (num : Int32) (la ca us : Nat → Int32) (i j : Nat) : Bool :=
  if num = 1 then !decide (ca j ≤ ca i) else if num = 2 then !decide (la i ≤ la j) else if num = 4 ∧ ¬ us i = us j then !decide (us j ≤ us i) else !decide (la j ≤ la i)
/-- a use is told -/
def tuS (wd kd : Nat) (m : CS) (s w : Nat) : CS := (upd m.1 12 (m.1 12 + 1), up2 (up2 (up2 (up2 (up2 m.2 13 (upd (m.2 13) (8 * s + w) (m.1 12 + 1))) 15 (upd (m.2 15) (8 * s + w) (m.2 15 (8 * s + w) + 1))) 17 (upd (m.2 17) (8 * s + w) 0)) 19 (taF (8 * s) 4 (lvN wd + w) (m.2 19))) 16 (if kd = 7 then ltM (m.2 16) (8 * s) wd w else upd (m.2 16) (8 * s + w) 1))
/-- a coming is told -/
def tcS (wd kd : Nat) (m : CS) (s w : Nat) : CS := (upd m.1 12 (m.1 12 + 1), up2 (up2 (up2 (up2 (up2 (up2 m.2 13 (upd (m.2 13) (8 * s + w) (if kd = 9 then -(m.1 12 + 1) else m.1 12 + 1))) 14 (upd (m.2 14) (8 * s + w) (m.1 12 + 1))) 15 (upd (m.2 15) (8 * s + w) 0)) 17 (upd (m.2 17) (8 * s + w) 2)) 19 (taF (8 * s) 4 (lvN wd + w) (m.2 19))) 16 (if kd = 7 then ltM (m.2 16) (8 * s) wd w else upd (m.2 16) (8 * s + w) 0))
theorem oI_lt {o : Option Nat} (h : ∀ k, o = some k → k < 2 ^ 31) : oI o < 0 ↔ o = none := by
  cases o with
  | none => simp [oI]
  | some k =>
    simp only [oI, reduceCtorEq, iff_false]
    exact nI_pos (h k rfl)
section M1
variable {l : Launch} {G : EG} {a : Nat → Nat} {m : CS} {S wd V kd s w : Nat} {ws : va_W}
theorem k_M_thrown : Con l G y_M_thrown c_M_thrown 1 (some .int) (rz 0 0) [.ref (a 40)] (mF G a m.1 m.2) (DI (m.1 0) (mF G a m.1 m.2)) := by
  refine Con.of rfl rfl (fun X C E hR hl hnm => ?_)
  refine e_aload_n C d_M_thrown_0 rfl ?_
  refine e_get C 0 (k := 0) in_M g739 d_M_thrown_1 rfl rfl rfl rfl ?_
  exact e_iret C E d_M_thrown_4 (Nat.le_refl _) (Nat.le_refl _) rfl ⟨rfl, rfl⟩
theorem k_M_fail (q : Int32) : Con l G y_M_fail c_M_fail 2 (some .int) (rz 0 0) [.ref (a 40), .int q] (mF G a m.1 m.2) (DI 0 (mF G a (upd m.1 0 q) m.2)) := by
  refine Con.of rfl rfl (fun X C E hR hl hnm => ?_)
  refine e_aload_n C d_M_fail_0 rfl ?_
  refine e_iload_n C d_M_fail_1 rfl ?_
  refine e_put C 0 (k := 0) in_M tk_M nm_M g739 d_M_fail_2 rfl rfl rfl rfl rfl rfl rfl rfl ?_
  refine e_iconst C d_M_fail_5 (v := 0) (by decide) ?_
  exact e_iret C E d_M_fail_6 (Nat.le_refl _) (Nat.le_refl _) rfl ⟨rfl, rfl⟩
theorem k_M_within (x lo hi : Int32) : Con l G y_M_within c_M_within 3 (some .boolean) (rz 0 0) [.int x, .int lo, .int hi] ws (DI (bI (!decide (x < lo) && !decide (hi < x))) ws) := by
  refine Con.of rfl rfl (fun X C E hR hl hnm => ?_)
  refine e_iload_n C d_M_within_0 rfl ?_
  refine e_iload_n C d_M_within_1 rfl ?_
  refine e_icmp_lt C d_M_within_2 (tgt := 14) (by decide) (fun h2 => ?_) (fun h2 => ?_)
  · skip
    refine e_iconst C d_M_within_14 (v := 0) (by decide) ?_
    exact e_iret C E d_M_within_15 (Nat.le_refl _) (Nat.le_refl _) rfl ⟨by simp [h2, bI], rfl⟩
  · skip
    refine e_iload_n C d_M_within_5 rfl ?_
    refine e_iload_n C d_M_within_6 rfl ?_
    refine e_icmp_gt C d_M_within_7 (tgt := 14) (by decide) (fun h7 => ?_) (fun h7 => ?_)
    · skip
      refine e_iconst C d_M_within_14 (v := 0) (by decide) ?_
      exact e_iret C E d_M_within_15 (Nat.le_refl _) (Nat.le_refl _) rfl ⟨by simp [h7, bI], rfl⟩
    · skip
      refine e_iconst C d_M_within_10 (v := 1) (by decide) ?_
      refine e_goto C d_M_within_11 (tgt := 15) (by decide) ?_
      exact e_iret C E d_M_within_15 (Nat.le_refl _) (Nat.le_refl _) rfl ⟨by simp [h2, h7, bI], rfl⟩
set_option maxRecDepth 100000 in
theorem k_M_mode (t p : Bool) : Con l G y_M_mode c_M_mode 4 (some .int) (rz 0 0) [.ref (a 40), .int (bI t), .int (bI p)] (mF G a m.1 m.2) (DI ((if m.1 5 = 0 then 0 else 1) + (if m.1 6 = 0 then 0 else 2)) (mF G a (upd (upd (upd m.1 0 0) 5 (bI t)) 6 (bI p)) m.2)) := by
  refine Con.of rfl rfl (fun X C E hR hl hnm => ?_)
  have tail : ∀ y : Int32, y = ((if m.1 5 = 0 then 0 else 1) + (if m.1 6 = 0 then 0 else 2)) → EW X G 4 0 0 30 [(0, .ref (a 40)), (1, .int (bI t)), (2, .int (bI p))] [.int y] (mF G a (upd m.1 0 0) m.2) := by
    intro y hy
    rw [← hy] at E
    refine e_istore_n C d_M_mode_30 rfl ?_
    refine e_aload_n C d_M_mode_31 rfl ?_
    refine e_iload_n C d_M_mode_32 rfl ?_
    refine e_put C 0 (k := 5) in_M tk_M nm_M g744 d_M_mode_33 rfl rfl rfl rfl rfl rfl (narrow_bI t) (fits_bI t) ?_
    refine e_aload_n C d_M_mode_36 rfl ?_
    refine e_iload_n C d_M_mode_37 rfl ?_
    refine e_put C 0 (k := 6) in_M tk_M nm_M g745 d_M_mode_38 rfl rfl rfl rfl rfl rfl (narrow_bI p) (fits_bI p) ?_
    refine e_iload_n C d_M_mode_41 rfl ?_
    exact e_iret C E d_M_mode_42 (Nat.le_refl _) (Nat.le_refl _) rfl ⟨rfl, rfl⟩
  have mid : ∀ y : Int32, y = (if m.1 5 = 0 then 0 else 1) → EW X G 4 0 0 17 [(0, .ref (a 40)), (1, .int (bI t)), (2, .int (bI p))] [.int y] (mF G a (upd m.1 0 0) m.2) := by
    intro y hy
    refine e_aload_n C d_M_mode_17 rfl ?_
    refine e_get C 0 (k := 6) in_M g745 d_M_mode_18 rfl rfl rfl rfl ?_
    refine e_if_eq C d_M_mode_21 (tgt := 28) (by decide) (fun h21 => ?_) (fun h21 => ?_)
    · skip
      refine e_iconst C d_M_mode_28 (v := 0) (by decide) ?_
      refine e_iadd C d_M_mode_29 ?_
      exact tail _ (by rw [hy, if_pos (show m.1 6 = 0 from h21)])
    · skip
      refine e_iconst C d_M_mode_24 (v := 2) (by decide) ?_
      refine e_goto C d_M_mode_25 (tgt := 29) (by decide) ?_
      refine e_iadd C d_M_mode_29 ?_
      exact tail _ (by rw [hy, if_neg (show ¬ m.1 6 = 0 from h21)])
  refine e_aload_n C d_M_mode_0 rfl ?_
  refine e_iconst C d_M_mode_1 (v := 0) (by decide) ?_
  refine e_put C 0 (k := 0) in_M tk_M nm_M g739 d_M_mode_2 rfl rfl rfl rfl rfl rfl rfl rfl ?_
  refine e_aload_n C d_M_mode_5 rfl ?_
  refine e_get C 0 (k := 5) in_M g744 d_M_mode_6 rfl rfl rfl rfl ?_
  refine e_if_eq C d_M_mode_9 (tgt := 16) (by decide) (fun h9 => ?_) (fun h9 => ?_)
  · skip
    refine e_iconst C d_M_mode_16 (v := 0) (by decide) ?_
    exact e_lv2 (mid _ (by rw [if_pos (show m.1 5 = 0 from h9)])) rfl
  · skip
    refine e_iconst C d_M_mode_12 (v := 1) (by decide) ?_
    refine e_goto C d_M_mode_13 (tgt := 17) (by decide) ?_
    exact e_lv2 (mid _ (by rw [if_neg (show ¬ m.1 5 = 0 from h9)])) rfl
set_option maxRecDepth 100000 in
theorem k_M_ones {j : Nat} (hj : j < 16) : Con l G y_M_ones c_M_ones 1 (some .int) (rz 0 0) [.int (nI j)] ws (DI (nI (pop4 j)) ws) := by
  refine Con.of rfl rfl (fun X C E hR hl hn => ?_)
  refine e_iload_n C d_M_ones_0 rfl ?_
  refine e_iconst C d_M_ones_1 (v := 1) (by decide) ?_
  refine e_iand C d_M_ones_2 ?_
  refine e_iload_n C d_M_ones_3 rfl ?_
  refine e_iconst C d_M_ones_4 (v := 1) (by decide) ?_
  refine e_ishr C d_M_ones_5 ?_
  refine e_iconst C d_M_ones_6 (v := 1) (by decide) ?_
  refine e_iand C d_M_ones_7 ?_
  refine e_iadd C d_M_ones_8 ?_
  refine e_iload_n C d_M_ones_9 rfl ?_
  refine e_iconst C d_M_ones_10 (v := 2) (by decide) ?_
  refine e_ishr C d_M_ones_11 ?_
  refine e_iconst C d_M_ones_12 (v := 1) (by decide) ?_
  refine e_iand C d_M_ones_13 ?_
  refine e_iadd C d_M_ones_14 ?_
  refine e_iload_n C d_M_ones_15 rfl ?_
  refine e_iconst C d_M_ones_16 (v := 3) (by decide) ?_
  refine e_ishr C d_M_ones_17 ?_
  refine e_iconst C d_M_ones_18 (v := 1) (by decide) ?_
  refine e_iand C d_M_ones_19 ?_
  refine e_iadd C d_M_ones_20 ?_
  refine e_top (y := nI (pop4 j)) ?_ ?_
  · clear E C hR hl hn X
    revert j
    decide +kernel
  exact e_iret C E d_M_ones_21 (Nat.le_refl _) (Nat.le_refl _) rfl ⟨rfl, rfl⟩
theorem k_M_setOf (h : MD m.1 S wd V kd) (x : Int32) : Con l G y_M_setOf c_M_setOf 2 (some .int) (rz 0 0) [.ref (a 40), .int x] (mF G a m.1 m.2) (DI (nI (sN S x)) (mF G a m.1 m.2)) := by
  refine Con.of rfl rfl (fun X C E hR hl hnm => ?_)
  refine e_iload_n C d_M_setOf_0 rfl ?_
  refine e_aload_n C d_M_setOf_1 rfl ?_
  refine e_get C 0 (k := 1) in_M g740 d_M_setOf_2 rfl rfl rfl rfl ?_
  refine e_iconst C d_M_setOf_5 (v := 1) (by decide) ?_
  refine e_isub C d_M_setOf_6 ?_
  refine e_iand C d_M_setOf_7 ?_
  exact e_iret C E d_M_setOf_8 (Nat.le_refl _) (Nat.le_refl _) rfl ⟨congrArg (fun z => some (Value.int z)) (h.set x), rfl⟩
set_option maxRecDepth 100000 in
theorem k_M_find (h : MD m.1 S wd V kd) (x : Int32) : Con l G y_M_find c_M_find 5 (some .int) (rz 1 21) [.ref (a 40), .int x] (mF G a m.1 m.2) (DI (oI (lstG (hasM m.2 x) none (8 * sN S x) wd)) (mF G a m.1 m.2)) := by
  refine Con.of rfl rfl (fun X C E hR hl hnm => ?_)
  have hS := h.S16
  have hw8 := h.w8
  have hs := h.lt x
  refine e_iconst C d_M_find_0 (v := (-1)) (by decide) ?_
  refine e_istore_n C d_M_find_1 rfl ?_
  refine e_bipush C d_M_find_2 (v := nI 8) (by decide) ?_
  refine e_aload_n C d_M_find_4 rfl ?_
  refine e_iload_n C d_M_find_5 rfl ?_
  refine e_cVi C hR 0 (k_M_setOf h x) g878 g14 g875 g877 (gt_sel 15 (by decide +kernel) (by decide +kernel)) d_M_find_6 rfl ey_M_setOf rfl rfl rfl rfl ⟨Nat.zero_le _, Nat.zero_le _⟩ ?_
  refine e_imul C d_M_find_9 ?_
  refine e_top (pk_mul _ _) ?_
  refine e_istore_n C d_M_find_10 rfl ?_
  refine e_iload_n C d_M_find_11 rfl ?_
  refine e_istore C d_M_find_12 rfl ?_
  generalize hb : 8 * sN S x = b0 at E ⊢
  have hb0 : b0 + 8 ≤ 128 := by omega
  have L : ∀ (q k : Nat) (b : Option Nat), k + q = b0 + wd → lstG (hasM m.2 x) b k q = lstG (hasM m.2 x) none b0 wd → EW X G 5 0 0 14 [(0, .ref (a 40)), (1, .int x), (2, .int (oI b)), (3, .int (nI b0)), (4, .int (nI k))] [] (mF G a m.1 m.2) := by
    intro q
    induction q with
    | zero =>
      intro k b hk hf
      have hf : b = _ := hf
      refine e_iload C d_M_find_14 rfl ?_
      refine e_iload_n C d_M_find_16 rfl ?_
      refine e_aload_n C d_M_find_17 rfl ?_
      refine e_get C 0 (k := 2) in_M g741 d_M_find_18 rfl rfl rfl rfl ?_
      refine e_top h.2.1 ?_
      refine e_iadd C d_M_find_21 ?_
      refine e_top (nI_add _ _) ?_
      refine e_icmp_ge C d_M_find_22 (tgt := 59) (by decide) (fun h22 => ?_) (fun h22 => ?_)
      · skip
        refine e_iload_n C d_M_find_59 rfl ?_
        exact e_iret C E d_M_find_60 (Nat.le_refl _) (Nat.le_refl _) rfl ⟨by rw [← hf], rfl⟩
      · exact absurd (nI_le (by omega) (by omega)) h22
    | succ q ih =>
      intro k b hk hf
      refine e_iload C d_M_find_14 rfl ?_
      refine e_iload_n C d_M_find_16 rfl ?_
      refine e_aload_n C d_M_find_17 rfl ?_
      refine e_get C 0 (k := 2) in_M g741 d_M_find_18 rfl rfl rfl rfl ?_
      refine e_top h.2.1 ?_
      refine e_iadd C d_M_find_21 ?_
      refine e_top (nI_add _ _) ?_
      refine e_icmp_ge C d_M_find_22 (tgt := 59) (by decide) (fun h22 => ?_) (fun h22 => ?_)
      · exact absurd h22 (nI_ge (by omega) (by omega))
      · skip
        refine e_aload_n C d_M_find_25 rfl ?_
        refine e_get C 0 (k := 7) in_M g746 d_M_find_26 rfl rfl rfl rfl ?_
        refine e_iload C d_M_find_29 rfl ?_
        refine e_zald C 1 1 d_M_find_31 rfl rfl k rfl (by omega) (by omega) ?_
        refine e_if_eq C d_M_find_32 (tgt := 51) (by decide) (fun h32 => ?_) (fun h32 => ?_)
        · have hh : hasM m.2 x k = false := by simp [hasM]; intro z; exact absurd h32 z
          refine e_iload_n C d_M_find_51 rfl ?_
          refine e_istore_n C d_M_find_52 rfl ?_
          refine e_iinc C d_M_find_53 rfl (nI_1 k) rfl ?_
          refine e_goto C d_M_find_56 (tgt := 14) (by decide) ?_
          exact e_lv2 (ih (k + 1) b (by omega) (by rw [← hf]; simp [lstG, hh])) rfl
        · skip
          refine e_aload_n C d_M_find_35 rfl ?_
          refine e_get C 0 (k := 8) in_M g747 d_M_find_36 rfl rfl rfl rfl ?_
          refine e_iload C d_M_find_39 rfl ?_
          refine e_iald C 2 0 d_M_find_41 rfl rfl k rfl (by omega) (by omega) ?_
          refine e_iload_n C d_M_find_42 rfl ?_
          refine e_icmp_ne C d_M_find_43 (tgt := 51) (by decide) (fun h43 => ?_) (fun h43 => ?_)
          · have hh : hasM m.2 x k = false := by simp [hasM]; intro _; exact h43
            refine e_iload_n C d_M_find_51 rfl ?_
            refine e_istore_n C d_M_find_52 rfl ?_
            refine e_iinc C d_M_find_53 rfl (nI_1 k) rfl ?_
            refine e_goto C d_M_find_56 (tgt := 14) (by decide) ?_
            exact e_lv2 (ih (k + 1) b (by omega) (by rw [← hf]; simp [lstG, hh])) rfl
          · have hh : hasM m.2 x k = true := by simp [hasM]; exact ⟨h32, h43⟩
            refine e_iload C d_M_find_46 rfl ?_
            refine e_goto C d_M_find_48 (tgt := 52) (by decide) ?_
            refine e_istore_n C d_M_find_52 rfl ?_
            refine e_iinc C d_M_find_53 rfl (nI_1 k) rfl ?_
            refine e_goto C d_M_find_56 (tgt := 14) (by decide) ?_
            exact e_lv2 (ih (k + 1) (some k) (by omega) (by rw [← hf]; simp [lstG, hh])) rfl
  exact e_lv2 (L wd b0 none rfl rfl) rfl
set_option maxRecDepth 100000 in
theorem k_M_findRow {z : Nat} (hz : m.1 21 = nI z) (hz4 : z ≤ 5) (x : Int32) : Con l G y_M_findRow c_M_findRow 4 (some .int) (rz 0 0) [.ref (a 40), .int x] (mF G a m.1 m.2) (DI (oI (lstG (fun k => m.2 22 k == x) none 0 z)) (mF G a m.1 m.2)) := by
  refine Con.of rfl rfl (fun X C E hR hl hnm => ?_)
  refine e_iconst C d_M_findRow_0 (v := (-1)) (by decide) ?_
  refine e_istore_n C d_M_findRow_1 rfl ?_
  refine e_iconst C d_M_findRow_2 (v := 0) (by decide) ?_
  refine e_istore_n C d_M_findRow_3 rfl ?_
  have L : ∀ (q k : Nat) (b : Option Nat), k + q = z → lstG (fun k => m.2 22 k == x) b k q = lstG (fun k => m.2 22 k == x) none 0 z → EW X G 4 0 0 4 [(0, .ref (a 40)), (1, .int x), (2, .int (oI b)), (3, .int (nI k))] [] (mF G a m.1 m.2) := by
    intro q
    induction q with
    | zero =>
      intro k b hk hf
      have hf : b = _ := hf
      refine e_iload_n C d_M_findRow_4 rfl ?_
      refine e_aload_n C d_M_findRow_5 rfl ?_
      refine e_get C 0 (k := 21) in_M g760 d_M_findRow_6 rfl rfl rfl rfl ?_
      refine e_top hz ?_
      refine e_icmp_ge C d_M_findRow_9 (tgt := 34) (by decide) (fun h9 => ?_) (fun h9 => ?_)
      · skip
        refine e_iload_n C d_M_findRow_34 rfl ?_
        exact e_iret C E d_M_findRow_35 (Nat.le_refl _) (Nat.le_refl _) rfl ⟨by rw [← hf], rfl⟩
      · exact absurd (nI_le (by omega) (by omega)) h9
    | succ q ih =>
      intro k b hk hf
      refine e_iload_n C d_M_findRow_4 rfl ?_
      refine e_aload_n C d_M_findRow_5 rfl ?_
      refine e_get C 0 (k := 21) in_M g760 d_M_findRow_6 rfl rfl rfl rfl ?_
      refine e_top hz ?_
      refine e_icmp_ge C d_M_findRow_9 (tgt := 34) (by decide) (fun h9 => ?_) (fun h9 => ?_)
      · exact absurd h9 (nI_ge (by omega) (by omega))
      · skip
        refine e_aload_n C d_M_findRow_12 rfl ?_
        refine e_get C 0 (k := 22) in_M g761 d_M_findRow_13 rfl rfl rfl rfl ?_
        refine e_iload_n C d_M_findRow_16 rfl ?_
        refine e_iald C 13 0 d_M_findRow_17 rfl rfl k rfl (by omega) (by omega) ?_
        refine e_iload_n C d_M_findRow_18 rfl ?_
        refine e_icmp_ne C d_M_findRow_19 (tgt := 26) (by decide) (fun h19 => ?_) (fun h19 => ?_)
        · have h19 : ¬ m.2 22 k = x := h19
          refine e_iload_n C d_M_findRow_26 rfl ?_
          refine e_istore_n C d_M_findRow_27 rfl ?_
          refine e_iinc C d_M_findRow_28 rfl (nI_1 k) rfl ?_
          refine e_goto C d_M_findRow_31 (tgt := 4) (by decide) ?_
          exact e_lv2 (ih (k + 1) b (by omega) (by rw [← hf]; simp [lstG, h19])) rfl
        · have h19 : m.2 22 k = x := h19
          refine e_iload_n C d_M_findRow_22 rfl ?_
          refine e_goto C d_M_findRow_23 (tgt := 27) (by decide) ?_
          refine e_istore_n C d_M_findRow_27 rfl ?_
          refine e_iinc C d_M_findRow_28 rfl (nI_1 k) rfl ?_
          refine e_goto C d_M_findRow_31 (tgt := 4) (by decide) ?_
          exact e_lv2 (ih (k + 1) (some k) (by omega) (by rw [← hf]; simp [lstG, h19])) rfl
  exact e_lv2 (L z 0 none (by omega) rfl) rfl
theorem k_M_treeSize (h : MD m.1 S wd V kd) : Con l G y_M_treeSize c_M_treeSize 1 (some .int) (rz 0 0) [.ref (a 40)] (mF G a m.1 m.2) (DI (nI (lvN wd)) (mF G a m.1 m.2)) := by
  refine Con.of rfl rfl (fun X C E hR hl hnm => ?_)
  have hw8 := h.w8
  refine e_aload_n C d_M_treeSize_0 rfl ?_
  refine e_get C 0 (k := 2) in_M g741 d_M_treeSize_1 rfl rfl rfl rfl ?_
  refine e_top h.2.1 ?_
  refine e_iconst C d_M_treeSize_4 (v := nI 1) (by decide) ?_
  refine e_icmp_ne C d_M_treeSize_5 (tgt := 12) (by decide) (fun h5 => ?_) (fun h5 => ?_)
  · rw [nI_eq (by omega) (by omega)] at h5
    refine e_aload_n C d_M_treeSize_12 rfl ?_
    refine e_get C 0 (k := 2) in_M g741 d_M_treeSize_13 rfl rfl rfl rfl ?_
    refine e_top h.2.1 ?_
    refine e_iconst C d_M_treeSize_16 (v := nI 2) (by decide) ?_
    refine e_icmp_ne C d_M_treeSize_17 (tgt := 24) (by decide) (fun h17 => ?_) (fun h17 => ?_)
    · rw [nI_eq (by omega) (by omega)] at h17
      refine e_aload_n C d_M_treeSize_24 rfl ?_
      refine e_get C 0 (k := 2) in_M g741 d_M_treeSize_25 rfl rfl rfl rfl ?_
      refine e_top h.2.1 ?_
      refine e_iconst C d_M_treeSize_28 (v := nI 5) (by decide) ?_
      refine e_icmp_ge C d_M_treeSize_29 (tgt := 36) (by decide) (fun h29 => ?_) (fun h29 => ?_)
      · rw [nI_leI (by omega) (by omega)] at h29
        refine e_bipush C d_M_treeSize_36 (v := 8) (by decide) ?_
        exact e_iret C E d_M_treeSize_38 (Nat.le_refl _) (Nat.le_refl _) rfl ⟨by rw [show lvN wd = 8 by simp only [lvN, if_neg (show ¬ wd ≤ 1 by omega), if_neg (show ¬ wd ≤ 2 by omega), if_neg (show ¬ wd ≤ 4 by omega)]]; rfl, rfl⟩
      · rw [nI_leI (by omega) (by omega)] at h29
        refine e_iconst C d_M_treeSize_32 (v := 4) (by decide) ?_
        refine e_goto C d_M_treeSize_33 (tgt := 38) (by decide) ?_
        exact e_iret C E d_M_treeSize_38 (Nat.le_refl _) (Nat.le_refl _) rfl ⟨by rw [show lvN wd = 4 by simp only [lvN, if_neg (show ¬ wd ≤ 1 by omega), if_neg (show ¬ wd ≤ 2 by omega), if_pos (show wd ≤ 4 by omega)]]; rfl, rfl⟩
    · rw [nI_eq (by omega) (by omega)] at h17
      subst h17
      refine e_iconst C d_M_treeSize_20 (v := 2) (by decide) ?_
      refine e_goto C d_M_treeSize_21 (tgt := 38) (by decide) ?_
      exact e_iret C E d_M_treeSize_38 (Nat.le_refl _) (Nat.le_refl _) rfl ⟨rfl, rfl⟩
  · rw [nI_eq (by omega) (by omega)] at h5
    subst h5
    refine e_iconst C d_M_treeSize_8 (v := 1) (by decide) ?_
    refine e_goto C d_M_treeSize_9 (tgt := 38) (by decide) ?_
    exact e_iret C E d_M_treeSize_38 (Nat.le_refl _) (Nat.le_refl _) rfl ⟨rfl, rfl⟩
theorem lvN_8 (wd : Nat) : 1 ≤ lvN wd ∧ lvN wd ≤ 8 := by
  unfold lvN
  repeat' split
  all_goals omega
theorem lvN_ge {wd : Nat} (h : wd ≤ 8) : wd ≤ lvN wd := by
  unfold lvN
  repeat' split
  all_goals omega
set_option maxRecDepth 100000 in
theorem k_M_turnAway (h : MD m.1 S wd V kd) (hs : s < 16) (hw : w < wd) : Con l G y_M_turnAway c_M_turnAway 5 none (rz 1 20) [.ref (a 40), .int (nI (8 * s + w))] (mF G a m.1 m.2) (DV (mF G a m.1 (up2 m.2 19 (taF (8 * s) 4 (lvN wd + w) (m.2 19))))) := by
  refine Con.of rfl rfl (fun X C E hR hl hnm => ?_)
  have hw8 := h.w8
  have hP := lvN_8 wd
  have hPw := lvN_ge hw8.2
  refine e_aload_n C d_M_turnAway_0 rfl ?_
  refine e_cVi C hR 0 (k_M_treeSize h) g902 g14 g899 g901 (gt_sel 21 (by decide +kernel) (by decide +kernel)) d_M_turnAway_1 rfl ey_M_treeSize rfl rfl rfl rfl ⟨Nat.zero_le _, Nat.zero_le _⟩ ?_
  refine e_istore_n C d_M_turnAway_4 rfl ?_
  refine e_iload_n C d_M_turnAway_5 rfl ?_
  refine e_bipush C d_M_turnAway_6 (v := nI 8) (by decide) ?_
  refine e_idiv C d_M_turnAway_8 (nI_ne0 (by omega) (by omega)) ?_
  refine e_top (y := nI s) (by rw [pk_div (by omega) (by omega) (by omega)]; congr 1; omega) ?_
  refine e_bipush C d_M_turnAway_9 (v := nI 8) (by decide) ?_
  refine e_imul C d_M_turnAway_11 ?_
  refine e_top (y := nI (8 * s)) (by rw [pk_mul]; congr 1; omega) ?_
  refine e_istore_n C d_M_turnAway_12 rfl ?_
  refine e_iload_n C d_M_turnAway_13 rfl ?_
  refine e_iload_n C d_M_turnAway_14 rfl ?_
  refine e_bipush C d_M_turnAway_15 (v := nI 8) (by decide) ?_
  refine e_irem C d_M_turnAway_17 (nI_ne0 (by omega) (by omega)) ?_
  refine e_top (y := nI w) (by rw [pk_rem (by omega) (by omega) (by omega)]; congr 1; omega) ?_
  refine e_iadd C d_M_turnAway_18 ?_
  refine e_top (nI_add _ _) ?_
  refine e_istore C d_M_turnAway_19 rfl ?_
  have L : ∀ (q node : Nat) (g : Nat → Int32), node < 2 ^ q → q ≤ 4 → taF (8 * s) q node g = taF (8 * s) 4 (lvN wd + w) (m.2 19) → EW X G 5 0 0 21 [(0, .ref (a 40)), (3, .int (nI (8 * s))), (4, .int (nI node))] [] (mF G a m.1 (up2 m.2 19 g)) := by
    intro q
    induction q with
    | zero =>
      intro node g hnd hq hf
      have hf : g = _ := hf
      refine e_iload C d_M_turnAway_21 rfl ?_
      refine e_iconst C d_M_turnAway_23 (v := nI 1) (by decide) ?_
      refine e_icmp_le C d_M_turnAway_24 (tgt := 59) (by decide) (fun h24 => ?_) (fun h24 => ?_)
      · skip
        exact e_vret C E d_M_turnAway_59 (Nat.le_refl _) (Nat.le_refl _) ⟨rfl, by rw [← hf]⟩
      · rw [nI_leI (by omega) (by omega)] at h24
        omega
    | succ q ih =>
      intro node g hnd hq hf
      have h16 : 2 ^ (q + 1) ≤ 2 ^ 4 := Nat.pow_le_pow_right (by omega) hq
      have h2m : 2 ^ (q + 1) = 2 * 2 ^ q := by rw [Nat.pow_succ]; omega
      refine e_iload C d_M_turnAway_21 rfl ?_
      refine e_iconst C d_M_turnAway_23 (v := nI 1) (by decide) ?_
      refine e_icmp_le C d_M_turnAway_24 (tgt := 59) (by decide) (fun h24 => ?_) (fun h24 => ?_)
      · rw [nI_leI (by omega) (by omega)] at h24
        exact e_vret C E d_M_turnAway_59 (Nat.le_refl _) (Nat.le_refl _) ⟨rfl, by rw [← hf]; simp only [taF, if_pos h24]⟩
      · rw [nI_leI (by omega) (by omega)] at h24
        rw [taF, if_neg h24] at hf
        refine e_aload_n C d_M_turnAway_27 rfl ?_
        refine e_get C 0 (k := 19) in_M g758 d_M_turnAway_28 rfl rfl rfl rfl ?_
        refine e_iload_n C d_M_turnAway_31 rfl ?_
        refine e_iload C d_M_turnAway_32 rfl ?_
        refine e_iconst C d_M_turnAway_34 (v := nI 2) (by decide) ?_
        refine e_idiv C d_M_turnAway_35 (nI_ne0 (by omega) (by omega)) ?_
        refine e_top (pk_div (by omega) (by omega) (by omega)) ?_
        refine e_iadd C d_M_turnAway_36 ?_
        refine e_top (nI_add _ _) ?_
        refine e_iload C d_M_turnAway_37 rfl ?_
        refine e_iconst C d_M_turnAway_39 (v := nI 2) (by decide) ?_
        refine e_irem C d_M_turnAway_40 (nI_ne0 (by omega) (by omega)) ?_
        refine e_top (pk_rem (by omega) (by omega) (by omega)) ?_
        refine e_if_ne C d_M_turnAway_41 (tgt := 48) (by decide) (fun h41 => ?_) (fun h41 => ?_)
        · have hpar : ¬ node % 2 = 0 := fun z => h41 (by rw [z]; rfl)
          rw [if_neg hpar] at hf
          refine e_iconst C d_M_turnAway_48 (v := 0) (by decide) ?_
          refine e_zast C 12 1 d_M_turnAway_49 rfl rfl _ rfl (by omega) (by omega) rfl ?_
          refine e_iload C d_M_turnAway_50 rfl ?_
          refine e_iconst C d_M_turnAway_52 (v := nI 2) (by decide) ?_
          refine e_idiv C d_M_turnAway_53 (nI_ne0 (by omega) (by omega)) ?_
          refine e_top (pk_div (by omega) (by omega) (by omega)) ?_
          refine e_istore C d_M_turnAway_54 rfl ?_
          refine e_goto C d_M_turnAway_56 (tgt := 21) (by decide) ?_
          exact e_lv2 (ih (node / 2) _ (by omega) (by omega) hf) rfl
        · have hpar : node % 2 = 0 := by
            rcases Nat.eq_zero_or_pos (node % 2) with z | z
            · exact z
            · exact absurd h41 (nI_ne0 z (by omega))
          rw [if_pos hpar] at hf
          refine e_iconst C d_M_turnAway_44 (v := 1) (by decide) ?_
          refine e_goto C d_M_turnAway_45 (tgt := 49) (by decide) ?_
          refine e_zast C 12 1 d_M_turnAway_49 rfl rfl _ rfl (by omega) (by omega) rfl ?_
          refine e_iload C d_M_turnAway_50 rfl ?_
          refine e_iconst C d_M_turnAway_52 (v := nI 2) (by decide) ?_
          refine e_idiv C d_M_turnAway_53 (nI_ne0 (by omega) (by omega)) ?_
          refine e_top (pk_div (by omega) (by omega) (by omega)) ?_
          refine e_istore C d_M_turnAway_54 rfl ?_
          refine e_goto C d_M_turnAway_56 (tgt := 21) (by decide) ?_
          exact e_lv2 (ih (node / 2) _ (by omega) (by omega) hf) rfl
  refine e_eq (ws' := mF G a m.1 (up2 m.2 19 (m.2 19))) rfl ?_
  exact e_lv2 (L 4 (lvN wd + w) (m.2 19) (by omega) (Nat.le_refl _) rfl) rfl
set_option maxRecDepth 100000 in
theorem k_M_markLately (h : MD m.1 S wd V kd) (hs : s < 16) (hw : w < wd) : Con l G y_M_markLately c_M_markLately 5 none (rz 0 0) [.ref (a 40), .int (nI (8 * s + w))] (mF G a m.1 m.2) (DV (mF G a m.1 (up2 m.2 16 (ltM (m.2 16) (8 * s) wd w)))) := by
  refine Con.of rfl rfl (fun X C E hR hl hnm => ?_)
  have hw8 := h.w8
  unfold ltM at E
  refine e_iload_n C d_M_markLately_0 rfl ?_
  refine e_bipush C d_M_markLately_1 (v := nI 8) (by decide) ?_
  refine e_idiv C d_M_markLately_3 (nI_ne0 (by omega) (by omega)) ?_
  refine e_top (y := nI s) (by rw [pk_div (by omega) (by omega) (by omega)]; congr 1; omega) ?_
  refine e_bipush C d_M_markLately_4 (v := nI 8) (by decide) ?_
  refine e_imul C d_M_markLately_6 ?_
  refine e_top (y := nI (8 * s)) (by rw [pk_mul]; congr 1; omega) ?_
  refine e_istore_n C d_M_markLately_7 rfl ?_
  refine e_aload_n C d_M_markLately_8 rfl ?_
  refine e_get C 0 (k := 16) in_M g755 d_M_markLately_9 rfl rfl rfl rfl ?_
  refine e_iload_n C d_M_markLately_12 rfl ?_
  refine e_iconst C d_M_markLately_13 (v := 1) (by decide) ?_
  refine e_zast C 9 1 d_M_markLately_14 rfl rfl (8 * s + w) rfl (by omega) (by omega) rfl ?_
  refine e_iconst C d_M_markLately_15 (v := 1) (by decide) ?_
  refine e_istore_n C d_M_markLately_16 rfl ?_
  refine e_iload_n C d_M_markLately_17 rfl ?_
  refine e_istore C d_M_markLately_18 rfl ?_
  have hb0 : 8 * s + 8 ≤ 128 := by omega
  generalize hb : 8 * s = b0 at E hb0 ⊢
  generalize hg : upd (m.2 16) (b0 + w) 1 = g at E ⊢
  refine e_eq (ws' := mF G a m.1 (up2 m.2 16 g)) (by rw [← hg]; rfl) ?_
  have fin : ∀ (b : Bool), b = (fst1 (fun j => g j == 0) b0 wd).isNone → EW X G 5 0 0 57 [(0, .ref (a 40)), (1, .int (nI (b0 + w))), (2, .int (nI b0)), (3, .int (bI b))] [] (mF G a m.1 (up2 m.2 16 g)) := by
    intro b hbn
    refine e_iload_n C d_M_markLately_57 rfl ?_
    refine e_istore C d_M_markLately_58 rfl ?_
    cases b with
    | false =>
      rw [if_pos (show (fst1 (fun j => g j == 0) b0 wd).isSome = true by cases hq : fst1 (fun j => g j == 0) b0 wd with
        | none => rw [hq] at hbn; cases hbn
        | some _ => rfl)] at E
      refine e_iload C d_M_markLately_60 rfl ?_
      refine e_iload_n C d_M_markLately_62 rfl ?_
      refine e_aload_n C d_M_markLately_63 rfl ?_
      refine e_get C 0 (k := 2) in_M g741 d_M_markLately_64 rfl rfl rfl rfl ?_
      refine e_top h.2.1 ?_
      refine e_iadd C d_M_markLately_67 ?_
      refine e_top (nI_add _ _) ?_
      refine e_icmp_ge C d_M_markLately_68 (tgt := 99) (by decide) (fun h68 => ?_) (fun h68 => ?_)
      · skip
        exact e_vret C E d_M_markLately_99 (Nat.le_refl _) (Nat.le_refl _) ⟨rfl, rfl⟩
      · skip
        refine e_iload_n C d_M_markLately_71 rfl ?_
        refine e_if_eq C d_M_markLately_72 (tgt := 99) (by decide) (fun h72 => ?_) (fun h72 => ?_)
        · skip
          exact e_vret C E d_M_markLately_99 (Nat.le_refl _) (Nat.le_refl _) ⟨rfl, rfl⟩
        · exact absurd rfl h72
    | true =>
      rw [if_neg (show ¬ (fst1 (fun j => g j == 0) b0 wd).isSome = true by cases hq : fst1 (fun j => g j == 0) b0 wd with
        | none => decide
        | some _ => rw [hq] at hbn; cases hbn)] at E
      have L2 : ∀ q k : Nat, k + q = b0 + wd → b0 ≤ k → EW X G 5 0 0 60 [(0, .ref (a 40)), (1, .int (nI (b0 + w))), (2, .int (nI b0)), (3, .int 1), (4, .int (nI k))] [] (mF G a m.1 (up2 m.2 16 (onl g (b0 + w) b0 k))) := by
        intro q
        induction q with
        | zero =>
          intro k hk hk2
          obtain rfl : k = b0 + wd := by omega
          refine e_iload C d_M_markLately_60 rfl ?_
          refine e_iload_n C d_M_markLately_62 rfl ?_
          refine e_aload_n C d_M_markLately_63 rfl ?_
          refine e_get C 0 (k := 2) in_M g741 d_M_markLately_64 rfl rfl rfl rfl ?_
          refine e_top h.2.1 ?_
          refine e_iadd C d_M_markLately_67 ?_
          refine e_top (nI_add _ _) ?_
          refine e_icmp_ge C d_M_markLately_68 (tgt := 99) (by decide) (fun h68 => ?_) (fun h68 => ?_)
          · skip
            exact e_vret C E d_M_markLately_99 (Nat.le_refl _) (Nat.le_refl _) ⟨rfl, rfl⟩
          · exact absurd (nI_le (Nat.le_refl _) (by omega)) h68
        | succ q ih =>
          intro k hk hk2
          have ih := ih (k + 1) (by omega) (by omega)
          rw [onl_s hk2] at ih
          refine e_iload C d_M_markLately_60 rfl ?_
          refine e_iload_n C d_M_markLately_62 rfl ?_
          refine e_aload_n C d_M_markLately_63 rfl ?_
          refine e_get C 0 (k := 2) in_M g741 d_M_markLately_64 rfl rfl rfl rfl ?_
          refine e_top h.2.1 ?_
          refine e_iadd C d_M_markLately_67 ?_
          refine e_top (nI_add _ _) ?_
          refine e_icmp_ge C d_M_markLately_68 (tgt := 99) (by decide) (fun h68 => ?_) (fun h68 => ?_)
          · exact absurd h68 (nI_ge (by omega) (by omega))
          · skip
            refine e_iload_n C d_M_markLately_71 rfl ?_
            refine e_if_eq C d_M_markLately_72 (tgt := 99) (by decide) (fun h72 => ?_) (fun h72 => ?_)
            · exact absurd h72 (by decide)
            · skip
              refine e_aload_n C d_M_markLately_75 rfl ?_
              refine e_get C 0 (k := 16) in_M g755 d_M_markLately_76 rfl rfl rfl rfl ?_
              refine e_iload C d_M_markLately_79 rfl ?_
              refine e_iload C d_M_markLately_81 rfl ?_
              refine e_iload_n C d_M_markLately_83 rfl ?_
              refine e_icmp_ne C d_M_markLately_84 (tgt := 91) (by decide) (fun h84 => ?_) (fun h84 => ?_)
              · rw [nI_eq (by omega) (by omega)] at h84
                rw [if_neg h84] at ih
                refine e_iconst C d_M_markLately_91 (v := 0) (by decide) ?_
                refine e_zast C 9 1 d_M_markLately_92 rfl rfl k rfl (by omega) (by omega) rfl ?_
                refine e_iinc C d_M_markLately_93 rfl (nI_1 k) rfl ?_
                refine e_goto C d_M_markLately_96 (tgt := 60) (by decide) ?_
                exact e_lv2 ih rfl
              · rw [nI_eq (by omega) (by omega)] at h84
                rw [if_pos h84] at ih
                refine e_iconst C d_M_markLately_87 (v := 1) (by decide) ?_
                refine e_goto C d_M_markLately_88 (tgt := 92) (by decide) ?_
                refine e_zast C 9 1 d_M_markLately_92 rfl rfl k rfl (by omega) (by omega) rfl ?_
                refine e_iinc C d_M_markLately_93 rfl (nI_1 k) rfl ?_
                refine e_goto C d_M_markLately_96 (tgt := 60) (by decide) ?_
                exact e_lv2 ih rfl
      refine e_eq (ws' := mF G a m.1 (up2 m.2 16 (onl g (b0 + w) b0 b0))) (by rw [onl_0]) ?_
      exact e_lv2 (L2 wd b0 rfl (Nat.le_refl _)) rfl
  have L : ∀ (q k : Nat) (b : Bool), k + q = b0 + wd → b0 ≤ k → alB g b k q = alB g true b0 wd → EW X G 5 0 0 20 [(0, .ref (a 40)), (1, .int (nI (b0 + w))), (2, .int (nI b0)), (3, .int (bI b)), (4, .int (nI k))] [] (mF G a m.1 (up2 m.2 16 g)) := by
    intro q
    induction q with
    | zero =>
      intro k b hk hk2 hf
      have hf : b = _ := hf
      refine e_iload C d_M_markLately_20 rfl ?_
      refine e_iload_n C d_M_markLately_22 rfl ?_
      refine e_aload_n C d_M_markLately_23 rfl ?_
      refine e_get C 0 (k := 2) in_M g741 d_M_markLately_24 rfl rfl rfl rfl ?_
      refine e_top h.2.1 ?_
      refine e_iadd C d_M_markLately_27 ?_
      refine e_top (nI_add _ _) ?_
      refine e_icmp_ge C d_M_markLately_28 (tgt := 57) (by decide) (fun h28 => ?_) (fun h28 => ?_)
      · exact e_lv2 (fin b (by rw [hf, alB_t])) rfl
      · exact absurd (nI_le (by omega) (by omega)) h28
    | succ q ih =>
      intro k b hk hk2 hf
      refine e_iload C d_M_markLately_20 rfl ?_
      refine e_iload_n C d_M_markLately_22 rfl ?_
      refine e_aload_n C d_M_markLately_23 rfl ?_
      refine e_get C 0 (k := 2) in_M g741 d_M_markLately_24 rfl rfl rfl rfl ?_
      refine e_top h.2.1 ?_
      refine e_iadd C d_M_markLately_27 ?_
      refine e_top (nI_add _ _) ?_
      refine e_icmp_ge C d_M_markLately_28 (tgt := 57) (by decide) (fun h28 => ?_) (fun h28 => ?_)
      · exact absurd h28 (nI_ge (by omega) (by omega))
      · skip
        refine e_iload_n C d_M_markLately_31 rfl ?_
        refine e_if_eq C d_M_markLately_32 (tgt := 49) (by decide) (fun h32 => ?_) (fun h32 => ?_)
        · rw [bI_0] at h32
          subst h32
          refine e_iconst C d_M_markLately_49 (v := 0) (by decide) ?_
          refine e_istore_n C d_M_markLately_50 rfl ?_
          refine e_iinc C d_M_markLately_51 rfl (nI_1 k) rfl ?_
          refine e_goto C d_M_markLately_54 (tgt := 20) (by decide) ?_
          exact e_lv2 (ih (k + 1) false (by omega) (by omega) (by rw [← hf]; simp [alB])) rfl
        · rw [bI_n] at h32
          subst h32
          refine e_aload_n C d_M_markLately_35 rfl ?_
          refine e_get C 0 (k := 16) in_M g755 d_M_markLately_36 rfl rfl rfl rfl ?_
          refine e_iload C d_M_markLately_39 rfl ?_
          refine e_zald C 9 1 d_M_markLately_41 rfl rfl k rfl (by omega) (by omega) ?_
          refine e_if_eq C d_M_markLately_42 (tgt := 49) (by decide) (fun h42 => ?_) (fun h42 => ?_)
          · have hh : (g k == 0) = true := by simp; exact h42
            refine e_iconst C d_M_markLately_49 (v := 0) (by decide) ?_
            refine e_istore_n C d_M_markLately_50 rfl ?_
            refine e_iinc C d_M_markLately_51 rfl (nI_1 k) rfl ?_
            refine e_goto C d_M_markLately_54 (tgt := 20) (by decide) ?_
            exact e_lv2 (ih (k + 1) false (by omega) (by omega) (by rw [← hf, alB, hh]; rfl)) rfl
          · have hh : (g k == 0) = false := by simp; exact h42
            refine e_iconst C d_M_markLately_45 (v := 1) (by decide) ?_
            refine e_goto C d_M_markLately_46 (tgt := 50) (by decide) ?_
            refine e_istore_n C d_M_markLately_50 rfl ?_
            refine e_iinc C d_M_markLately_51 rfl (nI_1 k) rfl ?_
            refine e_goto C d_M_markLately_54 (tgt := 20) (by decide) ?_
            exact e_lv2 (ih (k + 1) true (by omega) (by omega) (by rw [← hf, alB, hh]; rfl)) rfl
  exact e_lv2 (L wd b0 true rfl (Nat.le_refl _) rfl) rfl
theorem MD.of {v v' : Nat → Int32} {S wd V kd : Nat} (h : MD v S wd V kd) (h1 : v' 1 = v 1) (h2 : v' 2 = v 2) (h3 : v' 3 = v 3) (h4 : v' 4 = v 4) : MD v' S wd V kd := ⟨h1.trans h.1, h2.trans h.2.1, h3.trans h.2.2.1, h4.trans h.2.2.2.1, h.2.2.2.2⟩
set_option maxRecDepth 100000 in
theorem k_M_tellUse (h : MD m.1 S wd V kd) (hs : s < 16) (hw : w < wd) : Con l G y_M_tellUse c_M_tellUse 2 none (rz 2 44) [.ref (a 40), .int (nI (8 * s + w))] (mF G a m.1 m.2) (DV (mF G a (tuS wd kd m s w).1 (tuS wd kd m s w).2)) := by
  refine Con.of rfl rfl (fun X C E hR hl hnm => ?_)
  have hw8 := h.w8
  have hkd := h.2.2.2.2.2.2.2
  have h2 : MD (upd m.1 12 (m.1 12 + 1)) S wd V kd := h
  unfold tuS at E
  refine e_aload_n C d_M_tellUse_0 rfl ?_
  refine e_dup C d_M_tellUse_1 rfl ?_
  refine e_get C 0 (k := 12) in_M g751 d_M_tellUse_2 rfl rfl rfl rfl ?_
  refine e_iconst C d_M_tellUse_5 (v := 1) (by decide) ?_
  refine e_iadd C d_M_tellUse_6 ?_
  refine e_put C 0 (k := 12) in_M tk_M nm_M g751 d_M_tellUse_7 rfl rfl rfl rfl rfl rfl rfl rfl ?_
  refine e_aload_n C d_M_tellUse_10 rfl ?_
  refine e_get C 0 (k := 13) in_M g752 d_M_tellUse_11 rfl rfl rfl rfl ?_
  refine e_iload_n C d_M_tellUse_14 rfl ?_
  refine e_aload_n C d_M_tellUse_15 rfl ?_
  refine e_get C 0 (k := 12) in_M g751 d_M_tellUse_16 rfl rfl rfl rfl ?_
  refine e_iast C 6 0 d_M_tellUse_19 rfl rfl (8 * s + w) rfl (by omega) (by omega) ?_
  refine e_aload_n C d_M_tellUse_20 rfl ?_
  refine e_get C 0 (k := 15) in_M g754 d_M_tellUse_21 rfl rfl rfl rfl ?_
  refine e_iload_n C d_M_tellUse_24 rfl ?_
  refine e_dup2 C d_M_tellUse_25 rfl rfl ?_
  refine e_iald C 8 0 d_M_tellUse_26 rfl rfl (8 * s + w) rfl (by omega) (by omega) ?_
  refine e_iconst C d_M_tellUse_27 (v := 1) (by decide) ?_
  refine e_iadd C d_M_tellUse_28 ?_
  refine e_iast C 8 0 d_M_tellUse_29 rfl rfl (8 * s + w) rfl (by omega) (by omega) ?_
  refine e_aload_n C d_M_tellUse_30 rfl ?_
  refine e_get C 0 (k := 17) in_M g756 d_M_tellUse_31 rfl rfl rfl rfl ?_
  refine e_iload_n C d_M_tellUse_34 rfl ?_
  refine e_iconst C d_M_tellUse_35 (v := 0) (by decide) ?_
  refine e_iast C 10 0 d_M_tellUse_36 rfl rfl (8 * s + w) rfl (by omega) (by omega) ?_
  refine e_eq (ws' := mF G a (upd m.1 12 (m.1 12 + 1)) (up2 (up2 (up2 m.2 13 (upd (m.2 13) (8 * s + w) (m.1 12 + 1))) 15 (upd (m.2 15) (8 * s + w) (m.2 15 (8 * s + w) + 1))) 17 (upd (m.2 17) (8 * s + w) 0))) rfl ?_
  refine e_aload_n C d_M_tellUse_37 rfl ?_
  refine e_iload_n C d_M_tellUse_38 rfl ?_
  refine e_cVv C hR 0 (k_M_turnAway (m := (upd m.1 12 (m.1 12 + 1), up2 (up2 (up2 m.2 13 (upd (m.2 13) (8 * s + w) (m.1 12 + 1))) 15 (upd (m.2 15) (8 * s + w) (m.2 15 (8 * s + w) + 1))) 17 (upd (m.2 17) (8 * s + w) 0))) h2 hs hw) g898 g14 g895 g897 (gt_sel 20 (by decide +kernel) (by decide +kernel)) d_M_tellUse_39 rfl ey_M_turnAway rfl rfl rfl rfl ⟨Nat.zero_le _, Nat.zero_le _⟩ ?_
  refine e_aload_n C d_M_tellUse_42 rfl ?_
  refine e_get C 0 (k := 3) in_M g742 d_M_tellUse_43 rfl rfl rfl rfl ?_
  refine e_top (show _ = nI kd from h.2.2.1) ?_
  refine e_bipush C d_M_tellUse_46 (v := nI 7) (by decide) ?_
  refine e_icmp_ne C d_M_tellUse_48 (tgt := 59) (by decide) (fun h48 => ?_) (fun h48 => ?_)
  · rw [nI_eq (by omega) (by omega)] at h48
    rw [if_neg h48] at E
    refine e_aload_n C d_M_tellUse_59 rfl ?_
    refine e_get C 0 (k := 16) in_M g755 d_M_tellUse_60 rfl rfl rfl rfl ?_
    refine e_iload_n C d_M_tellUse_63 rfl ?_
    refine e_iconst C d_M_tellUse_64 (v := 1) (by decide) ?_
    refine e_zast C 9 1 d_M_tellUse_65 rfl rfl (8 * s + w) rfl (by omega) (by omega) rfl ?_
    exact e_vret C E d_M_tellUse_66 (Nat.le_refl _) (Nat.le_refl _) ⟨rfl, rfl⟩
  · rw [nI_eq (by omega) (by omega)] at h48
    rw [if_pos h48] at E
    refine e_aload_n C d_M_tellUse_51 rfl ?_
    refine e_iload_n C d_M_tellUse_52 rfl ?_
    refine e_cVv C hR 0 (k_M_markLately (m := (upd m.1 12 (m.1 12 + 1), up2 (up2 (up2 (up2 m.2 13 (upd (m.2 13) (8 * s + w) (m.1 12 + 1))) 15 (upd (m.2 15) (8 * s + w) (m.2 15 (8 * s + w) + 1))) 17 (upd (m.2 17) (8 * s + w) 0)) 19 (taF (8 * s) 4 (lvN wd + w) (m.2 19)))) h2 hs hw) g906 g14 g903 g905 (gt_sel 22 (by decide +kernel) (by decide +kernel)) d_M_tellUse_53 rfl ey_M_markLately rfl rfl rfl rfl ⟨Nat.zero_le _, Nat.zero_le _⟩ ?_
    refine e_goto C d_M_tellUse_56 (tgt := 66) (by decide) ?_
    exact e_vret C E d_M_tellUse_66 (Nat.le_refl _) (Nat.le_refl _) ⟨rfl, rfl⟩
set_option maxRecDepth 100000 in
theorem k_M_tellComing (h : MD m.1 S wd V kd) (hs : s < 16) (hw : w < wd) : Con l G y_M_tellComing c_M_tellComing 2 none (rz 2 44) [.ref (a 40), .int (nI (8 * s + w))] (mF G a m.1 m.2) (DV (mF G a (tcS wd kd m s w).1 (tcS wd kd m s w).2)) := by
  refine Con.of rfl rfl (fun X C E hR hl hnm => ?_)
  have hw8 := h.w8
  have hkd := h.2.2.2.2.2.2.2
  have h2 : MD (upd m.1 12 (m.1 12 + 1)) S wd V kd := h
  unfold tcS at E
  generalize hy : (if kd = 9 then -(m.1 12 + 1) else m.1 12 + 1) = y at E
  have tail : EW X G 2 0 0 36 [(0, .ref (a 40)), (1, .int (nI (8 * s + w)))] [.int y, .int (nI (8 * s + w)), .ref (a 13)] (mF G a (upd m.1 12 (m.1 12 + 1)) m.2) := by
    refine e_iast C 6 0 d_M_tellComing_36 rfl rfl (8 * s + w) rfl (by omega) (by omega) ?_
    refine e_aload_n C d_M_tellComing_37 rfl ?_
    refine e_get C 0 (k := 14) in_M g753 d_M_tellComing_38 rfl rfl rfl rfl ?_
    refine e_iload_n C d_M_tellComing_41 rfl ?_
    refine e_aload_n C d_M_tellComing_42 rfl ?_
    refine e_get C 0 (k := 12) in_M g751 d_M_tellComing_43 rfl rfl rfl rfl ?_
    refine e_iast C 7 0 d_M_tellComing_46 rfl rfl (8 * s + w) rfl (by omega) (by omega) ?_
    refine e_aload_n C d_M_tellComing_47 rfl ?_
    refine e_get C 0 (k := 15) in_M g754 d_M_tellComing_48 rfl rfl rfl rfl ?_
    refine e_iload_n C d_M_tellComing_51 rfl ?_
    refine e_iconst C d_M_tellComing_52 (v := 0) (by decide) ?_
    refine e_iast C 8 0 d_M_tellComing_53 rfl rfl (8 * s + w) rfl (by omega) (by omega) ?_
    refine e_aload_n C d_M_tellComing_54 rfl ?_
    refine e_get C 0 (k := 17) in_M g756 d_M_tellComing_55 rfl rfl rfl rfl ?_
    refine e_iload_n C d_M_tellComing_58 rfl ?_
    refine e_iconst C d_M_tellComing_59 (v := 2) (by decide) ?_
    refine e_iast C 10 0 d_M_tellComing_60 rfl rfl (8 * s + w) rfl (by omega) (by omega) ?_
    refine e_eq (ws' := mF G a (upd m.1 12 (m.1 12 + 1)) (up2 (up2 (up2 (up2 m.2 13 (upd (m.2 13) (8 * s + w) y)) 14 (upd (m.2 14) (8 * s + w) (m.1 12 + 1))) 15 (upd (m.2 15) (8 * s + w) 0)) 17 (upd (m.2 17) (8 * s + w) 2))) rfl ?_
    refine e_aload_n C d_M_tellComing_61 rfl ?_
    refine e_iload_n C d_M_tellComing_62 rfl ?_
    refine e_cVv C hR 0 (k_M_turnAway (m := (upd m.1 12 (m.1 12 + 1), (up2 (up2 (up2 (up2 m.2 13 (upd (m.2 13) (8 * s + w) y)) 14 (upd (m.2 14) (8 * s + w) (m.1 12 + 1))) 15 (upd (m.2 15) (8 * s + w) 0)) 17 (upd (m.2 17) (8 * s + w) 2)))) h2 hs hw) g898 g14 g895 g897 (gt_sel 20 (by decide +kernel) (by decide +kernel)) d_M_tellComing_63 rfl ey_M_turnAway rfl rfl rfl rfl ⟨Nat.zero_le _, Nat.zero_le _⟩ ?_
    refine e_aload_n C d_M_tellComing_66 rfl ?_
    refine e_get C 0 (k := 3) in_M g742 d_M_tellComing_67 rfl rfl rfl rfl ?_
    refine e_top (show _ = nI kd from h.2.2.1) ?_
    refine e_bipush C d_M_tellComing_70 (v := nI 7) (by decide) ?_
    refine e_icmp_ne C d_M_tellComing_72 (tgt := 83) (by decide) (fun h72 => ?_) (fun h72 => ?_)
    · rw [nI_eq (by omega) (by omega)] at h72
      rw [if_neg h72] at E
      refine e_aload_n C d_M_tellComing_83 rfl ?_
      refine e_get C 0 (k := 16) in_M g755 d_M_tellComing_84 rfl rfl rfl rfl ?_
      refine e_iload_n C d_M_tellComing_87 rfl ?_
      refine e_iconst C d_M_tellComing_88 (v := 0) (by decide) ?_
      refine e_zast C 9 1 d_M_tellComing_89 rfl rfl (8 * s + w) rfl (by omega) (by omega) rfl ?_
      exact e_vret C E d_M_tellComing_90 (Nat.le_refl _) (Nat.le_refl _) ⟨rfl, rfl⟩
    · rw [nI_eq (by omega) (by omega)] at h72
      rw [if_pos h72] at E
      refine e_aload_n C d_M_tellComing_75 rfl ?_
      refine e_iload_n C d_M_tellComing_76 rfl ?_
      refine e_cVv C hR 0 (k_M_markLately (m := (upd m.1 12 (m.1 12 + 1), up2 (up2 (up2 (up2 (up2 m.2 13 (upd (m.2 13) (8 * s + w) y)) 14 (upd (m.2 14) (8 * s + w) (m.1 12 + 1))) 15 (upd (m.2 15) (8 * s + w) 0)) 17 (upd (m.2 17) (8 * s + w) 2)) 19 (taF (8 * s) 4 (lvN wd + w) (m.2 19)))) h2 hs hw) g906 g14 g903 g905 (gt_sel 22 (by decide +kernel) (by decide +kernel)) d_M_tellComing_77 rfl ey_M_markLately rfl rfl rfl rfl ⟨Nat.zero_le _, Nat.zero_le _⟩ ?_
      refine e_goto C d_M_tellComing_80 (tgt := 90) (by decide) ?_
      exact e_vret C E d_M_tellComing_90 (Nat.le_refl _) (Nat.le_refl _) ⟨rfl, rfl⟩
  refine e_aload_n C d_M_tellComing_0 rfl ?_
  refine e_dup C d_M_tellComing_1 rfl ?_
  refine e_get C 0 (k := 12) in_M g751 d_M_tellComing_2 rfl rfl rfl rfl ?_
  refine e_iconst C d_M_tellComing_5 (v := 1) (by decide) ?_
  refine e_iadd C d_M_tellComing_6 ?_
  refine e_put C 0 (k := 12) in_M tk_M nm_M g751 d_M_tellComing_7 rfl rfl rfl rfl rfl rfl rfl rfl ?_
  refine e_eq (ws' := mF G a (upd m.1 12 (m.1 12 + 1)) m.2) rfl ?_
  refine e_aload_n C d_M_tellComing_10 rfl ?_
  refine e_get C 0 (k := 13) in_M g752 d_M_tellComing_11 rfl rfl rfl rfl ?_
  refine e_iload_n C d_M_tellComing_14 rfl ?_
  refine e_aload_n C d_M_tellComing_15 rfl ?_
  refine e_get C 0 (k := 3) in_M g742 d_M_tellComing_16 rfl rfl rfl rfl ?_
  refine e_top (show _ = nI kd from h.2.2.1) ?_
  refine e_bipush C d_M_tellComing_19 (v := nI 9) (by decide) ?_
  refine e_icmp_ne C d_M_tellComing_21 (tgt := 32) (by decide) (fun h21 => ?_) (fun h21 => ?_)
  · rw [nI_eq (by omega) (by omega)] at h21
    rw [if_neg h21] at hy
    subst hy
    refine e_aload_n C d_M_tellComing_32 rfl ?_
    refine e_get C 0 (k := 12) in_M g751 d_M_tellComing_33 rfl rfl rfl rfl ?_
    exact e_lv2 tail rfl
  · rw [nI_eq (by omega) (by omega)] at h21
    rw [if_pos h21] at hy
    subst hy
    refine e_aload_n C d_M_tellComing_24 rfl ?_
    refine e_get C 0 (k := 12) in_M g751 d_M_tellComing_25 rfl rfl rfl rfl ?_
    refine e_ineg C d_M_tellComing_28 ?_
    refine e_goto C d_M_tellComing_29 (tgt := 36) (by decide) ?_
    exact e_lv2 tail rfl
set_option maxRecDepth 100000 in
theorem k_M_isBetter {i j : Nat} (hi : i < 128) (hj : j < 128) : Con l G y_M_isBetter c_M_isBetter 3 (some .boolean) (rz 0 0) [.ref (a 40), .int (nI i), .int (nI j)] (mF G a m.1 m.2) (DI (bI (gsG (m.1 3) (m.2 13) (m.2 14) (m.2 15) i j)) (mF G a m.1 m.2)) := by
  refine Con.of rfl rfl (fun X C E hR hl hn => ?_)
  refine e_aload_n C d_M_isBetter_0 rfl ?_
  refine e_get C 0 (k := 3) in_M g742 d_M_isBetter_1 rfl rfl rfl rfl ?_
  refine e_iconst C d_M_isBetter_4 (v := 1) (by decide) ?_
  refine e_icmp_ne C d_M_isBetter_5 (tgt := 29) (by decide) (fun h5 => ?_) (fun h5 => ?_)
  · have h5 : ¬ m.1 3 = 1 := h5
    refine e_aload_n C d_M_isBetter_29 rfl ?_
    refine e_get C 0 (k := 3) in_M g742 d_M_isBetter_30 rfl rfl rfl rfl ?_
    refine e_iconst C d_M_isBetter_33 (v := 2) (by decide) ?_
    refine e_icmp_ne C d_M_isBetter_34 (tgt := 58) (by decide) (fun h34 => ?_) (fun h34 => ?_)
    · have h34 : ¬ m.1 3 = 2 := h34
      refine e_aload_n C d_M_isBetter_58 rfl ?_
      refine e_get C 0 (k := 3) in_M g742 d_M_isBetter_59 rfl rfl rfl rfl ?_
      refine e_iconst C d_M_isBetter_62 (v := 4) (by decide) ?_
      refine e_icmp_ne C d_M_isBetter_63 (tgt := 102) (by decide) (fun h63 => ?_) (fun h63 => ?_)
      · have h63 : ¬ m.1 3 = 4 := h63
        refine e_aload_n C d_M_isBetter_102 rfl ?_
        refine e_get C 0 (k := 13) in_M g752 d_M_isBetter_103 rfl rfl rfl rfl ?_
        refine e_iload_n C d_M_isBetter_106 rfl ?_
        refine e_iald C 6 0 d_M_isBetter_107 rfl rfl i rfl hi (by omega) ?_
        refine e_aload_n C d_M_isBetter_108 rfl ?_
        refine e_get C 0 (k := 13) in_M g752 d_M_isBetter_109 rfl rfl rfl rfl ?_
        refine e_iload_n C d_M_isBetter_112 rfl ?_
        refine e_iald C 6 0 d_M_isBetter_113 rfl rfl j rfl hj (by omega) ?_
        refine e_icmp_ge C d_M_isBetter_114 (tgt := 121) (by decide) (fun h114 => ?_) (fun h114 => ?_)
        · have h114 : m.2 13 j ≤ m.2 13 i := h114
          refine e_iconst C d_M_isBetter_121 (v := 0) (by decide) ?_
          exact e_iret C E d_M_isBetter_122 (Nat.le_refl _) (Nat.le_refl _) rfl ⟨by simp [gsG, h5, h34, h63, h114, bI], rfl⟩
        · have h114 : ¬ m.2 13 j ≤ m.2 13 i := h114
          refine e_iconst C d_M_isBetter_117 (v := 1) (by decide) ?_
          refine e_goto C d_M_isBetter_118 (tgt := 122) (by decide) ?_
          exact e_iret C E d_M_isBetter_122 (Nat.le_refl _) (Nat.le_refl _) rfl ⟨by simp [gsG, h5, h34, h63, h114, bI], rfl⟩
      · have h63 : m.1 3 = 4 := h63
        refine e_aload_n C d_M_isBetter_66 rfl ?_
        refine e_get C 0 (k := 15) in_M g754 d_M_isBetter_67 rfl rfl rfl rfl ?_
        refine e_iload_n C d_M_isBetter_70 rfl ?_
        refine e_iald C 8 0 d_M_isBetter_71 rfl rfl i rfl hi (by omega) ?_
        refine e_aload_n C d_M_isBetter_72 rfl ?_
        refine e_get C 0 (k := 15) in_M g754 d_M_isBetter_73 rfl rfl rfl rfl ?_
        refine e_iload_n C d_M_isBetter_76 rfl ?_
        refine e_iald C 8 0 d_M_isBetter_77 rfl rfl j rfl hj (by omega) ?_
        refine e_icmp_eq C d_M_isBetter_78 (tgt := 102) (by decide) (fun h78 => ?_) (fun h78 => ?_)
        · have h78 : m.2 15 i = m.2 15 j := h78
          refine e_aload_n C d_M_isBetter_102 rfl ?_
          refine e_get C 0 (k := 13) in_M g752 d_M_isBetter_103 rfl rfl rfl rfl ?_
          refine e_iload_n C d_M_isBetter_106 rfl ?_
          refine e_iald C 6 0 d_M_isBetter_107 rfl rfl i rfl hi (by omega) ?_
          refine e_aload_n C d_M_isBetter_108 rfl ?_
          refine e_get C 0 (k := 13) in_M g752 d_M_isBetter_109 rfl rfl rfl rfl ?_
          refine e_iload_n C d_M_isBetter_112 rfl ?_
          refine e_iald C 6 0 d_M_isBetter_113 rfl rfl j rfl hj (by omega) ?_
          refine e_icmp_ge C d_M_isBetter_114 (tgt := 121) (by decide) (fun h114 => ?_) (fun h114 => ?_)
          · have h114 : m.2 13 j ≤ m.2 13 i := h114
            refine e_iconst C d_M_isBetter_121 (v := 0) (by decide) ?_
            exact e_iret C E d_M_isBetter_122 (Nat.le_refl _) (Nat.le_refl _) rfl ⟨by simp [gsG, h5, h34, h78, h114, bI], rfl⟩
          · have h114 : ¬ m.2 13 j ≤ m.2 13 i := h114
            refine e_iconst C d_M_isBetter_117 (v := 1) (by decide) ?_
            refine e_goto C d_M_isBetter_118 (tgt := 122) (by decide) ?_
            exact e_iret C E d_M_isBetter_122 (Nat.le_refl _) (Nat.le_refl _) rfl ⟨by simp [gsG, h5, h34, h78, h114, bI], rfl⟩
        · have h78 : ¬ m.2 15 i = m.2 15 j := h78
          refine e_aload_n C d_M_isBetter_81 rfl ?_
          refine e_get C 0 (k := 15) in_M g754 d_M_isBetter_82 rfl rfl rfl rfl ?_
          refine e_iload_n C d_M_isBetter_85 rfl ?_
          refine e_iald C 8 0 d_M_isBetter_86 rfl rfl i rfl hi (by omega) ?_
          refine e_aload_n C d_M_isBetter_87 rfl ?_
          refine e_get C 0 (k := 15) in_M g754 d_M_isBetter_88 rfl rfl rfl rfl ?_
          refine e_iload_n C d_M_isBetter_91 rfl ?_
          refine e_iald C 8 0 d_M_isBetter_92 rfl rfl j rfl hj (by omega) ?_
          refine e_icmp_ge C d_M_isBetter_93 (tgt := 100) (by decide) (fun h93 => ?_) (fun h93 => ?_)
          · have h93 : m.2 15 j ≤ m.2 15 i := h93
            refine e_iconst C d_M_isBetter_100 (v := 0) (by decide) ?_
            exact e_iret C E d_M_isBetter_101 (Nat.le_refl _) (Nat.le_refl _) rfl ⟨by simp [gsG, h5, h34, h63, h78, h93, bI], rfl⟩
          · have h93 : ¬ m.2 15 j ≤ m.2 15 i := h93
            refine e_iconst C d_M_isBetter_96 (v := 1) (by decide) ?_
            refine e_goto C d_M_isBetter_97 (tgt := 101) (by decide) ?_
            exact e_iret C E d_M_isBetter_101 (Nat.le_refl _) (Nat.le_refl _) rfl ⟨by simp [gsG, h5, h34, h63, h78, h93, bI], rfl⟩
    · have h34 : m.1 3 = 2 := h34
      refine e_aload_n C d_M_isBetter_37 rfl ?_
      refine e_get C 0 (k := 13) in_M g752 d_M_isBetter_38 rfl rfl rfl rfl ?_
      refine e_iload_n C d_M_isBetter_41 rfl ?_
      refine e_iald C 6 0 d_M_isBetter_42 rfl rfl i rfl hi (by omega) ?_
      refine e_aload_n C d_M_isBetter_43 rfl ?_
      refine e_get C 0 (k := 13) in_M g752 d_M_isBetter_44 rfl rfl rfl rfl ?_
      refine e_iload_n C d_M_isBetter_47 rfl ?_
      refine e_iald C 6 0 d_M_isBetter_48 rfl rfl j rfl hj (by omega) ?_
      refine e_icmp_le C d_M_isBetter_49 (tgt := 56) (by decide) (fun h49 => ?_) (fun h49 => ?_)
      · have h49 : m.2 13 i ≤ m.2 13 j := h49
        refine e_iconst C d_M_isBetter_56 (v := 0) (by decide) ?_
        exact e_iret C E d_M_isBetter_57 (Nat.le_refl _) (Nat.le_refl _) rfl ⟨by simp [gsG, h34, h49, bI], rfl⟩
      · have h49 : ¬ m.2 13 i ≤ m.2 13 j := h49
        refine e_iconst C d_M_isBetter_52 (v := 1) (by decide) ?_
        refine e_goto C d_M_isBetter_53 (tgt := 57) (by decide) ?_
        exact e_iret C E d_M_isBetter_57 (Nat.le_refl _) (Nat.le_refl _) rfl ⟨by simp [gsG, h34, h49, bI], rfl⟩
  · have h5 : m.1 3 = 1 := h5
    refine e_aload_n C d_M_isBetter_8 rfl ?_
    refine e_get C 0 (k := 14) in_M g753 d_M_isBetter_9 rfl rfl rfl rfl ?_
    refine e_iload_n C d_M_isBetter_12 rfl ?_
    refine e_iald C 7 0 d_M_isBetter_13 rfl rfl i rfl hi (by omega) ?_
    refine e_aload_n C d_M_isBetter_14 rfl ?_
    refine e_get C 0 (k := 14) in_M g753 d_M_isBetter_15 rfl rfl rfl rfl ?_
    refine e_iload_n C d_M_isBetter_18 rfl ?_
    refine e_iald C 7 0 d_M_isBetter_19 rfl rfl j rfl hj (by omega) ?_
    refine e_icmp_ge C d_M_isBetter_20 (tgt := 27) (by decide) (fun h20 => ?_) (fun h20 => ?_)
    · have h20 : m.2 14 j ≤ m.2 14 i := h20
      refine e_iconst C d_M_isBetter_27 (v := 0) (by decide) ?_
      exact e_iret C E d_M_isBetter_28 (Nat.le_refl _) (Nat.le_refl _) rfl ⟨by simp [gsG, h5, h20, bI], rfl⟩
    · have h20 : ¬ m.2 14 j ≤ m.2 14 i := h20
      refine e_iconst C d_M_isBetter_23 (v := 1) (by decide) ?_
      refine e_goto C d_M_isBetter_24 (tgt := 28) (by decide) ?_
      exact e_iret C E d_M_isBetter_28 (Nat.le_refl _) (Nat.le_refl _) rfl ⟨by simp [gsG, h5, h20, bI], rfl⟩
/-- locked, by the slot -/
def lkM (f : Nat → Nat → Int32) (j : Nat) : Bool := !(f 11 j == 0)
set_option maxRecDepth 100000 in
theorem k_M_best (h : MD m.1 S wd V kd) (hs : s < 16) : Con l G y_M_best c_M_best 4 (some .int) (rz 1 22) [.ref (a 40), .int (nI (8 * s))] (mF G a m.1 m.2) (DI (oI (pickB (lkM m.2) (gsG (m.1 3) (m.2 13) (m.2 14) (m.2 15)) none (8 * s) wd)) (mF G a m.1 m.2)) := by
  refine Con.of rfl rfl (fun X C E hR hl hn => ?_)
  have hw8 := h.w8
  refine e_iconst C d_M_best_0 (v := (-1)) (by decide) ?_
  refine e_istore_n C d_M_best_1 rfl ?_
  refine e_iload_n C d_M_best_2 rfl ?_
  refine e_istore_n C d_M_best_3 rfl ?_
  generalize hbt : gsG (m.1 3) (m.2 13) (m.2 14) (m.2 15) = bt at E
  have hb0 : 8 * s + 8 ≤ 128 := by omega
  generalize 8 * s = b0 at E hb0 ⊢
  have L : ∀ (q k : Nat) (b : Option Nat), k + q = b0 + wd → (∀ j, b = some j → j < 128) → pickB (lkM m.2) bt b k q = pickB (lkM m.2) bt none b0 wd → EW X G 4 0 0 4 [(0, .ref (a 40)), (1, .int (nI b0)), (2, .int (oI b)), (3, .int (nI k))] [] (mF G a m.1 m.2) := by
    intro q
    induction q with
    | zero =>
      intro k b hk hbk hf
      have hf : b = _ := hf
      refine e_iload_n C d_M_best_4 rfl ?_
      refine e_iload_n C d_M_best_5 rfl ?_
      refine e_aload_n C d_M_best_6 rfl ?_
      refine e_get C 0 (k := 2) in_M g741 d_M_best_7 rfl rfl rfl rfl ?_
      refine e_top h.2.1 ?_
      refine e_iadd C d_M_best_10 ?_
      refine e_top (nI_add _ _) ?_
      refine e_icmp_ge C d_M_best_11 (tgt := 44) (by decide) (fun h11 => ?_) (fun h11 => ?_)
      · skip
        refine e_iload_n C d_M_best_44 rfl ?_
        exact e_iret C E d_M_best_45 (Nat.le_refl _) (Nat.le_refl _) rfl ⟨by rw [← hf], rfl⟩
      · exact absurd (nI_le (by omega) (by omega)) h11
    | succ q ih =>
      intro k b hk hbk hf
      refine e_iload_n C d_M_best_4 rfl ?_
      refine e_iload_n C d_M_best_5 rfl ?_
      refine e_aload_n C d_M_best_6 rfl ?_
      refine e_get C 0 (k := 2) in_M g741 d_M_best_7 rfl rfl rfl rfl ?_
      refine e_top h.2.1 ?_
      refine e_iadd C d_M_best_10 ?_
      refine e_top (nI_add _ _) ?_
      refine e_icmp_ge C d_M_best_11 (tgt := 44) (by decide) (fun h11 => ?_) (fun h11 => ?_)
      · exact absurd h11 (nI_ge (by omega) (by omega))
      · skip
        refine e_aload_n C d_M_best_14 rfl ?_
        refine e_get C 0 (k := 11) in_M g750 d_M_best_15 rfl rfl rfl rfl ?_
        refine e_iload_n C d_M_best_18 rfl ?_
        refine e_zald C 5 1 d_M_best_19 rfl rfl k rfl (by omega) (by omega) ?_
        refine e_if_ne C d_M_best_20 (tgt := 38) (by decide) (fun h20 => ?_) (fun h20 => ?_)
        · have hh : lkM m.2 k = true := by simp [lkM]; exact h20
          refine e_iinc C d_M_best_38 rfl (nI_1 k) rfl ?_
          refine e_goto C d_M_best_41 (tgt := 4) (by decide) ?_
          exact e_lv2 (ih (k + 1) b (by omega) hbk (by rw [← hf]; simp [pickB, hh])) rfl
        · have hh : lkM m.2 k = false := by simp [lkM]; exact h20
          refine e_iload_n C d_M_best_23 rfl ?_
          refine e_if_lt C d_M_best_24 (tgt := 36) (by decide) (fun h24 => ?_) (fun h24 => ?_)
          · rw [oI_lt (fun k hk => by have := hbk k hk; omega)] at h24
            subst h24
            refine e_iload_n C d_M_best_36 rfl ?_
            refine e_istore_n C d_M_best_37 rfl ?_
            refine e_iinc C d_M_best_38 rfl (nI_1 k) rfl ?_
            refine e_goto C d_M_best_41 (tgt := 4) (by decide) ?_
            exact e_lv2 (ih (k + 1) (some k) (by omega) (fun j hj => by cases hj; omega) (by rw [← hf]; simp [pickB, hh])) rfl
          · rw [oI_lt (fun k hk => by have := hbk k hk; omega)] at h24
            obtain ⟨j, rfl⟩ := Option.ne_none_iff_exists'.mp h24
            have hjb := hbk j rfl
            refine e_aload_n C d_M_best_27 rfl ?_
            refine e_iload_n C d_M_best_28 rfl ?_
            refine e_iload_n C d_M_best_29 rfl ?_
            refine e_cVi C hR 0 (k_M_isBetter (show k < 128 by omega) hjb) g961 g14 g958 g960 (gt_sel 35 (by decide +kernel) (by decide +kernel)) d_M_best_30 rfl ey_M_isBetter rfl rfl rfl rfl ⟨Nat.zero_le _, Nat.zero_le _⟩ ?_
            refine e_if_eq C d_M_best_33 (tgt := 38) (by decide) (fun h33 => ?_) (fun h33 => ?_)
            · rw [bI_0] at h33
              have hb2 : bt k j = false := by rw [← hbt]; exact h33
              refine e_iinc C d_M_best_38 rfl (nI_1 k) rfl ?_
              refine e_goto C d_M_best_41 (tgt := 4) (by decide) ?_
              exact e_lv2 (ih (k + 1) (some j) (by omega) hbk (by rw [← hf]; simp [pickB, hh, hb2])) rfl
            · rw [bI_n] at h33
              have hb2 : bt k j = true := by rw [← hbt]; exact h33
              refine e_iload_n C d_M_best_36 rfl ?_
              refine e_istore_n C d_M_best_37 rfl ?_
              refine e_iinc C d_M_best_38 rfl (nI_1 k) rfl ?_
              refine e_goto C d_M_best_41 (tgt := 4) (by decide) ?_
              exact e_lv2 (ih (k + 1) (some k) (by omega) (fun j hj => by cases hj; omega) (by rw [← hf]; simp [pickB, hh, hb2])) rfl
  exact e_lv2 (L wd b0 none rfl (fun j hj => by cases hj) rfl) rfl
end M1
end
section
/-! THE REFERENCE: its picks -/
theorem ey_M_byChance : eY y_M_byChance 2 = true := by decide +kernel
theorem d_M_byChance_0 : decode c_M_byChance 0 = .ok (.iconst 0, 1) := by decide +kernel
theorem d_M_byChance_1 : decode c_M_byChance 1 = .ok (.istore_n 3, 1) := by decide +kernel
theorem d_M_byChance_2 : decode c_M_byChance 2 = .ok (.iload_n 1, 1) := by decide +kernel
theorem d_M_byChance_3 : decode c_M_byChance 3 = .ok (.istore 4, 2) := by decide +kernel
theorem d_M_byChance_5 : decode c_M_byChance 5 = .ok (.iload 4, 2) := by decide +kernel
theorem d_M_byChance_7 : decode c_M_byChance 7 = .ok (.iload_n 1, 1) := by decide +kernel
theorem d_M_byChance_8 : decode c_M_byChance 8 = .ok (.aload_n 0, 1) := by decide +kernel
theorem d_M_byChance_9 : decode c_M_byChance 9 = .ok (.getfield 95, 3) := by decide +kernel
theorem d_M_byChance_12 : decode c_M_byChance 12 = .ok (.iadd, 1) := by decide +kernel
theorem d_M_byChance_13 : decode c_M_byChance 13 = .ok (.if_icmp .ge 27, 3) := by decide +kernel
theorem d_M_byChance_16 : decode c_M_byChance 16 = .ok (.iload_n 3, 1) := by decide +kernel
theorem d_M_byChance_17 : decode c_M_byChance 17 = .ok (.aload_n 0, 1) := by decide +kernel
theorem d_M_byChance_18 : decode c_M_byChance 18 = .ok (.getfield 27, 3) := by decide +kernel
theorem d_M_byChance_21 : decode c_M_byChance 21 = .ok (.iload 4, 2) := by decide +kernel
theorem d_M_byChance_23 : decode c_M_byChance 23 = .ok (.baload, 1) := by decide +kernel
theorem d_M_byChance_24 : decode c_M_byChance 24 = .ok (.ifCond .eq 7, 3) := by decide +kernel
theorem d_M_byChance_27 : decode c_M_byChance 27 = .ok (.iconst 0, 1) := by decide +kernel
theorem d_M_byChance_28 : decode c_M_byChance 28 = .ok (.goto 4, 3) := by decide +kernel
theorem d_M_byChance_31 : decode c_M_byChance 31 = .ok (.iconst 1, 1) := by decide +kernel
theorem d_M_byChance_32 : decode c_M_byChance 32 = .ok (.iadd, 1) := by decide +kernel
theorem d_M_byChance_33 : decode c_M_byChance 33 = .ok (.istore_n 3, 1) := by decide +kernel
theorem d_M_byChance_34 : decode c_M_byChance 34 = .ok (.iinc 4 1, 3) := by decide +kernel
theorem d_M_byChance_37 : decode c_M_byChance 37 = .ok (.goto (-32), 3) := by decide +kernel
theorem d_M_byChance_40 : decode c_M_byChance 40 = .ok (.aload_n 0, 1) := by decide +kernel
theorem d_M_byChance_41 : decode c_M_byChance 41 = .ok (.getfield 51, 3) := by decide +kernel
theorem d_M_byChance_44 : decode c_M_byChance 44 = .ok (.ldc 135, 2) := by decide +kernel
theorem d_M_byChance_46 : decode c_M_byChance 46 = .ok (.idiv, 1) := by decide +kernel
theorem d_M_byChance_47 : decode c_M_byChance 47 = .ok (.iload_n 3, 1) := by decide +kernel
theorem d_M_byChance_48 : decode c_M_byChance 48 = .ok (.irem, 1) := by decide +kernel
theorem d_M_byChance_49 : decode c_M_byChance 49 = .ok (.istore 4, 2) := by decide +kernel
theorem d_M_byChance_51 : decode c_M_byChance 51 = .ok (.iload_n 2, 1) := by decide +kernel
theorem d_M_byChance_52 : decode c_M_byChance 52 = .ok (.ifCond .eq 21, 3) := by decide +kernel
theorem d_M_byChance_55 : decode c_M_byChance 55 = .ok (.aload_n 0, 1) := by decide +kernel
theorem d_M_byChance_56 : decode c_M_byChance 56 = .ok (.ldc 136, 2) := by decide +kernel
theorem d_M_byChance_58 : decode c_M_byChance 58 = .ok (.aload_n 0, 1) := by decide +kernel
theorem d_M_byChance_59 : decode c_M_byChance 59 = .ok (.getfield 51, 3) := by decide +kernel
theorem d_M_byChance_62 : decode c_M_byChance 62 = .ok (.imul, 1) := by decide +kernel
theorem d_M_byChance_63 : decode c_M_byChance 63 = .ok (.sipush 12345, 3) := by decide +kernel
theorem d_M_byChance_66 : decode c_M_byChance 66 = .ok (.iadd, 1) := by decide +kernel
theorem d_M_byChance_67 : decode c_M_byChance 67 = .ok (.ldc 137, 2) := by decide +kernel
theorem d_M_byChance_69 : decode c_M_byChance 69 = .ok (.iand, 1) := by decide +kernel
theorem d_M_byChance_70 : decode c_M_byChance 70 = .ok (.putfield 51, 3) := by decide +kernel
theorem d_M_byChance_73 : decode c_M_byChance 73 = .ok (.iload_n 1, 1) := by decide +kernel
theorem d_M_byChance_74 : decode c_M_byChance 74 = .ok (.istore 5, 2) := by decide +kernel
theorem d_M_byChance_76 : decode c_M_byChance 76 = .ok (.aload_n 0, 1) := by decide +kernel
theorem d_M_byChance_77 : decode c_M_byChance 77 = .ok (.getfield 27, 3) := by decide +kernel
theorem d_M_byChance_80 : decode c_M_byChance 80 = .ok (.iload 5, 2) := by decide +kernel
theorem d_M_byChance_82 : decode c_M_byChance 82 = .ok (.baload, 1) := by decide +kernel
theorem d_M_byChance_83 : decode c_M_byChance 83 = .ok (.ifCond .ne 8, 3) := by decide +kernel
theorem d_M_byChance_86 : decode c_M_byChance 86 = .ok (.iload 4, 2) := by decide +kernel
theorem d_M_byChance_88 : decode c_M_byChance 88 = .ok (.ifCond .le 29, 3) := by decide +kernel
theorem d_M_byChance_91 : decode c_M_byChance 91 = .ok (.iload 4, 2) := by decide +kernel
theorem d_M_byChance_93 : decode c_M_byChance 93 = .ok (.aload_n 0, 1) := by decide +kernel
theorem d_M_byChance_94 : decode c_M_byChance 94 = .ok (.getfield 27, 3) := by decide +kernel
theorem d_M_byChance_97 : decode c_M_byChance 97 = .ok (.iload 5, 2) := by decide +kernel
theorem d_M_byChance_99 : decode c_M_byChance 99 = .ok (.baload, 1) := by decide +kernel
theorem d_M_byChance_100 : decode c_M_byChance 100 = .ok (.ifCond .eq 7, 3) := by decide +kernel
theorem d_M_byChance_103 : decode c_M_byChance 103 = .ok (.iconst 0, 1) := by decide +kernel
theorem d_M_byChance_104 : decode c_M_byChance 104 = .ok (.goto 4, 3) := by decide +kernel
theorem d_M_byChance_107 : decode c_M_byChance 107 = .ok (.iconst 1, 1) := by decide +kernel
theorem d_M_byChance_108 : decode c_M_byChance 108 = .ok (.isub, 1) := by decide +kernel
theorem d_M_byChance_109 : decode c_M_byChance 109 = .ok (.istore 4, 2) := by decide +kernel
theorem d_M_byChance_111 : decode c_M_byChance 111 = .ok (.iinc 5 1, 3) := by decide +kernel
theorem d_M_byChance_114 : decode c_M_byChance 114 = .ok (.goto (-38), 3) := by decide +kernel
theorem d_M_byChance_117 : decode c_M_byChance 117 = .ok (.iload 5, 2) := by decide +kernel
theorem d_M_byChance_119 : decode c_M_byChance 119 = .ok (.ireturn, 1) := by decide +kernel
theorem ey_M_byHand : eY y_M_byHand 2 = true := by decide +kernel
theorem d_M_byHand_0 : decode c_M_byHand 0 = .ok (.iconst 0, 1) := by decide +kernel
theorem d_M_byHand_1 : decode c_M_byHand 1 = .ok (.istore_n 3, 1) := by decide +kernel
theorem d_M_byHand_2 : decode c_M_byHand 2 = .ok (.iload_n 3, 1) := by decide +kernel
theorem d_M_byHand_3 : decode c_M_byHand 3 = .ok (.aload_n 0, 1) := by decide +kernel
theorem d_M_byHand_4 : decode c_M_byHand 4 = .ok (.getfield 95, 3) := by decide +kernel
theorem d_M_byHand_7 : decode c_M_byHand 7 = .ok (.if_icmp .ge 23, 3) := by decide +kernel
theorem d_M_byHand_10 : decode c_M_byHand 10 = .ok (.aload_n 0, 1) := by decide +kernel
theorem d_M_byHand_11 : decode c_M_byHand 11 = .ok (.getfield 85, 3) := by decide +kernel
theorem d_M_byHand_14 : decode c_M_byHand 14 = .ok (.iload_n 3, 1) := by decide +kernel
theorem d_M_byHand_15 : decode c_M_byHand 15 = .ok (.aload_n 0, 1) := by decide +kernel
theorem d_M_byHand_16 : decode c_M_byHand 16 = .ok (.getfield 39, 3) := by decide +kernel
theorem d_M_byHand_19 : decode c_M_byHand 19 = .ok (.iload_n 1, 1) := by decide +kernel
theorem d_M_byHand_20 : decode c_M_byHand 20 = .ok (.iload_n 3, 1) := by decide +kernel
theorem d_M_byHand_21 : decode c_M_byHand 21 = .ok (.iadd, 1) := by decide +kernel
theorem d_M_byHand_22 : decode c_M_byHand 22 = .ok (.baload, 1) := by decide +kernel
theorem d_M_byHand_23 : decode c_M_byHand 23 = .ok (.bastore, 1) := by decide +kernel
theorem d_M_byHand_24 : decode c_M_byHand 24 = .ok (.iinc 3 1, 3) := by decide +kernel
theorem d_M_byHand_27 : decode c_M_byHand 27 = .ok (.goto (-25), 3) := by decide +kernel
theorem d_M_byHand_30 : decode c_M_byHand 30 = .ok (.aload_n 0, 1) := by decide +kernel
theorem d_M_byHand_31 : decode c_M_byHand 31 = .ok (.getfield 45, 3) := by decide +kernel
theorem d_M_byHand_34 : decode c_M_byHand 34 = .ok (.iload_n 1, 1) := by decide +kernel
theorem d_M_byHand_35 : decode c_M_byHand 35 = .ok (.bipush 8, 2) := by decide +kernel
theorem d_M_byHand_37 : decode c_M_byHand 37 = .ok (.idiv, 1) := by decide +kernel
theorem d_M_byHand_38 : decode c_M_byHand 38 = .ok (.iaload, 1) := by decide +kernel
theorem d_M_byHand_39 : decode c_M_byHand 39 = .ok (.istore_n 3, 1) := by decide +kernel
theorem d_M_byHand_40 : decode c_M_byHand 40 = .ok (.aload_n 0, 1) := by decide +kernel
theorem d_M_byHand_41 : decode c_M_byHand 41 = .ok (.getfield 27, 3) := by decide +kernel
theorem d_M_byHand_44 : decode c_M_byHand 44 = .ok (.iload_n 1, 1) := by decide +kernel
theorem d_M_byHand_45 : decode c_M_byHand 45 = .ok (.iload_n 3, 1) := by decide +kernel
theorem d_M_byHand_46 : decode c_M_byHand 46 = .ok (.iadd, 1) := by decide +kernel
theorem d_M_byHand_47 : decode c_M_byHand 47 = .ok (.baload, 1) := by decide +kernel
theorem d_M_byHand_48 : decode c_M_byHand 48 = .ok (.ifCond .ne 12, 3) := by decide +kernel
theorem d_M_byHand_51 : decode c_M_byHand 51 = .ok (.aload_n 0, 1) := by decide +kernel
theorem d_M_byHand_52 : decode c_M_byHand 52 = .ok (.getfield 85, 3) := by decide +kernel
theorem d_M_byHand_55 : decode c_M_byHand 55 = .ok (.iload_n 3, 1) := by decide +kernel
theorem d_M_byHand_56 : decode c_M_byHand 56 = .ok (.baload, 1) := by decide +kernel
theorem d_M_byHand_57 : decode c_M_byHand 57 = .ok (.ifCond .eq 33, 3) := by decide +kernel
theorem d_M_byHand_60 : decode c_M_byHand 60 = .ok (.aload_n 0, 1) := by decide +kernel
theorem d_M_byHand_61 : decode c_M_byHand 61 = .ok (.getfield 27, 3) := by decide +kernel
theorem d_M_byHand_64 : decode c_M_byHand 64 = .ok (.iload_n 1, 1) := by decide +kernel
theorem d_M_byHand_65 : decode c_M_byHand 65 = .ok (.iload_n 3, 1) := by decide +kernel
theorem d_M_byHand_66 : decode c_M_byHand 66 = .ok (.iadd, 1) := by decide +kernel
theorem d_M_byHand_67 : decode c_M_byHand 67 = .ok (.baload, 1) := by decide +kernel
theorem d_M_byHand_68 : decode c_M_byHand 68 = .ok (.ifCond .ne 10, 3) := by decide +kernel
theorem d_M_byHand_71 : decode c_M_byHand 71 = .ok (.aload_n 0, 1) := by decide +kernel
theorem d_M_byHand_72 : decode c_M_byHand 72 = .ok (.getfield 85, 3) := by decide +kernel
theorem d_M_byHand_75 : decode c_M_byHand 75 = .ok (.iload_n 3, 1) := by decide +kernel
theorem d_M_byHand_76 : decode c_M_byHand 76 = .ok (.iconst 0, 1) := by decide +kernel
theorem d_M_byHand_77 : decode c_M_byHand 77 = .ok (.bastore, 1) := by decide +kernel
theorem d_M_byHand_78 : decode c_M_byHand 78 = .ok (.iload_n 3, 1) := by decide +kernel
theorem d_M_byHand_79 : decode c_M_byHand 79 = .ok (.iconst 1, 1) := by decide +kernel
theorem d_M_byHand_80 : decode c_M_byHand 80 = .ok (.iadd, 1) := by decide +kernel
theorem d_M_byHand_81 : decode c_M_byHand 81 = .ok (.aload_n 0, 1) := by decide +kernel
theorem d_M_byHand_82 : decode c_M_byHand 82 = .ok (.getfield 95, 3) := by decide +kernel
theorem d_M_byHand_85 : decode c_M_byHand 85 = .ok (.irem, 1) := by decide +kernel
theorem d_M_byHand_86 : decode c_M_byHand 86 = .ok (.istore_n 3, 1) := by decide +kernel
theorem d_M_byHand_87 : decode c_M_byHand 87 = .ok (.goto (-47), 3) := by decide +kernel
theorem d_M_byHand_90 : decode c_M_byHand 90 = .ok (.iload_n 2, 1) := by decide +kernel
theorem d_M_byHand_91 : decode c_M_byHand 91 = .ok (.ifCond .eq 54, 3) := by decide +kernel
theorem d_M_byHand_94 : decode c_M_byHand 94 = .ok (.iconst 0, 1) := by decide +kernel
theorem d_M_byHand_95 : decode c_M_byHand 95 = .ok (.istore 4, 2) := by decide +kernel
theorem d_M_byHand_97 : decode c_M_byHand 97 = .ok (.iload 4, 2) := by decide +kernel
theorem d_M_byHand_99 : decode c_M_byHand 99 = .ok (.aload_n 0, 1) := by decide +kernel
theorem d_M_byHand_100 : decode c_M_byHand 100 = .ok (.getfield 95, 3) := by decide +kernel
theorem d_M_byHand_103 : decode c_M_byHand 103 = .ok (.if_icmp .ge 25, 3) := by decide +kernel
theorem d_M_byHand_106 : decode c_M_byHand 106 = .ok (.aload_n 0, 1) := by decide +kernel
theorem d_M_byHand_107 : decode c_M_byHand 107 = .ok (.getfield 39, 3) := by decide +kernel
theorem d_M_byHand_110 : decode c_M_byHand 110 = .ok (.iload_n 1, 1) := by decide +kernel
theorem d_M_byHand_111 : decode c_M_byHand 111 = .ok (.iload 4, 2) := by decide +kernel
theorem d_M_byHand_113 : decode c_M_byHand 113 = .ok (.iadd, 1) := by decide +kernel
theorem d_M_byHand_114 : decode c_M_byHand 114 = .ok (.aload_n 0, 1) := by decide +kernel
theorem d_M_byHand_115 : decode c_M_byHand 115 = .ok (.getfield 85, 3) := by decide +kernel
theorem d_M_byHand_118 : decode c_M_byHand 118 = .ok (.iload 4, 2) := by decide +kernel
theorem d_M_byHand_120 : decode c_M_byHand 120 = .ok (.baload, 1) := by decide +kernel
theorem d_M_byHand_121 : decode c_M_byHand 121 = .ok (.bastore, 1) := by decide +kernel
theorem d_M_byHand_122 : decode c_M_byHand 122 = .ok (.iinc 4 1, 3) := by decide +kernel
theorem d_M_byHand_125 : decode c_M_byHand 125 = .ok (.goto (-28), 3) := by decide +kernel
theorem d_M_byHand_128 : decode c_M_byHand 128 = .ok (.aload_n 0, 1) := by decide +kernel
theorem d_M_byHand_129 : decode c_M_byHand 129 = .ok (.getfield 45, 3) := by decide +kernel
theorem d_M_byHand_132 : decode c_M_byHand 132 = .ok (.iload_n 1, 1) := by decide +kernel
theorem d_M_byHand_133 : decode c_M_byHand 133 = .ok (.bipush 8, 2) := by decide +kernel
theorem d_M_byHand_135 : decode c_M_byHand 135 = .ok (.idiv, 1) := by decide +kernel
theorem d_M_byHand_136 : decode c_M_byHand 136 = .ok (.iload_n 3, 1) := by decide +kernel
theorem d_M_byHand_137 : decode c_M_byHand 137 = .ok (.iconst 1, 1) := by decide +kernel
theorem d_M_byHand_138 : decode c_M_byHand 138 = .ok (.iadd, 1) := by decide +kernel
theorem d_M_byHand_139 : decode c_M_byHand 139 = .ok (.aload_n 0, 1) := by decide +kernel
theorem d_M_byHand_140 : decode c_M_byHand 140 = .ok (.getfield 95, 3) := by decide +kernel
theorem d_M_byHand_143 : decode c_M_byHand 143 = .ok (.irem, 1) := by decide +kernel
theorem d_M_byHand_144 : decode c_M_byHand 144 = .ok (.iastore, 1) := by decide +kernel
theorem d_M_byHand_145 : decode c_M_byHand 145 = .ok (.iload_n 1, 1) := by decide +kernel
theorem d_M_byHand_146 : decode c_M_byHand 146 = .ok (.iload_n 3, 1) := by decide +kernel
theorem d_M_byHand_147 : decode c_M_byHand 147 = .ok (.iadd, 1) := by decide +kernel
theorem d_M_byHand_148 : decode c_M_byHand 148 = .ok (.ireturn, 1) := by decide +kernel
theorem ey_M_byTree : eY y_M_byTree 1 = true := by decide +kernel
theorem d_M_byTree_0 : decode c_M_byTree 0 = .ok (.aload_n 0, 1) := by decide +kernel
theorem d_M_byTree_1 : decode c_M_byTree 1 = .ok (.invokevirtual 117, 3) := by decide +kernel
theorem d_M_byTree_4 : decode c_M_byTree 4 = .ok (.istore_n 2, 1) := by decide +kernel
theorem d_M_byTree_5 : decode c_M_byTree 5 = .ok (.iconst 1, 1) := by decide +kernel
theorem d_M_byTree_6 : decode c_M_byTree 6 = .ok (.istore_n 3, 1) := by decide +kernel
theorem d_M_byTree_7 : decode c_M_byTree 7 = .ok (.iload_n 3, 1) := by decide +kernel
theorem d_M_byTree_8 : decode c_M_byTree 8 = .ok (.iload_n 2, 1) := by decide +kernel
theorem d_M_byTree_9 : decode c_M_byTree 9 = .ok (.if_icmp .ge 27, 3) := by decide +kernel
theorem d_M_byTree_12 : decode c_M_byTree 12 = .ok (.iconst 2, 1) := by decide +kernel
theorem d_M_byTree_13 : decode c_M_byTree 13 = .ok (.iload_n 3, 1) := by decide +kernel
theorem d_M_byTree_14 : decode c_M_byTree 14 = .ok (.imul, 1) := by decide +kernel
theorem d_M_byTree_15 : decode c_M_byTree 15 = .ok (.aload_n 0, 1) := by decide +kernel
theorem d_M_byTree_16 : decode c_M_byTree 16 = .ok (.getfield 48, 3) := by decide +kernel
theorem d_M_byTree_19 : decode c_M_byTree 19 = .ok (.iload_n 1, 1) := by decide +kernel
theorem d_M_byTree_20 : decode c_M_byTree 20 = .ok (.iload_n 3, 1) := by decide +kernel
theorem d_M_byTree_21 : decode c_M_byTree 21 = .ok (.iadd, 1) := by decide +kernel
theorem d_M_byTree_22 : decode c_M_byTree 22 = .ok (.baload, 1) := by decide +kernel
theorem d_M_byTree_23 : decode c_M_byTree 23 = .ok (.ifCond .eq 7, 3) := by decide +kernel
theorem d_M_byTree_26 : decode c_M_byTree 26 = .ok (.iconst 1, 1) := by decide +kernel
theorem d_M_byTree_27 : decode c_M_byTree 27 = .ok (.goto 4, 3) := by decide +kernel
theorem d_M_byTree_30 : decode c_M_byTree 30 = .ok (.iconst 0, 1) := by decide +kernel
theorem d_M_byTree_31 : decode c_M_byTree 31 = .ok (.iadd, 1) := by decide +kernel
theorem d_M_byTree_32 : decode c_M_byTree 32 = .ok (.istore_n 3, 1) := by decide +kernel
theorem d_M_byTree_33 : decode c_M_byTree 33 = .ok (.goto (-26), 3) := by decide +kernel
theorem d_M_byTree_36 : decode c_M_byTree 36 = .ok (.iload_n 3, 1) := by decide +kernel
theorem d_M_byTree_37 : decode c_M_byTree 37 = .ok (.iload_n 2, 1) := by decide +kernel
theorem d_M_byTree_38 : decode c_M_byTree 38 = .ok (.isub, 1) := by decide +kernel
theorem d_M_byTree_39 : decode c_M_byTree 39 = .ok (.istore 4, 2) := by decide +kernel
theorem d_M_byTree_41 : decode c_M_byTree 41 = .ok (.iload 4, 2) := by decide +kernel
theorem d_M_byTree_43 : decode c_M_byTree 43 = .ok (.aload_n 0, 1) := by decide +kernel
theorem d_M_byTree_44 : decode c_M_byTree 44 = .ok (.getfield 95, 3) := by decide +kernel
theorem d_M_byTree_47 : decode c_M_byTree 47 = .ok (.if_icmp .ge 15, 3) := by decide +kernel
theorem d_M_byTree_50 : decode c_M_byTree 50 = .ok (.aload_n 0, 1) := by decide +kernel
theorem d_M_byTree_51 : decode c_M_byTree 51 = .ok (.getfield 27, 3) := by decide +kernel
theorem d_M_byTree_54 : decode c_M_byTree 54 = .ok (.iload_n 1, 1) := by decide +kernel
theorem d_M_byTree_55 : decode c_M_byTree 55 = .ok (.iload 4, 2) := by decide +kernel
theorem d_M_byTree_57 : decode c_M_byTree 57 = .ok (.iadd, 1) := by decide +kernel
theorem d_M_byTree_58 : decode c_M_byTree 58 = .ok (.baload, 1) := by decide +kernel
theorem d_M_byTree_59 : decode c_M_byTree 59 = .ok (.ifCond .eq 14, 3) := by decide +kernel
theorem d_M_byTree_62 : decode c_M_byTree 62 = .ok (.iload 4, 2) := by decide +kernel
theorem d_M_byTree_64 : decode c_M_byTree 64 = .ok (.iconst 1, 1) := by decide +kernel
theorem d_M_byTree_65 : decode c_M_byTree 65 = .ok (.iadd, 1) := by decide +kernel
theorem d_M_byTree_66 : decode c_M_byTree 66 = .ok (.iload_n 2, 1) := by decide +kernel
theorem d_M_byTree_67 : decode c_M_byTree 67 = .ok (.irem, 1) := by decide +kernel
theorem d_M_byTree_68 : decode c_M_byTree 68 = .ok (.istore 4, 2) := by decide +kernel
theorem d_M_byTree_70 : decode c_M_byTree 70 = .ok (.goto (-29), 3) := by decide +kernel
theorem d_M_byTree_73 : decode c_M_byTree 73 = .ok (.iload_n 1, 1) := by decide +kernel
theorem d_M_byTree_74 : decode c_M_byTree 74 = .ok (.iload 4, 2) := by decide +kernel
theorem d_M_byTree_76 : decode c_M_byTree 76 = .ok (.iadd, 1) := by decide +kernel
theorem d_M_byTree_77 : decode c_M_byTree 77 = .ok (.ireturn, 1) := by decide +kernel
theorem ey_M_unmarked : eY y_M_unmarked 1 = true := by decide +kernel
theorem d_M_unmarked_0 : decode c_M_unmarked 0 = .ok (.iconst (-1), 1) := by decide +kernel
theorem d_M_unmarked_1 : decode c_M_unmarked 1 = .ok (.istore_n 2, 1) := by decide +kernel
theorem d_M_unmarked_2 : decode c_M_unmarked 2 = .ok (.iload_n 1, 1) := by decide +kernel
theorem d_M_unmarked_3 : decode c_M_unmarked 3 = .ok (.aload_n 0, 1) := by decide +kernel
theorem d_M_unmarked_4 : decode c_M_unmarked 4 = .ok (.getfield 95, 3) := by decide +kernel
theorem d_M_unmarked_7 : decode c_M_unmarked 7 = .ok (.iadd, 1) := by decide +kernel
theorem d_M_unmarked_8 : decode c_M_unmarked 8 = .ok (.iconst 1, 1) := by decide +kernel
theorem d_M_unmarked_9 : decode c_M_unmarked 9 = .ok (.isub, 1) := by decide +kernel
theorem d_M_unmarked_10 : decode c_M_unmarked 10 = .ok (.istore_n 3, 1) := by decide +kernel
theorem d_M_unmarked_11 : decode c_M_unmarked 11 = .ok (.iload_n 3, 1) := by decide +kernel
theorem d_M_unmarked_12 : decode c_M_unmarked 12 = .ok (.iload_n 1, 1) := by decide +kernel
theorem d_M_unmarked_13 : decode c_M_unmarked 13 = .ok (.if_icmp .lt 24, 3) := by decide +kernel
theorem d_M_unmarked_16 : decode c_M_unmarked 16 = .ok (.aload_n 0, 1) := by decide +kernel
theorem d_M_unmarked_17 : decode c_M_unmarked 17 = .ok (.getfield 27, 3) := by decide +kernel
theorem d_M_unmarked_20 : decode c_M_unmarked 20 = .ok (.iload_n 3, 1) := by decide +kernel
theorem d_M_unmarked_21 : decode c_M_unmarked 21 = .ok (.baload, 1) := by decide +kernel
theorem d_M_unmarked_22 : decode c_M_unmarked 22 = .ok (.ifCond .eq 7, 3) := by decide +kernel
theorem d_M_unmarked_25 : decode c_M_unmarked 25 = .ok (.iload_n 2, 1) := by decide +kernel
theorem d_M_unmarked_26 : decode c_M_unmarked 26 = .ok (.goto 4, 3) := by decide +kernel
theorem d_M_unmarked_29 : decode c_M_unmarked 29 = .ok (.iload_n 3, 1) := by decide +kernel
theorem d_M_unmarked_30 : decode c_M_unmarked 30 = .ok (.istore_n 2, 1) := by decide +kernel
theorem d_M_unmarked_31 : decode c_M_unmarked 31 = .ok (.iinc 3 (-1), 3) := by decide +kernel
theorem d_M_unmarked_34 : decode c_M_unmarked 34 = .ok (.goto (-23), 3) := by decide +kernel
theorem d_M_unmarked_37 : decode c_M_unmarked 37 = .ok (.iload_n 1, 1) := by decide +kernel
theorem d_M_unmarked_38 : decode c_M_unmarked 38 = .ok (.istore_n 3, 1) := by decide +kernel
theorem d_M_unmarked_39 : decode c_M_unmarked 39 = .ok (.iload_n 3, 1) := by decide +kernel
theorem d_M_unmarked_40 : decode c_M_unmarked 40 = .ok (.iload_n 1, 1) := by decide +kernel
theorem d_M_unmarked_41 : decode c_M_unmarked 41 = .ok (.aload_n 0, 1) := by decide +kernel
theorem d_M_unmarked_42 : decode c_M_unmarked 42 = .ok (.getfield 95, 3) := by decide +kernel
theorem d_M_unmarked_45 : decode c_M_unmarked 45 = .ok (.iadd, 1) := by decide +kernel
theorem d_M_unmarked_46 : decode c_M_unmarked 46 = .ok (.if_icmp .ge 29, 3) := by decide +kernel
theorem d_M_unmarked_49 : decode c_M_unmarked 49 = .ok (.aload_n 0, 1) := by decide +kernel
theorem d_M_unmarked_50 : decode c_M_unmarked 50 = .ok (.getfield 27, 3) := by decide +kernel
theorem d_M_unmarked_53 : decode c_M_unmarked 53 = .ok (.iload_n 3, 1) := by decide +kernel
theorem d_M_unmarked_54 : decode c_M_unmarked 54 = .ok (.baload, 1) := by decide +kernel
theorem d_M_unmarked_55 : decode c_M_unmarked 55 = .ok (.ifCond .ne 14, 3) := by decide +kernel
theorem d_M_unmarked_58 : decode c_M_unmarked 58 = .ok (.aload_n 0, 1) := by decide +kernel
theorem d_M_unmarked_59 : decode c_M_unmarked 59 = .ok (.getfield 39, 3) := by decide +kernel
theorem d_M_unmarked_62 : decode c_M_unmarked 62 = .ok (.iload_n 3, 1) := by decide +kernel
theorem d_M_unmarked_63 : decode c_M_unmarked 63 = .ok (.baload, 1) := by decide +kernel
theorem d_M_unmarked_64 : decode c_M_unmarked 64 = .ok (.ifCond .ne 5, 3) := by decide +kernel
theorem d_M_unmarked_67 : decode c_M_unmarked 67 = .ok (.iload_n 3, 1) := by decide +kernel
theorem d_M_unmarked_68 : decode c_M_unmarked 68 = .ok (.ireturn, 1) := by decide +kernel
theorem d_M_unmarked_69 : decode c_M_unmarked 69 = .ok (.iinc 3 1, 3) := by decide +kernel
theorem d_M_unmarked_72 : decode c_M_unmarked 72 = .ok (.goto (-33), 3) := by decide +kernel
theorem d_M_unmarked_75 : decode c_M_unmarked 75 = .ok (.iload_n 2, 1) := by decide +kernel
theorem d_M_unmarked_76 : decode c_M_unmarked 76 = .ok (.ireturn, 1) := by decide +kernel
theorem ey_M_byAge : eY y_M_byAge 2 = true := by decide +kernel
theorem d_M_byAge_0 : decode c_M_byAge 0 = .ok (.iconst 0, 1) := by decide +kernel
theorem d_M_byAge_1 : decode c_M_byAge 1 = .ok (.istore_n 3, 1) := by decide +kernel
theorem d_M_byAge_2 : decode c_M_byAge 2 = .ok (.iload_n 1, 1) := by decide +kernel
theorem d_M_byAge_3 : decode c_M_byAge 3 = .ok (.istore 4, 2) := by decide +kernel
theorem d_M_byAge_5 : decode c_M_byAge 5 = .ok (.iload 4, 2) := by decide +kernel
theorem d_M_byAge_7 : decode c_M_byAge 7 = .ok (.iload_n 1, 1) := by decide +kernel
theorem d_M_byAge_8 : decode c_M_byAge 8 = .ok (.aload_n 0, 1) := by decide +kernel
theorem d_M_byAge_9 : decode c_M_byAge 9 = .ok (.getfield 95, 3) := by decide +kernel
theorem d_M_byAge_12 : decode c_M_byAge 12 = .ok (.iadd, 1) := by decide +kernel
theorem d_M_byAge_13 : decode c_M_byAge 13 = .ok (.if_icmp .ge 42, 3) := by decide +kernel
theorem d_M_byAge_16 : decode c_M_byAge 16 = .ok (.aload_n 0, 1) := by decide +kernel
theorem d_M_byAge_17 : decode c_M_byAge 17 = .ok (.getfield 27, 3) := by decide +kernel
theorem d_M_byAge_20 : decode c_M_byAge 20 = .ok (.iload 4, 2) := by decide +kernel
theorem d_M_byAge_22 : decode c_M_byAge 22 = .ok (.baload, 1) := by decide +kernel
theorem d_M_byAge_23 : decode c_M_byAge 23 = .ok (.ifCond .ne 24, 3) := by decide +kernel
theorem d_M_byAge_26 : decode c_M_byAge 26 = .ok (.aload_n 0, 1) := by decide +kernel
theorem d_M_byAge_27 : decode c_M_byAge 27 = .ok (.getfield 42, 3) := by decide +kernel
theorem d_M_byAge_30 : decode c_M_byAge 30 = .ok (.iload 4, 2) := by decide +kernel
theorem d_M_byAge_32 : decode c_M_byAge 32 = .ok (.iaload, 1) := by decide +kernel
theorem d_M_byAge_33 : decode c_M_byAge 33 = .ok (.iload_n 3, 1) := by decide +kernel
theorem d_M_byAge_34 : decode c_M_byAge 34 = .ok (.if_icmp .le 13, 3) := by decide +kernel
theorem d_M_byAge_37 : decode c_M_byAge 37 = .ok (.aload_n 0, 1) := by decide +kernel
theorem d_M_byAge_38 : decode c_M_byAge 38 = .ok (.getfield 42, 3) := by decide +kernel
theorem d_M_byAge_41 : decode c_M_byAge 41 = .ok (.iload 4, 2) := by decide +kernel
theorem d_M_byAge_43 : decode c_M_byAge 43 = .ok (.iaload, 1) := by decide +kernel
theorem d_M_byAge_44 : decode c_M_byAge 44 = .ok (.goto 4, 3) := by decide +kernel
theorem d_M_byAge_47 : decode c_M_byAge 47 = .ok (.iload_n 3, 1) := by decide +kernel
theorem d_M_byAge_48 : decode c_M_byAge 48 = .ok (.istore_n 3, 1) := by decide +kernel
theorem d_M_byAge_49 : decode c_M_byAge 49 = .ok (.iinc 4 1, 3) := by decide +kernel
theorem d_M_byAge_52 : decode c_M_byAge 52 = .ok (.goto (-47), 3) := by decide +kernel
theorem d_M_byAge_55 : decode c_M_byAge 55 = .ok (.iload_n 1, 1) := by decide +kernel
theorem d_M_byAge_56 : decode c_M_byAge 56 = .ok (.istore 4, 2) := by decide +kernel
theorem d_M_byAge_58 : decode c_M_byAge 58 = .ok (.iload 4, 2) := by decide +kernel
theorem d_M_byAge_60 : decode c_M_byAge 60 = .ok (.iload_n 1, 1) := by decide +kernel
theorem d_M_byAge_61 : decode c_M_byAge 61 = .ok (.aload_n 0, 1) := by decide +kernel
theorem d_M_byAge_62 : decode c_M_byAge 62 = .ok (.getfield 95, 3) := by decide +kernel
theorem d_M_byAge_65 : decode c_M_byAge 65 = .ok (.iadd, 1) := by decide +kernel
theorem d_M_byAge_66 : decode c_M_byAge 66 = .ok (.if_icmp .ge 40, 3) := by decide +kernel
theorem d_M_byAge_69 : decode c_M_byAge 69 = .ok (.iload_n 2, 1) := by decide +kernel
theorem d_M_byAge_70 : decode c_M_byAge 70 = .ok (.ifCond .eq 36, 3) := by decide +kernel
theorem d_M_byAge_73 : decode c_M_byAge 73 = .ok (.aload_n 0, 1) := by decide +kernel
theorem d_M_byAge_74 : decode c_M_byAge 74 = .ok (.getfield 42, 3) := by decide +kernel
theorem d_M_byAge_77 : decode c_M_byAge 77 = .ok (.iload 4, 2) := by decide +kernel
theorem d_M_byAge_79 : decode c_M_byAge 79 = .ok (.dup2, 1) := by decide +kernel
theorem d_M_byAge_80 : decode c_M_byAge 80 = .ok (.iaload, 1) := by decide +kernel
theorem d_M_byAge_81 : decode c_M_byAge 81 = .ok (.aload_n 0, 1) := by decide +kernel
theorem d_M_byAge_82 : decode c_M_byAge 82 = .ok (.getfield 27, 3) := by decide +kernel
theorem d_M_byAge_85 : decode c_M_byAge 85 = .ok (.iload 4, 2) := by decide +kernel
theorem d_M_byAge_87 : decode c_M_byAge 87 = .ok (.baload, 1) := by decide +kernel
theorem d_M_byAge_88 : decode c_M_byAge 88 = .ok (.ifCond .eq 7, 3) := by decide +kernel
theorem d_M_byAge_91 : decode c_M_byAge 91 = .ok (.iconst 0, 1) := by decide +kernel
theorem d_M_byAge_92 : decode c_M_byAge 92 = .ok (.goto 6, 3) := by decide +kernel
theorem d_M_byAge_95 : decode c_M_byAge 95 = .ok (.iconst 3, 1) := by decide +kernel
theorem d_M_byAge_96 : decode c_M_byAge 96 = .ok (.iload_n 3, 1) := by decide +kernel
theorem d_M_byAge_97 : decode c_M_byAge 97 = .ok (.isub, 1) := by decide +kernel
theorem d_M_byAge_98 : decode c_M_byAge 98 = .ok (.iadd, 1) := by decide +kernel
theorem d_M_byAge_99 : decode c_M_byAge 99 = .ok (.iastore, 1) := by decide +kernel
theorem d_M_byAge_100 : decode c_M_byAge 100 = .ok (.iinc 4 1, 3) := by decide +kernel
theorem d_M_byAge_103 : decode c_M_byAge 103 = .ok (.goto (-45), 3) := by decide +kernel
theorem d_M_byAge_106 : decode c_M_byAge 106 = .ok (.iload_n 2, 1) := by decide +kernel
theorem d_M_byAge_107 : decode c_M_byAge 107 = .ok (.ifCond .eq 7, 3) := by decide +kernel
theorem d_M_byAge_110 : decode c_M_byAge 110 = .ok (.iconst 3, 1) := by decide +kernel
theorem d_M_byAge_111 : decode c_M_byAge 111 = .ok (.goto 4, 3) := by decide +kernel
theorem d_M_byAge_114 : decode c_M_byAge 114 = .ok (.iload_n 3, 1) := by decide +kernel
theorem d_M_byAge_115 : decode c_M_byAge 115 = .ok (.istore 4, 2) := by decide +kernel
theorem d_M_byAge_117 : decode c_M_byAge 117 = .ok (.iload_n 1, 1) := by decide +kernel
theorem d_M_byAge_118 : decode c_M_byAge 118 = .ok (.istore 5, 2) := by decide +kernel
theorem d_M_byAge_120 : decode c_M_byAge 120 = .ok (.aload_n 0, 1) := by decide +kernel
theorem d_M_byAge_121 : decode c_M_byAge 121 = .ok (.getfield 27, 3) := by decide +kernel
theorem d_M_byAge_124 : decode c_M_byAge 124 = .ok (.iload 5, 2) := by decide +kernel
theorem d_M_byAge_126 : decode c_M_byAge 126 = .ok (.baload, 1) := by decide +kernel
theorem d_M_byAge_127 : decode c_M_byAge 127 = .ok (.ifCond .ne 15, 3) := by decide +kernel
theorem d_M_byAge_130 : decode c_M_byAge 130 = .ok (.aload_n 0, 1) := by decide +kernel
theorem d_M_byAge_131 : decode c_M_byAge 131 = .ok (.getfield 42, 3) := by decide +kernel
theorem d_M_byAge_134 : decode c_M_byAge 134 = .ok (.iload 5, 2) := by decide +kernel
theorem d_M_byAge_136 : decode c_M_byAge 136 = .ok (.iaload, 1) := by decide +kernel
theorem d_M_byAge_137 : decode c_M_byAge 137 = .ok (.iload 4, 2) := by decide +kernel
theorem d_M_byAge_139 : decode c_M_byAge 139 = .ok (.if_icmp .eq 9, 3) := by decide +kernel
theorem d_M_byAge_142 : decode c_M_byAge 142 = .ok (.iinc 5 1, 3) := by decide +kernel
theorem d_M_byAge_145 : decode c_M_byAge 145 = .ok (.goto (-25), 3) := by decide +kernel
theorem d_M_byAge_148 : decode c_M_byAge 148 = .ok (.iload 5, 2) := by decide +kernel
theorem d_M_byAge_150 : decode c_M_byAge 150 = .ok (.ireturn, 1) := by decide +kernel
theorem ey_M_pick : eY y_M_pick 2 = true := by decide +kernel
theorem d_M_pick_0 : decode c_M_pick 0 = .ok (.aload_n 0, 1) := by decide +kernel
theorem d_M_pick_1 : decode c_M_pick 1 = .ok (.getfield 98, 3) := by decide +kernel
theorem d_M_pick_4 : decode c_M_pick 4 = .ok (.tableswitch 73 3 8 #[40, 73, 47, 54, 60, 66], 40) := by decide +kernel
theorem d_M_pick_44 : decode c_M_pick 44 = .ok (.aload_n 0, 1) := by decide +kernel
theorem d_M_pick_45 : decode c_M_pick 45 = .ok (.iload_n 1, 1) := by decide +kernel
theorem d_M_pick_46 : decode c_M_pick 46 = .ok (.iload_n 2, 1) := by decide +kernel
theorem d_M_pick_47 : decode c_M_pick 47 = .ok (.invokevirtual 138, 3) := by decide +kernel
theorem d_M_pick_50 : decode c_M_pick 50 = .ok (.ireturn, 1) := by decide +kernel
theorem d_M_pick_51 : decode c_M_pick 51 = .ok (.aload_n 0, 1) := by decide +kernel
theorem d_M_pick_52 : decode c_M_pick 52 = .ok (.iload_n 1, 1) := by decide +kernel
theorem d_M_pick_53 : decode c_M_pick 53 = .ok (.iload_n 2, 1) := by decide +kernel
theorem d_M_pick_54 : decode c_M_pick 54 = .ok (.invokevirtual 142, 3) := by decide +kernel
theorem d_M_pick_57 : decode c_M_pick 57 = .ok (.ireturn, 1) := by decide +kernel
theorem d_M_pick_58 : decode c_M_pick 58 = .ok (.aload_n 0, 1) := by decide +kernel
theorem d_M_pick_59 : decode c_M_pick 59 = .ok (.iload_n 1, 1) := by decide +kernel
theorem d_M_pick_60 : decode c_M_pick 60 = .ok (.invokevirtual 145, 3) := by decide +kernel
theorem d_M_pick_63 : decode c_M_pick 63 = .ok (.ireturn, 1) := by decide +kernel
theorem d_M_pick_64 : decode c_M_pick 64 = .ok (.aload_n 0, 1) := by decide +kernel
theorem d_M_pick_65 : decode c_M_pick 65 = .ok (.iload_n 1, 1) := by decide +kernel
theorem d_M_pick_66 : decode c_M_pick 66 = .ok (.invokevirtual 148, 3) := by decide +kernel
theorem d_M_pick_69 : decode c_M_pick 69 = .ok (.ireturn, 1) := by decide +kernel
theorem d_M_pick_70 : decode c_M_pick 70 = .ok (.aload_n 0, 1) := by decide +kernel
theorem d_M_pick_71 : decode c_M_pick 71 = .ok (.iload_n 1, 1) := by decide +kernel
theorem d_M_pick_72 : decode c_M_pick 72 = .ok (.iload_n 2, 1) := by decide +kernel
theorem d_M_pick_73 : decode c_M_pick 73 = .ok (.invokevirtual 151, 3) := by decide +kernel
theorem d_M_pick_76 : decode c_M_pick 76 = .ok (.ireturn, 1) := by decide +kernel
theorem d_M_pick_77 : decode c_M_pick 77 = .ok (.aload_n 0, 1) := by decide +kernel
theorem d_M_pick_78 : decode c_M_pick 78 = .ok (.iload_n 1, 1) := by decide +kernel
theorem d_M_pick_79 : decode c_M_pick 79 = .ok (.invokevirtual 154, 3) := by decide +kernel
theorem d_M_pick_82 : decode c_M_pick 82 = .ok (.ireturn, 1) := by decide +kernel
def lcg (x : Int32) : Int32 := (1103515245 * x + 12345) &&& 2147483647
/-- by hand: marks and hand behind the loop, if it ends within t steps -/
def hndO (lk : Nat → Bool) (wd : Nat) : Nat → (Nat → Int32) → Nat → Option ((Nat → Int32) × Nat)
  | 0, _, _ => none
  | t + 1, g, h => if lk h = false ∧ g h = 0 then some (g, h) else hndO lk wd t (if lk h then g else upd g h 0) ((h + 1) % wd)
/-- the next one that is right, going up and round, if it comes within t steps -/
def twO (lk : Nat → Bool) (wd P : Nat) : Nat → Nat → Option Nat
  | 0, _ => none
  | t + 1, w => if w < wd ∧ lk w = false then some w else twO lk wd P t ((w + 1) % P)
/-- where the bits point -/
def trM (g : Nat → Int32) (b0 P : Nat) : Nat → Nat → Nat
  | 0, node => node
  | t + 1, node => if node < P then trM g b0 P t (2 * node + (if g (b0 + node) = 0 then 0 else 1)) else node
/-- the greatest age of those that are free -/
def mxA (lk : Nat → Bool) (g : Nat → Int32) : Int32 → Nat → Nat → Int32
  | y, _, 0 => y
  | y, k, q + 1 => mxA lk g (if lk k = false ∧ ¬ g k ≤ y then g k else y) (k + 1) q
/-- all that are free grow older by y, from slot lo up to hi -/
def agM (lk : Nat → Bool) (g : Nat → Int32) (y : Int32) (lo hi : Nat) : Nat → Int32 := fun j => if lo ≤ j ∧ j < hi ∧ lk j = false then g j + y else g j
theorem agM_0 (lk : Nat → Bool) (g : Nat → Int32) (y : Int32) (lo : Nat) : agM lk g y lo lo = g := by
  funext j
  unfold agM
  rw [if_neg (by omega)]
theorem agM_l {lk : Nat → Bool} {g : Nat → Int32} {y : Int32} {lo k : Nat} (h : lk k = true) : agM lk g y lo (k + 1) = upd (agM lk g y lo k) k (agM lk g y lo k k + 0) := by
  funext j
  by_cases hj : j = k
  · subst hj
    rw [pk_us]
    unfold agM
    rw [if_neg (fun z => by rw [h] at z; exact absurd z.2.2 (by decide)), if_neg (by omega), Int32.add_zero]
  · rw [pk_un hj]
    unfold agM
    by_cases h2 : lo ≤ j ∧ j < k ∧ lk j = false
    · rw [if_pos ⟨h2.1, by omega, h2.2.2⟩, if_pos h2]
    · rw [if_neg (fun z => h2 ⟨z.1, by omega, z.2.2⟩), if_neg h2]
theorem agM_s {lk : Nat → Bool} {g : Nat → Int32} {y : Int32} {lo k : Nat} (hk : lo ≤ k) (h : lk k = false) : agM lk g y lo (k + 1) = upd (agM lk g y lo k) k (agM lk g y lo k k + y) := by
  funext j
  by_cases hj : j = k
  · subst hj
    rw [pk_us]
    unfold agM
    rw [if_pos ⟨hk, by omega, h⟩, if_neg (by omega)]
  · rw [pk_un hj]
    unfold agM
    by_cases h2 : lo ≤ j ∧ j < k ∧ lk j = false
    · rw [if_pos ⟨h2.1, by omega, h2.2.2⟩, if_pos h2]
    · rw [if_neg (fun z => h2 ⟨z.1, by omega, z.2.2⟩), if_neg h2]
/-- marks copied -/
def cpM (g : Nat → Int32) (b0 : Nat) (o : Nat → Int32) (k : Nat) : Nat → Int32 := fun j => if j < k then g (b0 + j) else o j
theorem cpM_0 (g : Nat → Int32) (b0 : Nat) (o : Nat → Int32) : cpM g b0 o 0 = o := by
  funext j
  simp [cpM]
theorem cpM_s (g : Nat → Int32) (b0 : Nat) (o : Nat → Int32) (k : Nat) : cpM g b0 o (k + 1) = upd (cpM g b0 o k) k (g (b0 + k)) := by
  funext j
  by_cases hj : j = k
  · subst hj
    rw [pk_us]
    simp [cpM]
  · rw [pk_un hj]
    unfold cpM
    by_cases h2 : j < k
    · rw [if_pos (by omega), if_pos h2]
    · rw [if_neg (by omega), if_neg h2]
/-- marks copied back -/
def cbM (g : Nat → Int32) (b0 : Nat) (o : Nat → Int32) (k : Nat) : Nat → Int32 := fun j => if b0 ≤ j ∧ j < b0 + k then g (j - b0) else o j
theorem cbM_0 (g : Nat → Int32) (b0 : Nat) (o : Nat → Int32) : cbM g b0 o 0 = o := by
  funext j
  unfold cbM
  rw [if_neg (by omega)]
theorem cbM_s (g : Nat → Int32) (b0 : Nat) (o : Nat → Int32) (k : Nat) : cbM g b0 o (k + 1) = upd (cbM g b0 o k) (b0 + k) (g k) := by
  funext j
  by_cases hj : j = b0 + k
  · subst hj
    rw [pk_us]
    unfold cbM
    rw [if_pos (by omega), show b0 + k - b0 = k by omega]
  · rw [pk_un hj]
    unfold cbM
    by_cases h2 : b0 ≤ j ∧ j < b0 + k
    · rw [if_pos (by omega), if_pos h2]
    · rw [if_neg (by omega), if_neg h2]
def BL (g : Nat → Int32) : Prop := ∀ j, g j = 0 ∨ g j = 1
theorem BL.nar {g : Nat → Int32} (h : BL g) (j : Nat) : vp_nar .boolean (g j) = g j := by
  rcases h j with e | e <;> rw [e] <;> rfl
theorem BL.up {g : Nat → Int32} (h : BL g) (k : Nat) {x : Int32} (hx : x = 0 ∨ x = 1) : BL (upd g k x) := by
  intro j
  by_cases hj : j = k
  · subst hj
    rw [pk_us]
    exact hx
  · rw [pk_un hj]
    exact h j
section M2
variable {l : Launch} {G : EG} {a : Nat → Nat} {m : CS} {S wd V kd s w : Nat} {ws : va_W}
set_option maxRecDepth 100000 in
theorem k_M_byChance (h : MD m.1 S wd V kd) (hs : s < 16) (mv : Bool) {x r : Nat} (hx : x < 2 ^ 31) (h20 : m.1 20 = nI x) (hn : cntU (lkM m.2) 0 (8 * s) wd ≠ 0) (hr : nthU (lkM m.2) (x / 65536 % cntU (lkM m.2) 0 (8 * s) wd) (8 * s) wd = some r) :
    Con l G y_M_byChance c_M_byChance 6 (some .int) (rz 0 0) [.ref (a 40), .int (nI (8 * s)), .int (bI mv)] (mF G a m.1 m.2) (DI (nI r) (mF G a (if mv then upd m.1 20 (lcg (m.1 20)) else m.1) m.2)) := by
  refine Con.of rfl rfl (fun X C E hR hl hnm => ?_)
  have hw8 := h.w8
  have hb0 : 8 * s + 8 ≤ 128 := by omega
  refine e_iconst C d_M_byChance_0 (v := 0) (by decide) ?_
  refine e_istore_n C d_M_byChance_1 rfl ?_
  refine e_iload_n C d_M_byChance_2 rfl ?_
  refine e_istore C d_M_byChance_3 rfl ?_
  generalize 8 * s = b0 at E hb0 hn hr ⊢
  have fin : ∀ (v : Nat → Int32) (c : Nat), v = (if mv then upd m.1 20 (lcg (m.1 20)) else m.1) → c < 2 ^ 20 → nthU (lkM m.2) c b0 wd = some r → EW X G 6 0 0 73 [(0, .ref (a 40)), (1, .int (nI b0)), (4, .int (nI c))] [] (mF G a v m.2) := by
    intro v c hv hc hr
    rw [← hv] at E
    refine e_iload_n C d_M_byChance_73 rfl ?_
    refine e_istore C d_M_byChance_74 rfl ?_
    have L2 : ∀ (q k t : Nat), k + q = b0 + wd → t < 2 ^ 20 → nthU (lkM m.2) t k q = some r → EW X G 6 0 0 76 [(0, .ref (a 40)), (4, .int (nI t)), (5, .int (nI k))] [] (mF G a v m.2) := by
      intro q
      induction q with
      | zero => intro k t hk ht hf; cases hf
      | succ q ih =>
        intro k t hk ht hf
        rw [nthU] at hf
        refine e_aload_n C d_M_byChance_76 rfl ?_
        refine e_get C 0 (k := 11) in_M g750 d_M_byChance_77 rfl rfl rfl rfl ?_
        refine e_iload C d_M_byChance_80 rfl ?_
        refine e_zald C 5 1 d_M_byChance_82 rfl rfl k rfl (by omega) (by omega) ?_
        refine e_if_ne C d_M_byChance_83 (tgt := 91) (by decide) (fun h83 => ?_) (fun h83 => ?_)
        · have hh : lkM m.2 k = true := by simp [lkM]; exact h83
          rw [if_pos hh] at hf
          refine e_iload C d_M_byChance_91 rfl ?_
          refine e_aload_n C d_M_byChance_93 rfl ?_
          refine e_get C 0 (k := 11) in_M g750 d_M_byChance_94 rfl rfl rfl rfl ?_
          refine e_iload C d_M_byChance_97 rfl ?_
          refine e_zald C 5 1 d_M_byChance_99 rfl rfl k rfl (by omega) (by omega) ?_
          refine e_if_eq C d_M_byChance_100 (tgt := 107) (by decide) (fun h100 => ?_) (fun h100 => ?_)
          · exact absurd h100 h83
          · skip
            refine e_iconst C d_M_byChance_103 (v := 0) (by decide) ?_
            refine e_goto C d_M_byChance_104 (tgt := 108) (by decide) ?_
            refine e_isub C d_M_byChance_108 ?_
            refine e_top (y := nI t) (by rw [Int32.sub_zero]) ?_
            refine e_istore C d_M_byChance_109 rfl ?_
            refine e_iinc C d_M_byChance_111 rfl (nI_1 k) rfl ?_
            refine e_goto C d_M_byChance_114 (tgt := 76) (by decide) ?_
            exact e_lv2 (ih (k + 1) t (by omega) ht hf) rfl
        · have hh : lkM m.2 k = false := by simp [lkM]; exact h83
          rw [if_neg (by rw [hh]; decide)] at hf
          refine e_iload C d_M_byChance_86 rfl ?_
          refine e_if_le C d_M_byChance_88 (tgt := 117) (by decide) (fun h88 => ?_) (fun h88 => ?_)
          · have ht0 : t = 0 := by
              rcases Nat.eq_zero_or_pos t with z | z
              · exact z
              · exact absurd h88 (nI_nle z (by omega))
            rw [if_pos ht0] at hf
            cases hf
            refine e_iload C d_M_byChance_117 rfl ?_
            exact e_iret C E d_M_byChance_119 (Nat.le_refl _) (Nat.le_refl _) rfl ⟨rfl, rfl⟩
          · have ht0 : ¬ t = 0 := fun z => h88 (by rw [z]; decide)
            rw [if_neg ht0] at hf
            obtain ⟨t', rfl⟩ : ∃ t', t = t' + 1 := ⟨t - 1, by omega⟩
            refine e_iload C d_M_byChance_91 rfl ?_
            refine e_aload_n C d_M_byChance_93 rfl ?_
            refine e_get C 0 (k := 11) in_M g750 d_M_byChance_94 rfl rfl rfl rfl ?_
            refine e_iload C d_M_byChance_97 rfl ?_
            refine e_zald C 5 1 d_M_byChance_99 rfl rfl k rfl (by omega) (by omega) ?_
            refine e_if_eq C d_M_byChance_100 (tgt := 107) (by decide) (fun h100 => ?_) (fun h100 => ?_)
            · skip
              refine e_iconst C d_M_byChance_107 (v := 1) (by decide) ?_
              refine e_isub C d_M_byChance_108 ?_
              refine e_top (nI_pred t') ?_
              refine e_istore C d_M_byChance_109 rfl ?_
              refine e_iinc C d_M_byChance_111 rfl (nI_1 k) rfl ?_
              refine e_goto C d_M_byChance_114 (tgt := 76) (by decide) ?_
              exact e_lv2 (ih (k + 1) t' (by omega) (by omega) hf) rfl
            · exact absurd h83 h100
    exact e_lv2 (L2 wd b0 c rfl hc hr) rfl
  have L : ∀ (q k c : Nat), k + q = b0 + wd → c ≤ k → cntU (lkM m.2) c k q = cntU (lkM m.2) 0 b0 wd → EW X G 6 0 0 5 [(0, .ref (a 40)), (1, .int (nI b0)), (2, .int (bI mv)), (3, .int (nI c)), (4, .int (nI k))] [] (mF G a m.1 m.2) := by
    intro q
    induction q with
    | zero =>
      intro k c hk hck hf
      have hf : c = _ := hf
      rw [← hf] at hn hr
      refine e_iload C d_M_byChance_5 rfl ?_
      refine e_iload_n C d_M_byChance_7 rfl ?_
      refine e_aload_n C d_M_byChance_8 rfl ?_
      refine e_get C 0 (k := 2) in_M g741 d_M_byChance_9 rfl rfl rfl rfl ?_
      refine e_top h.2.1 ?_
      refine e_iadd C d_M_byChance_12 ?_
      refine e_top (nI_add _ _) ?_
      refine e_icmp_ge C d_M_byChance_13 (tgt := 40) (by decide) (fun h13 => ?_) (fun h13 => ?_)
      · have hlt : x / 65536 % c < c := Nat.mod_lt _ (by omega)
        refine e_aload_n C d_M_byChance_40 rfl ?_
        refine e_get C 0 (k := 20) in_M g759 d_M_byChance_41 rfl rfl rfl rfl ?_
        refine e_top h20 ?_
        refine e_ldc C g935 d_M_byChance_44 ?_
        refine e_top (y := nI 65536) rfl ?_
        refine e_idiv C d_M_byChance_46 (nI_ne0 (by omega) (by omega)) ?_
        refine e_top (pk_div hx (by omega) (by omega)) ?_
        refine e_iload_n C d_M_byChance_47 rfl ?_
        refine e_irem C d_M_byChance_48 (nI_ne0 (by omega) (by omega)) ?_
        refine e_top (pk_rem (by omega) (by omega) (by omega)) ?_
        refine e_istore C d_M_byChance_49 rfl ?_
        refine e_iload_n C d_M_byChance_51 rfl ?_
        refine e_if_eq C d_M_byChance_52 (tgt := 73) (by decide) (fun h52 => ?_) (fun h52 => ?_)
        · rw [bI_0] at h52
          exact e_lv2 (fin m.1 _ (by rw [h52]; rfl) (by omega) hr) rfl
        · rw [bI_n] at h52
          refine e_aload_n C d_M_byChance_55 rfl ?_
          refine e_ldc C g936 d_M_byChance_56 ?_
          refine e_aload_n C d_M_byChance_58 rfl ?_
          refine e_get C 0 (k := 20) in_M g759 d_M_byChance_59 rfl rfl rfl rfl ?_
          refine e_imul C d_M_byChance_62 ?_
          refine e_sipush C d_M_byChance_63 (v := 12345) (by decide) ?_
          refine e_iadd C d_M_byChance_66 ?_
          refine e_ldc C g937 d_M_byChance_67 ?_
          refine e_iand C d_M_byChance_69 ?_
          refine e_put C 0 (k := 20) in_M tk_M nm_M g759 d_M_byChance_70 rfl rfl rfl rfl rfl rfl rfl rfl ?_
          refine e_eq (ws' := mF G a (upd m.1 20 (lcg (m.1 20))) m.2) rfl ?_
          exact e_lv2 (fin _ _ (by rw [h52]; rfl) (by omega) hr) rfl
      · exact absurd (nI_le (by omega) (by omega)) h13
    | succ q ih =>
      intro k c hk hck hf
      refine e_iload C d_M_byChance_5 rfl ?_
      refine e_iload_n C d_M_byChance_7 rfl ?_
      refine e_aload_n C d_M_byChance_8 rfl ?_
      refine e_get C 0 (k := 2) in_M g741 d_M_byChance_9 rfl rfl rfl rfl ?_
      refine e_top h.2.1 ?_
      refine e_iadd C d_M_byChance_12 ?_
      refine e_top (nI_add _ _) ?_
      refine e_icmp_ge C d_M_byChance_13 (tgt := 40) (by decide) (fun h13 => ?_) (fun h13 => ?_)
      · exact absurd h13 (nI_ge (by omega) (by omega))
      · skip
        refine e_iload_n C d_M_byChance_16 rfl ?_
        refine e_aload_n C d_M_byChance_17 rfl ?_
        refine e_get C 0 (k := 11) in_M g750 d_M_byChance_18 rfl rfl rfl rfl ?_
        refine e_iload C d_M_byChance_21 rfl ?_
        refine e_zald C 5 1 d_M_byChance_23 rfl rfl k rfl (by omega) (by omega) ?_
        refine e_if_eq C d_M_byChance_24 (tgt := 31) (by decide) (fun h24 => ?_) (fun h24 => ?_)
        · have hh : lkM m.2 k = false := by simp [lkM]; exact h24
          refine e_iconst C d_M_byChance_31 (v := 1) (by decide) ?_
          refine e_iadd C d_M_byChance_32 ?_
          refine e_top (nI_1 c) ?_
          refine e_istore_n C d_M_byChance_33 rfl ?_
          refine e_iinc C d_M_byChance_34 rfl (nI_1 k) rfl ?_
          refine e_goto C d_M_byChance_37 (tgt := 5) (by decide) ?_
          exact e_lv2 (ih (k + 1) (c + 1) (by omega) (by omega) (by rw [← hf]; simp [cntU, hh])) rfl
        · have hh : lkM m.2 k = true := by simp [lkM]; exact h24
          refine e_iconst C d_M_byChance_27 (v := 0) (by decide) ?_
          refine e_goto C d_M_byChance_28 (tgt := 32) (by decide) ?_
          refine e_iadd C d_M_byChance_32 ?_
          refine e_top (y := nI c) (by rw [Int32.add_zero]) ?_
          refine e_istore_n C d_M_byChance_33 rfl ?_
          refine e_iinc C d_M_byChance_34 rfl (nI_1 k) rfl ?_
          refine e_goto C d_M_byChance_37 (tgt := 5) (by decide) ?_
          exact e_lv2 (ih (k + 1) c (by omega) (by omega) (by rw [← hf]; simp [cntU, hh])) rfl
  exact e_lv2 (L wd b0 0 rfl (by omega) rfl) rfl
set_option maxRecDepth 100000 in
theorem k_M_byTree (h : MD m.1 S wd V kd) (hs : s < 16) {r : Nat} (hr : twO (fun w => lkM m.2 (8 * s + w)) wd (lvN wd) 16 (trM (m.2 19) (8 * s) (lvN wd) 4 1 - lvN wd) = some r) : Con l G y_M_byTree c_M_byTree 5 (some .int) (rz 1 20) [.ref (a 40), .int (nI (8 * s))] (mF G a m.1 m.2) (DI (nI (8 * s + r)) (mF G a m.1 m.2)) := by
  refine Con.of rfl rfl (fun X C E hR hl hnm => ?_)
  have hw8 := h.w8
  have hP := lvN_8 wd
  have hb0 : 8 * s + 8 ≤ 128 := by omega
  refine e_aload_n C d_M_byTree_0 rfl ?_
  refine e_cVi C hR 0 (k_M_treeSize h) g902 g14 g899 g901 (gt_sel 21 (by decide +kernel) (by decide +kernel)) d_M_byTree_1 rfl ey_M_treeSize rfl rfl rfl rfl ⟨Nat.zero_le _, Nat.zero_le _⟩ ?_
  refine e_istore_n C d_M_byTree_4 rfl ?_
  refine e_iconst C d_M_byTree_5 (v := 1) (by decide) ?_
  refine e_istore_n C d_M_byTree_6 rfl ?_
  generalize lvN wd = P at hP hr ⊢
  generalize 8 * s = b0 at E hb0 hr ⊢
  have fin : ∀ (t w0 : Nat), w0 < 8 → twO (fun w => lkM m.2 (b0 + w)) wd P t w0 = some r → EW X G 5 0 0 41 [(0, .ref (a 40)), (1, .int (nI b0)), (2, .int (nI P)), (4, .int (nI w0))] [] (mF G a m.1 m.2) := by
    intro t
    induction t with
    | zero => intro w0 hw0 hf; cases hf
    | succ t ih =>
      intro w0 hw0 hf
      rw [twO] at hf
      have nxt : ¬ (w0 < wd ∧ lkM m.2 (b0 + w0) = false) → EW X G 5 0 0 62 [(0, .ref (a 40)), (1, .int (nI b0)), (2, .int (nI P)), (4, .int (nI w0))] [] (mF G a m.1 m.2) := by
        intro hne
        rw [if_neg hne] at hf
        have hml : (w0 + 1) % P < P := Nat.mod_lt _ (by omega)
        refine e_iload C d_M_byTree_62 rfl ?_
        refine e_iconst C d_M_byTree_64 (v := 1) (by decide) ?_
        refine e_iadd C d_M_byTree_65 ?_
        refine e_top (nI_1 w0) ?_
        refine e_iload_n C d_M_byTree_66 rfl ?_
        refine e_irem C d_M_byTree_67 (nI_ne0 (by omega) (by omega)) ?_
        refine e_top (pk_rem (by omega) (by omega) (by omega)) ?_
        refine e_istore C d_M_byTree_68 rfl ?_
        refine e_goto C d_M_byTree_70 (tgt := 41) (by decide) ?_
        exact e_lv2 (ih _ (by omega) hf) rfl
      refine e_iload C d_M_byTree_41 rfl ?_
      refine e_aload_n C d_M_byTree_43 rfl ?_
      refine e_get C 0 (k := 2) in_M g741 d_M_byTree_44 rfl rfl rfl rfl ?_
      refine e_top h.2.1 ?_
      refine e_icmp_ge C d_M_byTree_47 (tgt := 62) (by decide) (fun h47 => ?_) (fun h47 => ?_)
      · rw [nI_leI (by omega) (by omega)] at h47
        exact e_lv2 (nxt (fun z => by omega)) rfl
      · rw [nI_leI (by omega) (by omega)] at h47
        refine e_aload_n C d_M_byTree_50 rfl ?_
        refine e_get C 0 (k := 11) in_M g750 d_M_byTree_51 rfl rfl rfl rfl ?_
        refine e_iload_n C d_M_byTree_54 rfl ?_
        refine e_iload C d_M_byTree_55 rfl ?_
        refine e_iadd C d_M_byTree_57 ?_
        refine e_zald C 5 1 d_M_byTree_58 rfl rfl (b0 + w0) (nI_add _ _) (by omega) (by omega) ?_
        refine e_if_eq C d_M_byTree_59 (tgt := 73) (by decide) (fun h59 => ?_) (fun h59 => ?_)
        · have hh : lkM m.2 (b0 + w0) = false := by simp [lkM]; exact h59
          rw [if_pos ⟨by omega, hh⟩] at hf
          cases hf
          refine e_iload_n C d_M_byTree_73 rfl ?_
          refine e_iload C d_M_byTree_74 rfl ?_
          refine e_iadd C d_M_byTree_76 ?_
          refine e_top (nI_add _ _) ?_
          exact e_iret C E d_M_byTree_77 (Nat.le_refl _) (Nat.le_refl _) rfl ⟨rfl, rfl⟩
        · have hh : lkM m.2 (b0 + w0) = true := by simp [lkM]; exact h59
          exact e_lv2 (nxt (fun z => by rw [hh] at z; exact absurd z.2 (by decide))) rfl
  have L : ∀ (q node : Nat), node * 2 ^ q ≥ P → node < 2 * P → 1 ≤ node → trM (m.2 19) b0 P q node = trM (m.2 19) b0 P 4 1 → EW X G 5 0 0 7 [(0, .ref (a 40)), (1, .int (nI b0)), (2, .int (nI P)), (3, .int (nI node))] [] (mF G a m.1 m.2) := by
    have go : ∀ node : Nat, P ≤ node → node < 2 * P → node = trM (m.2 19) b0 P 4 1 → EW X G 5 0 0 36 [(0, .ref (a 40)), (1, .int (nI b0)), (2, .int (nI P)), (3, .int (nI node))] [] (mF G a m.1 m.2) := by
      intro node h1 h2 hf
      rw [← hf] at hr
      refine e_iload_n C d_M_byTree_36 rfl ?_
      refine e_iload_n C d_M_byTree_37 rfl ?_
      refine e_isub C d_M_byTree_38 ?_
      refine e_top (pk_sub h1) ?_
      refine e_istore C d_M_byTree_39 rfl ?_
      exact e_lv2 (fin 16 (node - P) (by omega) hr) rfl
    intro q
    induction q with
    | zero =>
      intro node h1 h2 h3 hf
      have hf : node = _ := hf
      refine e_iload_n C d_M_byTree_7 rfl ?_
      refine e_iload_n C d_M_byTree_8 rfl ?_
      refine e_icmp_ge C d_M_byTree_9 (tgt := 36) (by decide) (fun h9 => ?_) (fun h9 => ?_)
      · exact go node (by omega) h2 hf
      · exact absurd (nI_le (by omega) (by omega)) h9
    | succ q ih =>
      intro node h1 h2 h3 hf
      refine e_iload_n C d_M_byTree_7 rfl ?_
      refine e_iload_n C d_M_byTree_8 rfl ?_
      refine e_icmp_ge C d_M_byTree_9 (tgt := 36) (by decide) (fun h9 => ?_) (fun h9 => ?_)
      · rw [nI_leI (by omega) (by omega)] at h9
        exact go node h9 h2 (by rw [← hf]; simp only [trM, if_neg (show ¬ node < P by omega)])
      · rw [nI_leI (by omega) (by omega)] at h9
        rw [trM, if_pos (show node < P by omega)] at hf
        have hq : ∀ d : Nat, P ≤ (2 * node + d) * 2 ^ q := by
          intro d
          calc P ≤ node * 2 ^ (q + 1) := h1
            _ = 2 * node * 2 ^ q := by rw [Nat.pow_succ]; ac_rfl
            _ ≤ (2 * node + d) * 2 ^ q := Nat.mul_le_mul_right _ (by omega)
        refine e_iconst C d_M_byTree_12 (v := nI 2) (by decide) ?_
        refine e_iload_n C d_M_byTree_13 rfl ?_
        refine e_imul C d_M_byTree_14 ?_
        refine e_top (pk_mul _ _) ?_
        refine e_aload_n C d_M_byTree_15 rfl ?_
        refine e_get C 0 (k := 19) in_M g758 d_M_byTree_16 rfl rfl rfl rfl ?_
        refine e_iload_n C d_M_byTree_19 rfl ?_
        refine e_iload_n C d_M_byTree_20 rfl ?_
        refine e_iadd C d_M_byTree_21 ?_
        refine e_zald C 12 1 d_M_byTree_22 rfl rfl (b0 + node) (nI_add _ _) (by omega) (by omega) ?_
        refine e_if_eq C d_M_byTree_23 (tgt := 30) (by decide) (fun h23 => ?_) (fun h23 => ?_)
        · rw [if_pos h23] at hf
          refine e_iconst C d_M_byTree_30 (v := 0) (by decide) ?_
          refine e_iadd C d_M_byTree_31 ?_
          refine e_top (y := nI (2 * node + 0)) (by rw [Int32.add_zero]; rfl) ?_
          refine e_istore_n C d_M_byTree_32 rfl ?_
          refine e_goto C d_M_byTree_33 (tgt := 7) (by decide) ?_
          exact e_lv2 (ih (2 * node + 0) (hq 0) (by omega) (by omega) hf) rfl
        · rw [if_neg h23] at hf
          refine e_iconst C d_M_byTree_26 (v := 1) (by decide) ?_
          refine e_goto C d_M_byTree_27 (tgt := 31) (by decide) ?_
          refine e_iadd C d_M_byTree_31 ?_
          refine e_top (nI_1 _) ?_
          refine e_istore_n C d_M_byTree_32 rfl ?_
          refine e_goto C d_M_byTree_33 (tgt := 7) (by decide) ?_
          exact e_lv2 (ih (2 * node + 1) (hq 1) (by omega) (by omega) hf) rfl
  exact e_lv2 (L 4 1 (by omega) (by omega) (Nat.le_refl _) rfl) rfl
/-- the first without a mark, or the first one -/
def umO (lk mk : Nat → Bool) (b0 wd : Nat) : Option Nat := match fst1 (fun k => !lk k && !mk k) b0 wd with
  | some k => some k
  | none => fst1 (fun k => !lk k) b0 wd
def mkM (f : Nat → Nat → Int32) (j : Nat) : Bool := !(f 16 j == 0)
theorem pred_lt {b : Nat} (h : b < 2 ^ 20) : nI b - 1 < nI b := by
  cases b with
  | zero => decide
  | succ b => rw [nI_pred]; exact nI_lt (by omega) (by omega)
set_option maxRecDepth 100000 in
theorem k_M_unmarked (h : MD m.1 S wd V kd) (hs : s < 16) : Con l G y_M_unmarked c_M_unmarked 4 (some .int) (rz 0 0) [.ref (a 40), .int (nI (8 * s))] (mF G a m.1 m.2) (DI (oI (umO (lkM m.2) (mkM m.2) (8 * s) wd)) (mF G a m.1 m.2)) := by
  refine Con.of rfl rfl (fun X C E hR hl hnm => ?_)
  have hw8 := h.w8
  have hb0 : 8 * s + 8 ≤ 128 := by omega
  unfold umO at E
  refine e_iconst C d_M_unmarked_0 (v := (-1)) (by decide) ?_
  refine e_istore_n C d_M_unmarked_1 rfl ?_
  refine e_iload_n C d_M_unmarked_2 rfl ?_
  refine e_aload_n C d_M_unmarked_3 rfl ?_
  refine e_get C 0 (k := 2) in_M g741 d_M_unmarked_4 rfl rfl rfl rfl ?_
  refine e_top h.2.1 ?_
  refine e_iadd C d_M_unmarked_7 ?_
  refine e_top (nI_add _ _) ?_
  refine e_iconst C d_M_unmarked_8 (v := 1) (by decide) ?_
  refine e_isub C d_M_unmarked_9 ?_
  refine e_istore_n C d_M_unmarked_10 rfl ?_
  generalize 8 * s = b0 at E hb0 ⊢
  have fin : EW X G 4 0 0 37 [(0, .ref (a 40)), (1, .int (nI b0)), (2, .int (oI (fst1 (fun k => !lkM m.2 k) b0 wd)))] [] (mF G a m.1 m.2) := by
    refine e_iload_n C d_M_unmarked_37 rfl ?_
    refine e_istore_n C d_M_unmarked_38 rfl ?_
    have L2 : ∀ (q k : Nat), k + q = b0 + wd → fst1 (fun k => !lkM m.2 k && !mkM m.2 k) k q = fst1 (fun k => !lkM m.2 k && !mkM m.2 k) b0 wd → EW X G 4 0 0 39 [(0, .ref (a 40)), (1, .int (nI b0)), (2, .int (oI (fst1 (fun k => !lkM m.2 k) b0 wd))), (3, .int (nI k))] [] (mF G a m.1 m.2) := by
      intro q
      induction q with
      | zero =>
        intro k hk hf
        rw [← hf] at E
        refine e_iload_n C d_M_unmarked_39 rfl ?_
        refine e_iload_n C d_M_unmarked_40 rfl ?_
        refine e_aload_n C d_M_unmarked_41 rfl ?_
        refine e_get C 0 (k := 2) in_M g741 d_M_unmarked_42 rfl rfl rfl rfl ?_
        refine e_top h.2.1 ?_
        refine e_iadd C d_M_unmarked_45 ?_
        refine e_top (nI_add _ _) ?_
        refine e_icmp_ge C d_M_unmarked_46 (tgt := 75) (by decide) (fun h46 => ?_) (fun h46 => ?_)
        · skip
          refine e_iload_n C d_M_unmarked_75 rfl ?_
          exact e_iret C E d_M_unmarked_76 (Nat.le_refl _) (Nat.le_refl _) rfl ⟨rfl, rfl⟩
        · exact absurd (nI_le (by omega) (by omega)) h46
      | succ q ih =>
        intro k hk hf
        refine e_iload_n C d_M_unmarked_39 rfl ?_
        refine e_iload_n C d_M_unmarked_40 rfl ?_
        refine e_aload_n C d_M_unmarked_41 rfl ?_
        refine e_get C 0 (k := 2) in_M g741 d_M_unmarked_42 rfl rfl rfl rfl ?_
        refine e_top h.2.1 ?_
        refine e_iadd C d_M_unmarked_45 ?_
        refine e_top (nI_add _ _) ?_
        refine e_icmp_ge C d_M_unmarked_46 (tgt := 75) (by decide) (fun h46 => ?_) (fun h46 => ?_)
        · exact absurd h46 (nI_ge (by omega) (by omega))
        · skip
          refine e_aload_n C d_M_unmarked_49 rfl ?_
          refine e_get C 0 (k := 11) in_M g750 d_M_unmarked_50 rfl rfl rfl rfl ?_
          refine e_iload_n C d_M_unmarked_53 rfl ?_
          refine e_zald C 5 1 d_M_unmarked_54 rfl rfl k rfl (by omega) (by omega) ?_
          refine e_if_ne C d_M_unmarked_55 (tgt := 69) (by decide) (fun h55 => ?_) (fun h55 => ?_)
          · have hh : lkM m.2 k = true := by simp [lkM]; exact h55
            refine e_iinc C d_M_unmarked_69 rfl (nI_1 k) rfl ?_
            refine e_goto C d_M_unmarked_72 (tgt := 39) (by decide) ?_
            exact e_lv2 (ih (k + 1) (by omega) (by rw [← hf]; simp [fst1, hh])) rfl
          · have hh : lkM m.2 k = false := by simp [lkM]; exact h55
            refine e_aload_n C d_M_unmarked_58 rfl ?_
            refine e_get C 0 (k := 16) in_M g755 d_M_unmarked_59 rfl rfl rfl rfl ?_
            refine e_iload_n C d_M_unmarked_62 rfl ?_
            refine e_zald C 9 1 d_M_unmarked_63 rfl rfl k rfl (by omega) (by omega) ?_
            refine e_if_ne C d_M_unmarked_64 (tgt := 69) (by decide) (fun h64 => ?_) (fun h64 => ?_)
            · have hm : mkM m.2 k = true := by simp [mkM]; exact h64
              refine e_iinc C d_M_unmarked_69 rfl (nI_1 k) rfl ?_
              refine e_goto C d_M_unmarked_72 (tgt := 39) (by decide) ?_
              exact e_lv2 (ih (k + 1) (by omega) (by rw [← hf]; simp [fst1, hm])) rfl
            · have hm : mkM m.2 k = false := by simp [mkM]; exact h64
              rw [← hf, fst1, if_pos (by rw [hh, hm]; rfl)] at E
              refine e_iload_n C d_M_unmarked_67 rfl ?_
              exact e_iret C E d_M_unmarked_68 (Nat.le_refl _) (Nat.le_refl _) rfl ⟨rfl, rfl⟩
    exact e_lv2 (L2 wd b0 rfl rfl) rfl
  have L : ∀ (q : Nat) (y : Int32), q ≤ wd → y = nI (b0 + q) - 1 → EW X G 4 0 0 11 [(0, .ref (a 40)), (1, .int (nI b0)), (2, .int (oI (fst1 (fun k => !lkM m.2 k) (b0 + q) (wd - q)))), (3, .int y)] [] (mF G a m.1 m.2) := by
    intro q
    induction q with
    | zero =>
      intro y hq hy
      subst hy
      refine e_iload_n C d_M_unmarked_11 rfl ?_
      refine e_iload_n C d_M_unmarked_12 rfl ?_
      refine e_icmp_lt C d_M_unmarked_13 (tgt := 37) (by decide) (fun h13 => ?_) (fun h13 => ?_)
      · exact e_lv2 fin rfl
      · exact absurd (pred_lt (by omega)) h13
    | succ q ih =>
      intro y hq hy
      obtain rfl : y = nI (b0 + q) := hy.trans (nI_pred _)
      have hst : fst1 (fun k => !lkM m.2 k) (b0 + q) (wd - q) = if lkM m.2 (b0 + q) = false then some (b0 + q) else fst1 (fun k => !lkM m.2 k) (b0 + (q + 1)) (wd - (q + 1)) := by
        rw [show wd - q = (wd - (q + 1)) + 1 by omega, fst1]
        cases lkM m.2 (b0 + q) <;> rfl
      have ih := ih (nI (b0 + q) - 1) (by omega) rfl
      rw [hst] at ih
      refine e_iload_n C d_M_unmarked_11 rfl ?_
      refine e_iload_n C d_M_unmarked_12 rfl ?_
      refine e_icmp_lt C d_M_unmarked_13 (tgt := 37) (by decide) (fun h13 => ?_) (fun h13 => ?_)
      · exact absurd h13 (nI_nlt (by omega) (by omega))
      · skip
        refine e_aload_n C d_M_unmarked_16 rfl ?_
        refine e_get C 0 (k := 11) in_M g750 d_M_unmarked_17 rfl rfl rfl rfl ?_
        refine e_iload_n C d_M_unmarked_20 rfl ?_
        refine e_zald C 5 1 d_M_unmarked_21 rfl rfl (b0 + q) rfl (by omega) (by omega) ?_
        refine e_if_eq C d_M_unmarked_22 (tgt := 29) (by decide) (fun h22 => ?_) (fun h22 => ?_)
        · have hh : lkM m.2 (b0 + q) = false := by simp [lkM]; exact h22
          rw [if_pos hh] at ih
          refine e_iload_n C d_M_unmarked_29 rfl ?_
          refine e_istore_n C d_M_unmarked_30 rfl ?_
          refine e_iinc C d_M_unmarked_31 rfl (show nI (b0 + q) + Int32.ofInt (-1) = nI (b0 + q) - 1 by rw [Int32.sub_eq_add_neg]; rfl) rfl ?_
          refine e_goto C d_M_unmarked_34 (tgt := 11) (by decide) ?_
          exact e_lv2 ih rfl
        · have hh : lkM m.2 (b0 + q) = true := by simp [lkM]; exact h22
          rw [if_neg (by rw [hh]; decide)] at ih
          refine e_iload_n C d_M_unmarked_25 rfl ?_
          refine e_goto C d_M_unmarked_26 (tgt := 30) (by decide) ?_
          refine e_istore_n C d_M_unmarked_30 rfl ?_
          refine e_iinc C d_M_unmarked_31 rfl (show nI (b0 + q) + Int32.ofInt (-1) = nI (b0 + q) - 1 by rw [Int32.sub_eq_add_neg]; rfl) rfl ?_
          refine e_goto C d_M_unmarked_34 (tgt := 11) (by decide) ?_
          exact e_lv2 ih rfl
  have L0 := L wd (nI (b0 + wd) - 1) (Nat.le_refl _) rfl
  rw [Nat.sub_self] at L0
  exact e_lv2 L0 rfl
set_option maxRecDepth 100000 in
theorem k_M_byAge (h : MD m.1 S wd V kd) (hs : s < 16) (mv : Bool) {g : Nat → Int32} {y : Int32} {r : Nat} (hg : g = if mv then agM (lkM m.2) (m.2 17) (3 - mxA (lkM m.2) (m.2 17) 0 (8 * s) wd) (8 * s) (8 * s + wd) else m.2 17) (hy : y = if mv then 3 else mxA (lkM m.2) (m.2 17) 0 (8 * s) wd) (hr : fst1 (fun k => !lkM m.2 k && (g k == y)) (8 * s) wd = some r) :
    Con l G y_M_byAge c_M_byAge 6 (some .int) (rz 0 0) [.ref (a 40), .int (nI (8 * s)), .int (bI mv)] (mF G a m.1 m.2) (DI (nI r) (mF G a m.1 (up2 m.2 17 g))) := by
  refine Con.of rfl rfl (fun X C E hR hl hnm => ?_)
  have hw8 := h.w8
  have hb0 : 8 * s + 8 ≤ 128 := by omega
  refine e_iconst C d_M_byAge_0 (v := 0) (by decide) ?_
  refine e_istore_n C d_M_byAge_1 rfl ?_
  refine e_iload_n C d_M_byAge_2 rfl ?_
  refine e_istore C d_M_byAge_3 rfl ?_
  generalize 8 * s = b0 at E hb0 hg hy hr ⊢
  generalize hmx : mxA (lkM m.2) (m.2 17) 0 b0 wd = mx at hg hy
  have fin : EW X G 6 0 0 117 [(0, .ref (a 40)), (1, .int (nI b0)), (4, .int y)] [] (mF G a m.1 (up2 m.2 17 g)) := by
    refine e_iload_n C d_M_byAge_117 rfl ?_
    refine e_istore C d_M_byAge_118 rfl ?_
    have L3 : ∀ (q k : Nat), k + q = b0 + wd → fst1 (fun k => !lkM m.2 k && (g k == y)) k q = some r → EW X G 6 0 0 120 [(0, .ref (a 40)), (4, .int y), (5, .int (nI k))] [] (mF G a m.1 (up2 m.2 17 g)) := by
      intro q
      induction q with
      | zero => intro k hk hf; cases hf
      | succ q ih =>
        intro k hk hf
        rw [fst1] at hf
        refine e_aload_n C d_M_byAge_120 rfl ?_
        refine e_get C 0 (k := 11) in_M g750 d_M_byAge_121 rfl rfl rfl rfl ?_
        refine e_iload C d_M_byAge_124 rfl ?_
        refine e_zald C 5 1 d_M_byAge_126 rfl rfl k rfl (by omega) (by omega) ?_
        refine e_if_ne C d_M_byAge_127 (tgt := 142) (by decide) (fun h127 => ?_) (fun h127 => ?_)
        · have hh : lkM m.2 k = true := by simp [lkM]; exact h127
          rw [if_neg (by rw [hh]; simp)] at hf
          refine e_iinc C d_M_byAge_142 rfl (nI_1 k) rfl ?_
          refine e_goto C d_M_byAge_145 (tgt := 120) (by decide) ?_
          exact e_lv2 (ih (k + 1) (by omega) hf) rfl
        · have hh : lkM m.2 k = false := by simp [lkM]; exact h127
          refine e_aload_n C d_M_byAge_130 rfl ?_
          refine e_get C 0 (k := 17) in_M g756 d_M_byAge_131 rfl rfl rfl rfl ?_
          refine e_iload C d_M_byAge_134 rfl ?_
          refine e_iald C 10 0 d_M_byAge_136 rfl rfl k rfl (by omega) (by omega) ?_
          refine e_iload C d_M_byAge_137 rfl ?_
          refine e_icmp_eq C d_M_byAge_139 (tgt := 148) (by decide) (fun h139 => ?_) (fun h139 => ?_)
          · have h139 : g k = y := h139
            rw [if_pos (by rw [hh]; simp [h139])] at hf
            cases hf
            refine e_iload C d_M_byAge_148 rfl ?_
            exact e_iret C E d_M_byAge_150 (Nat.le_refl _) (Nat.le_refl _) rfl ⟨rfl, rfl⟩
          · have h139 : ¬ g k = y := h139
            rw [if_neg (by rw [hh]; simp [h139])] at hf
            refine e_iinc C d_M_byAge_142 rfl (nI_1 k) rfl ?_
            refine e_goto C d_M_byAge_145 (tgt := 120) (by decide) ?_
            exact e_lv2 (ih (k + 1) (by omega) hf) rfl
    exact e_lv2 (L3 wd b0 rfl hr) rfl
  have mid : EW X G 6 0 0 106 [(0, .ref (a 40)), (1, .int (nI b0)), (2, .int (bI mv)), (3, .int mx)] [] (mF G a m.1 (up2 m.2 17 g)) := by
    refine e_iload_n C d_M_byAge_106 rfl ?_
    refine e_if_eq C d_M_byAge_107 (tgt := 114) (by decide) (fun h107 => ?_) (fun h107 => ?_)
    · rw [bI_0] at h107
      rw [h107] at hy
      have hy : y = mx := hy
      subst hy
      refine e_iload_n C d_M_byAge_114 rfl ?_
      refine e_istore C d_M_byAge_115 rfl ?_
      exact e_lv2 fin rfl
    · rw [bI_n] at h107
      rw [h107] at hy
      have hy : y = 3 := hy
      subst hy
      refine e_iconst C d_M_byAge_110 (v := 3) (by decide) ?_
      refine e_goto C d_M_byAge_111 (tgt := 115) (by decide) ?_
      refine e_istore C d_M_byAge_115 rfl ?_
      exact e_lv2 fin rfl
  have two : EW X G 6 0 0 55 [(0, .ref (a 40)), (1, .int (nI b0)), (2, .int (bI mv)), (3, .int mx)] [] (mF G a m.1 m.2) := by
    refine e_iload_n C d_M_byAge_55 rfl ?_
    refine e_istore C d_M_byAge_56 rfl ?_
    cases mv with
    | false =>
      have hg : g = m.2 17 := hg
      refine e_eq (ws' := mF G a m.1 (up2 m.2 17 g)) (by rw [hg]; rfl) ?_
      refine e_iload C d_M_byAge_58 rfl ?_
      refine e_iload_n C d_M_byAge_60 rfl ?_
      refine e_aload_n C d_M_byAge_61 rfl ?_
      refine e_get C 0 (k := 2) in_M g741 d_M_byAge_62 rfl rfl rfl rfl ?_
      refine e_top h.2.1 ?_
      refine e_iadd C d_M_byAge_65 ?_
      refine e_top (nI_add _ _) ?_
      refine e_icmp_ge C d_M_byAge_66 (tgt := 106) (by decide) (fun h66 => ?_) (fun h66 => ?_)
      · exact e_lv2 mid rfl
      · skip
        refine e_iload_n C d_M_byAge_69 rfl ?_
        refine e_if_eq C d_M_byAge_70 (tgt := 106) (by decide) (fun h70 => ?_) (fun h70 => ?_)
        · exact e_lv2 mid rfl
        · exact absurd rfl h70
    | true =>
      have hg : g = agM (lkM m.2) (m.2 17) (3 - mx) b0 (b0 + wd) := hg
      have L2 : ∀ (q k : Nat), k + q = b0 + wd → b0 ≤ k → EW X G 6 0 0 58 [(0, .ref (a 40)), (1, .int (nI b0)), (2, .int 1), (3, .int mx), (4, .int (nI k))] [] (mF G a m.1 (up2 m.2 17 (agM (lkM m.2) (m.2 17) (3 - mx) b0 k))) := by
        intro q
        induction q with
        | zero =>
          intro k hk hk2
          obtain rfl : k = b0 + wd := by omega
          refine e_iload C d_M_byAge_58 rfl ?_
          refine e_iload_n C d_M_byAge_60 rfl ?_
          refine e_aload_n C d_M_byAge_61 rfl ?_
          refine e_get C 0 (k := 2) in_M g741 d_M_byAge_62 rfl rfl rfl rfl ?_
          refine e_top h.2.1 ?_
          refine e_iadd C d_M_byAge_65 ?_
          refine e_top (nI_add _ _) ?_
          refine e_icmp_ge C d_M_byAge_66 (tgt := 106) (by decide) (fun h66 => ?_) (fun h66 => ?_)
          · rw [hg] at mid
            exact e_lv2 mid rfl
          · exact absurd (nI_le (Nat.le_refl _) (by omega)) h66
        | succ q ih =>
          intro k hk hk2
          have ih := ih (k + 1) (by omega) (by omega)
          refine e_iload C d_M_byAge_58 rfl ?_
          refine e_iload_n C d_M_byAge_60 rfl ?_
          refine e_aload_n C d_M_byAge_61 rfl ?_
          refine e_get C 0 (k := 2) in_M g741 d_M_byAge_62 rfl rfl rfl rfl ?_
          refine e_top h.2.1 ?_
          refine e_iadd C d_M_byAge_65 ?_
          refine e_top (nI_add _ _) ?_
          refine e_icmp_ge C d_M_byAge_66 (tgt := 106) (by decide) (fun h66 => ?_) (fun h66 => ?_)
          · exact absurd h66 (nI_ge (by omega) (by omega))
          · skip
            refine e_iload_n C d_M_byAge_69 rfl ?_
            refine e_if_eq C d_M_byAge_70 (tgt := 106) (by decide) (fun h70 => ?_) (fun h70 => ?_)
            · exact absurd h70 (by decide)
            · skip
              refine e_aload_n C d_M_byAge_73 rfl ?_
              refine e_get C 0 (k := 17) in_M g756 d_M_byAge_74 rfl rfl rfl rfl ?_
              refine e_iload C d_M_byAge_77 rfl ?_
              refine e_dup2 C d_M_byAge_79 rfl rfl ?_
              refine e_iald C 10 0 d_M_byAge_80 rfl rfl k rfl (by omega) (by omega) ?_
              refine e_aload_n C d_M_byAge_81 rfl ?_
              refine e_get C 0 (k := 11) in_M g750 d_M_byAge_82 rfl rfl rfl rfl ?_
              refine e_iload C d_M_byAge_85 rfl ?_
              refine e_zald C 5 1 d_M_byAge_87 rfl rfl k rfl (by omega) (by omega) ?_
              refine e_if_eq C d_M_byAge_88 (tgt := 95) (by decide) (fun h88 => ?_) (fun h88 => ?_)
              · have hh : lkM m.2 k = false := by simp [lkM]; exact h88
                rw [agM_s hk2 hh] at ih
                refine e_iconst C d_M_byAge_95 (v := 3) (by decide) ?_
                refine e_iload_n C d_M_byAge_96 rfl ?_
                refine e_isub C d_M_byAge_97 ?_
                refine e_iadd C d_M_byAge_98 ?_
                refine e_iast C 10 0 d_M_byAge_99 rfl rfl k rfl (by omega) (by omega) ?_
                refine e_iinc C d_M_byAge_100 rfl (nI_1 k) rfl ?_
                refine e_goto C d_M_byAge_103 (tgt := 58) (by decide) ?_
                exact e_lv2 ih rfl
              · have hh : lkM m.2 k = true := by simp [lkM]; exact h88
                rw [agM_l hh] at ih
                refine e_iconst C d_M_byAge_91 (v := 0) (by decide) ?_
                refine e_goto C d_M_byAge_92 (tgt := 98) (by decide) ?_
                refine e_iadd C d_M_byAge_98 ?_
                refine e_iast C 10 0 d_M_byAge_99 rfl rfl k rfl (by omega) (by omega) ?_
                refine e_iinc C d_M_byAge_100 rfl (nI_1 k) rfl ?_
                refine e_goto C d_M_byAge_103 (tgt := 58) (by decide) ?_
                exact e_lv2 ih rfl
      refine e_eq (ws' := mF G a m.1 (up2 m.2 17 (agM (lkM m.2) (m.2 17) (3 - mx) b0 b0))) (by rw [agM_0]; rfl) ?_
      exact e_lv2 (L2 wd b0 rfl (Nat.le_refl _)) rfl
  have L : ∀ (q k : Nat) (z : Int32), k + q = b0 + wd → mxA (lkM m.2) (m.2 17) z k q = mx → EW X G 6 0 0 5 [(0, .ref (a 40)), (1, .int (nI b0)), (2, .int (bI mv)), (3, .int z), (4, .int (nI k))] [] (mF G a m.1 m.2) := by
    intro q
    induction q with
    | zero =>
      intro k z hk hf
      have hf : z = mx := hf
      subst hf
      refine e_iload C d_M_byAge_5 rfl ?_
      refine e_iload_n C d_M_byAge_7 rfl ?_
      refine e_aload_n C d_M_byAge_8 rfl ?_
      refine e_get C 0 (k := 2) in_M g741 d_M_byAge_9 rfl rfl rfl rfl ?_
      refine e_top h.2.1 ?_
      refine e_iadd C d_M_byAge_12 ?_
      refine e_top (nI_add _ _) ?_
      refine e_icmp_ge C d_M_byAge_13 (tgt := 55) (by decide) (fun h13 => ?_) (fun h13 => ?_)
      · exact e_lv2 two rfl
      · exact absurd (nI_le (by omega) (by omega)) h13
    | succ q ih =>
      intro k z hk hf
      rw [mxA] at hf
      refine e_iload C d_M_byAge_5 rfl ?_
      refine e_iload_n C d_M_byAge_7 rfl ?_
      refine e_aload_n C d_M_byAge_8 rfl ?_
      refine e_get C 0 (k := 2) in_M g741 d_M_byAge_9 rfl rfl rfl rfl ?_
      refine e_top h.2.1 ?_
      refine e_iadd C d_M_byAge_12 ?_
      refine e_top (nI_add _ _) ?_
      refine e_icmp_ge C d_M_byAge_13 (tgt := 55) (by decide) (fun h13 => ?_) (fun h13 => ?_)
      · exact absurd h13 (nI_ge (by omega) (by omega))
      · skip
        refine e_aload_n C d_M_byAge_16 rfl ?_
        refine e_get C 0 (k := 11) in_M g750 d_M_byAge_17 rfl rfl rfl rfl ?_
        refine e_iload C d_M_byAge_20 rfl ?_
        refine e_zald C 5 1 d_M_byAge_22 rfl rfl k rfl (by omega) (by omega) ?_
        refine e_if_ne C d_M_byAge_23 (tgt := 47) (by decide) (fun h23 => ?_) (fun h23 => ?_)
        · have hh : lkM m.2 k = true := by simp [lkM]; exact h23
          rw [if_neg (fun w => by rw [hh] at w; exact absurd w.1 (by decide))] at hf
          refine e_iload_n C d_M_byAge_47 rfl ?_
          refine e_istore_n C d_M_byAge_48 rfl ?_
          refine e_iinc C d_M_byAge_49 rfl (nI_1 k) rfl ?_
          refine e_goto C d_M_byAge_52 (tgt := 5) (by decide) ?_
          exact e_lv2 (ih (k + 1) z (by omega) hf) rfl
        · have hh : lkM m.2 k = false := by simp [lkM]; exact h23
          refine e_aload_n C d_M_byAge_26 rfl ?_
          refine e_get C 0 (k := 17) in_M g756 d_M_byAge_27 rfl rfl rfl rfl ?_
          refine e_iload C d_M_byAge_30 rfl ?_
          refine e_iald C 10 0 d_M_byAge_32 rfl rfl k rfl (by omega) (by omega) ?_
          refine e_iload_n C d_M_byAge_33 rfl ?_
          refine e_icmp_le C d_M_byAge_34 (tgt := 47) (by decide) (fun h34 => ?_) (fun h34 => ?_)
          · have h34 : m.2 17 k ≤ z := h34
            rw [if_neg (fun w => w.2 h34)] at hf
            refine e_iload_n C d_M_byAge_47 rfl ?_
            refine e_istore_n C d_M_byAge_48 rfl ?_
            refine e_iinc C d_M_byAge_49 rfl (nI_1 k) rfl ?_
            refine e_goto C d_M_byAge_52 (tgt := 5) (by decide) ?_
            exact e_lv2 (ih (k + 1) z (by omega) hf) rfl
          · have h34 : ¬ m.2 17 k ≤ z := h34
            rw [if_pos ⟨hh, h34⟩] at hf
            refine e_aload_n C d_M_byAge_37 rfl ?_
            refine e_get C 0 (k := 17) in_M g756 d_M_byAge_38 rfl rfl rfl rfl ?_
            refine e_iload C d_M_byAge_41 rfl ?_
            refine e_iald C 10 0 d_M_byAge_43 rfl rfl k rfl (by omega) (by omega) ?_
            refine e_goto C d_M_byAge_44 (tgt := 48) (by decide) ?_
            refine e_istore_n C d_M_byAge_48 rfl ?_
            refine e_iinc C d_M_byAge_49 rfl (nI_1 k) rfl ?_
            refine e_goto C d_M_byAge_52 (tgt := 5) (by decide) ?_
            exact e_lv2 (ih (k + 1) _ (by omega) hf) rfl
  exact e_lv2 (L wd b0 0 rfl hmx) rfl
set_option maxRecDepth 100000 in
theorem k_M_byHand (h : MD m.1 S wd V kd) (hs : s < 16) (mv : Bool) {h0 r : Nat} {g : Nat → Int32} (hh0 : h0 < wd) (hh : m.2 18 s = nI h0) (hB : BL (m.2 16)) (hBg : BL g) (hr : hndO (fun w => lkM m.2 (8 * s + w)) wd 17 (cpM (m.2 16) (8 * s) (m.2 35) wd) h0 = some (g, r)) (hr8 : r < wd) :
    Con l G y_M_byHand c_M_byHand 5 (some .int) (rz 0 0) [.ref (a 40), .int (nI (8 * s)), .int (bI mv)] (mF G a m.1 m.2) (DI (nI (8 * s + r)) (mF G a m.1 (if mv then up2 (up2 (up2 m.2 35 g) 16 (cbM g (8 * s) (m.2 16) wd)) 18 (upd (m.2 18) s (nI ((r + 1) % wd))) else up2 m.2 35 g))) := by
  refine Con.of rfl rfl (fun X C E hR hl hnm => ?_)
  have hw8 := h.w8
  have hb0 : 8 * s + 8 ≤ 128 := by omega
  refine e_iconst C d_M_byHand_0 (v := 0) (by decide) ?_
  refine e_istore_n C d_M_byHand_1 rfl ?_
  have fin : EW X G 5 0 0 90 [(0, .ref (a 40)), (1, .int (nI (8 * s))), (2, .int (bI mv)), (3, .int (nI r))] [] (mF G a m.1 (up2 m.2 35 g)) := by
    refine e_iload_n C d_M_byHand_90 rfl ?_
    refine e_if_eq C d_M_byHand_91 (tgt := 145) (by decide) (fun h91 => ?_) (fun h91 => ?_)
    · rw [bI_0] at h91
      rw [h91] at E
      refine e_iload_n C d_M_byHand_145 rfl ?_
      refine e_iload_n C d_M_byHand_146 rfl ?_
      refine e_iadd C d_M_byHand_147 ?_
      refine e_top (nI_add _ _) ?_
      exact e_iret C E d_M_byHand_148 (Nat.le_refl _) (Nat.le_refl _) rfl ⟨rfl, rfl⟩
    · rw [bI_n] at h91
      rw [h91] at E
      refine e_iconst C d_M_byHand_94 (v := 0) (by decide) ?_
      refine e_istore C d_M_byHand_95 rfl ?_
      have L3 : ∀ (q k : Nat), k + q = wd → EW X G 5 0 0 97 [(0, .ref (a 40)), (1, .int (nI (8 * s))), (3, .int (nI r)), (4, .int (nI k))] [] (mF G a m.1 (up2 (up2 m.2 35 g) 16 (cbM g (8 * s) (m.2 16) k))) := by
        intro q
        induction q with
        | zero =>
          intro k hk
          obtain rfl : k = wd := by omega
          refine e_iload C d_M_byHand_97 rfl ?_
          refine e_aload_n C d_M_byHand_99 rfl ?_
          refine e_get C 0 (k := 2) in_M g741 d_M_byHand_100 rfl rfl rfl rfl ?_
          refine e_top h.2.1 ?_
          refine e_icmp_ge C d_M_byHand_103 (tgt := 128) (by decide) (fun h103 => ?_) (fun h103 => ?_)
          · have hm8 : (r + 1) % k < k := Nat.mod_lt _ (by omega)
            refine e_aload_n C d_M_byHand_128 rfl ?_
            refine e_get C 0 (k := 18) in_M g757 d_M_byHand_129 rfl rfl rfl rfl ?_
            refine e_iload_n C d_M_byHand_132 rfl ?_
            refine e_bipush C d_M_byHand_133 (v := nI 8) (by decide) ?_
            refine e_idiv C d_M_byHand_135 (nI_ne0 (by omega) (by omega)) ?_
            refine e_top (y := nI s) (by rw [pk_div (by omega) (by omega) (by omega)]; congr 1; omega) ?_
            refine e_iload_n C d_M_byHand_136 rfl ?_
            refine e_iconst C d_M_byHand_137 (v := 1) (by decide) ?_
            refine e_iadd C d_M_byHand_138 ?_
            refine e_top (nI_1 r) ?_
            refine e_aload_n C d_M_byHand_139 rfl ?_
            refine e_get C 0 (k := 2) in_M g741 d_M_byHand_140 rfl rfl rfl rfl ?_
            refine e_top h.2.1 ?_
            refine e_irem C d_M_byHand_143 (nI_ne0 (by omega) (by omega)) ?_
            refine e_top (pk_rem (by omega) (by omega) (by omega)) ?_
            refine e_iast C 11 0 d_M_byHand_144 rfl rfl s rfl (by omega) (by omega) ?_
            refine e_iload_n C d_M_byHand_145 rfl ?_
            refine e_iload_n C d_M_byHand_146 rfl ?_
            refine e_iadd C d_M_byHand_147 ?_
            refine e_top (nI_add _ _) ?_
            exact e_iret C E d_M_byHand_148 (Nat.le_refl _) (Nat.le_refl _) rfl ⟨rfl, rfl⟩
          · exact absurd (nI_le (Nat.le_refl _) (by omega)) h103
        | succ q ih =>
          intro k hk
          have ih := ih (k + 1) (by omega)
          rw [cbM_s] at ih
          refine e_iload C d_M_byHand_97 rfl ?_
          refine e_aload_n C d_M_byHand_99 rfl ?_
          refine e_get C 0 (k := 2) in_M g741 d_M_byHand_100 rfl rfl rfl rfl ?_
          refine e_top h.2.1 ?_
          refine e_icmp_ge C d_M_byHand_103 (tgt := 128) (by decide) (fun h103 => ?_) (fun h103 => ?_)
          · exact absurd h103 (nI_ge (by omega) (by omega))
          · skip
            refine e_aload_n C d_M_byHand_106 rfl ?_
            refine e_get C 0 (k := 16) in_M g755 d_M_byHand_107 rfl rfl rfl rfl ?_
            refine e_iload_n C d_M_byHand_110 rfl ?_
            refine e_iload C d_M_byHand_111 rfl ?_
            refine e_iadd C d_M_byHand_113 ?_
            refine e_aload_n C d_M_byHand_114 rfl ?_
            refine e_get C 0 (k := 35) in_M g774 d_M_byHand_115 rfl rfl rfl rfl ?_
            refine e_iload C d_M_byHand_118 rfl ?_
            refine e_zald C 23 1 d_M_byHand_120 rfl rfl k rfl (by omega) (by omega) ?_
            refine e_zast C 9 1 d_M_byHand_121 rfl rfl (8 * s + k) (nI_add _ _) (by omega) (by omega) (hBg.nar k) ?_
            refine e_iinc C d_M_byHand_122 rfl (nI_1 k) rfl ?_
            refine e_goto C d_M_byHand_125 (tgt := 97) (by decide) ?_
            exact e_lv2 ih rfl
      refine e_eq (ws' := mF G a m.1 (up2 (up2 m.2 35 g) 16 (cbM g (8 * s) (m.2 16) 0))) (by rw [cbM_0]; rfl) ?_
      exact e_lv2 (L3 wd 0 (by omega)) rfl
  have two : EW X G 5 0 0 30 [(0, .ref (a 40)), (1, .int (nI (8 * s))), (2, .int (bI mv))] [] (mF G a m.1 (up2 m.2 35 (cpM (m.2 16) (8 * s) (m.2 35) wd))) := by
    refine e_aload_n C d_M_byHand_30 rfl ?_
    refine e_get C 0 (k := 18) in_M g757 d_M_byHand_31 rfl rfl rfl rfl ?_
    refine e_iload_n C d_M_byHand_34 rfl ?_
    refine e_bipush C d_M_byHand_35 (v := nI 8) (by decide) ?_
    refine e_idiv C d_M_byHand_37 (nI_ne0 (by omega) (by omega)) ?_
    refine e_top (y := nI s) (by rw [pk_div (by omega) (by omega) (by omega)]; congr 1; omega) ?_
    refine e_iald C 11 0 d_M_byHand_38 rfl rfl s rfl (by omega) (by omega) ?_
    refine e_top hh ?_
    refine e_istore_n C d_M_byHand_39 rfl ?_
    have L2 : ∀ (t h1 : Nat) (g1 : Nat → Int32), h1 < wd → hndO (fun w => lkM m.2 (8 * s + w)) wd t g1 h1 = some (g, r) → EW X G 5 0 0 40 [(0, .ref (a 40)), (1, .int (nI (8 * s))), (2, .int (bI mv)), (3, .int (nI h1))] [] (mF G a m.1 (up2 m.2 35 g1)) := by
      intro t
      induction t with
      | zero => intro h1 g1 hh1 hf; cases hf
      | succ t ih =>
        intro h1 g1 hh1 hf
        rw [hndO] at hf
        have hm8 : (h1 + 1) % wd < wd := Nat.mod_lt _ (by omega)
        have nx : ∀ g2 : Nat → Int32, hndO (fun w => lkM m.2 (8 * s + w)) wd t g2 ((h1 + 1) % wd) = some (g, r) → EW X G 5 0 0 78 [(0, .ref (a 40)), (1, .int (nI (8 * s))), (2, .int (bI mv)), (3, .int (nI h1))] [] (mF G a m.1 (up2 m.2 35 g2)) := by
          intro g2 hf2
          refine e_iload_n C d_M_byHand_78 rfl ?_
          refine e_iconst C d_M_byHand_79 (v := 1) (by decide) ?_
          refine e_iadd C d_M_byHand_80 ?_
          refine e_top (nI_1 h1) ?_
          refine e_aload_n C d_M_byHand_81 rfl ?_
          refine e_get C 0 (k := 2) in_M g741 d_M_byHand_82 rfl rfl rfl rfl ?_
          refine e_top h.2.1 ?_
          refine e_irem C d_M_byHand_85 (nI_ne0 (by omega) (by omega)) ?_
          refine e_top (pk_rem (by omega) (by omega) (by omega)) ?_
          refine e_istore_n C d_M_byHand_86 rfl ?_
          refine e_goto C d_M_byHand_87 (tgt := 40) (by decide) ?_
          exact e_lv2 (ih _ g2 hm8 hf2) rfl
        refine e_aload_n C d_M_byHand_40 rfl ?_
        refine e_get C 0 (k := 11) in_M g750 d_M_byHand_41 rfl rfl rfl rfl ?_
        refine e_iload_n C d_M_byHand_44 rfl ?_
        refine e_iload_n C d_M_byHand_45 rfl ?_
        refine e_iadd C d_M_byHand_46 ?_
        refine e_zald C 5 1 d_M_byHand_47 rfl rfl (8 * s + h1) (nI_add _ _) (by omega) (by omega) ?_
        refine e_if_ne C d_M_byHand_48 (tgt := 60) (by decide) (fun h48 => ?_) (fun h48 => ?_)
        · have hl : lkM m.2 (8 * s + h1) = true := by simp [lkM]; exact h48
          rw [if_neg (fun z => by rw [hl] at z; exact absurd z.1 (by decide)), if_pos hl] at hf
          refine e_aload_n C d_M_byHand_60 rfl ?_
          refine e_get C 0 (k := 11) in_M g750 d_M_byHand_61 rfl rfl rfl rfl ?_
          refine e_iload_n C d_M_byHand_64 rfl ?_
          refine e_iload_n C d_M_byHand_65 rfl ?_
          refine e_iadd C d_M_byHand_66 ?_
          refine e_zald C 5 1 d_M_byHand_67 rfl rfl (8 * s + h1) (nI_add _ _) (by omega) (by omega) ?_
          refine e_if_ne C d_M_byHand_68 (tgt := 78) (by decide) (fun h68 => ?_) (fun h68 => ?_)
          · exact e_lv2 (nx g1 hf) rfl
          · exact absurd h68 h48
        · have hl : lkM m.2 (8 * s + h1) = false := by simp [lkM]; exact h48
          refine e_aload_n C d_M_byHand_51 rfl ?_
          refine e_get C 0 (k := 35) in_M g774 d_M_byHand_52 rfl rfl rfl rfl ?_
          refine e_iload_n C d_M_byHand_55 rfl ?_
          refine e_zald C 23 1 d_M_byHand_56 rfl rfl h1 rfl (by omega) (by omega) ?_
          refine e_if_eq C d_M_byHand_57 (tgt := 90) (by decide) (fun h57 => ?_) (fun h57 => ?_)
          · rw [if_pos ⟨hl, h57⟩] at hf
            cases hf
            exact e_lv2 fin rfl
          · rw [if_neg (fun z => h57 z.2), if_neg (by rw [hl]; decide)] at hf
            refine e_aload_n C d_M_byHand_60 rfl ?_
            refine e_get C 0 (k := 11) in_M g750 d_M_byHand_61 rfl rfl rfl rfl ?_
            refine e_iload_n C d_M_byHand_64 rfl ?_
            refine e_iload_n C d_M_byHand_65 rfl ?_
            refine e_iadd C d_M_byHand_66 ?_
            refine e_zald C 5 1 d_M_byHand_67 rfl rfl (8 * s + h1) (nI_add _ _) (by omega) (by omega) ?_
            refine e_if_ne C d_M_byHand_68 (tgt := 78) (by decide) (fun h68 => ?_) (fun h68 => ?_)
            · exact absurd h48 h68
            · skip
              refine e_aload_n C d_M_byHand_71 rfl ?_
              refine e_get C 0 (k := 35) in_M g774 d_M_byHand_72 rfl rfl rfl rfl ?_
              refine e_iload_n C d_M_byHand_75 rfl ?_
              refine e_iconst C d_M_byHand_76 (v := 0) (by decide) ?_
              refine e_zast C 23 1 d_M_byHand_77 rfl rfl h1 rfl (by omega) (by omega) rfl ?_
              exact e_lv2 (nx _ hf) rfl
    exact e_lv2 (L2 17 h0 _ hh0 hr) rfl
  have L : ∀ (q k : Nat), k + q = wd → EW X G 5 0 0 2 [(0, .ref (a 40)), (1, .int (nI (8 * s))), (2, .int (bI mv)), (3, .int (nI k))] [] (mF G a m.1 (up2 m.2 35 (cpM (m.2 16) (8 * s) (m.2 35) k))) := by
    intro q
    induction q with
    | zero =>
      intro k hk
      obtain rfl : k = wd := by omega
      refine e_iload_n C d_M_byHand_2 rfl ?_
      refine e_aload_n C d_M_byHand_3 rfl ?_
      refine e_get C 0 (k := 2) in_M g741 d_M_byHand_4 rfl rfl rfl rfl ?_
      refine e_top h.2.1 ?_
      refine e_icmp_ge C d_M_byHand_7 (tgt := 30) (by decide) (fun h7 => ?_) (fun h7 => ?_)
      · exact e_lv2 two rfl
      · exact absurd (nI_le (Nat.le_refl _) (by omega)) h7
    | succ q ih =>
      intro k hk
      have ih := ih (k + 1) (by omega)
      rw [cpM_s] at ih
      refine e_iload_n C d_M_byHand_2 rfl ?_
      refine e_aload_n C d_M_byHand_3 rfl ?_
      refine e_get C 0 (k := 2) in_M g741 d_M_byHand_4 rfl rfl rfl rfl ?_
      refine e_top h.2.1 ?_
      refine e_icmp_ge C d_M_byHand_7 (tgt := 30) (by decide) (fun h7 => ?_) (fun h7 => ?_)
      · exact absurd h7 (nI_ge (by omega) (by omega))
      · skip
        refine e_aload_n C d_M_byHand_10 rfl ?_
        refine e_get C 0 (k := 35) in_M g774 d_M_byHand_11 rfl rfl rfl rfl ?_
        refine e_iload_n C d_M_byHand_14 rfl ?_
        refine e_aload_n C d_M_byHand_15 rfl ?_
        refine e_get C 0 (k := 16) in_M g755 d_M_byHand_16 rfl rfl rfl rfl ?_
        refine e_iload_n C d_M_byHand_19 rfl ?_
        refine e_iload_n C d_M_byHand_20 rfl ?_
        refine e_iadd C d_M_byHand_21 ?_
        refine e_zald C 9 1 d_M_byHand_22 rfl rfl (8 * s + k) (nI_add _ _) (by omega) (by omega) ?_
        refine e_zast C 23 1 d_M_byHand_23 rfl rfl k rfl (by omega) (by omega) (hB.nar (8 * s + k)) ?_
        refine e_iinc C d_M_byHand_24 rfl (nI_1 k) rfl ?_
        refine e_goto C d_M_byHand_27 (tgt := 2) (by decide) ?_
        exact e_lv2 ih rfl
  refine e_eq (ws' := mF G a m.1 (up2 m.2 35 (cpM (m.2 16) (8 * s) (m.2 35) 0))) (by rw [cpM_0]; rfl) ?_
  exact e_lv2 (L wd 0 (by omega)) rfl
/-- the pick of the rule in set s, whether it moves: the state behind it and the slot -/
def pkS (wd kd : Nat) (m : CS) (s : Nat) (mv : Bool) : Option (CS × Nat) := match kd with
  | 3 => if cntU (lkM m.2) 0 (8 * s) wd = 0 then none else (nthU (lkM m.2) ((m.1 20).toNatClampNeg / 65536 % cntU (lkM m.2) 0 (8 * s) wd) (8 * s) wd).map (fun r => ((if mv then upd m.1 20 (lcg (m.1 20)) else m.1, m.2), r))
  | 5 => (hndO (fun w => lkM m.2 (8 * s + w)) wd 17 (cpM (m.2 16) (8 * s) (m.2 35) wd) (m.2 18 s).toNatClampNeg).map (fun q => ((m.1, if mv then up2 (up2 (up2 m.2 35 q.1) 16 (cbM q.1 (8 * s) (m.2 16) wd)) 18 (upd (m.2 18) s (nI ((q.2 + 1) % wd))) else up2 m.2 35 q.1), 8 * s + q.2))
  | 6 => (twO (fun w => lkM m.2 (8 * s + w)) wd (lvN wd) 16 (trM (m.2 19) (8 * s) (lvN wd) 4 1 - lvN wd)).map (fun r => (m, 8 * s + r))
  | 7 => (umO (lkM m.2) (mkM m.2) (8 * s) wd).map (fun r => (m, r))
  | 8 => (fst1 (fun k => !lkM m.2 k && ((if mv then agM (lkM m.2) (m.2 17) (3 - mxA (lkM m.2) (m.2 17) 0 (8 * s) wd) (8 * s) (8 * s + wd) else m.2 17) k == (if mv then 3 else mxA (lkM m.2) (m.2 17) 0 (8 * s) wd))) (8 * s) wd).map (fun r => ((m.1, up2 m.2 17 (if mv then agM (lkM m.2) (m.2 17) (3 - mxA (lkM m.2) (m.2 17) 0 (8 * s) wd) (8 * s) (8 * s + wd) else m.2 17)), r))
  | _ => (pickB (lkM m.2) (gsG (m.1 3) (m.2 13) (m.2 14) (m.2 15)) none (8 * s) wd).map (fun r => (m, r))
/-- what the picks ask -/
def MR (wd kd : Nat) (m : CS) : Prop := match kd with
  | 3 => ∃ x, x < 2 ^ 31 ∧ m.1 20 = nI x
  | 5 => (∀ s, s < 16 → ∃ h0, h0 < wd ∧ m.2 18 s = nI h0) ∧ BL (m.2 16) ∧ BL (m.2 35)
  | _ => True
theorem cpM_BL {g o : Nat → Int32} (hg : BL g) (ho : BL o) (b0 k : Nat) : BL (cpM g b0 o k) := by
  intro j
  unfold cpM
  split
  · exact hg _
  · exact ho _
theorem hndO_BL {lk : Nat → Bool} {wd : Nat} (hwd : 1 ≤ wd) : ∀ {t : Nat} {g : Nat → Int32} {h : Nat} {q : (Nat → Int32) × Nat}, BL g → h < wd → hndO lk wd t g h = some q → BL q.1 ∧ q.2 < wd
  | 0, _, _, _, _, _, hf => by cases hf
  | t + 1, g, h, q, hg, hh, hf => by
    rw [hndO] at hf
    split at hf
    · cases hf
      exact ⟨hg, hh⟩
    · refine hndO_BL hwd ?_ (Nat.mod_lt _ hwd) hf
      split
      · exact hg
      · exact hg.up _ (Or.inl rfl)
set_option maxRecDepth 100000 in
theorem k_M_pick (h : MD m.1 S wd V kd) (hM : MR wd kd m) (hs : s < 16) (mv : Bool) {m' : CS} {r : Nat} (hr : pkS wd kd m s mv = some (m', r)) : Con l G y_M_pick c_M_pick 3 (some .int) (rz 2 45) [.ref (a 40), .int (nI (8 * s)), .int (bI mv)] (mF G a m.1 m.2) (DI (nI r) (mF G a m'.1 m'.2)) := by
  refine Con.of rfl rfl (fun X C E hR hl hnm => ?_)
  have hw8 := h.w8
  have hk := h.2.2.2.2.2.2.2
  have hbest : ∀ {kd0 : Nat}, (pickB (lkM m.2) (gsG (m.1 3) (m.2 13) (m.2 14) (m.2 15)) none (8 * s) wd).map (fun r => (m, r)) = some (m', r) → EW X G 3 0 0 77 [(0, .ref (a 40)), (1, .int (nI (8 * s))), (2, .int (bI mv))] [] (mF G a m.1 m.2) := by
    intro _ hr
    obtain ⟨w, hw, e⟩ := Option.map_eq_some_iff.mp hr
    cases e
    refine e_aload_n C d_M_pick_77 rfl ?_
    refine e_iload_n C d_M_pick_78 rfl ?_
    refine e_cVi C hR 0 (k_M_best h hs) g957 g14 g954 g956 (gt_sel 34 (by decide +kernel) (by decide +kernel)) d_M_pick_79 rfl ey_M_best rfl rfl rfl rfl ⟨Nat.zero_le _, Nat.zero_le _⟩ ?_
    rw [hw]
    exact e_iret C E d_M_pick_82 (Nat.le_refl _) (Nat.le_refl _) rfl ⟨rfl, rfl⟩
  rcases kd_cases hk with rfl | rfl | rfl | rfl | rfl | rfl | rfl | rfl | rfl | rfl
  · obtain ⟨x, hx, ex⟩ := hM
    simp only [pkS, ex, nI_clamp hx] at hr
    split at hr
    · cases hr
    · rename_i hn
      obtain ⟨w, hw, e⟩ := Option.map_eq_some_iff.mp hr
      cases e
      rw [← ex] at E
      refine e_aload_n C d_M_pick_0 rfl ?_
      refine e_get C 0 (k := 3) in_M g742 d_M_pick_1 rfl rfl rfl rfl ?_
      refine e_top h.2.2.1 ?_
      refine e_tableIn C d_M_pick_4 (off := 40) (by decide) (by decide) (by decide) (tgt := 44) (by decide) ?_
      refine e_aload_n C d_M_pick_44 rfl ?_
      refine e_iload_n C d_M_pick_45 rfl ?_
      refine e_iload_n C d_M_pick_46 rfl ?_
      refine e_cVi C hR 0 (k_M_byChance h hs mv hx ex hn hw) g934 g14 g931 g933 (gt_sel 29 (by decide +kernel) (by decide +kernel)) d_M_pick_47 rfl ey_M_byChance rfl rfl rfl rfl ⟨Nat.zero_le _, Nat.zero_le _⟩ ?_
      exact e_iret C E d_M_pick_50 (Nat.le_refl _) (Nat.le_refl _) rfl ⟨rfl, rfl⟩
  · obtain ⟨hh, hB, hB2⟩ := hM
    obtain ⟨h0, hh0, e0⟩ := hh s hs
    simp only [pkS, e0, nI_clamp (show h0 < 2 ^ 31 by omega)] at hr
    obtain ⟨q, hq, e⟩ := Option.map_eq_some_iff.mp hr
    cases e
    have hb := hndO_BL hw8.1 (cpM_BL hB hB2 _ _) hh0 hq
    refine e_aload_n C d_M_pick_0 rfl ?_
    refine e_get C 0 (k := 3) in_M g742 d_M_pick_1 rfl rfl rfl rfl ?_
    refine e_top h.2.2.1 ?_
    refine e_tableIn C d_M_pick_4 (off := 47) (by decide) (by decide) (by decide) (tgt := 51) (by decide) ?_
    refine e_aload_n C d_M_pick_51 rfl ?_
    refine e_iload_n C d_M_pick_52 rfl ?_
    refine e_iload_n C d_M_pick_53 rfl ?_
    refine e_cVi C hR 0 (k_M_byHand h hs mv hh0 e0 hB hb.1 hq hb.2) g941 g14 g938 g940 (gt_sel 30 (by decide +kernel) (by decide +kernel)) d_M_pick_54 rfl ey_M_byHand rfl rfl rfl rfl ⟨Nat.zero_le _, Nat.zero_le _⟩ ?_
    exact e_iret C E d_M_pick_57 (Nat.le_refl _) (Nat.le_refl _) rfl ⟨rfl, rfl⟩
  · obtain ⟨w, hw, e⟩ := Option.map_eq_some_iff.mp hr
    cases e
    refine e_aload_n C d_M_pick_0 rfl ?_
    refine e_get C 0 (k := 3) in_M g742 d_M_pick_1 rfl rfl rfl rfl ?_
    refine e_top h.2.2.1 ?_
    refine e_tableIn C d_M_pick_4 (off := 54) (by decide) (by decide) (by decide) (tgt := 58) (by decide) ?_
    refine e_aload_n C d_M_pick_58 rfl ?_
    refine e_iload_n C d_M_pick_59 rfl ?_
    refine e_cVi C hR 0 (k_M_byTree h hs hw) g945 g14 g942 g944 (gt_sel 31 (by decide +kernel) (by decide +kernel)) d_M_pick_60 rfl ey_M_byTree rfl rfl rfl rfl ⟨Nat.zero_le _, Nat.zero_le _⟩ ?_
    exact e_iret C E d_M_pick_63 (Nat.le_refl _) (Nat.le_refl _) rfl ⟨rfl, rfl⟩
  · obtain ⟨w, hw, e⟩ := Option.map_eq_some_iff.mp hr
    cases e
    refine e_aload_n C d_M_pick_0 rfl ?_
    refine e_get C 0 (k := 3) in_M g742 d_M_pick_1 rfl rfl rfl rfl ?_
    refine e_top h.2.2.1 ?_
    refine e_tableIn C d_M_pick_4 (off := 60) (by decide) (by decide) (by decide) (tgt := 64) (by decide) ?_
    refine e_aload_n C d_M_pick_64 rfl ?_
    refine e_iload_n C d_M_pick_65 rfl ?_
    refine e_cVi C hR 0 (k_M_unmarked h hs) g949 g14 g946 g948 (gt_sel 32 (by decide +kernel) (by decide +kernel)) d_M_pick_66 rfl ey_M_unmarked rfl rfl rfl rfl ⟨Nat.zero_le _, Nat.zero_le _⟩ ?_
    rw [hw]
    exact e_iret C E d_M_pick_69 (Nat.le_refl _) (Nat.le_refl _) rfl ⟨rfl, rfl⟩
  · obtain ⟨w, hw, e⟩ := Option.map_eq_some_iff.mp hr
    cases e
    refine e_aload_n C d_M_pick_0 rfl ?_
    refine e_get C 0 (k := 3) in_M g742 d_M_pick_1 rfl rfl rfl rfl ?_
    refine e_top h.2.2.1 ?_
    refine e_tableIn C d_M_pick_4 (off := 66) (by decide) (by decide) (by decide) (tgt := 70) (by decide) ?_
    refine e_aload_n C d_M_pick_70 rfl ?_
    refine e_iload_n C d_M_pick_71 rfl ?_
    refine e_iload_n C d_M_pick_72 rfl ?_
    refine e_cVi C hR 0 (k_M_byAge h hs mv rfl rfl hw) g953 g14 g950 g952 (gt_sel 33 (by decide +kernel) (by decide +kernel)) d_M_pick_73 rfl ey_M_byAge rfl rfl rfl rfl ⟨Nat.zero_le _, Nat.zero_le _⟩ ?_
    exact e_iret C E d_M_pick_76 (Nat.le_refl _) (Nat.le_refl _) rfl ⟨rfl, rfl⟩
  · skip
    refine e_aload_n C d_M_pick_0 rfl ?_
    refine e_get C 0 (k := 3) in_M g742 d_M_pick_1 rfl rfl rfl rfl ?_
    refine e_top h.2.2.1 ?_
    refine e_tableOut C d_M_pick_4 (by decide) (tgt := 77) (by decide) ?_
    exact e_lv2 (hbest (kd0 := 0) hr) rfl
  · skip
    refine e_aload_n C d_M_pick_0 rfl ?_
    refine e_get C 0 (k := 3) in_M g742 d_M_pick_1 rfl rfl rfl rfl ?_
    refine e_top h.2.2.1 ?_
    refine e_tableOut C d_M_pick_4 (by decide) (tgt := 77) (by decide) ?_
    exact e_lv2 (hbest (kd0 := 0) hr) rfl
  · skip
    refine e_aload_n C d_M_pick_0 rfl ?_
    refine e_get C 0 (k := 3) in_M g742 d_M_pick_1 rfl rfl rfl rfl ?_
    refine e_top h.2.2.1 ?_
    refine e_tableOut C d_M_pick_4 (by decide) (tgt := 77) (by decide) ?_
    exact e_lv2 (hbest (kd0 := 0) hr) rfl
  · skip
    refine e_aload_n C d_M_pick_0 rfl ?_
    refine e_get C 0 (k := 3) in_M g742 d_M_pick_1 rfl rfl rfl rfl ?_
    refine e_top h.2.2.1 ?_
    refine e_tableIn C d_M_pick_4 (off := 73) (by decide) (by decide) (by decide) (tgt := 77) (by decide) ?_
    exact e_lv2 (hbest (kd0 := 0) hr) rfl
  · skip
    refine e_aload_n C d_M_pick_0 rfl ?_
    refine e_get C 0 (k := 3) in_M g742 d_M_pick_1 rfl rfl rfl rfl ?_
    refine e_top h.2.2.1 ?_
    refine e_tableOut C d_M_pick_4 (by decide) (tgt := 77) (by decide) ?_
    exact e_lv2 (hbest (kd0 := 0) hr) rfl
end M2
end
