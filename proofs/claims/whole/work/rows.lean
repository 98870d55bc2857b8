section
-- ===== PART A: goes FIRST, ahead of the names: the tables' words, and 'selects' of the private methods out of them =====
/-- a private method of a class that the tables say can be made, by its rows of tables_1 -/
def lw_okq (q : MethodName × Nat) : Prop := (q.1.cls ≠ "java/lang/invoke/MethodHandle" ∧ q.1.cls ≠ "java/lang/invoke/VarHandle") ∧ Cond.instantiable q.1.cls q.2 ∈ tables_1 ∧ Cond.privateMethod q.1 ∈ tables_1 ∧ Cond.instanceMethod q.1 ∈ tables_1
theorem lw_p0 : lw_okq (⟨"GapSets$Parser", "restart", "()V"⟩, 8) := ⟨⟨by decide +kernel, by decide +kernel⟩, List.mem_of_getElem? (i := 91) (by decide +kernel), List.mem_of_getElem? (i := 97) (by decide +kernel), List.mem_of_getElem? (i := 98) (by decide +kernel)⟩
theorem lw_p1 : lw_okq (⟨"GapSets$Parser", "beginNumber", "(I)V"⟩, 8) := ⟨⟨by decide +kernel, by decide +kernel⟩, List.mem_of_getElem? (i := 91) (by decide +kernel), List.mem_of_getElem? (i := 101) (by decide +kernel), List.mem_of_getElem? (i := 102) (by decide +kernel)⟩
theorem lw_p2 : lw_okq (⟨"GapSets$Parser", "takes", "(I)Z"⟩, 8) := ⟨⟨by decide +kernel, by decide +kernel⟩, List.mem_of_getElem? (i := 91) (by decide +kernel), List.mem_of_getElem? (i := 242) (by decide +kernel), List.mem_of_getElem? (i := 243) (by decide +kernel)⟩
theorem lw_p3 : lw_okq (⟨"GapSets$Parser", "takesComma", "()Z"⟩, 8) := ⟨⟨by decide +kernel, by decide +kernel⟩, List.mem_of_getElem? (i := 91) (by decide +kernel), List.mem_of_getElem? (i := 246) (by decide +kernel), List.mem_of_getElem? (i := 247) (by decide +kernel)⟩
theorem lw_p4 : lw_okq (⟨"GapSets$Parser", "isWhole", "()Z"⟩, 8) := ⟨⟨by decide +kernel, by decide +kernel⟩, List.mem_of_getElem? (i := 91) (by decide +kernel), List.mem_of_getElem? (i := 250) (by decide +kernel), List.mem_of_getElem? (i := 251) (by decide +kernel)⟩
theorem lw_p5 : lw_okq (⟨"GapSets$Parser", "closePart", "()V"⟩, 8) := ⟨⟨by decide +kernel, by decide +kernel⟩, List.mem_of_getElem? (i := 91) (by decide +kernel), List.mem_of_getElem? (i := 254) (by decide +kernel), List.mem_of_getElem? (i := 255) (by decide +kernel)⟩
theorem lw_p6 : lw_okq (⟨"GapSets$Parser", "takesDash", "()Z"⟩, 8) := ⟨⟨by decide +kernel, by decide +kernel⟩, List.mem_of_getElem? (i := 91) (by decide +kernel), List.mem_of_getElem? (i := 258) (by decide +kernel), List.mem_of_getElem? (i := 259) (by decide +kernel)⟩
theorem lw_p7 : lw_okq (⟨"GapSets$Parser", "takesDigit", "(I)Z"⟩, 8) := ⟨⟨by decide +kernel, by decide +kernel⟩, List.mem_of_getElem? (i := 91) (by decide +kernel), List.mem_of_getElem? (i := 262) (by decide +kernel), List.mem_of_getElem? (i := 263) (by decide +kernel)⟩
theorem lw_p8 : lw_okq (⟨"GapSets", "gatherWidths", "()V"⟩, 8) := ⟨⟨by decide +kernel, by decide +kernel⟩, List.mem_of_getElem? (i := 20) (by decide +kernel), List.mem_of_getElem? (i := 273) (by decide +kernel), List.mem_of_getElem? (i := 274) (by decide +kernel)⟩
theorem lw_p9 : lw_okq (⟨"GapSets", "allSizes", "(I)I"⟩, 8) := ⟨⟨by decide +kernel, by decide +kernel⟩, List.mem_of_getElem? (i := 20) (by decide +kernel), List.mem_of_getElem? (i := 309) (by decide +kernel), List.mem_of_getElem? (i := 310) (by decide +kernel)⟩
theorem lw_p10 : lw_okq (⟨"GapSets", "allMembers", "()I"⟩, 8) := ⟨⟨by decide +kernel, by decide +kernel⟩, List.mem_of_getElem? (i := 20) (by decide +kernel), List.mem_of_getElem? (i := 334) (by decide +kernel), List.mem_of_getElem? (i := 335) (by decide +kernel)⟩
theorem lw_p11 : lw_okq (⟨"java/lang/Throwable", "fillInStackTrace", "(I)Ljava/lang/Throwable;"⟩, 6) := ⟨⟨by decide +kernel, by decide +kernel⟩, List.mem_of_getElem? (i := 388) (by decide +kernel), List.mem_of_getElem? (i := 386) (by decide +kernel), List.mem_of_getElem? (i := 387) (by decide +kernel)⟩
theorem lw_p12 : lw_okq (⟨"GapSets", "unlikeMembers", "()I"⟩, 8) := ⟨⟨by decide +kernel, by decide +kernel⟩, List.mem_of_getElem? (i := 20) (by decide +kernel), List.mem_of_getElem? (i := 418) (by decide +kernel), List.mem_of_getElem? (i := 419) (by decide +kernel)⟩
theorem lw_p13 : lw_okq (⟨"GapSets", "holdersAhead", "(II)I"⟩, 8) := ⟨⟨by decide +kernel, by decide +kernel⟩, List.mem_of_getElem? (i := 20) (by decide +kernel), List.mem_of_getElem? (i := 422) (by decide +kernel), List.mem_of_getElem? (i := 423) (by decide +kernel)⟩
theorem lw_p14 : lw_okq (⟨"GapSets", "membersOfAllFour", "()I"⟩, 8) := ⟨⟨by decide +kernel, by decide +kernel⟩, List.mem_of_getElem? (i := 20) (by decide +kernel), List.mem_of_getElem? (i := 427) (by decide +kernel), List.mem_of_getElem? (i := 428) (by decide +kernel)⟩
theorem lw_p15 : lw_okq (⟨"GapSets", "allBlocks", "()I"⟩, 8) := ⟨⟨by decide +kernel, by decide +kernel⟩, List.mem_of_getElem? (i := 20) (by decide +kernel), List.mem_of_getElem? (i := 431) (by decide +kernel), List.mem_of_getElem? (i := 432) (by decide +kernel)⟩
def lw_privs_1 : List (MethodName × Nat) := [(⟨"GapSets$Parser", "restart", "()V"⟩, 8), (⟨"GapSets$Parser", "beginNumber", "(I)V"⟩, 8), (⟨"GapSets$Parser", "takes", "(I)Z"⟩, 8), (⟨"GapSets$Parser", "takesComma", "()Z"⟩, 8), (⟨"GapSets$Parser", "isWhole", "()Z"⟩, 8), (⟨"GapSets$Parser", "closePart", "()V"⟩, 8), (⟨"GapSets$Parser", "takesDash", "()Z"⟩, 8), (⟨"GapSets$Parser", "takesDigit", "(I)Z"⟩, 8), (⟨"GapSets", "gatherWidths", "()V"⟩, 8), (⟨"GapSets", "allSizes", "(I)I"⟩, 8), (⟨"GapSets", "allMembers", "()I"⟩, 8), (⟨"java/lang/Throwable", "fillInStackTrace", "(I)Ljava/lang/Throwable;"⟩, 6), (⟨"GapSets", "unlikeMembers", "()I"⟩, 8), (⟨"GapSets", "holdersAhead", "(II)I"⟩, 8), (⟨"GapSets", "membersOfAllFour", "()I"⟩, 8), (⟨"GapSets", "allBlocks", "()I"⟩, 8)]
theorem lw_r1 : ∀ q ∈ lw_privs_1, lw_okq q := List.forall_mem_cons.mpr ⟨lw_p0, List.forall_mem_cons.mpr ⟨lw_p1, List.forall_mem_cons.mpr ⟨lw_p2, List.forall_mem_cons.mpr ⟨lw_p3, List.forall_mem_cons.mpr ⟨lw_p4, List.forall_mem_cons.mpr ⟨lw_p5, List.forall_mem_cons.mpr ⟨lw_p6, List.forall_mem_cons.mpr ⟨lw_p7, List.forall_mem_cons.mpr ⟨lw_p8, List.forall_mem_cons.mpr ⟨lw_p9, List.forall_mem_cons.mpr ⟨lw_p10, List.forall_mem_cons.mpr ⟨lw_p11, List.forall_mem_cons.mpr ⟨lw_p12, List.forall_mem_cons.mpr ⟨lw_p13, List.forall_mem_cons.mpr ⟨lw_p14, List.forall_mem_cons.mpr ⟨lw_p15, fun _ h => absurd h List.not_mem_nil⟩⟩⟩⟩⟩⟩⟩⟩⟩⟩⟩⟩⟩⟩⟩⟩
theorem lw_p16 : lw_okq (⟨"GapSets$Blocks", "putStart", "(II)V"⟩, 3) := ⟨⟨by decide +kernel, by decide +kernel⟩, List.mem_of_getElem? (i := 130) (by decide +kernel), List.mem_of_getElem? (i := 443) (by decide +kernel), List.mem_of_getElem? (i := 444) (by decide +kernel)⟩
theorem lw_p17 : lw_okq (⟨"GapSets", "pairsAlike", "()I"⟩, 8) := ⟨⟨by decide +kernel, by decide +kernel⟩, List.mem_of_getElem? (i := 20) (by decide +kernel), List.mem_of_getElem? (i := 447) (by decide +kernel), List.mem_of_getElem? (i := 448) (by decide +kernel)⟩
theorem lw_p18 : lw_okq (⟨"GapSets", "mixMembers", "(JI)J"⟩, 8) := ⟨⟨by decide +kernel, by decide +kernel⟩, List.mem_of_getElem? (i := 20) (by decide +kernel), List.mem_of_getElem? (i := 464) (by decide +kernel), List.mem_of_getElem? (i := 465) (by decide +kernel)⟩
theorem lw_p19 : lw_okq (⟨"GapSets", "sizeOf", "(LGapSets$Members;)I"⟩, 8) := ⟨⟨by decide +kernel, by decide +kernel⟩, List.mem_of_getElem? (i := 20) (by decide +kernel), List.mem_of_getElem? (i := 491) (by decide +kernel), List.mem_of_getElem? (i := 492) (by decide +kernel)⟩
theorem lw_p20 : lw_okq (⟨"GapSets", "mixBlocks", "(JI)J"⟩, 8) := ⟨⟨by decide +kernel, by decide +kernel⟩, List.mem_of_getElem? (i := 20) (by decide +kernel), List.mem_of_getElem? (i := 523) (by decide +kernel), List.mem_of_getElem? (i := 524) (by decide +kernel)⟩
theorem lw_p21 : lw_okq (⟨"GapSets", "mixLooks", "(JI)J"⟩, 8) := ⟨⟨by decide +kernel, by decide +kernel⟩, List.mem_of_getElem? (i := 20) (by decide +kernel), List.mem_of_getElem? (i := 555) (by decide +kernel), List.mem_of_getElem? (i := 556) (by decide +kernel)⟩
theorem lw_p22 : lw_okq (⟨"GapSets$Leaper", "lookForBlock", "(I)I"⟩, 5) := ⟨⟨by decide +kernel, by decide +kernel⟩, List.mem_of_getElem? (i := 154) (by decide +kernel), List.mem_of_getElem? (i := 616) (by decide +kernel), List.mem_of_getElem? (i := 617) (by decide +kernel)⟩
theorem lw_p23 : lw_okq (⟨"GapSets", "mixBuffer", "(J)J"⟩, 8) := ⟨⟨by decide +kernel, by decide +kernel⟩, List.mem_of_getElem? (i := 20) (by decide +kernel), List.mem_of_getElem? (i := 656) (by decide +kernel), List.mem_of_getElem? (i := 657) (by decide +kernel)⟩
theorem lw_p24 : lw_okq (⟨"GapSets$History", "slotAt", "(I)LGapSets$State;"⟩, 3) := ⟨⟨by decide +kernel, by decide +kernel⟩, List.mem_of_getElem? (i := 59) (by decide +kernel), List.mem_of_getElem? (i := 694) (by decide +kernel), List.mem_of_getElem? (i := 695) (by decide +kernel)⟩
theorem lw_p25 : lw_okq (⟨"GapSetsModel", "isMember", "(II)Z"⟩, 18) := ⟨⟨by decide +kernel, by decide +kernel⟩, List.mem_of_getElem? (i := 875) (by decide +kernel), List.mem_of_getElem? (i := 953) (by decide +kernel), List.mem_of_getElem? (i := 954) (by decide +kernel)⟩
theorem lw_p26 : lw_okq (⟨"GapSetsModel", "lessThan", "(II)I"⟩, 18) := ⟨⟨by decide +kernel, by decide +kernel⟩, List.mem_of_getElem? (i := 875) (by decide +kernel), List.mem_of_getElem? (i := 957) (by decide +kernel), List.mem_of_getElem? (i := 958) (by decide +kernel)⟩
theorem lw_p27 : lw_okq (⟨"GapSetsModel", "many", "(I)I"⟩, 18) := ⟨⟨by decide +kernel, by decide +kernel⟩, List.mem_of_getElem? (i := 875) (by decide +kernel), List.mem_of_getElem? (i := 961) (by decide +kernel), List.mem_of_getElem? (i := 962) (by decide +kernel)⟩
theorem lw_p28 : lw_okq (⟨"GapSetsModel", "at", "(II)I"⟩, 18) := ⟨⟨by decide +kernel, by decide +kernel⟩, List.mem_of_getElem? (i := 875) (by decide +kernel), List.mem_of_getElem? (i := 965) (by decide +kernel), List.mem_of_getElem? (i := 966) (by decide +kernel)⟩
theorem lw_p29 : lw_okq (⟨"GapSetsModel", "save", "()V"⟩, 18) := ⟨⟨by decide +kernel, by decide +kernel⟩, List.mem_of_getElem? (i := 875) (by decide +kernel), List.mem_of_getElem? (i := 969) (by decide +kernel), List.mem_of_getElem? (i := 970) (by decide +kernel)⟩
theorem lw_p30 : lw_okq (⟨"GapSetsModel", "insert", "(II)V"⟩, 18) := ⟨⟨by decide +kernel, by decide +kernel⟩, List.mem_of_getElem? (i := 875) (by decide +kernel), List.mem_of_getElem? (i := 973) (by decide +kernel), List.mem_of_getElem? (i := 974) (by decide +kernel)⟩
theorem lw_p31 : lw_okq (⟨"GapSetsModel", "takeAway", "(III)I"⟩, 18) := ⟨⟨by decide +kernel, by decide +kernel⟩, List.mem_of_getElem? (i := 875) (by decide +kernel), List.mem_of_getElem? (i := 981) (by decide +kernel), List.mem_of_getElem? (i := 982) (by decide +kernel)⟩
def lw_privs_2 : List (MethodName × Nat) := [(⟨"GapSets$Blocks", "putStart", "(II)V"⟩, 3), (⟨"GapSets", "pairsAlike", "()I"⟩, 8), (⟨"GapSets", "mixMembers", "(JI)J"⟩, 8), (⟨"GapSets", "sizeOf", "(LGapSets$Members;)I"⟩, 8), (⟨"GapSets", "mixBlocks", "(JI)J"⟩, 8), (⟨"GapSets", "mixLooks", "(JI)J"⟩, 8), (⟨"GapSets$Leaper", "lookForBlock", "(I)I"⟩, 5), (⟨"GapSets", "mixBuffer", "(J)J"⟩, 8), (⟨"GapSets$History", "slotAt", "(I)LGapSets$State;"⟩, 3), (⟨"GapSetsModel", "isMember", "(II)Z"⟩, 18), (⟨"GapSetsModel", "lessThan", "(II)I"⟩, 18), (⟨"GapSetsModel", "many", "(I)I"⟩, 18), (⟨"GapSetsModel", "at", "(II)I"⟩, 18), (⟨"GapSetsModel", "save", "()V"⟩, 18), (⟨"GapSetsModel", "insert", "(II)V"⟩, 18), (⟨"GapSetsModel", "takeAway", "(III)I"⟩, 18)]
theorem lw_r2 : ∀ q ∈ lw_privs_2, lw_okq q := List.forall_mem_cons.mpr ⟨lw_p16, List.forall_mem_cons.mpr ⟨lw_p17, List.forall_mem_cons.mpr ⟨lw_p18, List.forall_mem_cons.mpr ⟨lw_p19, List.forall_mem_cons.mpr ⟨lw_p20, List.forall_mem_cons.mpr ⟨lw_p21, List.forall_mem_cons.mpr ⟨lw_p22, List.forall_mem_cons.mpr ⟨lw_p23, List.forall_mem_cons.mpr ⟨lw_p24, List.forall_mem_cons.mpr ⟨lw_p25, List.forall_mem_cons.mpr ⟨lw_p26, List.forall_mem_cons.mpr ⟨lw_p27, List.forall_mem_cons.mpr ⟨lw_p28, List.forall_mem_cons.mpr ⟨lw_p29, List.forall_mem_cons.mpr ⟨lw_p30, List.forall_mem_cons.mpr ⟨lw_p31, fun _ h => absurd h List.not_mem_nil⟩⟩⟩⟩⟩⟩⟩⟩⟩⟩⟩⟩⟩⟩⟩⟩
theorem lw_p32 : lw_okq (⟨"GapSetsModel", "takeRow", "(I)V"⟩, 18) := ⟨⟨by decide +kernel, by decide +kernel⟩, List.mem_of_getElem? (i := 875) (by decide +kernel), List.mem_of_getElem? (i := 985) (by decide +kernel), List.mem_of_getElem? (i := 986) (by decide +kernel)⟩
theorem lw_p33 : lw_okq (⟨"GapSetsModel", "layRow", "(I)V"⟩, 18) := ⟨⟨by decide +kernel, by decide +kernel⟩, List.mem_of_getElem? (i := 875) (by decide +kernel), List.mem_of_getElem? (i := 989) (by decide +kernel), List.mem_of_getElem? (i := 990) (by decide +kernel)⟩
theorem lw_p34 : lw_okq (⟨"GapSetsModel", "canShift", "(II)Z"⟩, 18) := ⟨⟨by decide +kernel, by decide +kernel⟩, List.mem_of_getElem? (i := 875) (by decide +kernel), List.mem_of_getElem? (i := 1001) (by decide +kernel), List.mem_of_getElem? (i := 1002) (by decide +kernel)⟩
theorem lw_p35 : lw_okq (⟨"GapSetsModel", "leastOf", "(I)I"⟩, 18) := ⟨⟨by decide +kernel, by decide +kernel⟩, List.mem_of_getElem? (i := 875) (by decide +kernel), List.mem_of_getElem? (i := 1005) (by decide +kernel), List.mem_of_getElem? (i := 1006) (by decide +kernel)⟩
theorem lw_p36 : lw_okq (⟨"GapSetsModel", "greatestOf", "(I)I"⟩, 18) := ⟨⟨by decide +kernel, by decide +kernel⟩, List.mem_of_getElem? (i := 875) (by decide +kernel), List.mem_of_getElem? (i := 1009) (by decide +kernel), List.mem_of_getElem? (i := 1010) (by decide +kernel)⟩
theorem lw_p37 : lw_okq (⟨"GapSetsModel", "layCombined", "(III)V"⟩, 18) := ⟨⟨by decide +kernel, by decide +kernel⟩, List.mem_of_getElem? (i := 875) (by decide +kernel), List.mem_of_getElem? (i := 1017) (by decide +kernel), List.mem_of_getElem? (i := 1018) (by decide +kernel)⟩
theorem lw_p38 : lw_okq (⟨"GapSetsModel", "rightUpTo", "()I"⟩, 18) := ⟨⟨by decide +kernel, by decide +kernel⟩, List.mem_of_getElem? (i := 875) (by decide +kernel), List.mem_of_getElem? (i := 1046) (by decide +kernel), List.mem_of_getElem? (i := 1047) (by decide +kernel)⟩
theorem lw_p39 : lw_okq (⟨"GapSetsModel", "takes", "(I)Z"⟩, 18) := ⟨⟨by decide +kernel, by decide +kernel⟩, List.mem_of_getElem? (i := 875) (by decide +kernel), List.mem_of_getElem? (i := 1050) (by decide +kernel), List.mem_of_getElem? (i := 1051) (by decide +kernel)⟩
theorem lw_p40 : lw_okq (⟨"GapSetsModel", "isEnded", "()Z"⟩, 18) := ⟨⟨by decide +kernel, by decide +kernel⟩, List.mem_of_getElem? (i := 875) (by decide +kernel), List.mem_of_getElem? (i := 1054) (by decide +kernel), List.mem_of_getElem? (i := 1055) (by decide +kernel)⟩
theorem lw_p41 : lw_okq (⟨"GapSetsModel", "endNumber", "()V"⟩, 18) := ⟨⟨by decide +kernel, by decide +kernel⟩, List.mem_of_getElem? (i := 875) (by decide +kernel), List.mem_of_getElem? (i := 1058) (by decide +kernel), List.mem_of_getElem? (i := 1059) (by decide +kernel)⟩
theorem lw_p42 : lw_okq (⟨"GapSetsModel", "takesDigit", "(I)Z"⟩, 18) := ⟨⟨by decide +kernel, by decide +kernel⟩, List.mem_of_getElem? (i := 875) (by decide +kernel), List.mem_of_getElem? (i := 1062) (by decide +kernel), List.mem_of_getElem? (i := 1063) (by decide +kernel)⟩
theorem lw_p43 : lw_okq (⟨"GapSetsModel", "toldMany", "()I"⟩, 18) := ⟨⟨by decide +kernel, by decide +kernel⟩, List.mem_of_getElem? (i := 875) (by decide +kernel), List.mem_of_getElem? (i := 1073) (by decide +kernel), List.mem_of_getElem? (i := 1074) (by decide +kernel)⟩
theorem lw_p44 : lw_okq (⟨"GapSetsModel", "nearestTo", "(II)I"⟩, 18) := ⟨⟨by decide +kernel, by decide +kernel⟩, List.mem_of_getElem? (i := 875) (by decide +kernel), List.mem_of_getElem? (i := 1097) (by decide +kernel), List.mem_of_getElem? (i := 1098) (by decide +kernel)⟩
theorem lw_p45 : lw_okq (⟨"GapSetsModel", "blockNow", "(III)I"⟩, 18) := ⟨⟨by decide +kernel, by decide +kernel⟩, List.mem_of_getElem? (i := 875) (by decide +kernel), List.mem_of_getElem? (i := 1105) (by decide +kernel), List.mem_of_getElem? (i := 1106) (by decide +kernel)⟩
theorem lw_p46 : lw_okq (⟨"GapSetsModel", "blocksOf", "(I)V"⟩, 18) := ⟨⟨by decide +kernel, by decide +kernel⟩, List.mem_of_getElem? (i := 875) (by decide +kernel), List.mem_of_getElem? (i := 1109) (by decide +kernel), List.mem_of_getElem? (i := 1110) (by decide +kernel)⟩
theorem lw_p47 : lw_okq (⟨"GapSetsModel", "layBlocks", "(II)V"⟩, 18) := ⟨⟨by decide +kernel, by decide +kernel⟩, List.mem_of_getElem? (i := 875) (by decide +kernel), List.mem_of_getElem? (i := 1113) (by decide +kernel), List.mem_of_getElem? (i := 1114) (by decide +kernel)⟩
def lw_privs_3 : List (MethodName × Nat) := [(⟨"GapSetsModel", "takeRow", "(I)V"⟩, 18), (⟨"GapSetsModel", "layRow", "(I)V"⟩, 18), (⟨"GapSetsModel", "canShift", "(II)Z"⟩, 18), (⟨"GapSetsModel", "leastOf", "(I)I"⟩, 18), (⟨"GapSetsModel", "greatestOf", "(I)I"⟩, 18), (⟨"GapSetsModel", "layCombined", "(III)V"⟩, 18), (⟨"GapSetsModel", "rightUpTo", "()I"⟩, 18), (⟨"GapSetsModel", "takes", "(I)Z"⟩, 18), (⟨"GapSetsModel", "isEnded", "()Z"⟩, 18), (⟨"GapSetsModel", "endNumber", "()V"⟩, 18), (⟨"GapSetsModel", "takesDigit", "(I)Z"⟩, 18), (⟨"GapSetsModel", "toldMany", "()I"⟩, 18), (⟨"GapSetsModel", "nearestTo", "(II)I"⟩, 18), (⟨"GapSetsModel", "blockNow", "(III)I"⟩, 18), (⟨"GapSetsModel", "blocksOf", "(I)V"⟩, 18), (⟨"GapSetsModel", "layBlocks", "(II)V"⟩, 18)]
theorem lw_r3 : ∀ q ∈ lw_privs_3, lw_okq q := List.forall_mem_cons.mpr ⟨lw_p32, List.forall_mem_cons.mpr ⟨lw_p33, List.forall_mem_cons.mpr ⟨lw_p34, List.forall_mem_cons.mpr ⟨lw_p35, List.forall_mem_cons.mpr ⟨lw_p36, List.forall_mem_cons.mpr ⟨lw_p37, List.forall_mem_cons.mpr ⟨lw_p38, List.forall_mem_cons.mpr ⟨lw_p39, List.forall_mem_cons.mpr ⟨lw_p40, List.forall_mem_cons.mpr ⟨lw_p41, List.forall_mem_cons.mpr ⟨lw_p42, List.forall_mem_cons.mpr ⟨lw_p43, List.forall_mem_cons.mpr ⟨lw_p44, List.forall_mem_cons.mpr ⟨lw_p45, List.forall_mem_cons.mpr ⟨lw_p46, List.forall_mem_cons.mpr ⟨lw_p47, fun _ h => absurd h List.not_mem_nil⟩⟩⟩⟩⟩⟩⟩⟩⟩⟩⟩⟩⟩⟩⟩⟩
theorem lw_p48 : lw_okq (⟨"GapSetsModel", "bytesOf", "(I)I"⟩, 18) := ⟨⟨by decide +kernel, by decide +kernel⟩, List.mem_of_getElem? (i := 875) (by decide +kernel), List.mem_of_getElem? (i := 1117) (by decide +kernel), List.mem_of_getElem? (i := 1118) (by decide +kernel)⟩
theorem lw_p49 : lw_okq (⟨"GapSetsModel", "greatestGap", "(I)I"⟩, 18) := ⟨⟨by decide +kernel, by decide +kernel⟩, List.mem_of_getElem? (i := 875) (by decide +kernel), List.mem_of_getElem? (i := 1121) (by decide +kernel), List.mem_of_getElem? (i := 1122) (by decide +kernel)⟩
theorem lw_p50 : lw_okq (⟨"GapSetsModel", "setNow", "(II)I"⟩, 18) := ⟨⟨by decide +kernel, by decide +kernel⟩, List.mem_of_getElem? (i := 875) (by decide +kernel), List.mem_of_getElem? (i := 1129) (by decide +kernel), List.mem_of_getElem? (i := 1130) (by decide +kernel)⟩
theorem lw_p51 : lw_okq (⟨"GapSetsModel", "blockCount", "(I)I"⟩, 18) := ⟨⟨by decide +kernel, by decide +kernel⟩, List.mem_of_getElem? (i := 875) (by decide +kernel), List.mem_of_getElem? (i := 1133) (by decide +kernel), List.mem_of_getElem? (i := 1134) (by decide +kernel)⟩
theorem lw_p52 : lw_okq (⟨"GapSetsModel", "sizeOf", "(I)I"⟩, 18) := ⟨⟨by decide +kernel, by decide +kernel⟩, List.mem_of_getElem? (i := 875) (by decide +kernel), List.mem_of_getElem? (i := 1137) (by decide +kernel), List.mem_of_getElem? (i := 1138) (by decide +kernel)⟩
theorem lw_p53 : lw_okq (⟨"GapSetsModel", "sizeBy", "(III)I"⟩, 18) := ⟨⟨by decide +kernel, by decide +kernel⟩, List.mem_of_getElem? (i := 875) (by decide +kernel), List.mem_of_getElem? (i := 1141) (by decide +kernel), List.mem_of_getElem? (i := 1142) (by decide +kernel)⟩
theorem lw_p54 : lw_okq (⟨"GapSetsModel", "bytes", "()I"⟩, 18) := ⟨⟨by decide +kernel, by decide +kernel⟩, List.mem_of_getElem? (i := 875) (by decide +kernel), List.mem_of_getElem? (i := 1145) (by decide +kernel), List.mem_of_getElem? (i := 1146) (by decide +kernel)⟩
theorem lw_p55 : lw_okq (⟨"GapSetsModel", "longestRun", "(I)I"⟩, 18) := ⟨⟨by decide +kernel, by decide +kernel⟩, List.mem_of_getElem? (i := 875) (by decide +kernel), List.mem_of_getElem? (i := 1149) (by decide +kernel), List.mem_of_getElem? (i := 1150) (by decide +kernel)⟩
theorem lw_p56 : lw_okq (⟨"GapSetsModel", "wideGaps", "(I)I"⟩, 18) := ⟨⟨by decide +kernel, by decide +kernel⟩, List.mem_of_getElem? (i := 875) (by decide +kernel), List.mem_of_getElem? (i := 1153) (by decide +kernel), List.mem_of_getElem? (i := 1154) (by decide +kernel)⟩
theorem lw_p57 : lw_okq (⟨"GapSetsModel", "leapsNow", "(III)I"⟩, 18) := ⟨⟨by decide +kernel, by decide +kernel⟩, List.mem_of_getElem? (i := 875) (by decide +kernel), List.mem_of_getElem? (i := 1161) (by decide +kernel), List.mem_of_getElem? (i := 1162) (by decide +kernel)⟩
theorem lw_p58 : lw_okq (⟨"GapSetsModel", "goThrough", "(II)V"⟩, 18) := ⟨⟨by decide +kernel, by decide +kernel⟩, List.mem_of_getElem? (i := 875) (by decide +kernel), List.mem_of_getElem? (i := 1165) (by decide +kernel), List.mem_of_getElem? (i := 1166) (by decide +kernel)⟩
theorem lw_p59 : lw_okq (⟨"GapSetsModel", "leap", "(III)I"⟩, 18) := ⟨⟨by decide +kernel, by decide +kernel⟩, List.mem_of_getElem? (i := 875) (by decide +kernel), List.mem_of_getElem? (i := 1169) (by decide +kernel), List.mem_of_getElem? (i := 1170) (by decide +kernel)⟩
theorem lw_p60 : lw_okq (⟨"GapSetsModel", "blockWith", "(II)I"⟩, 18) := ⟨⟨by decide +kernel, by decide +kernel⟩, List.mem_of_getElem? (i := 875) (by decide +kernel), List.mem_of_getElem? (i := 1173) (by decide +kernel), List.mem_of_getElem? (i := 1174) (by decide +kernel)⟩
theorem lw_p61 : lw_okq (⟨"GapSetsModel", "counted", "(I)I"⟩, 18) := ⟨⟨by decide +kernel, by decide +kernel⟩, List.mem_of_getElem? (i := 875) (by decide +kernel), List.mem_of_getElem? (i := 1181) (by decide +kernel), List.mem_of_getElem? (i := 1182) (by decide +kernel)⟩
theorem lw_p62 : lw_okq (⟨"GapSetsModel", "sumOf", "(I)I"⟩, 18) := ⟨⟨by decide +kernel, by decide +kernel⟩, List.mem_of_getElem? (i := 875) (by decide +kernel), List.mem_of_getElem? (i := 1185) (by decide +kernel), List.mem_of_getElem? (i := 1186) (by decide +kernel)⟩
theorem lw_p63 : lw_okq (⟨"GapSetsModel", "membersOfAll", "(Z)I"⟩, 18) := ⟨⟨by decide +kernel, by decide +kernel⟩, List.mem_of_getElem? (i := 875) (by decide +kernel), List.mem_of_getElem? (i := 1189) (by decide +kernel), List.mem_of_getElem? (i := 1190) (by decide +kernel)⟩
def lw_privs_4 : List (MethodName × Nat) := [(⟨"GapSetsModel", "bytesOf", "(I)I"⟩, 18), (⟨"GapSetsModel", "greatestGap", "(I)I"⟩, 18), (⟨"GapSetsModel", "setNow", "(II)I"⟩, 18), (⟨"GapSetsModel", "blockCount", "(I)I"⟩, 18), (⟨"GapSetsModel", "sizeOf", "(I)I"⟩, 18), (⟨"GapSetsModel", "sizeBy", "(III)I"⟩, 18), (⟨"GapSetsModel", "bytes", "()I"⟩, 18), (⟨"GapSetsModel", "longestRun", "(I)I"⟩, 18), (⟨"GapSetsModel", "wideGaps", "(I)I"⟩, 18), (⟨"GapSetsModel", "leapsNow", "(III)I"⟩, 18), (⟨"GapSetsModel", "goThrough", "(II)V"⟩, 18), (⟨"GapSetsModel", "leap", "(III)I"⟩, 18), (⟨"GapSetsModel", "blockWith", "(II)I"⟩, 18), (⟨"GapSetsModel", "counted", "(I)I"⟩, 18), (⟨"GapSetsModel", "sumOf", "(I)I"⟩, 18), (⟨"GapSetsModel", "membersOfAll", "(Z)I"⟩, 18)]
theorem lw_r4 : ∀ q ∈ lw_privs_4, lw_okq q := List.forall_mem_cons.mpr ⟨lw_p48, List.forall_mem_cons.mpr ⟨lw_p49, List.forall_mem_cons.mpr ⟨lw_p50, List.forall_mem_cons.mpr ⟨lw_p51, List.forall_mem_cons.mpr ⟨lw_p52, List.forall_mem_cons.mpr ⟨lw_p53, List.forall_mem_cons.mpr ⟨lw_p54, List.forall_mem_cons.mpr ⟨lw_p55, List.forall_mem_cons.mpr ⟨lw_p56, List.forall_mem_cons.mpr ⟨lw_p57, List.forall_mem_cons.mpr ⟨lw_p58, List.forall_mem_cons.mpr ⟨lw_p59, List.forall_mem_cons.mpr ⟨lw_p60, List.forall_mem_cons.mpr ⟨lw_p61, List.forall_mem_cons.mpr ⟨lw_p62, List.forall_mem_cons.mpr ⟨lw_p63, fun _ h => absurd h List.not_mem_nil⟩⟩⟩⟩⟩⟩⟩⟩⟩⟩⟩⟩⟩⟩⟩⟩
theorem lw_p64 : lw_okq (⟨"GapSetsModel", "setsWith", "(II)I"⟩, 18) := ⟨⟨by decide +kernel, by decide +kernel⟩, List.mem_of_getElem? (i := 875) (by decide +kernel), List.mem_of_getElem? (i := 1193) (by decide +kernel), List.mem_of_getElem? (i := 1194) (by decide +kernel)⟩
theorem lw_p65 : lw_okq (⟨"GapSetsModel", "alikePairs", "()I"⟩, 18) := ⟨⟨by decide +kernel, by decide +kernel⟩, List.mem_of_getElem? (i := 875) (by decide +kernel), List.mem_of_getElem? (i := 1197) (by decide +kernel), List.mem_of_getElem? (i := 1198) (by decide +kernel)⟩
theorem lw_p66 : lw_okq (⟨"GapSetsModel", "areAlike", "(II)Z"⟩, 18) := ⟨⟨by decide +kernel, by decide +kernel⟩, List.mem_of_getElem? (i := 875) (by decide +kernel), List.mem_of_getElem? (i := 1201) (by decide +kernel), List.mem_of_getElem? (i := 1202) (by decide +kernel)⟩
theorem lw_p67 : lw_okq (⟨"GapSetsModel", "addedThen", "(II)I"⟩, 18) := ⟨⟨by decide +kernel, by decide +kernel⟩, List.mem_of_getElem? (i := 875) (by decide +kernel), List.mem_of_getElem? (i := 1217) (by decide +kernel), List.mem_of_getElem? (i := 1218) (by decide +kernel)⟩
theorem lw_p68 : lw_okq (⟨"GapSetsModel", "dearestNow", "(II)I"⟩, 18) := ⟨⟨by decide +kernel, by decide +kernel⟩, List.mem_of_getElem? (i := 875) (by decide +kernel), List.mem_of_getElem? (i := 1225) (by decide +kernel), List.mem_of_getElem? (i := 1226) (by decide +kernel)⟩
theorem lw_p69 : lw_okq (⟨"GapSetsModel", "sizeWithout", "(II)I"⟩, 18) := ⟨⟨by decide +kernel, by decide +kernel⟩, List.mem_of_getElem? (i := 875) (by decide +kernel), List.mem_of_getElem? (i := 1229) (by decide +kernel), List.mem_of_getElem? (i := 1230) (by decide +kernel)⟩
theorem lw_p70 : lw_okq (⟨"GapSetsModel", "bestNow", "()I"⟩, 18) := ⟨⟨by decide +kernel, by decide +kernel⟩, List.mem_of_getElem? (i := 875) (by decide +kernel), List.mem_of_getElem? (i := 1237) (by decide +kernel), List.mem_of_getElem? (i := 1238) (by decide +kernel)⟩
theorem lw_p71 : lw_okq (⟨"GapSetsModel", "sizesBy", "(I)I"⟩, 18) := ⟨⟨by decide +kernel, by decide +kernel⟩, List.mem_of_getElem? (i := 875) (by decide +kernel), List.mem_of_getElem? (i := 1241) (by decide +kernel), List.mem_of_getElem? (i := 1242) (by decide +kernel)⟩
theorem lw_p72 : lw_okq (⟨"GapSetsModel", "small", "()D"⟩, 18) := ⟨⟨by decide +kernel, by decide +kernel⟩, List.mem_of_getElem? (i := 875) (by decide +kernel), List.mem_of_getElem? (i := 1249) (by decide +kernel), List.mem_of_getElem? (i := 1250) (by decide +kernel)⟩
theorem lw_p73 : lw_okq (⟨"GapSetsModel", "mix", "(J)V"⟩, 18) := ⟨⟨by decide +kernel, by decide +kernel⟩, List.mem_of_getElem? (i := 875) (by decide +kernel), List.mem_of_getElem? (i := 1258) (by decide +kernel), List.mem_of_getElem? (i := 1259) (by decide +kernel)⟩
theorem lw_p74 : lw_okq (⟨"GapSetsModel", "mixSet", "(I)V"⟩, 18) := ⟨⟨by decide +kernel, by decide +kernel⟩, List.mem_of_getElem? (i := 875) (by decide +kernel), List.mem_of_getElem? (i := 1263) (by decide +kernel), List.mem_of_getElem? (i := 1264) (by decide +kernel)⟩
def lw_privs_5 : List (MethodName × Nat) := [(⟨"GapSetsModel", "setsWith", "(II)I"⟩, 18), (⟨"GapSetsModel", "alikePairs", "()I"⟩, 18), (⟨"GapSetsModel", "areAlike", "(II)Z"⟩, 18), (⟨"GapSetsModel", "addedThen", "(II)I"⟩, 18), (⟨"GapSetsModel", "dearestNow", "(II)I"⟩, 18), (⟨"GapSetsModel", "sizeWithout", "(II)I"⟩, 18), (⟨"GapSetsModel", "bestNow", "()I"⟩, 18), (⟨"GapSetsModel", "sizesBy", "(I)I"⟩, 18), (⟨"GapSetsModel", "small", "()D"⟩, 18), (⟨"GapSetsModel", "mix", "(J)V"⟩, 18), (⟨"GapSetsModel", "mixSet", "(I)V"⟩, 18)]
theorem lw_r5 : ∀ q ∈ lw_privs_5, lw_okq q := List.forall_mem_cons.mpr ⟨lw_p64, List.forall_mem_cons.mpr ⟨lw_p65, List.forall_mem_cons.mpr ⟨lw_p66, List.forall_mem_cons.mpr ⟨lw_p67, List.forall_mem_cons.mpr ⟨lw_p68, List.forall_mem_cons.mpr ⟨lw_p69, List.forall_mem_cons.mpr ⟨lw_p70, List.forall_mem_cons.mpr ⟨lw_p71, List.forall_mem_cons.mpr ⟨lw_p72, List.forall_mem_cons.mpr ⟨lw_p73, List.forall_mem_cons.mpr ⟨lw_p74, fun _ h => absurd h List.not_mem_nil⟩⟩⟩⟩⟩⟩⟩⟩⟩⟩⟩
def lw_privs : List (MethodName × Nat) := lw_privs_1 ++ (lw_privs_2 ++ (lw_privs_3 ++ (lw_privs_4 ++ (lw_privs_5))))
def lw_tbl : List Cond := k2_sels lw_privs ++ tables_1
theorem lw_privs_ok : ∀ q ∈ lw_privs, lw_okq q := by
  show ∀ q ∈ lw_privs_1 ++ (lw_privs_2 ++ (lw_privs_3 ++ (lw_privs_4 ++ (lw_privs_5)))), lw_okq q
  exact List.forall_mem_append.mpr ⟨lw_r1, List.forall_mem_append.mpr ⟨lw_r2, List.forall_mem_append.mpr ⟨lw_r3, List.forall_mem_append.mpr ⟨lw_r4, lw_r5⟩⟩⟩⟩
/-- the streams that the claim lets the run draw from -/
abbrev lw_cs : List Choice := [Jvm.Choice.named "NaN.bits"]
theorem lw_bits : nanBits ∈ lw_cs := by first | decide | exact List.mem_cons_self | simp [lw_cs, nanBits]
-- ===== end of PART A; then your names; then what follows =====
end
section
/-! ===== BEGIN words of one list among another's, by their places ===== -/
theorem goodIn_r {big : List Cond} (ws : List Cond) (ps : List Nat) (hp : ws = ps.filterMap (fun i => big[i]?)) (h : ws.all goodWord = true) : GoodIn big ws := by
  intro w hw
  have h1 := List.all_eq_true.mp h w hw
  rw [hp] at hw
  obtain ⟨i, -, hi⟩ := List.mem_filterMap.mp hw
  have hm : w ∈ big := by first | exact List.mem_of_getElem? hi | exact List.getElem?_mem hi
  exact ⟨hm, good_of_word h1⟩
theorem goodIn_app {big a b : List Cond} (ha : GoodIn big a) (hb : GoodIn big b) : GoodIn big (a ++ b) := fun w h => (List.mem_append.mp h).elim (ha w) (hb w)
theorem goodIn_ca {big a b : List Cond} {c : Cond} (ha : GoodIn big (c :: a)) (hb : GoodIn big b) : GoodIn big (c :: (a ++ b)) := fun w h => (List.mem_cons.mp h).elim (fun e => ha w (List.mem_cons.mpr (Or.inl e))) (fun h => (List.mem_append.mp h).elim (fun h => ha w (List.mem_cons.mpr (Or.inr h))) (hb w))
theorem goodIn_sub {big ws : List Cond} (hm : ∀ w ∈ ws, w ∈ big) (h : ws.all goodWord = true) : GoodIn big ws := fun w hw => ⟨hm w hw, good_of_word (List.all_eq_true.mp h w hw)⟩
/-! ===== END ===== -/

/-! ===== BEGIN exceptions that leave a method, and their catching by the caller (launches without stack traces) ===== -/
section VXA
/-! The laws vx_back, vx_callV, vx_callS, vx_callSW, vx_throw0, vx_throwS follow proofs of the library, with one case more: JvmDerived/Free/Laws.lean (Back.of_free), Shelf42/LK1.lean (callV, callS), Shelf/KitTraced.lean (throwNew0V, throwNewS). -/
/-- where a method has thrown q: the class by its name, the cell, what was written, the world -/
def vx_T (XC : String → State → State → Prop) (st : State) (q : Addr) (t : State) (mc ms : Nat) (free : Addr → Prop) : Prop :=
  ∃ (E : String) (ce : Cell) (L : List Loc), XC E st t ∧ t.heap[q]? = some ce ∧ ce.vm = .none ∧ st.vm.findClass E = some ce.cls ∧ st.WarmedH t.vm ∧ st.sameButNew ({ t with vm := st.vm } : State) L mc ms ∧ ∀ z ∈ L, free z.base
def vx_Q (Qc : Array Value → State → Outcome → State → Prop) (XC : String → State → State → Prop) (mc ms : Nat) (free : Addr → Prop) : Array Value → State → Outcome → State → Prop := fun a st o t =>
  (Qc a st o t ∧ ∃ L, FrameEnd st o t L mc ms ∧ ∀ q ∈ L, free q.base) ∨ ∃ q, o = .threw q ∧ vx_T XC st q t mc ms free
/-- a callee that returns or throws -/
def vx_Met (l : Launch) (y : MethodName) (ws : List Cond) (rm : Room) (Pc : Array Value → State → Prop) (Qc : Array Value → State → Outcome → State → Prop) (XC : String → State → State → Prop) (mc ms : Nat) (free : Addr → Prop) : Prop :=
  MetFree l y (headSpec ws rm) Pc (fun _ _ _ _ _ => True) (vx_Q Qc XC mc ms free)
def vx_Post (XC : String → State → State → Prop) (mc ms : Nat) (free : Addr → Prop) : Pt → Array Value → Addr → Pt → Prop := fun A a q B =>
  ∃ (g : JFrame) (mk : MethodId) (t : State) (L : List Loc) (E : String) (ce : Cell), B.U.heap = t.heap ∧ B.U.vm = t.vm ∧ XC E (A.U.calling g mk a) t ∧ t.heap[q]? = some ce ∧ ce.vm = .none ∧ A.U.vm.findClass E = some ce.cls ∧ B.locs = A.locs ++ L ∧ (∀ z ∈ L, free z.base) ∧ B.cells = A.cells + mc ∧ B.slots = A.slots + ms
def vx_Back (l : Launch) (R : Room) (p : Program) (e : Env) (below : List Frame) (s : State) (sargs : Array Value) (y : MethodName) (len W9 : Nat)
    (Pre : Pt → Array Value → Prop) (Post : Pt → Array Value → Option Value → Pt → Prop) (PostX : Pt → Array Value → Addr → Pt → Prop) : Prop :=
  ∀ (m : MethodId) (meth : Method) (c : Code) (A : Pt) (g : JFrame) (ig : Instr) (mk : MethodId) (a : Array Value),
    Stand p l e R s m sargs below meth c A.U A.locs A.cells A.slots → g.method = m → g.locals.size = c.maxLocals → decode c.code g.pc = .ok (ig, len) →
    2 * g.monitorRoom + (g.stack.map fun v => v.category).sum ≤ W9 → A.U.methodNamed? y = some mk → Pre A a →
    (∃ (v : Option Value) (B : Pt), Stand p l e R s m sargs below meth c B.U B.locs B.cells B.slots ∧ Post A a v B ∧
      Steps p.tables e below (doInvoke e (A.U.setTop g) [] mk a).1 (B.U.setTop { g with pc := g.pc + len, stack := v.toList ++ g.stack })) ∨
    (∃ (q : Addr) (B : Pt), Stand p l e R s m sargs below meth c B.U B.locs B.cells B.slots ∧ PostX A a q B ∧
      Steps p.tables e below (doInvoke e (A.U.setTop g) [] mk a).1 ((B.U.setTop g).pushFrame (.throwing q)))
section Payer
variable {l : Launch} {R : Room} {p : Program} {e : Env} {below : List Frame} {s : State} {sargs : Array Value} {y : MethodName} {len W9 : Nat}
theorem vx_back {ws : List Cond} {rm : Room} {Pc : Array Value → State → Prop} {Qc : Array Value → State → Outcome → State → Prop} {XC : String → State → State → Prop} {mc ms : Nat} {free : Addr → Prop} {bytes : ByteArray} {maxL : Nat} {ret : Option FieldType}
    (hM : vx_Met l y ws rm Pc Qc XC mc ms free) (hblind : FrameBlind Pc) (hrc : rm.cells = mc) (hrs : rm.slots = ms)
    (hframes : rm.frames + 1 ≤ R.frames) (hlocals : W9 + (maxL + 11) + rm.locals ≤ R.locals)
    (hws : ∀ w ∈ ws, ∀ a' U, s.WarmedH U.vm → w.before a' U = true) (hcode : Cond.code y bytes maxL ret ∈ ws) (hinit : ∀ a' U, s.WarmedH U.vm → (Cond.initialized y.cls).before a' U = true) :
    vx_Back l R p e below s sargs y len W9 (PreOf R mc ms Pc) (PostOf Qc mc ms free) (vx_Post XC mc ms free) := by
  intro m meth c A g ig mk a X hg hsize hdg hW hn hp
  have h1 : (headSpec ws rm).pre.before a A.U = true := atoms_intro fun w hw => hws w hw _ _ X.warmed
  have h2 : (Cond.code y bytes maxL ret).before a A.U = true := hws _ hcode _ _ X.warmed
  have h3 : (Cond.initialized y.cls).before a A.U = true := hinit _ _ X.warmed
  have h4 : A.cells + (headSpec ws rm).room.cells ≤ R.cells := by rw [show (headSpec ws rm).room.cells = mc from hrc]; exact hp.1
  have h5 : A.slots + (headSpec ws rm).room.slots ≤ R.slots := by rw [show (headSpec ws rm).room.slots = ms from hrs]; exact hp.2.1
  have hPc : Pc a (A.U.calling g mk a) := hblind _ _ _ _ hp.2.2
  obtain ⟨U, Ls, c0, s0⟩ := A
  dsimp only [Pt.U, Pt.locs, Pt.cells, Pt.slots] at h1 h2 h3 h4 h5 X hn hPc ⊢
  obtain ⟨methY, cY, hmY, hcY, -, hlY, -, -, -, -⟩ := Cond.code_spec hn h2
  obtain ⟨kY, hkY, -⟩ := className_of_methodNamed hn
  have hinitY : kY.init = .initialized := Cond.initialized_spec (findClass_of_methodNamed hn) hkY h3
  have h : At U g.method c below := by rw [hg]; exact X.here
  have hlocals9 : W9 + (maxL + 11) + (headSpec ws rm).room.locals ≤ R.locals := hlocals
  have happ : (headSpec ws rm).appliesLoose y e.platform (U.calling g mk a) = true :=
    Spec.appliesLoose_calling (g := g) h hdg hn hkY hinitY
      (X.room_calling (g := g) (R' := (headSpec ws rm).room) hsize hmY hcY hframes (by rw [hlY]; omega) h4 h5) h1
  obtain ⟨mid, hmid⟩ := h.above
  have hfr : (U.setTop g).frames = (.java g :: mid) ++ below := by rw [State.frames_setTop' g h.top, hmid]; rfl
  obtain ⟨o, s₂, hsteps, -, hend, hq⟩ := Steps.callFree hM p X.admits X.cas X.clock (acts := []) hfr happ hPc trivial
  have hq' : vx_Q Qc XC mc ms free a (U.calling g mk a) o s₂ := hq
  rw [State.frames_setTop' g h.top] at hend
  obtain ⟨g₀, hg0⟩ := Option.isSome_iff_exists.mp h.top
  obtain ⟨r, hr⟩ := State.topJava?_eq_some.mp hg0
  have hr' : (({ U with heap := s₂.heap, slotsUsed := s₂.slotsUsed } : State).setVm s₂.vm).frames = .java g₀ :: r := hr
  rcases hq' with ⟨hqc, L, hfe, hL⟩ | ⟨q, rfl, E, ce, L, hx, hce, hcv, hcl, hW₂, hsm, hL⟩
  · obtain ⟨⟨v, rfl⟩, hW₂, e2, q2, q3, q4, q5, q6⟩ := id hfe
    have e3 : s₂ = ({ (U.calling g mk a).setFrames s₂.frames with heap := s₂.heap, slotsUsed := s₂.slotsUsed } : State).setVm s₂.vm := by
      have : s₂ = ({ s₂ with vm := (U.calling g mk a).vm } : State).setVm s₂.vm := rfl
      rw [e2] at this
      exact this
    obtain ⟨c₂, i₂, len₂, hc₂, hd₂, hf₂⟩ := hend
    have hW' : U.WarmedH s₂.vm := hW₂
    have hcc : c₂ = c := by
      have h1 : s₂.code? g.method = U.code? g.method := by
        rw [State.code?_eq, State.code?_eq, hW'.alike.method?]
      exact Option.some.inj (hc₂.symm.trans (h1.trans h.code))
    subst hcc
    have hlen : len₂ = len := by rw [hdg] at hd₂; cases hd₂; rfl
    subst hlen
    have hs₂ : s₂ = (({ U with heap := s₂.heap, slotsUsed := s₂.slotsUsed } : State).setVm s₂.vm).setTop { g with pc := g.pc + len₂, stack := v.toList ++ g.stack } := by
      refine e3.trans ?_
      rw [hf₂, State.calling_eq h.top, State.setFrames_setFrames, State.setTop_of_frames _ hr', hr]
      rfl
    have hsame : U.sameButNew ({ U with heap := s₂.heap, slotsUsed := s₂.slotsUsed } : State) L mc ms := by
      refine ⟨?_, q2, q3, q4, q5, q6⟩
      obtain ⟨t, ht, -⟩ := State.frames_cons hr
      show ({ U with heap := s₂.heap, slotsUsed := s₂.slotsUsed } : State) = { U.setFrames U.frames with heap := s₂.heap, slotsUsed := s₂.slotsUsed }
      rw [State.setFrames_self ht]
    subst hg
    refine Or.inl ⟨v, ⟨(({ U with heap := s₂.heap, slotsUsed := s₂.slotsUsed } : State).setVm s₂.vm), Ls ++ L, c0 + mc, s0 + ms⟩,
      ⟨X.admits, X.cas, X.clock, X.frames, X.room, X.hears, X.method, X.code, (X.here.setHeapUsed s₂.heap s₂.slotsUsed).setVm hW'.alike, X.tail, State.WarmedH.trans X.warmed hW', X.limits, X.bytes, X.same.trans (hsame.setVm s.vm)⟩,
      ⟨g, mk, s₂, L, rfl, rfl, hqc, rfl, hL, rfl, rfl⟩, ?_⟩
    show Steps p.tables e below _ ((({ U with heap := s₂.heap, slotsUsed := s₂.slotsUsed } : State).setVm s₂.vm).setTop { g with pc := g.pc + len₂, stack := v.toList ++ g.stack })
    rw [← hs₂]
    exact hsteps
  · obtain ⟨e2, q2, q3, q4, q5, q6⟩ := id hsm
    have e3 : s₂ = ({ (U.calling g mk a).setFrames s₂.frames with heap := s₂.heap, slotsUsed := s₂.slotsUsed } : State).setVm s₂.vm := by
      have : s₂ = ({ s₂ with vm := (U.calling g mk a).vm } : State).setVm s₂.vm := rfl
      rw [e2] at this
      exact this
    have hf₂ : s₂.frames = .throwing q :: .java g :: U.frames.tail := hend
    have hW' : U.WarmedH s₂.vm := hW₂
    have hs₂ : s₂ = ((({ U with heap := s₂.heap, slotsUsed := s₂.slotsUsed } : State).setVm s₂.vm).setTop g).pushFrame (.throwing q) := by
      refine e3.trans ?_
      rw [hf₂, State.calling_eq h.top, State.setFrames_setFrames, State.pushFrame, State.frames_setTop _ hr', State.setTop_of_frames _ hr', State.setFrames_setFrames, hr]
      rfl
    have hsame : U.sameButNew ({ U with heap := s₂.heap, slotsUsed := s₂.slotsUsed } : State) L mc ms := by
      refine ⟨?_, q2, q3, q4, q5, q6⟩
      obtain ⟨t, ht, -⟩ := State.frames_cons hr
      show ({ U with heap := s₂.heap, slotsUsed := s₂.slotsUsed } : State) = { U.setFrames U.frames with heap := s₂.heap, slotsUsed := s₂.slotsUsed }
      rw [State.setFrames_self ht]
    subst hg
    refine Or.inr ⟨q, ⟨(({ U with heap := s₂.heap, slotsUsed := s₂.slotsUsed } : State).setVm s₂.vm), Ls ++ L, c0 + mc, s0 + ms⟩,
      ⟨X.admits, X.cas, X.clock, X.frames, X.room, X.hears, X.method, X.code, (X.here.setHeapUsed s₂.heap s₂.slotsUsed).setVm hW'.alike, X.tail, State.WarmedH.trans X.warmed hW', X.limits, X.bytes, X.same.trans (hsame.setVm s.vm)⟩,
      ⟨g, mk, s₂, L, E, ce, rfl, rfl, hx, hce, hcv, hcl, rfl, hL, rfl, rfl⟩, ?_⟩
    show Steps p.tables e below _ (((({ U with heap := s₂.heap, slotsUsed := s₂.slotsUsed } : State).setVm s₂.vm).setTop g).pushFrame (.throwing q))
    rw [← hs₂]
    exact hsteps
end Payer
section Calls
variable {p : Program} {l : Launch} {e : Env} {R : Room} {s : State} {m : MethodId} {args : Array Value} {below : List Frame} {meth : Method} {c : Code} {T : State} {locs : List Loc} {cells slots : Nat}
theorem vx_callV (X : Stand p l e R s m args below meth c T locs cells slots) (hexec : p.tables.exec = Jvm.exec) {own C : String} {index : Nat} {y : MethodName} {bytes : ByteArray} {maxL : Nat} {ret : Option FieldType}
    (hown : s.vm.findClass own = some m.cls) (hlink : (Cond.methodLink own index y).before args s = true) (hinst : (Cond.instanceMethod y).before args s = true) (hsel : (Cond.selects C y y).before args s = true)
    (hcode : (Cond.code y bytes maxL ret).before args s = true) (hy : y.cls ≠ "java/lang/invoke/MethodHandle" ∧ y.cls ≠ "java/lang/invoke/VarHandle")
    {W9 : Nat} {Pre : Pt → Array Value → Prop} {Post : Pt → Array Value → Option Value → Pt → Prop} {PostX : Pt → Array Value → Addr → Pt → Prop} (hK : vx_Back l R p e below s args y 3 W9 Pre Post PostX)
    {b : Addr} {cellB : Cell} (hcell : T.heap[b]? = some cellB) (hobj : cellB.vm.isStatics = false) (hcls : s.vm.findClass C = some cellB.cls)
    {g : JFrame} (hg : g.method = m) (hsize : g.locals.size = c.maxLocals) {argsL rest : List Value} (hlen : ∀ sig, parseMethodDescriptor y.desc = some sig → argsL.length = sig.parameters.length)
    (hstack : g.stack = argsL.reverse ++ .ref b :: rest) (hW : 2 * g.monitorRoom + (rest.map fun v => v.category).sum ≤ W9) (hdg : decode c.code g.pc = .ok (.invokevirtual index, 3))
    (hpre : ∀ vm₁, s.WarmedH vm₁ → Pre ⟨T.setVm vm₁, locs, cells, slots⟩ (Value.ref b :: argsL).toArray) :
    (∃ (v : Option Value) (vm₁ : Vm) (B : Pt), s.WarmedH vm₁ ∧ Stand p l e R s m args below meth c B.U B.locs B.cells B.slots ∧ Post ⟨T.setVm vm₁, locs, cells, slots⟩ (Value.ref b :: argsL).toArray v B ∧
      ∀ target, Steps p.tables e below (B.U.setTop { g with pc := g.pc + 3, stack := v.toList ++ rest }) target → Steps p.tables e below (T.setTop g) target) ∨
    (∃ (q : Addr) (vm₁ : Vm) (B : Pt), s.WarmedH vm₁ ∧ Stand p l e R s m args below meth c B.U B.locs B.cells B.slots ∧ PostX ⟨T.setVm vm₁, locs, cells, slots⟩ (Value.ref b :: argsL).toArray q B ∧
      Steps p.tables e below (T.setTop g) ((B.U.setTop { g with stack := rest }).pushFrame (.throwing q))) := by
  obtain ⟨mk, methM, hnamed, hmethM, hstM, habM⟩ := Cond.instanceMethod_spec hinst
  obtain ⟨methM', cM, hmethM', -, -, -, -, -, -, hsigM⟩ := Cond.code_spec hnamed hcode
  cases hmethM.symm.trans hmethM'
  obtain ⟨c2, r2, m2, q1, q2, q3, q4, kP, hkP, hkPi⟩ := Cond.selects_spec hsel
  cases hcls.symm.trans q1
  cases (State.methodFound?_of_named hnamed hy).symm.trans q2
  cases hnamed.symm.trans q3
  have hselP : selectMethod e.platform s.vm cellB.cls mk = .method mk := by rw [Launch.admits_selectMethod X.admits]; exact q4
  obtain ⟨vm₁, X₁, hstep₁⟩ := X.invokevirtual hexec hown hlink hnamed hmethM hstM hkP hkPi hy (a := b) (cell := cellB) hcell
    (fun z h => by rw [h] at hobj; cases hobj) hselP hmethM habM hkP hkPi (g := g) hg (argsL := argsL) (rest := rest) (hlen _ hsigM) hstack hdg
  rcases hK m meth c ⟨T.setVm vm₁, locs, cells, slots⟩ { g with stack := rest } (.invokevirtual index) mk (Value.ref b :: argsL).toArray X₁ hg hsize hdg hW (X₁.named hnamed) (hpre vm₁ X₁.warmed) with ⟨v, B, X', hpost, hsteps⟩ | ⟨q, B, X', hpost, hsteps⟩
  · exact Or.inl ⟨v, vm₁, B, X₁.warmed, X', hpost, fun target h => hstep₁ _ fun acts => by rw [doInvoke_state]; exact hsteps.trans h⟩
  · exact Or.inr ⟨q, vm₁, B, X₁.warmed, X', hpost, hstep₁ _ fun acts => by rw [doInvoke_state]; exact hsteps⟩
theorem vx_callS (X : Stand p l e R s m args below meth c T locs cells slots) (hexec : p.tables.exec = Jvm.exec) {own : String} {index : Nat} {y : MethodName} {bytes : ByteArray} {maxL : Nat} {ret : Option FieldType}
    (hown : s.vm.findClass own = some m.cls) (hlink : (Cond.methodLink own index y).before args s = true) (hstat : (Cond.static y).before args s = true) (hinit : (Cond.initialized y.cls).before args s = true)
    (hcode : (Cond.code y bytes maxL ret).before args s = true) (hy : y.cls ≠ "java/lang/invoke/MethodHandle" ∧ y.cls ≠ "java/lang/invoke/VarHandle")
    {W9 : Nat} {Pre : Pt → Array Value → Prop} {Post : Pt → Array Value → Option Value → Pt → Prop} {PostX : Pt → Array Value → Addr → Pt → Prop} (hK : vx_Back l R p e below s args y 3 W9 Pre Post PostX)
    {g : JFrame} (hg : g.method = m) (hsize : g.locals.size = c.maxLocals) {argsL rest : List Value} (hlen : ∀ sig, parseMethodDescriptor y.desc = some sig → argsL.length = sig.parameters.length)
    (hstack : g.stack = argsL.reverse ++ rest) (hW : 2 * g.monitorRoom + (rest.map fun v => v.category).sum ≤ W9) (hdg : decode c.code g.pc = .ok (.invokestatic index, 3))
    (hpre : ∀ vm₁, s.WarmedH vm₁ → Pre ⟨T.setVm vm₁, locs, cells, slots⟩ argsL.toArray) :
    (∃ (v : Option Value) (vm₁ : Vm) (B : Pt), s.WarmedH vm₁ ∧ Stand p l e R s m args below meth c B.U B.locs B.cells B.slots ∧ Post ⟨T.setVm vm₁, locs, cells, slots⟩ argsL.toArray v B ∧
      ∀ target, Steps p.tables e below (B.U.setTop { g with pc := g.pc + 3, stack := v.toList ++ rest }) target → Steps p.tables e below (T.setTop g) target) ∨
    (∃ (q : Addr) (vm₁ : Vm) (B : Pt), s.WarmedH vm₁ ∧ Stand p l e R s m args below meth c B.U B.locs B.cells B.slots ∧ PostX ⟨T.setVm vm₁, locs, cells, slots⟩ argsL.toArray q B ∧
      Steps p.tables e below (T.setTop g) ((B.U.setTop { g with stack := rest }).pushFrame (.throwing q))) := by
  obtain ⟨mk, hnamed⟩ := Cond.code_named hcode
  obtain ⟨methM, cM, hmethM, -, -, -, -, -, -, hsigM⟩ := Cond.code_spec hnamed hcode
  have hstatic : methM.isStatic = true := Cond.static_spec hnamed hmethM hstat
  obtain ⟨kP, hkP, -⟩ := className_of_methodNamed hnamed
  have hinitP : kP.init = .initialized := Cond.initialized_spec (findClass_of_methodNamed hnamed) hkP hinit
  obtain ⟨vm₁, X₁, hstep₁⟩ := X.invokestatic hexec hown hlink hnamed hmethM hstatic hkP hinitP hy (g := g) hg (argsL := argsL) (rest := rest) (hlen _ hsigM) hstack hdg
  rcases hK m meth c ⟨T.setVm vm₁, locs, cells, slots⟩ { g with stack := rest } (.invokestatic index) mk argsL.toArray X₁ hg hsize hdg hW (X₁.named hnamed) (hpre vm₁ X₁.warmed) with ⟨v, B, X', hpost, hsteps⟩ | ⟨q, B, X', hpost, hsteps⟩
  · exact Or.inl ⟨v, vm₁, B, X₁.warmed, X', hpost, fun target h => hstep₁ _ fun acts => by rw [doInvoke_state]; exact hsteps.trans h⟩
  · exact Or.inr ⟨q, vm₁, B, X₁.warmed, X', hpost, hstep₁ _ fun acts => by rw [doInvoke_state]; exact hsteps⟩
end Calls
theorem vx_cls {s : State} {T : State} {vm₁ : Vm} {E : String} {k : ClassId} (hW : s.WarmedH vm₁) (h : (T.setVm vm₁).vm.findClass E = some k) : s.vm.findClass E = some k := by
  have h1 : vm₁.findClass E = some k := h
  rw [hW.alike.findClass] at h1
  exact h1
/-- the method's frame g, with q thrown over it -/
def vx_W (p : Program) (l : Launch) (e : Env) (R : Room) (s : State) (m : MethodId) (args : Array Value) (below : List Frame) (meth : Method) (c : Code) (H : Heap) (locs : List Loc) (cells slots : Nat) (Q : State → Prop) (g : JFrame) (q : Addr) : Prop :=
  ∀ T : State, T.heap = H → Stand p l e R s m args below meth c T locs cells slots → ∃ t, Steps p.tables e below ((T.setTop g).pushFrame (.throwing q)) t ∧ Q t
def vx_Run (p : Program) (l : Launch) (e : Env) (R : Room) (s : State) (m : MethodId) (args : Array Value) (below : List Frame) (meth : Method) (c : Code) (H : Heap) (locs : List Loc) (cells slots mc ms : Nat) (g : JFrame) (rest : List Value) (Qa : State → Outcome → State → Prop) (XC : String → State → State → Prop) (free : Addr → Prop) : Prop :=
  ∀ T : State, T.heap = H → Stand p l e R s m args below meth c T locs cells slots →
    (∃ (v : Option Value) (st₀ t T' : State) (L : List Loc), st₀.heap = H ∧ Stand p l e R s m args below meth c T' (locs ++ L) (cells + mc) (slots + ms) ∧ (∀ q ∈ L, free q.base) ∧ T'.heap = t.heap ∧ T'.vm = t.vm ∧ Qa st₀ (.returned v) t ∧
      Goes p e below T g T' { g with pc := g.pc + 3, stack := v.toList ++ rest }) ∨
    (∃ (q : Addr) (st₀ t T' : State) (L : List Loc) (E : String) (ce : Cell), st₀.heap = H ∧ Stand p l e R s m args below meth c T' (locs ++ L) (cells + mc) (slots + ms) ∧ (∀ z ∈ L, free z.base) ∧ T'.heap = t.heap ∧ T'.vm = t.vm ∧ XC E st₀ t ∧ t.heap[q]? = some ce ∧ ce.vm = .none ∧ s.vm.findClass E = some ce.cls ∧
      Steps p.tables e below (T.setTop g) ((T'.setTop { g with stack := rest }).pushFrame (.throwing q)))
def vx_X {S : Type} (px : S → Prop) (B : String → S → State → Prop) (A : Nat → Prop) : String → State → State → Prop := fun E st t => ∃ u : S, px u ∧ B E u t ∧ va_F A st t
section Runs
variable {p : Program} {l : Launch} {e : Env} {R : Room} {s : State} {m : MethodId} {args : Array Value} {below : List Frame} {meth : Method} {c : Code} {H : Heap} {locs : List Loc} {cells slots : Nat}
variable {y : MethodName} {bytes cc : ByteArray} {maxL nL mc ms n index : Nat} {ret : Option FieldType} {ws : List Cond} {rm : Room} {Pc : Array Value → State → Prop} {Qc : Array Value → State → Outcome → State → Prop} {XC : String → State → State → Prop} {free : Addr → Prop} {Ts : List Cond} {own C : String} {b : Addr} {As rest : List Value} {g : JFrame}
theorem vx_callBack (cb : CallB R s args own index y bytes maxL ret ws rm mc ms n) (hM : vx_Met l y ws rm Pc Qc XC mc ms free) (hbl : FrameBlind Pc) : vx_Back l R p e below s args y 3 8 (PreOf R mc ms Pc) (PostOf Qc mc ms free) (vx_Post XC mc ms free) := by
  obtain ⟨hrc, hrs, hfr, hlo, hws, hcw, -, hini, -⟩ := cb
  exact vx_back (bytes := bytes) (maxL := maxL) (ret := ret) hM hbl hrc hrs hfr hlo hws hcw (fun a' U hW => word_at hW (Or.inl (by first | rfl | simp [Cond.onTables, Cond.keeps, Cond.steady])) hini)
theorem vx_runV (S : CallFix p m c cc nL s args Ts own) (hM : vx_Met l y ws rm Pc Qc XC mc ms free) (cw : CallW R s args own C index y bytes maxL ret ws rm mc ms n) (hp : PreV s H C b Pc As)
    (hg : g.method = m) (hn : As.length = n) (hsize : g.locals.size = nL) (hstack : g.stack = As.reverse ++ .ref b :: rest) (hW : 2 * g.monitorRoom + (rest.map fun v => v.category).sum ≤ 8) (hdg : decode cc g.pc = .ok (.invokevirtual index, 3)) (hf : cells + mc ≤ R.cells ∧ slots + ms ≤ R.slots) :
    vx_Run p l e R s m args below meth c H locs cells slots mc ms g rest (Qc (Value.ref b :: As).toArray) XC free := by
  have hK : vx_Back l R p e below s args y 3 8 (PreOf R mc ms Pc) (PostOf Qc mc ms free) (vx_Post XC mc ms free) := vx_callBack cw.1 hM hp.1
  obtain ⟨⟨-, -, -, -, -, -, hcode, -, hy, hlen, hl⟩, hin, hse⟩ := cw
  obtain ⟨hx, hb, hml, ho, -⟩ := S
  obtain ⟨-, ⟨cellB, hcB, hoB, hclB⟩, hPc⟩ := hp
  intro T hT X
  rcases vx_callV X hx (C := C) (bytes := bytes) (maxL := maxL) (ret := ret) ho hl hin hse hcode hy hK (by rw [hT]; exact hcB) hoB hclB hg (hsize.trans hml.symm) (argsL := As) (rest := rest) (fun sig h => hn.trans (hlen sig h)) hstack hW (by rw [hb]; exact hdg)
    (fun vm₁ hW₁ => ⟨hf.1, hf.2, hPc (T.setVm vm₁) hT hW₁⟩) with ⟨v, vm₁, ⟨U', l2, c2, s2⟩, hW₁, X', ⟨g', mk, t, L, e1, e2, hq, h1, hL, h2, h3⟩, st⟩ | ⟨q, vm₁, ⟨U', l2, c2, s2⟩, hW₁, X', ⟨g', mk, t, L, E, ce, e1, e2, hq, hce, hcv, hcl, h1, hL, h2, h3⟩, st⟩
  · dsimp only [Pt.U, Pt.locs, Pt.cells, Pt.slots] at X' e1 e2 h1 h2 h3 st
    subst h1; subst h2; subst h3
    exact Or.inl ⟨v, (T.setVm vm₁).calling g' mk (Value.ref b :: As).toArray, t, U', L, hT, X', hL, e1, e2, hq, st⟩
  · dsimp only [Pt.U, Pt.locs, Pt.cells, Pt.slots] at X' e1 e2 h1 h2 h3 st hcl
    subst h1; subst h2; subst h3
    exact Or.inr ⟨q, (T.setVm vm₁).calling g' mk (Value.ref b :: As).toArray, t, U', L, E, ce, hT, X', hL, e1, e2, hq, hce, hcv, vx_cls hW₁ hcl, st⟩
theorem vx_runS (S : CallFix p m c cc nL s args Ts own) (hM : vx_Met l y ws rm Pc Qc XC mc ms free) (cw : CallB R s args own index y bytes maxL ret ws rm mc ms n ∧ (Cond.static y).before args s = true) (hp : PreS s H Pc As)
    (hg : g.method = m) (hn : As.length = n) (hsize : g.locals.size = nL) (hstack : g.stack = As.reverse ++ rest) (hW : 2 * g.monitorRoom + (rest.map fun v => v.category).sum ≤ 8) (hdg : decode cc g.pc = .ok (.invokestatic index, 3)) (hf : cells + mc ≤ R.cells ∧ slots + ms ≤ R.slots) :
    vx_Run p l e R s m args below meth c H locs cells slots mc ms g rest (Qc As.toArray) XC free := by
  have hK : vx_Back l R p e below s args y 3 8 (PreOf R mc ms Pc) (PostOf Qc mc ms free) (vx_Post XC mc ms free) := vx_callBack cw.1 hM hp.1
  obtain ⟨⟨-, -, -, -, -, -, hcode, hini, hy, hlen, hl⟩, hstt⟩ := cw
  obtain ⟨hx, hb, hml, ho, -⟩ := S
  intro T hT X
  rcases vx_callS X hx (bytes := bytes) (maxL := maxL) (ret := ret) ho hl hstt hini hcode hy hK hg (hsize.trans hml.symm) (argsL := As) (rest := rest) (fun sig h => hn.trans (hlen sig h)) hstack hW (by rw [hb]; exact hdg)
    (fun vm₁ hW₁ => ⟨hf.1, hf.2, hp.2 (T.setVm vm₁) hT hW₁⟩) with ⟨v, vm₁, ⟨U', l2, c2, s2⟩, hW₁, X', ⟨g', mk, t, L, e1, e2, hq, h1, hL, h2, h3⟩, st⟩ | ⟨q, vm₁, ⟨U', l2, c2, s2⟩, hW₁, X', ⟨g', mk, t, L, E, ce, e1, e2, hq, hce, hcv, hcl, h1, hL, h2, h3⟩, st⟩
  · dsimp only [Pt.U, Pt.locs, Pt.cells, Pt.slots] at X' e1 e2 h1 h2 h3 st
    subst h1; subst h2; subst h3
    exact Or.inl ⟨v, (T.setVm vm₁).calling g' mk As.toArray, t, U', L, hT, X', hL, e1, e2, hq, st⟩
  · dsimp only [Pt.U, Pt.locs, Pt.cells, Pt.slots] at X' e1 e2 h1 h2 h3 st hcl
    subst h1; subst h2; subst h3
    exact Or.inr ⟨q, (T.setVm vm₁).calling g' mk As.toArray, t, U', L, E, ce, hT, X', hL, e1, e2, hq, hce, hcv, vx_cls hW₁ hcl, st⟩
end Runs
section Rows
variable {p : Program} {l : Launch} {e : Env} {R : Room} {s : State} {m : MethodId} {args : Array Value} {below : List Frame} {meth : Method} {c : Code} {H : Heap} {locs : List Loc} {cells slots : Nat} {Q : State → Prop}
variable {mc ms : Nat} {free : Addr → Prop} {A0 A1 : Nat → Prop} {H0 : Heap} {a : Array Value} {pc : Nat} {ls : Array Slot} {st0 rest : List Value}
theorem vx_keep {st₀ t T' : State} {L : List Loc} (h0 : st₀.heap = H) (e1 : T'.heap = t.heap) (hS : va_S A0 H0 H locs) (hA : ∀ q, q < H.size → A1 q → A0 q) (hf : ∀ q, free q → A0 q) (hL : ∀ q ∈ L, free q.base) (hF : va_F A1 st₀ t) :
    H.size ≤ T'.heap.size ∧ (∀ q : Nat, q < H.size → ¬ A1 q → T'.heap[q]? = H[q]?) ∧ va_S A0 H0 T'.heap (locs ++ L) := by
  obtain ⟨hz, hk⟩ := hF
  rw [h0] at hz hk
  exact ⟨by rw [e1]; exact hz, fun q h1 h2 => by rw [e1]; exact hk q h1 h2,
    ⟨Nat.le_trans hS.1 (by rw [e1]; exact hz), fun q h1 h2 => by rw [e1, hk q (Nat.lt_of_lt_of_le h1 hS.1) (fun z => h2 (hA q (Nat.lt_of_lt_of_le h1 hS.1) z))]; exact hS.2.1 q h1 h2, fun q hq => by
      rcases List.mem_append.mp hq with h | h
      · exact hS.2.2 q h
      · exact hf _ (hL q h)⟩⟩
theorem vx_calli {S SX : Type} {post : Int32 → S → Prop} {px : SX → Prop} {B : S → State → Prop} {BX : String → SX → State → Prop} {AX : Nat → Prop} (hr : vx_Run p l e R s m args below meth c H locs cells slots mc ms (F0 m pc ls st0) rest (va_Qi post B A1 a) (vx_X px BX AX) free) (hS : va_S A0 H0 H locs) (hA : ∀ q, q < H.size → A1 q → A0 q) (hf : ∀ q, free q → A0 q) (hAX : ∀ q, q < H.size → AX q → A0 q)
    (kx : ∀ (E : String) (ce : Cell) (q9 : Addr) (u : SX) (t : State) (H1 : Heap) (locs1 : List Loc), t.heap = H1 → s.vm.Alike t.vm → px u → BX E u t → H.size ≤ H1.size → (∀ q : Nat, q < H.size → ¬ AX q → H1[q]? = H[q]?) → va_S A0 H0 H1 locs1 → H1[q9]? = some ce → ce.vm = .none → s.vm.findClass E = some ce.cls → vx_W p l e R s m args below meth c H1 locs1 (cells + mc) (slots + ms) Q (F0 m pc ls rest) q9)
    (kk : ∀ (r : Int32) (u : S) (t : State) (H1 : Heap) (locs1 : List Loc), t.heap = H1 → s.vm.Alike t.vm → post r u → B u t → H.size ≤ H1.size → (∀ q : Nat, q < H.size → ¬ A1 q → H1[q]? = H[q]?) → va_S A0 H0 H1 locs1 → W p l e R s m args below meth c H1 locs1 (cells + mc) (slots + ms) Q (F0 m (pc + 3) ls (.int r :: rest))) : W p l e R s m args below meth c H locs cells slots Q (F0 m pc ls st0) := by
  intro T hT X
  rcases hr T hT X with ⟨v, st₀, t, T', L, h0, X', hL, e1, e2, ⟨⟨r, u, hv, hp, hb⟩, hF⟩, st⟩ | ⟨q, st₀, t, T', L, E, ce, h0, X', hL, e1, e2, ⟨u, hp, hb, hF⟩, hce, hcv, hcl, st⟩
  · cases hv
    obtain ⟨k1, k2, k3⟩ := vx_keep h0 e1 hS hA hf hL hF
    obtain ⟨t2, a1, b1⟩ := kk r u t T'.heap (locs ++ L) e1.symm (by rw [← e2]; exact X'.warmed.alike) hp hb k1 k2 k3 T' rfl X'
    exact ⟨t2, st t2 a1, b1⟩
  · obtain ⟨k1, k2, k3⟩ := vx_keep h0 e1 hS hAX hf hL hF
    obtain ⟨t2, a1, b1⟩ := kx E ce q u t T'.heap (locs ++ L) e1.symm (by rw [← e2]; exact X'.warmed.alike) hp hb k1 k2 k3 (by rw [e1]; exact hce) hcv hcl T' rfl X'
    exact ⟨t2, st.trans a1, b1⟩
theorem vx_calll {S SX : Type} {post : Int64 → S → Prop} {px : SX → Prop} {B : S → State → Prop} {BX : String → SX → State → Prop} {AX : Nat → Prop} (hr : vx_Run p l e R s m args below meth c H locs cells slots mc ms (F0 m pc ls st0) rest (va_Ql post B A1 a) (vx_X px BX AX) free) (hS : va_S A0 H0 H locs) (hA : ∀ q, q < H.size → A1 q → A0 q) (hf : ∀ q, free q → A0 q) (hAX : ∀ q, q < H.size → AX q → A0 q)
    (kx : ∀ (E : String) (ce : Cell) (q9 : Addr) (u : SX) (t : State) (H1 : Heap) (locs1 : List Loc), t.heap = H1 → s.vm.Alike t.vm → px u → BX E u t → H.size ≤ H1.size → (∀ q : Nat, q < H.size → ¬ AX q → H1[q]? = H[q]?) → va_S A0 H0 H1 locs1 → H1[q9]? = some ce → ce.vm = .none → s.vm.findClass E = some ce.cls → vx_W p l e R s m args below meth c H1 locs1 (cells + mc) (slots + ms) Q (F0 m pc ls rest) q9)
    (kk : ∀ (r : Int64) (u : S) (t : State) (H1 : Heap) (locs1 : List Loc), t.heap = H1 → s.vm.Alike t.vm → post r u → B u t → H.size ≤ H1.size → (∀ q : Nat, q < H.size → ¬ A1 q → H1[q]? = H[q]?) → va_S A0 H0 H1 locs1 → W p l e R s m args below meth c H1 locs1 (cells + mc) (slots + ms) Q (F0 m (pc + 3) ls (.long r :: rest))) : W p l e R s m args below meth c H locs cells slots Q (F0 m pc ls st0) := by
  intro T hT X
  rcases hr T hT X with ⟨v, st₀, t, T', L, h0, X', hL, e1, e2, ⟨⟨r, u, hv, hp, hb⟩, hF⟩, st⟩ | ⟨q, st₀, t, T', L, E, ce, h0, X', hL, e1, e2, ⟨u, hp, hb, hF⟩, hce, hcv, hcl, st⟩
  · cases hv
    obtain ⟨k1, k2, k3⟩ := vx_keep h0 e1 hS hA hf hL hF
    obtain ⟨t2, a1, b1⟩ := kk r u t T'.heap (locs ++ L) e1.symm (by rw [← e2]; exact X'.warmed.alike) hp hb k1 k2 k3 T' rfl X'
    exact ⟨t2, st t2 a1, b1⟩
  · obtain ⟨k1, k2, k3⟩ := vx_keep h0 e1 hS hAX hf hL hF
    obtain ⟨t2, a1, b1⟩ := kx E ce q u t T'.heap (locs ++ L) e1.symm (by rw [← e2]; exact X'.warmed.alike) hp hb k1 k2 k3 (by rw [e1]; exact hce) hcv hcl T' rfl X'
    exact ⟨t2, st.trans a1, b1⟩
theorem vx_callf {S SX : Type} {post : UInt32 → S → Prop} {px : SX → Prop} {B : S → State → Prop} {BX : String → SX → State → Prop} {AX : Nat → Prop} (hr : vx_Run p l e R s m args below meth c H locs cells slots mc ms (F0 m pc ls st0) rest (va_Qf post B A1 a) (vx_X px BX AX) free) (hS : va_S A0 H0 H locs) (hA : ∀ q, q < H.size → A1 q → A0 q) (hf : ∀ q, free q → A0 q) (hAX : ∀ q, q < H.size → AX q → A0 q)
    (kx : ∀ (E : String) (ce : Cell) (q9 : Addr) (u : SX) (t : State) (H1 : Heap) (locs1 : List Loc), t.heap = H1 → s.vm.Alike t.vm → px u → BX E u t → H.size ≤ H1.size → (∀ q : Nat, q < H.size → ¬ AX q → H1[q]? = H[q]?) → va_S A0 H0 H1 locs1 → H1[q9]? = some ce → ce.vm = .none → s.vm.findClass E = some ce.cls → vx_W p l e R s m args below meth c H1 locs1 (cells + mc) (slots + ms) Q (F0 m pc ls rest) q9)
    (kk : ∀ (r : UInt32) (u : S) (t : State) (H1 : Heap) (locs1 : List Loc), t.heap = H1 → s.vm.Alike t.vm → post r u → B u t → H.size ≤ H1.size → (∀ q : Nat, q < H.size → ¬ A1 q → H1[q]? = H[q]?) → va_S A0 H0 H1 locs1 → W p l e R s m args below meth c H1 locs1 (cells + mc) (slots + ms) Q (F0 m (pc + 3) ls (.float r :: rest))) : W p l e R s m args below meth c H locs cells slots Q (F0 m pc ls st0) := by
  intro T hT X
  rcases hr T hT X with ⟨v, st₀, t, T', L, h0, X', hL, e1, e2, ⟨⟨r, u, hv, hp, hb⟩, hF⟩, st⟩ | ⟨q, st₀, t, T', L, E, ce, h0, X', hL, e1, e2, ⟨u, hp, hb, hF⟩, hce, hcv, hcl, st⟩
  · cases hv
    obtain ⟨k1, k2, k3⟩ := vx_keep h0 e1 hS hA hf hL hF
    obtain ⟨t2, a1, b1⟩ := kk r u t T'.heap (locs ++ L) e1.symm (by rw [← e2]; exact X'.warmed.alike) hp hb k1 k2 k3 T' rfl X'
    exact ⟨t2, st t2 a1, b1⟩
  · obtain ⟨k1, k2, k3⟩ := vx_keep h0 e1 hS hAX hf hL hF
    obtain ⟨t2, a1, b1⟩ := kx E ce q u t T'.heap (locs ++ L) e1.symm (by rw [← e2]; exact X'.warmed.alike) hp hb k1 k2 k3 (by rw [e1]; exact hce) hcv hcl T' rfl X'
    exact ⟨t2, st.trans a1, b1⟩
theorem vx_calld {S SX : Type} {post : UInt64 → S → Prop} {px : SX → Prop} {B : S → State → Prop} {BX : String → SX → State → Prop} {AX : Nat → Prop} (hr : vx_Run p l e R s m args below meth c H locs cells slots mc ms (F0 m pc ls st0) rest (va_Qd post B A1 a) (vx_X px BX AX) free) (hS : va_S A0 H0 H locs) (hA : ∀ q, q < H.size → A1 q → A0 q) (hf : ∀ q, free q → A0 q) (hAX : ∀ q, q < H.size → AX q → A0 q)
    (kx : ∀ (E : String) (ce : Cell) (q9 : Addr) (u : SX) (t : State) (H1 : Heap) (locs1 : List Loc), t.heap = H1 → s.vm.Alike t.vm → px u → BX E u t → H.size ≤ H1.size → (∀ q : Nat, q < H.size → ¬ AX q → H1[q]? = H[q]?) → va_S A0 H0 H1 locs1 → H1[q9]? = some ce → ce.vm = .none → s.vm.findClass E = some ce.cls → vx_W p l e R s m args below meth c H1 locs1 (cells + mc) (slots + ms) Q (F0 m pc ls rest) q9)
    (kk : ∀ (r : UInt64) (u : S) (t : State) (H1 : Heap) (locs1 : List Loc), t.heap = H1 → s.vm.Alike t.vm → post r u → B u t → H.size ≤ H1.size → (∀ q : Nat, q < H.size → ¬ A1 q → H1[q]? = H[q]?) → va_S A0 H0 H1 locs1 → W p l e R s m args below meth c H1 locs1 (cells + mc) (slots + ms) Q (F0 m (pc + 3) ls (.double r :: rest))) : W p l e R s m args below meth c H locs cells slots Q (F0 m pc ls st0) := by
  intro T hT X
  rcases hr T hT X with ⟨v, st₀, t, T', L, h0, X', hL, e1, e2, ⟨⟨r, u, hv, hp, hb⟩, hF⟩, st⟩ | ⟨q, st₀, t, T', L, E, ce, h0, X', hL, e1, e2, ⟨u, hp, hb, hF⟩, hce, hcv, hcl, st⟩
  · cases hv
    obtain ⟨k1, k2, k3⟩ := vx_keep h0 e1 hS hA hf hL hF
    obtain ⟨t2, a1, b1⟩ := kk r u t T'.heap (locs ++ L) e1.symm (by rw [← e2]; exact X'.warmed.alike) hp hb k1 k2 k3 T' rfl X'
    exact ⟨t2, st t2 a1, b1⟩
  · obtain ⟨k1, k2, k3⟩ := vx_keep h0 e1 hS hAX hf hL hF
    obtain ⟨t2, a1, b1⟩ := kx E ce q u t T'.heap (locs ++ L) e1.symm (by rw [← e2]; exact X'.warmed.alike) hp hb k1 k2 k3 (by rw [e1]; exact hce) hcv hcl T' rfl X'
    exact ⟨t2, st.trans a1, b1⟩
theorem vx_callv {S SX : Type} {post : S → Prop} {px : SX → Prop} {B : S → State → Prop} {BX : String → SX → State → Prop} {AX : Nat → Prop} (hr : vx_Run p l e R s m args below meth c H locs cells slots mc ms (F0 m pc ls st0) rest (va_Qv post B A1 a) (vx_X px BX AX) free) (hS : va_S A0 H0 H locs) (hA : ∀ q, q < H.size → A1 q → A0 q) (hf : ∀ q, free q → A0 q) (hAX : ∀ q, q < H.size → AX q → A0 q)
    (kx : ∀ (E : String) (ce : Cell) (q9 : Addr) (u : SX) (t : State) (H1 : Heap) (locs1 : List Loc), t.heap = H1 → s.vm.Alike t.vm → px u → BX E u t → H.size ≤ H1.size → (∀ q : Nat, q < H.size → ¬ AX q → H1[q]? = H[q]?) → va_S A0 H0 H1 locs1 → H1[q9]? = some ce → ce.vm = .none → s.vm.findClass E = some ce.cls → vx_W p l e R s m args below meth c H1 locs1 (cells + mc) (slots + ms) Q (F0 m pc ls rest) q9)
    (kk : ∀ (u : S) (t : State) (H1 : Heap) (locs1 : List Loc), t.heap = H1 → s.vm.Alike t.vm → post u → B u t → H.size ≤ H1.size → (∀ q : Nat, q < H.size → ¬ A1 q → H1[q]? = H[q]?) → va_S A0 H0 H1 locs1 → W p l e R s m args below meth c H1 locs1 (cells + mc) (slots + ms) Q (F0 m (pc + 3) ls (rest))) : W p l e R s m args below meth c H locs cells slots Q (F0 m pc ls st0) := by
  intro T hT X
  rcases hr T hT X with ⟨v, st₀, t, T', L, h0, X', hL, e1, e2, ⟨⟨u, hv, hp, hb⟩, hF⟩, st⟩ | ⟨q, st₀, t, T', L, E, ce, h0, X', hL, e1, e2, ⟨u, hp, hb, hF⟩, hce, hcv, hcl, st⟩
  · cases hv
    obtain ⟨k1, k2, k3⟩ := vx_keep h0 e1 hS hA hf hL hF
    obtain ⟨t2, a1, b1⟩ := kk u t T'.heap (locs ++ L) e1.symm (by rw [← e2]; exact X'.warmed.alike) hp hb k1 k2 k3 T' rfl X'
    exact ⟨t2, st t2 a1, b1⟩
  · obtain ⟨k1, k2, k3⟩ := vx_keep h0 e1 hS hAX hf hL hF
    obtain ⟨t2, a1, b1⟩ := kx E ce q u t T'.heap (locs ++ L) e1.symm (by rw [← e2]; exact X'.warmed.alike) hp hb k1 k2 k3 (by rw [e1]; exact hce) hcv hcl T' rfl X'
    exact ⟨t2, st.trans a1, b1⟩
/-- caught by the row x of this method's table; the rows ahead don't take it -/
theorem vx_catch {own name : String} {E : String} {ce : Cell} {q : Addr} (hown : s.vm.findClass own = some m.cls) (pre : List ExceptionTableEntry) (x : ExceptionTableEntry) (suf : List ExceptionTableEntry) (hsplit : c.exceptionTable.toList = pre ++ x :: suf)
    (hpass : ∀ z ∈ pre, covers z pc = false ∨ (z.catchType ≠ 0 ∧ ∃ nm : String, (Cond.classLink own z.catchType nm).before args s = true ∧ va_Nc E nm s)) (hx : covers x pc = true) (h0 : x.catchType ≠ 0)
    (hlink : (Cond.classLink own x.catchType name).before args s = true) (hcast : (Cond.castable E name).before args s = true) (hcell : H[q]? = some ce) (hv : ce.vm = .none) (hcl : s.vm.findClass E = some ce.cls)
    (kk : W p l e R s m args below meth c H locs cells slots Q (F0 m x.handlerPc ls [.ref q])) : vx_W p l e R s m args below meth c H locs cells slots Q (F0 m pc ls rest) q := by
  intro T hT X
  have hpl : e.platform.magicAccessors = ({} : Platform).magicAccessors := by rw [X.admits.platform]
  obtain ⟨c3, c4, hc3, hc4, hasg⟩ := Cond.castable_spec hcast
  cases Option.some.inj (hc3.symm.trans hcl)
  obtain ⟨c5, hc5, hcl5⟩ := Cond.classLink_spec hown hlink e.platform hpl
  cases Option.some.inj (hc4.symm.trans hc5)
  obtain ⟨vm', X', st⟩ := X.thenCaughtThrough q (g := F0 m pc ls rest) rfl (Steps.refl _) (by rw [hT]; exact hcell) (by rw [hv]; rfl) (by obtain ⟨k9, h9, -⟩ := Vm.findClass_spec hcl; exact ⟨k9, h9⟩) pre x suf hsplit
    (fun z hz => by
      rcases hpass z hz with h | ⟨hz0, nm, hl1, hn1⟩
      · exact Or.inl h
      · obtain ⟨c6, hc6, hcl6⟩ := Cond.classLink_spec hown hl1 e.platform hpl
        obtain ⟨a8, b8, h1, h2, h3⟩ := hn1
        cases Option.some.inj (h1.symm.trans hcl)
        cases Option.some.inj (h2.symm.trans hc6)
        exact Or.inr ⟨hz0, _, hcl6, h3⟩) hx (Or.inr ⟨h0, c4, hcl5, hasg⟩)
  obtain ⟨t, a1, b1⟩ := kk (T.setVm vm') hT X'
  exact ⟨t, st.trans a1, b1⟩
end Rows
section Ends
variable {p : Program} {l : Launch} {e : Env} {R : Room} {s : State} {m : MethodId} {args : Array Value} {below : List Frame} {meth : Method} {c : Code} {H : Heap} {locs : List Loc} {cells slots : Nat} {Q : State → Prop}
variable {mc ms : Nat} {free : Addr → Prop} {A0 A1 : Nat → Prop} {H0 : Heap} {a : Array Value} {ls : Array Slot} {st0 rest : List Value}
variable {Qc : Array Value → State → Outcome → State → Prop} {XC : String → State → State → Prop}
/-- what a body that may throw owes at its end -/
def vx_MQ (below : List Frame) (Qc : Array Value → State → Outcome → State → Prop) (XC : String → State → State → Prop) (a : Array Value) (s : State) (mc ms : Nat) (free : Addr → Prop) : State → Prop := fun t =>
  ∃ o, t.status = .running ∧ Ended t below o ∧ vx_Q Qc XC mc ms free a s o t
theorem vx_ret {g : JFrame} {mc ms : Nat} (k : W p l e R s m args below meth c H locs cells slots (MQ below Qc args s mc ms free) g) : W p l e R s m args below meth c H locs cells slots (vx_MQ below Qc XC args s mc ms free) g := by
  intro T hT X
  obtain ⟨t, a1, o, b1, b2, b3, b4⟩ := k T hT X
  exact ⟨t, a1, o, b1, b2, Or.inl ⟨b3, b4⟩⟩
/-- not caught here: it goes on to the caller -/
theorem vx_widen {g : JFrame} {q : Addr} {k n : Nat} (h1 : cells ≤ k) (h2 : slots ≤ n) (kk : vx_W p l e R s m args below meth c H locs k n Q g q) : vx_W p l e R s m args below meth c H locs cells slots Q g q := fun T hT X => kk T hT (stand_widen X h1 h2)
theorem vx_out {pc : Nat} {E : String} {ce : Cell} {q : Addr} {mc ms : Nat} (hout : ∀ x ∈ c.exceptionTable.toList, covers x pc = false) (hlocks : meth.locks = false) (hcell : H[q]? = some ce) (hv : ce.vm = .none) (hcl : s.vm.findClass E = some ce.cls)
    (hx : ∀ t : State, t.heap = H → s.vm.Alike t.vm → XC E s t) (hf : ∀ z ∈ locs, free z.base) (hc : cells ≤ mc) (hs : slots ≤ ms) :
    vx_W p l e R s m args below meth c H locs cells slots (vx_MQ below Qc XC args s mc ms free) (F0 m pc ls rest) q := by
  intro T hT X
  obtain ⟨st1, hrun, hend, hW, hsm⟩ := X.leaveThrown q (g := F0 m pc ls rest) rfl rfl rfl hout hlocks
  have hcell9 : (T.setFrames (.throwing q :: below)).heap[q]? = some ce := by
    show T.heap[q]? = some ce
    rw [hT]; exact hcell
  exact ⟨_, st1, .threw q, hrun, hend, Or.inr ⟨q, rfl, E, ce, locs, hx _ hT hW.alike, hcell9, hv, hcl, hW, hsm.mono hc hs, hf⟩⟩
theorem vx_frame {U : State} {k n : Nat} (h : s.sameButNew ({ U with vm := s.vm } : State) locs k n) : s.heap.size ≤ U.heap.size ∧ ∀ q : Nat, q < s.heap.size → (∀ z ∈ locs, z.base ≠ q) → U.heap[q]? = s.heap[q]? := by
  obtain ⟨-, h2, -, -, -, h6⟩ := h
  refine ⟨h2, fun q hq hz => ?_⟩
  obtain ⟨c9, e1, e2, e3, e4⟩ := h6 q _ (Array.getElem?_eq_getElem hq)
  have hs : c9.slots = (s.heap[q]).slots := Array.ext_getElem? fun i => e4 i fun hm => hz _ hm rfl
  have h9 : c9 = s.heap[q] := by
    rw [hs] at e2
    exact e2
  have e5 : U.heap[q]? = some c9 := e1
  rw [e5, h9, Array.getElem?_eq_getElem hq]
/-- the words of a throw but the four that speak of the heap -/
def vx_no (w : Cond) : Bool := decide (w ≠ .isRef (.static Bundle.tN "UNASSIGNED_STACK" Bundle.steD)) && decide (w ≠ .isRef (.static Bundle.tN "SUPPRESSED_SENTINEL" Bundle.listD)) && decide (w ≠ .laysStatic Bundle.tN "UNASSIGNED_STACK" Bundle.steD) && decide (w ≠ .laysStatic Bundle.tN "SUPPRESSED_SENTINEL" Bundle.listD)
def vx_at0 (own : String) (ic : Nat) (X : String) (names : List String) : List Cond := (Bundle.ownAtoms0 own ic X names).filter vx_no
def vx_atS (own : String) (ic : Nat) (X : String) (names : List String) : List Cond := (Bundle.ownAtoms own ic X names).filter vx_no
/-- a word that the tables alone decide, or a good one -/
def vx_ot (w : Cond) : Bool := w.onTables || goodWord w
theorem vx_ot_at {args a' : Array Value} {s U : State} {w : Cond} (hW : s.WarmedH U.vm) (hvm : s.vm = U.vm) (hg : vx_ot w = true) (h : w.before args s = true) : w.before a' U = true := by
  simp only [vx_ot, Bool.or_eq_true] at hg
  rcases hg with hg | hg
  · exact va_tabs hg hvm h
  · exact word_at hW (good_of_word hg) h
/-- a list's words: the good ones out of the method's own list, the others by premises of their own -/
theorem vx_hat {args : Array Value} {s : State} {L B : List Cond} (h1 : ∀ w ∈ L.filter goodWord, w.before args s = true) (h2 : ∀ w ∈ L.filter (fun w => !goodWord w), w ∈ B) (h3 : ∀ w ∈ B, w.before args s = true) : ∀ w ∈ L, w.before args s = true := by
  intro w hw
  by_cases g : goodWord w = true
  · exact h1 w (List.mem_filter.mpr ⟨hw, g⟩)
  · refine h3 w (h2 w (List.mem_filter.mpr ⟨hw, ?_⟩))
    show (!goodWord w) = true
    cases hgw : goodWord w
    · rfl
    · exact absurd hgw g
theorem vx_c {args : Array Value} {s : State} {w : Cond} {B : List Cond} (h : w.before args s = true) (t : ∀ w ∈ B, w.before args s = true) : ∀ w' ∈ w :: B, w'.before args s = true := fun w' h' => (List.mem_cons.mp h').elim (fun e => by rw [e]; exact h) (t w')
theorem vx_n {args : Array Value} {s : State} : ∀ w ∈ ([] : List Cond), w.before args s = true := fun _ h => nomatch h
theorem vx_own {args : Array Value} {s : State} {L : List Cond} (h1 : ∀ w ∈ L.filter vx_no, w.before args s = true)
    (hU : (Cond.isRef (.static Bundle.tN "UNASSIGNED_STACK" Bundle.steD)).before args s = true) (hN : (Cond.isRef (.static Bundle.tN "SUPPRESSED_SENTINEL" Bundle.listD)).before args s = true)
    (lU : (Cond.laysStatic Bundle.tN "UNASSIGNED_STACK" Bundle.steD).before args s = true) (lN : (Cond.laysStatic Bundle.tN "SUPPRESSED_SENTINEL" Bundle.listD).before args s = true) : ∀ w ∈ L, w.before args s = true := by
  intro w hw
  by_cases e1 : w = .isRef (.static Bundle.tN "UNASSIGNED_STACK" Bundle.steD)
  · rw [e1]; exact hU
  · by_cases e2 : w = .isRef (.static Bundle.tN "SUPPRESSED_SENTINEL" Bundle.listD)
    · rw [e2]; exact hN
    · by_cases e3 : w = .laysStatic Bundle.tN "UNASSIGNED_STACK" Bundle.steD
      · rw [e3]; exact lU
      · by_cases e4 : w = .laysStatic Bundle.tN "SUPPRESSED_SENTINEL" Bundle.listD
        · rw [e4]; exact lN
        · exact h1 w (List.mem_filter.mpr ⟨hw, by unfold vx_no; rw [decide_eq_true e1, decide_eq_true e2, decide_eq_true e3, decide_eq_true e4]; rfl⟩)
/-- where a static field lies, its class's statics cell in H -/
def vx_L (C n d : String) (A : Nat → Prop) (U : State) (H : Heap) : Prop := ∃ (c : ClassId) (k : Class) (i : Nat) (f : Field) (a : Nat) (cell : Cell), U.vm.findClass C = some c ∧ U.fieldFound? C n d = some (c, k, i, f) ∧ f.isStatic = true ∧ k.statics = some a ∧ H[a]? = some cell ∧ cell.vm.isStatics = true ∧ cell.cls = c ∧ f.slot < cell.slots.size ∧ k.staticTypes[f.slot]? = some f.type ∧ ¬ A a
theorem vx_L.moved {C n d : String} {A : Nat → Prop} {u U : State} {H : Heap} (hvm : u.vm.Alike U.vm) (h : vx_L C n d A u H) : vx_L C n d A U H := by
  obtain ⟨c, k, i, f, a, cell, h1, h2, h3, h4, h5, h6, h7, h8, h9, h10⟩ := h
  obtain ⟨k', hi', he⟩ := State.fieldFound?_setVm hvm h2
  exact ⟨c, k', i, f, a, cell, by rw [hvm.findClass]; exact h1, hi', h3, by rw [he]; exact h4, h5, h6, h7, h8, by rw [he]; exact h9, h10⟩
theorem vx_L.kept {C n d : String} {A : Nat → Prop} {U : State} {H H1 : Heap} (h : vx_L C n d A U H) (hq : ∀ a : Nat, a < H.size → ¬ A a → H1[a]? = H[a]?) : vx_L C n d A U H1 := by
  obtain ⟨c, k, i, f, a, cell, h1, h2, h3, h4, h5, h6, h7, h8, h9, h10⟩ := h
  exact ⟨c, k, i, f, a, cell, h1, h2, h3, h4, by rw [hq a (Array.getElem?_eq_some_iff.mp h5).1 h10]; exact h5, h6, h7, h8, h9, h10⟩
theorem vx_L.narrow {C n d : String} {A B : Nat → Prop} {U : State} {H : Heap} (h : vx_L C n d A U H) (hAB : ∀ q, B q → A q) : vx_L C n d B U H := by
  obtain ⟨c, k, i, f, a, cell, h1, h2, h3, h4, h5, h6, h7, h8, h9, h10⟩ := h
  exact ⟨c, k, i, f, a, cell, h1, h2, h3, h4, h5, h6, h7, h8, h9, fun z => h10 (hAB _ z)⟩
theorem vx_L.word {C n d : String} {A : Nat → Prop} {s : State} {args : Array Value} (h : vx_L C n d A s s.heap) : (Cond.laysStatic C n d).before args s = true := by
  obtain ⟨c, k, i, f, a, cell, h1, h2, h3, h4, h5, h6, h7, h8, h9, -⟩ := h
  show (Cond.laysStatic C n d).holds args s none s [] = true
  exact Cond.laysStatic_of h1 h2 h3 h4 h5 h6 h7 h8 h9
/-- .. and what it holds: null or some reference -/
def vx_Zq (C n d : String) (A : Nat → Prop) (U : State) (H : Heap) : Prop := va_Zq C n d A U H ∧ vx_L C n d A U H
theorem vx_Zq.moved {C n d : String} {A : Nat → Prop} {u U : State} {H : Heap} (hvm : u.vm.Alike U.vm) (h : vx_Zq C n d A u H) : vx_Zq C n d A U H := ⟨va_Zq.moved hvm h.1, vx_L.moved hvm h.2⟩
theorem vx_Zq.kept {C n d : String} {A : Nat → Prop} {U : State} {H H1 : Heap} (h : vx_Zq C n d A U H) (hq : ∀ a : Nat, a < H.size → ¬ A a → H1[a]? = H[a]?) : vx_Zq C n d A U H1 := ⟨va_Zq.kept h.1 hq, vx_L.kept h.2 hq⟩
theorem vx_Zq.narrow {C n d : String} {A B : Nat → Prop} {U : State} {H : Heap} (h : vx_Zq C n d A U H) (hAB : ∀ q, B q → A q) : vx_Zq C n d B U H := ⟨va_Zq.narrow h.1 hAB, vx_L.narrow h.2 hAB⟩
theorem vx_Zqof {args : Array Value} {s : State} {C n d : String} {A : Nat → Prop} (hl : (Cond.laysStatic C n d).before args s = true) (hini : (Cond.initialized C).before args s = true) (h : (Cond.isRef (.static C n d)).before args s = true) (hA : ∀ a : Nat, a < s.heap.size → ¬ A a) : vx_Zq C n d A s s.heap := by
  refine ⟨va_Zqof hl hini h hA, ?_⟩
  obtain ⟨c, k, i, f, a, cell, h1, h2, h3, h4, h5, h6, h7, h8, h9⟩ := Cond.laysStatic_spec hl
  exact ⟨c, k, i, f, a, cell, h1, h2, h3, h4, h5, h6, h7, h8, h9, hA a (Array.getElem?_eq_some_iff.mp h5).1⟩
theorem vx_isRef {C n d : String} {v : Value} {A : Nat → Prop} {s : State} {args : Array Value} (h : va_Z C n d v A s s.heap) (hv : v.isRef = true) : (Cond.isRef (.static C n d)).before args s = true := by
  obtain ⟨cf, kf, fi, f, a, cell, h1, h2, h3, h4, h5, h6, h7, -⟩ := h
  have he : (Term.static C n d).eval args s none [] s = some v := by
    simp [Term.eval, State.fieldNamed?, h1, h2, h4, h5, h6, h7]
  simp only [Cond.before, Cond.holds, Cond.value, he]
  cases v <;> simp_all [Value.isRef]
theorem vx_isRefq {C n d : String} {A : Nat → Prop} {s : State} {args : Array Value} (h : va_Zq C n d A s s.heap) : (Cond.isRef (.static C n d)).before args s = true := by
  rcases h with h | ⟨t, h⟩
  · exact vx_isRef h rfl
  · exact vx_isRef h rfl
/-- the same frame, seen from here: as if the method were called anew in this heap -/
theorem vx_rebase {T : State} (X : Stand p l e R s m args below meth c T locs cells slots) {R' : Room} (hf : R'.frames ≤ R.frames) (hl : R'.locals ≤ R.locals) (hc : cells + R'.cells ≤ R.cells) (hs : slots + R'.slots ≤ R.slots) :
    Stand p l e R' ((T.setVm s.vm).setFrames (.invoking m args :: below)) m args below meth c T [] 0 0 := by
  have htop : (T.setVm s.vm).topJava?.isSome := X.here.top
  have hF : ((T.setVm s.vm).setFrames (.invoking m args :: below)).frames = .invoking m args :: below := State.frames_setFrames _ (State.cur_lt_of_top htop)
  obtain ⟨g₀, hg0⟩ := Option.isSome_iff_exists.mp htop
  obtain ⟨r, hr⟩ := State.topJava?_eq_some.mp hg0
  have hl9 : e.platform.stackLimits (T.setVm s.vm).me = e.platform.stackLimits s.me := X.limits
  have hb9 : (T.setVm s.vm).me.stackBytes = s.me.stackBytes := X.bytes
  refine ⟨X.admits, X.cas, X.clock, hF, ?_, X.hears, X.method, X.code, X.here, X.tail, X.warmed, ?_, ?_, ?_⟩
  · have h := X.room
    have hU : ((T.setVm s.vm).setFrames (.invoking m args :: below)).localsInUse = s.localsInUse := by
      rw [State.localsInUse_invoking hF (meth := meth) (c := c) X.method X.code, State.localsInUse_invoking X.frames X.method X.code]
    simp only [State.hasRoom, Bool.and_eq_true, decide_eq_true_eq] at h ⊢
    obtain ⟨⟨⟨⟨h1, h2, h3, h4, h5, h6⟩, h7⟩, h8⟩, h9⟩ := h
    rw [X.frames, List.length_cons] at h2 h3
    have q1 := X.heapSize
    have q2 := X.used
    simp only [hF, hU, List.length_cons, State.stackLimits_setFrames, State.stackBytes_setFrames, hl9, hb9]
    refine ⟨⟨⟨⟨by omega, by omega, by omega, by omega, by omega, h6⟩, ?_⟩, ?_⟩, X.book⟩
    · show T.heap.size + R'.cells ≤ e.platform.maxCells
      omega
    · show T.slotsUsed + R'.slots ≤ e.platform.maxSlots
      omega
  · rw [State.stackLimits_setFrames]; rfl
  · rw [State.stackBytes_setFrames]; rfl
  · refine ⟨?_, Nat.le_refl _, Nat.le_refl _, ?_, ?_, fun a c9 h9 => ⟨c9, h9, rfl, rfl, fun _ _ => rfl⟩⟩
    · obtain ⟨t, ht, -⟩ := State.frames_cons hr
      show T.setVm s.vm = { ((T.setVm s.vm).setFrames (.invoking m args :: below)).setFrames (T.setVm s.vm).frames with heap := T.heap, slotsUsed := T.slotsUsed }
      rw [State.setFrames_setFrames, State.setFrames_self ht]
      rfl
    · show T.slotsUsed = T.slotsUsed + ((T.heap.toList.drop T.heap.size).map (·.slots.size)).sum
      rw [List.drop_eq_nil_of_le (Nat.le_of_eq Array.length_toList)]
      rfl
    · show ((T.heap.toList.drop T.heap.size).map (·.slots.size)).sum ≤ 0
      rw [List.drop_eq_nil_of_le (Nat.le_of_eq Array.length_toList)]
      exact Nat.le_refl _
/-- 'throw new E()': new; dup; invokespecial; athrow -/
theorem vx_throw0 {cc : ByteArray} {pc : Nat} (hexec : p.tables.exec = Jvm.exec) (hb : c.code = cc) (hl : l.stackTraces = false) {own cls : String} {names : List String} {ik ic mc ms : Nat} {A : Nat → Prop}
    (hown : s.vm.findClass own = some m.cls) (hcls : Bundle.fit cls = true) (hnames : ∀ n ∈ names, Bundle.fit n = true)
    (hk : (Cond.classLink own ik cls).before args s = true) (hini : (Cond.initialized cls).before args s = true) (hat : ∀ w ∈ vx_at0 own ic cls names, w.before args s = true)
    (hgood : ∀ w ∈ Cond.classLink own ik cls :: Cond.initialized cls :: vx_at0 own ic cls names, vx_ot w = true)
    (hU : vx_Zq Bundle.tN "UNASSIGNED_STACK" Bundle.steD A s s.heap) (hN : vx_Zq Bundle.tN "SUPPRESSED_SENTINEL" Bundle.listD A s s.heap) (hS : va_S A s.heap H locs) (hsize : ls.size = c.maxLocals)
    (d0 : decode cc pc = .ok (.new ik, 3)) (d3 : decode cc (pc + 3) = .ok (.dup, 1)) (d4 : decode cc (pc + 4) = .ok (.invokespecial ic, 3)) (d7 : decode cc (pc + 7) = .ok (.athrow, 1))
    (hout : ∀ x ∈ c.exceptionTable.toList, covers x (pc + 7) = false)
    (hRframes : names.length + 3 < R.frames) (hRlocals : (rest.map fun v => v.category).sum + (13 * (names.length + 1) + 42) ≤ R.locals) (hRcells : cells + 1 ≤ R.cells) (hRslots : slots + 6 ≤ R.slots) (hlocks : meth.locks = false)
    (hx : ∀ t : State, s.vm.Alike t.vm → H.size ≤ t.heap.size → (∀ q : Nat, q < H.size → t.heap[q]? = H[q]?) → XC cls s t)
    (hf : ∀ z ∈ locs, free z.base) (hc : cells + 1 ≤ mc) (hs : slots + 6 ≤ ms) :
    W p l e R s m args below meth c H locs cells slots (vx_MQ below Qc XC args s mc ms free) (F0 m pc ls rest) := by
  intro T hT X
  have htr : e.platform.stackTraces = false := (show e.platform.stackTraces = l.stackTraces by rw [X.admits.platform]).trans hl
  have Y := vx_rebase X (R' := { frames := R.frames, locals := R.locals, cells := 1, slots := 6 }) (Nat.le_refl _) (Nat.le_refl _) hRcells hRslots
  obtain ⟨s', hA⟩ : ∃ z, z = (T.setVm s.vm).setFrames (.invoking m args :: below) := ⟨_, rfl⟩
  rw [← hA] at Y
  have hvm : s'.vm = s.vm := by rw [hA]; rfl
  have hhp : s'.heap = H := by rw [hA]; exact hT
  have hW0 : s.WarmedH s'.vm := by rw [hvm]; exact State.WarmedH.refl s
  have hat' : ∀ w ∈ vx_at0 own ic cls names, w.before args s' = true := fun w hw => vx_ot_at hW0 hvm.symm (hgood w (List.mem_cons_of_mem _ (List.mem_cons_of_mem _ hw))) (hat w hw)
  have hk' : (Cond.classLink own ik cls).before args s' = true := vx_ot_at hW0 hvm.symm (hgood _ List.mem_cons_self) hk
  have hini' : (Cond.initialized cls).before args s' = true := vx_ot_at hW0 hvm.symm (hgood _ (List.mem_cons_of_mem _ List.mem_cons_self)) hini
  have hU' : vx_Zq Bundle.tN "UNASSIGNED_STACK" Bundle.steD A s' s'.heap := by rw [hhp]; exact vx_Zq.moved hW0.alike (hU.kept hS.2.1)
  have hN' : vx_Zq Bundle.tN "SUPPRESSED_SENTINEL" Bundle.listD A s' s'.heap := by rw [hhp]; exact vx_Zq.moved hW0.alike (hN.kept hS.2.1)
  have h : ∀ w ∈ Bundle.ownAtoms0 own ic cls names, w.before args s' = true := vx_own hat' (vx_isRefq hU'.1) (vx_isRefq hN'.1) hU'.2.word hN'.2.word
  have hown' : s'.vm.findClass own = some m.cls := by rw [hvm]; exact hown
  have hins : (Cond.instantiable cls 6).before args s' = true := h _ (by simp [Bundle.ownAtoms0])
  obtain ⟨vm₁, cX, kX, hfX, hkX, -, -, X₁, st1⟩ := Y.newCold hexec (own := own) (C := cls) (index := ik) (n := 6) hown' hk' hins hini'
    (g := F0 m pc ls rest) rfl (by rw [hb]; exact d0) (Nat.le_refl _) (Nat.le_refl _)
  generalize hT1 : (T.setVm vm₁).pushCell { cls := cX, slots := kX.instanceTypes.map defaultValue, vm := .none } = T1 at X₁ st1
  have hcat : (Value.ref T.heap.size).category = 1 := rfl
  have hcellA : T1.heap[T.heap.size]? = some (freshCell cX kX) := by rw [← hT1]; exact State.heap_pushCell_size _ _
  have d3' : decode c.code (pc + 3) = .ok (.dup, 1) := by rw [hb]; exact d3
  obtain ⟨U, hsteps, hrun, hend, hW, hsame, ce, hce, hO⟩ := X₁.ctorThrow0 hexec htr (own := own) (cls := cls) (names := names) (ic := ic) hown' hcls hnames h (fun x hx => nomatch hx) hfX hkX hcellA (by rw [hhp, hT]; exact Nat.le_refl _)
    (g := { method := m, pc := pc + 4, locals := ls, stack := .ref T.heap.size :: .ref T.heap.size :: rest, locked := none }) rfl hsize rfl rfl (rest := rest) rfl
    (by rw [hb]; exact d4) (by rw [hb]; exact d7) hout hRframes (by simp only [List.map_cons, List.sum_cons, hcat]; omega) hlocks
  obtain ⟨f1, f2⟩ := vx_frame hsame
  rw [hhp] at f1 f2
  have hWs : s.WarmedH U.vm := State.WarmedH.trans hW0 hW
  have hcl : s.vm.findClass cls = some ce.cls := by
    have h9 := hO.cls
    rw [hvm] at h9
    exact h9
  have hall : s.sameButNew ({ U with vm := s.vm } : State) locs mc ms := by
    subst hA
    obtain ⟨e1, e2⟩ := hsame
    rw [State.setFrames_setFrames] at e1
    have h2 : (T.setVm s.vm).sameButNew ({ U with vm := s.vm } : State) [] (0 + 1) (0 + 6) := ⟨e1, e2⟩
    have h3 := X.same.trans h2
    rw [List.append_nil] at h3
    exact h3.mono hc hs
  refine ⟨U, ?_, .threw T.heap.size, hrun, hend, Or.inr ⟨T.heap.size, rfl, cls, ce, locs, hx U hWs.alike f1 (fun q hq => f2 q hq (fun z hz => nomatch hz)), hce, hO.vm, hcl, hWs, hall, hf⟩⟩
  refine st1 _ ?_
  show Steps p.tables e below (T1.setTop { method := m, pc := pc + 3, locals := ls, stack := .ref T.heap.size :: rest, locked := none }) _
  jvm_step X₁.here [X₁.here.top, hexec, d3', Value.category]
  exact hsteps
/-- 'throw new E("text")': new; dup; ldc; invokespecial; athrow -/
theorem vx_throwS {cc : ByteArray} {pc : Nat} (hexec : p.tables.exec = Jvm.exec) (hb : c.code = cc) (hl : l.stackTraces = false) {own cls text : String} {names : List String} {ik is ic mc ms sa : Nat} {A : Nat → Prop}
    (hown : s.vm.findClass own = some m.cls) (hcls : Bundle.fit cls = true) (hnames : ∀ n ∈ names, Bundle.fit n = true)
    (hk : (Cond.classLink own ik cls).before args s = true) (hini : (Cond.initialized cls).before args s = true) (hstr : vk_R own is text sa s) (hat : ∀ w ∈ vx_atS own ic cls names, w.before args s = true)
    (hgood : ∀ w ∈ Cond.classLink own ik cls :: Cond.initialized cls :: vx_atS own ic cls names, vx_ot w = true)
    (hU : vx_Zq Bundle.tN "UNASSIGNED_STACK" Bundle.steD A s s.heap) (hN : vx_Zq Bundle.tN "SUPPRESSED_SENTINEL" Bundle.listD A s s.heap) (hS : va_S A s.heap H locs) (hsize : ls.size = c.maxLocals)
    (d0 : decode cc pc = .ok (.new ik, 3)) (d3 : decode cc (pc + 3) = .ok (.dup, 1)) (d4 : decode cc (pc + 4) = .ok (.ldc is, 2)) (d6 : decode cc (pc + 6) = .ok (.invokespecial ic, 3)) (d9 : decode cc (pc + 9) = .ok (.athrow, 1))
    (hout : ∀ x ∈ c.exceptionTable.toList, covers x (pc + 9) = false)
    (hRframes : names.length + 3 < R.frames) (hRlocals : (rest.map fun v => v.category).sum + (13 * (names.length + 1) + 43) ≤ R.locals) (hRcells : cells + 1 ≤ R.cells) (hRslots : slots + 6 ≤ R.slots) (hlocks : meth.locks = false)
    (hx : ∀ t : State, s.vm.Alike t.vm → H.size ≤ t.heap.size → (∀ q : Nat, q < H.size → t.heap[q]? = H[q]?) → XC cls s t)
    (hf : ∀ z ∈ locs, free z.base) (hc : cells + 1 ≤ mc) (hs : slots + 6 ≤ ms) :
    W p l e R s m args below meth c H locs cells slots (vx_MQ below Qc XC args s mc ms free) (F0 m pc ls rest) := by
  intro T hT X
  have htr : e.platform.stackTraces = false := (show e.platform.stackTraces = l.stackTraces by rw [X.admits.platform]).trans hl
  have Y := vx_rebase X (R' := { frames := R.frames, locals := R.locals, cells := 1, slots := 6 }) (Nat.le_refl _) (Nat.le_refl _) hRcells hRslots
  obtain ⟨s', hA⟩ : ∃ z, z = (T.setVm s.vm).setFrames (.invoking m args :: below) := ⟨_, rfl⟩
  rw [← hA] at Y
  have hvm : s'.vm = s.vm := by rw [hA]; rfl
  have hhp : s'.heap = H := by rw [hA]; exact hT
  have hW0 : s.WarmedH s'.vm := by rw [hvm]; exact State.WarmedH.refl s
  have hat' : ∀ w ∈ vx_atS own ic cls names, w.before args s' = true := fun w hw => vx_ot_at hW0 hvm.symm (hgood w (List.mem_cons_of_mem _ (List.mem_cons_of_mem _ hw))) (hat w hw)
  have hk' : (Cond.classLink own ik cls).before args s' = true := vx_ot_at hW0 hvm.symm (hgood _ List.mem_cons_self) hk
  have hini' : (Cond.initialized cls).before args s' = true := vx_ot_at hW0 hvm.symm (hgood _ (List.mem_cons_of_mem _ List.mem_cons_self)) hini
  have hU' : vx_Zq Bundle.tN "UNASSIGNED_STACK" Bundle.steD A s' s'.heap := by rw [hhp]; exact vx_Zq.moved hW0.alike (hU.kept hS.2.1)
  have hN' : vx_Zq Bundle.tN "SUPPRESSED_SENTINEL" Bundle.listD A s' s'.heap := by rw [hhp]; exact vx_Zq.moved hW0.alike (hN.kept hS.2.1)
  have h : ∀ w ∈ Bundle.ownAtoms own ic cls names, w.before args s' = true := vx_own hat' (vx_isRefq hU'.1) (vx_isRefq hN'.1) hU'.2.word hN'.2.word
  have hown' : s'.vm.findClass own = some m.cls := by rw [hvm]; exact hown
  have hins : (Cond.instantiable cls 6).before args s' = true := h _ (by simp [Bundle.ownAtoms])
  obtain ⟨vm₁, cX, kX, hfX, hkX, -, -, X₁, st1⟩ := Y.newCold hexec (own := own) (C := cls) (index := ik) (n := 6) hown' hk' hins hini'
    (g := F0 m pc ls rest) rfl (by rw [hb]; exact d0) (Nat.le_refl _) (Nat.le_refl _)
  generalize hT1 : (T.setVm vm₁).pushCell { cls := cX, slots := kX.instanceTypes.map defaultValue, vm := .none } = T1 at X₁ st1
  have hcat : (Value.ref T.heap.size).category = 1 := rfl
  have hcellA : T1.heap[T.heap.size]? = some (freshCell cX kX) := by rw [← hT1]; exact State.heap_pushCell_size _ _
  have d3' : decode c.code (pc + 3) = .ok (.dup, 1) := by rw [hb]; exact d3
  have d4' : decode c.code (pc + 4) = .ok (.ldc is, 2) := by rw [hb]; exact d4
  have hstr' : vk_R own is text sa s' := vk_R.warm hW0 hstr
  obtain ⟨U, hsteps, hrun, hend, hW, hsame, ce, hce, hO⟩ := X₁.ctorThrowS hexec htr (own := own) (cls := cls) (names := names) (ic := ic) hown' hcls hnames h (fun x hx => nomatch hx) hfX hkX hcellA (by rw [hhp, hT]; exact Nat.le_refl _) (msg := .ref sa) rfl
    (g := { method := m, pc := pc + 6, locals := ls, stack := .ref sa :: .ref T.heap.size :: .ref T.heap.size :: rest, locked := none }) rfl hsize rfl rfl (rest := rest) rfl
    (by rw [hb]; exact d6) (by rw [hb]; exact d9) hout hRframes (by simp only [List.map_cons, List.sum_cons, hcat]; omega) hlocks
  obtain ⟨f1, f2⟩ := vx_frame hsame
  rw [hhp] at f1 f2
  have hWs : s.WarmedH U.vm := State.WarmedH.trans hW0 hW
  have hcl : s.vm.findClass cls = some ce.cls := by
    have h9 := hO.cls
    rw [hvm] at h9
    exact h9
  have hall : s.sameButNew ({ U with vm := s.vm } : State) locs mc ms := by
    subst hA
    obtain ⟨e1, e2⟩ := hsame
    rw [State.setFrames_setFrames] at e1
    have h2 : (T.setVm s.vm).sameButNew ({ U with vm := s.vm } : State) [] (0 + 1) (0 + 6) := ⟨e1, e2⟩
    have h3 := X.same.trans h2
    rw [List.append_nil] at h3
    exact h3.mono hc hs
  refine ⟨U, ?_, .threw T.heap.size, hrun, hend, Or.inr ⟨T.heap.size, rfl, cls, ce, locs, hx U hWs.alike f1 (fun q hq => f2 q hq (fun z hz => nomatch hz)), hce, hO.vm, hcl, hWs, hall, hf⟩⟩
  refine st1 _ ?_
  show Steps p.tables e below (T1.setTop { method := m, pc := pc + 3, locals := ls, stack := .ref T.heap.size :: rest, locked := none }) _
  jvm_step X₁.here [X₁.here.top, hexec, d3', Value.category]
  exact X₁.ldcString hexec (own := own) (text := text) (index := is) (a := sa) hown' hstr'.1 hstr'.2
    (g := { method := m, pc := pc + 4, locals := ls, stack := .ref T.heap.size :: .ref T.heap.size :: rest, locked := none }) rfl d4' _ hsteps
/-- 'throw new E("text")', the text by a wide index -/
theorem vx_throwSW {cc : ByteArray} {pc : Nat} (hexec : p.tables.exec = Jvm.exec) (hb : c.code = cc) (hl : l.stackTraces = false) {own cls text : String} {names : List String} {ik is ic mc ms sa : Nat} {A : Nat → Prop}
    (hown : s.vm.findClass own = some m.cls) (hcls : Bundle.fit cls = true) (hnames : ∀ n ∈ names, Bundle.fit n = true)
    (hk : (Cond.classLink own ik cls).before args s = true) (hini : (Cond.initialized cls).before args s = true) (hstr : vk_R own is text sa s) (hat : ∀ w ∈ vx_atS own ic cls names, w.before args s = true)
    (hgood : ∀ w ∈ Cond.classLink own ik cls :: Cond.initialized cls :: vx_atS own ic cls names, vx_ot w = true)
    (hU : vx_Zq Bundle.tN "UNASSIGNED_STACK" Bundle.steD A s s.heap) (hN : vx_Zq Bundle.tN "SUPPRESSED_SENTINEL" Bundle.listD A s s.heap) (hS : va_S A s.heap H locs) (hsize : ls.size = c.maxLocals)
    (d0 : decode cc pc = .ok (.new ik, 3)) (d3 : decode cc (pc + 3) = .ok (.dup, 1)) (d4 : decode cc (pc + 4) = .ok (.ldc_w is, 3)) (d7 : decode cc (pc + 7) = .ok (.invokespecial ic, 3)) (d10 : decode cc (pc + 10) = .ok (.athrow, 1))
    (hout : ∀ x ∈ c.exceptionTable.toList, covers x (pc + 10) = false)
    (hRframes : names.length + 3 < R.frames) (hRlocals : (rest.map fun v => v.category).sum + (13 * (names.length + 1) + 43) ≤ R.locals) (hRcells : cells + 1 ≤ R.cells) (hRslots : slots + 6 ≤ R.slots) (hlocks : meth.locks = false)
    (hx : ∀ t : State, s.vm.Alike t.vm → H.size ≤ t.heap.size → (∀ q : Nat, q < H.size → t.heap[q]? = H[q]?) → XC cls s t)
    (hf : ∀ z ∈ locs, free z.base) (hc : cells + 1 ≤ mc) (hs : slots + 6 ≤ ms) :
    W p l e R s m args below meth c H locs cells slots (vx_MQ below Qc XC args s mc ms free) (F0 m pc ls rest) := by
  intro T hT X
  have htr : e.platform.stackTraces = false := (show e.platform.stackTraces = l.stackTraces by rw [X.admits.platform]).trans hl
  have Y := vx_rebase X (R' := { frames := R.frames, locals := R.locals, cells := 1, slots := 6 }) (Nat.le_refl _) (Nat.le_refl _) hRcells hRslots
  obtain ⟨s', hA⟩ : ∃ z, z = (T.setVm s.vm).setFrames (.invoking m args :: below) := ⟨_, rfl⟩
  rw [← hA] at Y
  have hvm : s'.vm = s.vm := by rw [hA]; rfl
  have hhp : s'.heap = H := by rw [hA]; exact hT
  have hW0 : s.WarmedH s'.vm := by rw [hvm]; exact State.WarmedH.refl s
  have hat' : ∀ w ∈ vx_atS own ic cls names, w.before args s' = true := fun w hw => vx_ot_at hW0 hvm.symm (hgood w (List.mem_cons_of_mem _ (List.mem_cons_of_mem _ hw))) (hat w hw)
  have hk' : (Cond.classLink own ik cls).before args s' = true := vx_ot_at hW0 hvm.symm (hgood _ List.mem_cons_self) hk
  have hini' : (Cond.initialized cls).before args s' = true := vx_ot_at hW0 hvm.symm (hgood _ (List.mem_cons_of_mem _ List.mem_cons_self)) hini
  have hU' : vx_Zq Bundle.tN "UNASSIGNED_STACK" Bundle.steD A s' s'.heap := by rw [hhp]; exact vx_Zq.moved hW0.alike (hU.kept hS.2.1)
  have hN' : vx_Zq Bundle.tN "SUPPRESSED_SENTINEL" Bundle.listD A s' s'.heap := by rw [hhp]; exact vx_Zq.moved hW0.alike (hN.kept hS.2.1)
  have h : ∀ w ∈ Bundle.ownAtoms own ic cls names, w.before args s' = true := vx_own hat' (vx_isRefq hU'.1) (vx_isRefq hN'.1) hU'.2.word hN'.2.word
  have hown' : s'.vm.findClass own = some m.cls := by rw [hvm]; exact hown
  have hins : (Cond.instantiable cls 6).before args s' = true := h _ (by simp [Bundle.ownAtoms])
  obtain ⟨vm₁, cX, kX, hfX, hkX, -, -, X₁, st1⟩ := Y.newCold hexec (own := own) (C := cls) (index := ik) (n := 6) hown' hk' hins hini'
    (g := F0 m pc ls rest) rfl (by rw [hb]; exact d0) (Nat.le_refl _) (Nat.le_refl _)
  generalize hT1 : (T.setVm vm₁).pushCell { cls := cX, slots := kX.instanceTypes.map defaultValue, vm := .none } = T1 at X₁ st1
  have hcat : (Value.ref T.heap.size).category = 1 := rfl
  have hcellA : T1.heap[T.heap.size]? = some (freshCell cX kX) := by rw [← hT1]; exact State.heap_pushCell_size _ _
  have d3' : decode c.code (pc + 3) = .ok (.dup, 1) := by rw [hb]; exact d3
  have d4' : decode c.code (pc + 4) = .ok (.ldc_w is, 3) := by rw [hb]; exact d4
  have hstr' : vk_R own is text sa s' := vk_R.warm hW0 hstr
  obtain ⟨U, hsteps, hrun, hend, hW, hsame, ce, hce, hO⟩ := X₁.ctorThrowS hexec htr (own := own) (cls := cls) (names := names) (ic := ic) hown' hcls hnames h (fun x hx => nomatch hx) hfX hkX hcellA (by rw [hhp, hT]; exact Nat.le_refl _) (msg := .ref sa) rfl
    (g := { method := m, pc := pc + 7, locals := ls, stack := .ref sa :: .ref T.heap.size :: .ref T.heap.size :: rest, locked := none }) rfl hsize rfl rfl (rest := rest) rfl
    (by rw [hb]; exact d7) (by rw [hb]; exact d10) hout hRframes (by simp only [List.map_cons, List.sum_cons, hcat]; omega) hlocks
  obtain ⟨f1, f2⟩ := vx_frame hsame
  rw [hhp] at f1 f2
  have hWs : s.WarmedH U.vm := State.WarmedH.trans hW0 hW
  have hcl : s.vm.findClass cls = some ce.cls := by
    have h9 := hO.cls
    rw [hvm] at h9
    exact h9
  have hall : s.sameButNew ({ U with vm := s.vm } : State) locs mc ms := by
    subst hA
    obtain ⟨e1, e2⟩ := hsame
    rw [State.setFrames_setFrames] at e1
    have h2 : (T.setVm s.vm).sameButNew ({ U with vm := s.vm } : State) [] (0 + 1) (0 + 6) := ⟨e1, e2⟩
    have h3 := X.same.trans h2
    rw [List.append_nil] at h3
    exact h3.mono hc hs
  refine ⟨U, ?_, .threw T.heap.size, hrun, hend, Or.inr ⟨T.heap.size, rfl, cls, ce, locs, hx U hWs.alike f1 (fun q hq => f2 q hq (fun z hz => nomatch hz)), hce, hO.vm, hcl, hWs, hall, hf⟩⟩
  refine st1 _ ?_
  show Steps p.tables e below (T1.setTop { method := m, pc := pc + 3, locals := ls, stack := .ref T.heap.size :: rest, locked := none }) _
  jvm_step X₁.here [X₁.here.top, hexec, d3', Value.category]
  exact X₁.ldcStringW hexec (own := own) (text := text) (index := is) (a := sa) hown' hstr'.1 hstr'.2
    (g := { method := m, pc := pc + 4, locals := ls, stack := .ref T.heap.size :: .ref T.heap.size :: rest, locked := none }) rfl d4' _ hsteps
end Ends
section Bodies
variable {l : Launch}
theorem vx_ofW {y : MethodName} {ws ws' : List Cond} {rm : Room} {Pc : Array Value → State → Prop} {Qc : Array Value → State → Outcome → State → Prop} {XC : String → State → State → Prop} {mc ms : Nat} {free : Addr → Prop} {cc : ByteArray} {maxL : Nat} {ret : Option FieldType}
    (hy : plainName y.cls = true) (hw : ws = Cond.code y cc maxL ret :: ws')
    (body : ∀ p e s m args below meth c s₁, BodyLoose p l y (headSpec ws rm) cc maxL ret e s m args below meth c s₁ → c.maxLocals = maxL → (∀ x ∈ c.exceptionTable.toList, False) → Pc args s →
      W p l e (headSpec ws rm).room s m args below meth c s.heap [] 0 0 (vx_MQ below Qc XC args s mc ms free) (entryFrame m args maxL)) : vx_Met l y ws rm Pc Qc XC mc ms free := by
  refine MetFree.of_bodyS (code := cc) (maxLocals := maxL) (ret := ret) hy ?_ ?_
  · intro args s m h hn
    obtain ⟨meth, c, h1, h2, h3, h4, h5, h6, -, -⟩ := Cond.code_spec hn (atoms_spec (ws := ws) h _ (by rw [hw]; exact List.mem_cons_self))
    exact ⟨meth, c, h1, h2, h3, h4, h5, h6⟩
  · intro p e s m args below meth c s₁ B hml hP _
    have hh0 : s₁.heap = s.heap := by rw [B.state]; rfl
    have ht : ∀ x ∈ c.exceptionTable.toList, False := by
      obtain ⟨meth9, c9, h1, h2, -, -, -, -, h7, -⟩ := Cond.code_spec B.named (atoms_spec (ws := ws) B.pre _ (by rw [hw]; exact List.mem_cons_self))
      cases Option.some.inj (h1.symm.trans B.method)
      cases Option.some.inj (h2.symm.trans (Stand.of_body B).code)
      intro x hx
      rw [Array.isEmpty_iff.mp h7] at hx
      cases hx
    obtain ⟨t, a1, o, b1, b2, b3⟩ := body p e s m args below meth c s₁ B hml ht hP s₁ hh0 (Stand.of_body B)
    exact ⟨t, o, a1, b1, b2, b3⟩
/-- the table of a body with handlers -/
theorem vx_table {p : Program} {x y : MethodName} {S : Spec} {cc bytes : ByteArray} {maxL maxL' : Nat} {ret ret' : Option FieldType} {e : Env} {s s₁ : State} {m : MethodId} {args : Array Value} {below : List Frame} {meth : Method} {c : Code} {hh : List (Nat × Nat × Nat × Nat)}
    (B : BodyLoose p l y S cc maxL ret e s m args below meth c s₁) (h : (Cond.codeWith y bytes maxL' ret' hh).before args s = true) : c.exceptionTable.toList = tableOf hh := by
  obtain ⟨m9, meth9, c9, hn9, h1, h2, -, -, h6, -⟩ := Cond.codeWith_spec h
  cases Option.some.inj (hn9.symm.trans B.named)
  cases Option.some.inj (h1.symm.trans B.method)
  cases Option.some.inj (h2.symm.trans (Stand.of_body B).code)
  rw [← h6, table_eq]
end Bodies
end VXA
/-! ===== END ===== -/
/-! ===== BEGIN a static call of a method with an exception table ===== -/
section VXS
variable {p : Program} {l : Launch} {e : Env} {R : Room} {s : State} {m : MethodId} {args : Array Value} {below : List Frame} {meth : Method} {c : Code} {T : State} {H : Heap} {locs : List Loc} {cells slots : Nat}
abbrev vx_CSW (R : Room) (s : State) (args : Array Value) (own : String) (index : Nat) (y : MethodName) (bytes : ByteArray) (maxL : Nat) (ret : Option FieldType) (hh : List (Nat × Nat × Nat × Nat)) (ws : List Cond) (rm : Room) (mc ms n : Nat) : Prop :=
  (rm.cells = mc ∧ rm.slots = ms ∧ rm.frames + 1 ≤ R.frames ∧ 8 + (maxL + 11) + rm.locals ≤ R.locals ∧ (∀ w ∈ ws, ∀ (a' : Array Value) (U : State), s.WarmedH U.vm → w.before a' U = true) ∧ Cond.codeWith y bytes maxL ret hh ∈ ws) ∧
  (Cond.codeWith y bytes maxL ret hh).before args s = true ∧ (Cond.initialized y.cls).before args s = true ∧ (y.cls ≠ "java/lang/invoke/MethodHandle" ∧ y.cls ≠ "java/lang/invoke/VarHandle") ∧
  (∀ sig, parseMethodDescriptor y.desc = some sig → n = sig.parameters.length) ∧ (Cond.methodLink own index y).before args s = true ∧ (Cond.static y).before args s = true
theorem vx_cwSW {own : String} {index maxL mc ms : Nat} {y : MethodName} {bytes : ByteArray} {ret : Option FieldType} {hh : List (Nat × Nat × Nat × Nat)} {Ts ws ws' : List Cond} {rm : Room} (n : Nat) (ht : ∀ w ∈ Ts, w.before args s = true) (hT : GoodIn Ts (va_wsS own index y ws)) (hw : ws = Cond.codeWith y bytes maxL ret hh :: ws') (hrc : rm.cells = mc) (hrs : rm.slots = ms)
    (hd : y.cls ≠ "java/lang/invoke/MethodHandle" ∧ y.cls ≠ "java/lang/invoke/VarHandle" ∧ (parseMethodDescriptor y.desc).map (fun d => d.parameters.length) = some n) (hR : rm.frames + 1 ≤ R.frames ∧ 8 + (maxL + 11) + rm.locals ≤ R.locals) :
    vx_CSW R s args own index y bytes maxL ret hh ws rm mc ms n := by
  have ok : ∀ w ∈ va_wsS own index y ws, w.before args s = true := fun w h => ht w (hT w h).1
  have hG : GoodIn Ts ws := fun w h => hT w (by unfold va_wsS; exact List.mem_append_right _ h)
  have hc : Cond.codeWith y bytes maxL ret hh ∈ ws := by rw [hw]; exact List.mem_cons_self
  refine ⟨⟨hrc, hrs, hR.1, hR.2, pay_in ht hG, hc⟩, ht _ (hG _ hc).1, ok _ (by simp [va_wsS]), ⟨hd.1, hd.2.1⟩, fun sig h => ?_, ok _ (by simp [va_wsS]), ok _ (by simp [va_wsS])⟩
  have h2 := hd.2.2
  rw [h] at h2
  exact (Option.some.inj h2).symm
theorem vx_callSW (X : Stand p l e R s m args below meth c T locs cells slots) (hexec : p.tables.exec = Jvm.exec) {own : String} {index : Nat} {y : MethodName} {bytes : ByteArray} {maxL : Nat} {ret : Option FieldType} {hh : List (Nat × Nat × Nat × Nat)}
    (hown : s.vm.findClass own = some m.cls) (hlink : (Cond.methodLink own index y).before args s = true) (hstat : (Cond.static y).before args s = true) (hinit : (Cond.initialized y.cls).before args s = true)
    (hcode : (Cond.codeWith y bytes maxL ret hh).before args s = true) (hy : y.cls ≠ "java/lang/invoke/MethodHandle" ∧ y.cls ≠ "java/lang/invoke/VarHandle")
    {W9 : Nat} {Pre : Pt → Array Value → Prop} {Post : Pt → Array Value → Option Value → Pt → Prop} (hK : Back l R p e below s args y 3 W9 Pre Post)
    {g : JFrame} (hg : g.method = m) (hsize : g.locals.size = c.maxLocals) {argsL rest : List Value} (hlen : ∀ sig, parseMethodDescriptor y.desc = some sig → argsL.length = sig.parameters.length)
    (hstack : g.stack = argsL.reverse ++ rest) (hW : 2 * g.monitorRoom + (rest.map fun v => v.category).sum ≤ W9) (hdg : decode c.code g.pc = .ok (.invokestatic index, 3))
    (hpre : ∀ vm₁, s.WarmedH vm₁ → Pre ⟨T.setVm vm₁, locs, cells, slots⟩ argsL.toArray) :
    ∃ (v : Option Value) (vm₁ : Vm) (B : Pt), s.WarmedH vm₁ ∧ Stand p l e R s m args below meth c B.U B.locs B.cells B.slots ∧ Post ⟨T.setVm vm₁, locs, cells, slots⟩ argsL.toArray v B ∧
      ∀ target, Steps p.tables e below (B.U.setTop { g with pc := g.pc + 3, stack := v.toList ++ rest }) target → Steps p.tables e below (T.setTop g) target := by
  obtain ⟨mk, methM, cM, hnamed, hmethM, -, -, -, -, -, -, hsigM⟩ := Cond.codeWith_spec hcode
  have hstatic : methM.isStatic = true := Cond.static_spec hnamed hmethM hstat
  obtain ⟨kP, hkP, -⟩ := className_of_methodNamed hnamed
  have hinitP : kP.init = .initialized := Cond.initialized_spec (findClass_of_methodNamed hnamed) hkP hinit
  obtain ⟨vm₁, X₁, hstep₁⟩ := X.invokestatic hexec hown hlink hnamed hmethM hstatic hkP hinitP hy (g := g) hg (argsL := argsL) (rest := rest) (hlen _ hsigM) hstack hdg
  obtain ⟨v, B, X', hpost, hsteps⟩ := hK m meth c ⟨T.setVm vm₁, locs, cells, slots⟩ { g with stack := rest } (.invokestatic index) mk argsL.toArray X₁ hg hsize hdg hW (X₁.named hnamed) (hpre vm₁ X₁.warmed)
  exact ⟨v, vm₁, B, X₁.warmed, X', hpost, fun target h => hstep₁ _ fun acts => by rw [doInvoke_state]; exact hsteps.trans h⟩
theorem vx_runSW {y : MethodName} {bytes cc : ByteArray} {maxL nL mc ms n index : Nat} {ret : Option FieldType} {hh : List (Nat × Nat × Nat × Nat)} {ws : List Cond} {rm : Room} {Pc : Array Value → State → Prop} {Qc : Array Value → State → Outcome → State → Prop} {free : Addr → Prop} {Ts : List Cond} {own : String} {As rest : List Value} {g : JFrame}
    (S : CallFix p m c cc nL s args Ts own) (hM : Met l y ws rm Pc Qc mc ms free) (cw : vx_CSW R s args own index y bytes maxL ret hh ws rm mc ms n) (hp : PreS s H Pc As)
    (hg : g.method = m) (hn : As.length = n) (hsize : g.locals.size = nL) (hstack : g.stack = As.reverse ++ rest) (hW : 2 * g.monitorRoom + (rest.map fun v => v.category).sum ≤ 8) (hdg : decode cc g.pc = .ok (.invokestatic index, 3)) (hf : cells + mc ≤ R.cells ∧ slots + ms ≤ R.slots) :
    va_Run p l e R s m args below meth c H locs cells slots mc ms g rest (Qc As.toArray) (free) := by
  obtain ⟨⟨hrc, hrs, hfr, hlo, hws, hcw⟩, hcode, hini, hy, hlen, hl, hstt⟩ := cw
  have hK : Back l R p e below s args y 3 8 (PreOf R mc ms Pc) (PostOf Qc mc ms free) := va_backW (hh := hh) (bytes := bytes) (maxL := maxL) (ret := ret) hM hp.1 hrc hrs hfr hlo hws hcw (fun a' U hW => word_at hW (Or.inl (by first | rfl | simp [Cond.onTables, Cond.keeps, Cond.steady])) hini)
  obtain ⟨hx, hb, hml, ho, -⟩ := S
  intro T hT X
  obtain ⟨v, vm₁, ⟨U', l2, c2, s2⟩, hW₁, X', ⟨g', mk, t, L, e1, e2, hq, h1, hL, h2, h3⟩, st⟩ := vx_callSW X hx (hh := hh) (bytes := bytes) (maxL := maxL) (ret := ret) ho hl hstt hini hcode hy hK hg (hsize.trans hml.symm) (argsL := As) (rest := rest) (fun sig h => hn.trans (hlen sig h)) hstack hW (by rw [hb]; exact hdg)
    (fun vm₁ hW₁ => ⟨hf.1, hf.2, hp.2 (T.setVm vm₁) hT hW₁⟩)
  dsimp only [Pt.U, Pt.locs, Pt.cells, Pt.slots] at X' e1 e2 h1 h2 h3 st
  subst h1; subst h2; subst h3
  exact ⟨v, (T.setVm vm₁).calling g' mk As.toArray, t, U', L, hT, X', hL, e1, e2, hq, st⟩
/-- not caught here, past rows that name other classes: it goes on to the caller -/
theorem vx_outP {p : Program} {l : Launch} {e : Env} {R : Room} {s : State} {m : MethodId} {args : Array Value} {below : List Frame} {meth : Method} {c : Code} {H : Heap} {locs : List Loc} {cells slots : Nat} {free : Addr → Prop} {ls : Array Slot} {rest : List Value} {Qc : Array Value → State → Outcome → State → Prop} {XC : String → State → State → Prop}
    {pc : Nat} {own E : String} {ce : Cell} {q : Addr} {mc ms : Nat} (hown : s.vm.findClass own = some m.cls) (hlocks : meth.locks = false)
    (hpass : ∀ z ∈ c.exceptionTable.toList, covers z pc = false ∨ (z.catchType ≠ 0 ∧ ∃ nm : String, (Cond.classLink own z.catchType nm).before args s = true ∧ va_Nc E nm s)) (hcell : H[q]? = some ce) (hv : ce.vm = .none) (hcl : s.vm.findClass E = some ce.cls)
    (hx : ∀ t : State, t.heap = H → s.vm.Alike t.vm → XC E s t) (hf : ∀ z ∈ locs, free z.base) (hc : cells ≤ mc) (hs : slots ≤ ms) :
    vx_W p l e R s m args below meth c H locs cells slots (vx_MQ below Qc XC args s mc ms free) (F0 m pc ls rest) q := by
  intro T hT X
  have hpl : e.platform.magicAccessors = ({} : Platform).magicAccessors := by rw [X.admits.platform]
  obtain ⟨vm', hW', X', st⟩ := X.outThrough hlocks q (g := F0 m pc ls rest) rfl rfl rfl (cell := ce) (by rw [hT]; exact hcell) (by rw [hv]; rfl)
    (by obtain ⟨k9, h9, -⟩ := Vm.findClass_spec hcl; exact ⟨k9, h9⟩) (fun z hz => by
      rcases hpass z hz with h | ⟨hz0, nm, hl1, hn1⟩
      · exact Or.inl h
      · obtain ⟨c6, hc6, hcl6⟩ := Cond.classLink_spec hown hl1 e.platform hpl
        obtain ⟨a8, b8, h1, h2, h3⟩ := hn1
        cases Option.some.inj (h1.symm.trans hcl)
        cases Option.some.inj (h2.symm.trans hc6)
        exact Or.inr ⟨hz0, _, hcl6, h3⟩)
  obtain ⟨g₀, hfr⟩ := X'.frames_eq
  have hcell9 : ((T.setVm vm').setFrames (.throwing q :: below)).heap[q]? = some ce := by
    show T.heap[q]? = some ce
    rw [hT]; exact hcell
  have hend : Ended ((T.setVm vm').setFrames (.throwing q :: below)) below (.threw q) := State.frames_setFrames _ (State.cur_lt_of_frames hfr)
  refine ⟨(T.setVm vm').setFrames (.throwing q :: below), ?_, .threw q, X'.here.running, hend, Or.inr ⟨q, rfl, E, ce, locs, hx _ hT (X'.ends _).1.alike, hcell9, hv, hcl, (X'.ends _).1, (X'.ends _).2.mono hc hs, hf⟩⟩
  rw [X.pushThrowing_eq]
  exact st
/-- a thing of a world lies in the heap -/
theorem vx_lt {D : va_G} {cl : List vw_C} {ws : va_W} {H1 : Heap} (h : va_P D cl ws H1) {k : Nat} {q : Nat × va_E} (hk : ws[k]? = some q) : q.1 < H1.size := (h k q hk).lt
end VXS
/-! ===== END ===== -/
/-! ===== BEGIN methods with a table of their own: called by a name, returning or throwing ===== -/
section VXH
/-! vx_backW, vx_callVX, vx_callSX, vx_callVW, vx_runVW, vx_runVX, vx_runSX, vx_ofWH follow the same proofs as their sisters above (Free/Laws.lean, Shelf42/LK1.lean); vx_outP calls Shelf42/NT130.lean (outThrough). -/
section
variable {l : Launch} {R : Room} {p : Program} {e : Env} {below : List Frame} {s : State} {sargs : Array Value} {y : MethodName} {len W9 : Nat}
theorem vx_backW {ws : List Cond} {rm : Room} {Pc : Array Value → State → Prop} {Qc : Array Value → State → Outcome → State → Prop} {XC : String → State → State → Prop} {mc ms : Nat} {free : Addr → Prop} {bytes : ByteArray} {maxL : Nat} {ret : Option FieldType} {hh : List (Nat × Nat × Nat × Nat)}
    (hM : vx_Met l y ws rm Pc Qc XC mc ms free) (hblind : FrameBlind Pc) (hrc : rm.cells = mc) (hrs : rm.slots = ms)
    (hframes : rm.frames + 1 ≤ R.frames) (hlocals : W9 + (maxL + 11) + rm.locals ≤ R.locals)
    (hws : ∀ w ∈ ws, ∀ a' U, s.WarmedH U.vm → w.before a' U = true) (hcode : Cond.codeWith y bytes maxL ret hh ∈ ws) (hinit : ∀ a' U, s.WarmedH U.vm → (Cond.initialized y.cls).before a' U = true) :
    vx_Back l R p e below s sargs y len W9 (PreOf R mc ms Pc) (PostOf Qc mc ms free) (vx_Post XC mc ms free) := by
  intro m meth c A g ig mk a X hg hsize hdg hW hn hp
  have h1 : (headSpec ws rm).pre.before a A.U = true := atoms_intro fun w hw => hws w hw _ _ X.warmed
  have h2 : (Cond.codeWith y bytes maxL ret hh).before a A.U = true := hws _ hcode _ _ X.warmed
  have h3 : (Cond.initialized y.cls).before a A.U = true := hinit _ _ X.warmed
  have h4 : A.cells + (headSpec ws rm).room.cells ≤ R.cells := by rw [show (headSpec ws rm).room.cells = mc from hrc]; exact hp.1
  have h5 : A.slots + (headSpec ws rm).room.slots ≤ R.slots := by rw [show (headSpec ws rm).room.slots = ms from hrs]; exact hp.2.1
  have hPc : Pc a (A.U.calling g mk a) := hblind _ _ _ _ hp.2.2
  obtain ⟨U, Ls, c0, s0⟩ := A
  dsimp only [Pt.U, Pt.locs, Pt.cells, Pt.slots] at h1 h2 h3 h4 h5 X hn hPc ⊢
  obtain ⟨m9, methY, cY, hn9, hmY, hcY, -, hlY, -⟩ := Cond.codeWith_spec h2
  cases Option.some.inj (hn9.symm.trans hn)
  obtain ⟨kY, hkY, -⟩ := className_of_methodNamed hn
  have hinitY : kY.init = .initialized := Cond.initialized_spec (findClass_of_methodNamed hn) hkY h3
  have h : At U g.method c below := by rw [hg]; exact X.here
  have hlocals9 : W9 + (maxL + 11) + (headSpec ws rm).room.locals ≤ R.locals := hlocals
  have happ : (headSpec ws rm).appliesLoose y e.platform (U.calling g mk a) = true :=
    Spec.appliesLoose_calling (g := g) h hdg hn hkY hinitY
      (X.room_calling (g := g) (R' := (headSpec ws rm).room) hsize hmY hcY hframes (by rw [hlY]; omega) h4 h5) h1
  obtain ⟨mid, hmid⟩ := h.above
  have hfr : (U.setTop g).frames = (.java g :: mid) ++ below := by rw [State.frames_setTop' g h.top, hmid]; rfl
  obtain ⟨o, s₂, hsteps, -, hend, hq⟩ := Steps.callFree hM p X.admits X.cas X.clock (acts := []) hfr happ hPc trivial
  have hq' : vx_Q Qc XC mc ms free a (U.calling g mk a) o s₂ := hq
  rw [State.frames_setTop' g h.top] at hend
  obtain ⟨g₀, hg0⟩ := Option.isSome_iff_exists.mp h.top
  obtain ⟨r, hr⟩ := State.topJava?_eq_some.mp hg0
  have hr' : (({ U with heap := s₂.heap, slotsUsed := s₂.slotsUsed } : State).setVm s₂.vm).frames = .java g₀ :: r := hr
  rcases hq' with ⟨hqc, L, hfe, hL⟩ | ⟨q, rfl, E, ce, L, hx, hce, hcv, hcl, hW₂, hsm, hL⟩
  · obtain ⟨⟨v, rfl⟩, hW₂, e2, q2, q3, q4, q5, q6⟩ := id hfe
    have e3 : s₂ = ({ (U.calling g mk a).setFrames s₂.frames with heap := s₂.heap, slotsUsed := s₂.slotsUsed } : State).setVm s₂.vm := by
      have : s₂ = ({ s₂ with vm := (U.calling g mk a).vm } : State).setVm s₂.vm := rfl
      rw [e2] at this
      exact this
    obtain ⟨c₂, i₂, len₂, hc₂, hd₂, hf₂⟩ := hend
    have hW' : U.WarmedH s₂.vm := hW₂
    have hcc : c₂ = c := by
      have h1 : s₂.code? g.method = U.code? g.method := by
        rw [State.code?_eq, State.code?_eq, hW'.alike.method?]
      exact Option.some.inj (hc₂.symm.trans (h1.trans h.code))
    subst hcc
    have hlen : len₂ = len := by rw [hdg] at hd₂; cases hd₂; rfl
    subst hlen
    have hs₂ : s₂ = (({ U with heap := s₂.heap, slotsUsed := s₂.slotsUsed } : State).setVm s₂.vm).setTop { g with pc := g.pc + len₂, stack := v.toList ++ g.stack } := by
      refine e3.trans ?_
      rw [hf₂, State.calling_eq h.top, State.setFrames_setFrames, State.setTop_of_frames _ hr', hr]
      rfl
    have hsame : U.sameButNew ({ U with heap := s₂.heap, slotsUsed := s₂.slotsUsed } : State) L mc ms := by
      refine ⟨?_, q2, q3, q4, q5, q6⟩
      obtain ⟨t, ht, -⟩ := State.frames_cons hr
      show ({ U with heap := s₂.heap, slotsUsed := s₂.slotsUsed } : State) = { U.setFrames U.frames with heap := s₂.heap, slotsUsed := s₂.slotsUsed }
      rw [State.setFrames_self ht]
    subst hg
    refine Or.inl ⟨v, ⟨(({ U with heap := s₂.heap, slotsUsed := s₂.slotsUsed } : State).setVm s₂.vm), Ls ++ L, c0 + mc, s0 + ms⟩,
      ⟨X.admits, X.cas, X.clock, X.frames, X.room, X.hears, X.method, X.code, (X.here.setHeapUsed s₂.heap s₂.slotsUsed).setVm hW'.alike, X.tail, State.WarmedH.trans X.warmed hW', X.limits, X.bytes, X.same.trans (hsame.setVm s.vm)⟩,
      ⟨g, mk, s₂, L, rfl, rfl, hqc, rfl, hL, rfl, rfl⟩, ?_⟩
    show Steps p.tables e below _ ((({ U with heap := s₂.heap, slotsUsed := s₂.slotsUsed } : State).setVm s₂.vm).setTop { g with pc := g.pc + len₂, stack := v.toList ++ g.stack })
    rw [← hs₂]
    exact hsteps
  · obtain ⟨e2, q2, q3, q4, q5, q6⟩ := id hsm
    have e3 : s₂ = ({ (U.calling g mk a).setFrames s₂.frames with heap := s₂.heap, slotsUsed := s₂.slotsUsed } : State).setVm s₂.vm := by
      have : s₂ = ({ s₂ with vm := (U.calling g mk a).vm } : State).setVm s₂.vm := rfl
      rw [e2] at this
      exact this
    have hf₂ : s₂.frames = .throwing q :: .java g :: U.frames.tail := hend
    have hW' : U.WarmedH s₂.vm := hW₂
    have hs₂ : s₂ = ((({ U with heap := s₂.heap, slotsUsed := s₂.slotsUsed } : State).setVm s₂.vm).setTop g).pushFrame (.throwing q) := by
      refine e3.trans ?_
      rw [hf₂, State.calling_eq h.top, State.setFrames_setFrames, State.pushFrame, State.frames_setTop _ hr', State.setTop_of_frames _ hr', State.setFrames_setFrames, hr]
      rfl
    have hsame : U.sameButNew ({ U with heap := s₂.heap, slotsUsed := s₂.slotsUsed } : State) L mc ms := by
      refine ⟨?_, q2, q3, q4, q5, q6⟩
      obtain ⟨t, ht, -⟩ := State.frames_cons hr
      show ({ U with heap := s₂.heap, slotsUsed := s₂.slotsUsed } : State) = { U.setFrames U.frames with heap := s₂.heap, slotsUsed := s₂.slotsUsed }
      rw [State.setFrames_self ht]
    subst hg
    refine Or.inr ⟨q, ⟨(({ U with heap := s₂.heap, slotsUsed := s₂.slotsUsed } : State).setVm s₂.vm), Ls ++ L, c0 + mc, s0 + ms⟩,
      ⟨X.admits, X.cas, X.clock, X.frames, X.room, X.hears, X.method, X.code, (X.here.setHeapUsed s₂.heap s₂.slotsUsed).setVm hW'.alike, X.tail, State.WarmedH.trans X.warmed hW', X.limits, X.bytes, X.same.trans (hsame.setVm s.vm)⟩,
      ⟨g, mk, s₂, L, E, ce, rfl, rfl, hx, hce, hcv, hcl, rfl, hL, rfl, rfl⟩, ?_⟩
    show Steps p.tables e below _ (((({ U with heap := s₂.heap, slotsUsed := s₂.slotsUsed } : State).setVm s₂.vm).setTop g).pushFrame (.throwing q))
    rw [← hs₂]
    exact hsteps
end
variable {p : Program} {l : Launch} {e : Env} {R : Room} {s : State} {m : MethodId} {args : Array Value} {below : List Frame} {meth : Method} {c : Code} {T : State} {H : Heap} {locs : List Loc} {cells slots : Nat}
theorem vx_callVX (X : Stand p l e R s m args below meth c T locs cells slots) (hexec : p.tables.exec = Jvm.exec) {own C : String} {index : Nat} {y : MethodName} {bytes : ByteArray} {maxL : Nat} {ret : Option FieldType} {hh : List (Nat × Nat × Nat × Nat)}
    (hown : s.vm.findClass own = some m.cls) (hlink : (Cond.methodLink own index y).before args s = true) (hinst : (Cond.instanceMethod y).before args s = true) (hsel : (Cond.selects C y y).before args s = true)
    (hcode : (Cond.codeWith y bytes maxL ret hh).before args s = true) (hy : y.cls ≠ "java/lang/invoke/MethodHandle" ∧ y.cls ≠ "java/lang/invoke/VarHandle")
    {W9 : Nat} {Pre : Pt → Array Value → Prop} {Post : Pt → Array Value → Option Value → Pt → Prop} {PostX : Pt → Array Value → Addr → Pt → Prop} (hK : vx_Back l R p e below s args y 3 W9 Pre Post PostX)
    {b : Addr} {cellB : Cell} (hcell : T.heap[b]? = some cellB) (hobj : cellB.vm.isStatics = false) (hcls : s.vm.findClass C = some cellB.cls)
    {g : JFrame} (hg : g.method = m) (hsize : g.locals.size = c.maxLocals) {argsL rest : List Value} (hlen : ∀ sig, parseMethodDescriptor y.desc = some sig → argsL.length = sig.parameters.length)
    (hstack : g.stack = argsL.reverse ++ .ref b :: rest) (hW : 2 * g.monitorRoom + (rest.map fun v => v.category).sum ≤ W9) (hdg : decode c.code g.pc = .ok (.invokevirtual index, 3))
    (hpre : ∀ vm₁, s.WarmedH vm₁ → Pre ⟨T.setVm vm₁, locs, cells, slots⟩ (Value.ref b :: argsL).toArray) :
    (∃ (v : Option Value) (vm₁ : Vm) (B : Pt), s.WarmedH vm₁ ∧ Stand p l e R s m args below meth c B.U B.locs B.cells B.slots ∧ Post ⟨T.setVm vm₁, locs, cells, slots⟩ (Value.ref b :: argsL).toArray v B ∧
      ∀ target, Steps p.tables e below (B.U.setTop { g with pc := g.pc + 3, stack := v.toList ++ rest }) target → Steps p.tables e below (T.setTop g) target) ∨
    (∃ (q : Addr) (vm₁ : Vm) (B : Pt), s.WarmedH vm₁ ∧ Stand p l e R s m args below meth c B.U B.locs B.cells B.slots ∧ PostX ⟨T.setVm vm₁, locs, cells, slots⟩ (Value.ref b :: argsL).toArray q B ∧
      Steps p.tables e below (T.setTop g) ((B.U.setTop { g with stack := rest }).pushFrame (.throwing q))) := by
  obtain ⟨mk, methM, hnamed, hmethM, hstM, habM⟩ := Cond.instanceMethod_spec hinst
  obtain ⟨m8, methM', cM, hn8, hmethM', -, -, -, -, -, -, hsigM⟩ := Cond.codeWith_spec hcode
  cases Option.some.inj (hn8.symm.trans hnamed)
  cases hmethM.symm.trans hmethM'
  obtain ⟨c2, r2, m2, q1, q2, q3, q4, kP, hkP, hkPi⟩ := Cond.selects_spec hsel
  cases hcls.symm.trans q1
  cases (State.methodFound?_of_named hnamed hy).symm.trans q2
  cases hnamed.symm.trans q3
  have hselP : selectMethod e.platform s.vm cellB.cls mk = .method mk := by rw [Launch.admits_selectMethod X.admits]; exact q4
  obtain ⟨vm₁, X₁, hstep₁⟩ := X.invokevirtual hexec hown hlink hnamed hmethM hstM hkP hkPi hy (a := b) (cell := cellB) hcell
    (fun z h => by rw [h] at hobj; cases hobj) hselP hmethM habM hkP hkPi (g := g) hg (argsL := argsL) (rest := rest) (hlen _ hsigM) hstack hdg
  rcases hK m meth c ⟨T.setVm vm₁, locs, cells, slots⟩ { g with stack := rest } (.invokevirtual index) mk (Value.ref b :: argsL).toArray X₁ hg hsize hdg hW (X₁.named hnamed) (hpre vm₁ X₁.warmed) with ⟨v, B, X', hpost, hsteps⟩ | ⟨q, B, X', hpost, hsteps⟩
  · exact Or.inl ⟨v, vm₁, B, X₁.warmed, X', hpost, fun target h => hstep₁ _ fun acts => by rw [doInvoke_state]; exact hsteps.trans h⟩
  · exact Or.inr ⟨q, vm₁, B, X₁.warmed, X', hpost, hstep₁ _ fun acts => by rw [doInvoke_state]; exact hsteps⟩
theorem vx_callSX (X : Stand p l e R s m args below meth c T locs cells slots) (hexec : p.tables.exec = Jvm.exec) {own : String} {index : Nat} {y : MethodName} {bytes : ByteArray} {maxL : Nat} {ret : Option FieldType} {hh : List (Nat × Nat × Nat × Nat)}
    (hown : s.vm.findClass own = some m.cls) (hlink : (Cond.methodLink own index y).before args s = true) (hstat : (Cond.static y).before args s = true) (hinit : (Cond.initialized y.cls).before args s = true)
    (hcode : (Cond.codeWith y bytes maxL ret hh).before args s = true) (hy : y.cls ≠ "java/lang/invoke/MethodHandle" ∧ y.cls ≠ "java/lang/invoke/VarHandle")
    {W9 : Nat} {Pre : Pt → Array Value → Prop} {Post : Pt → Array Value → Option Value → Pt → Prop} {PostX : Pt → Array Value → Addr → Pt → Prop} (hK : vx_Back l R p e below s args y 3 W9 Pre Post PostX)
    {g : JFrame} (hg : g.method = m) (hsize : g.locals.size = c.maxLocals) {argsL rest : List Value} (hlen : ∀ sig, parseMethodDescriptor y.desc = some sig → argsL.length = sig.parameters.length)
    (hstack : g.stack = argsL.reverse ++ rest) (hW : 2 * g.monitorRoom + (rest.map fun v => v.category).sum ≤ W9) (hdg : decode c.code g.pc = .ok (.invokestatic index, 3))
    (hpre : ∀ vm₁, s.WarmedH vm₁ → Pre ⟨T.setVm vm₁, locs, cells, slots⟩ argsL.toArray) :
    (∃ (v : Option Value) (vm₁ : Vm) (B : Pt), s.WarmedH vm₁ ∧ Stand p l e R s m args below meth c B.U B.locs B.cells B.slots ∧ Post ⟨T.setVm vm₁, locs, cells, slots⟩ argsL.toArray v B ∧
      ∀ target, Steps p.tables e below (B.U.setTop { g with pc := g.pc + 3, stack := v.toList ++ rest }) target → Steps p.tables e below (T.setTop g) target) ∨
    (∃ (q : Addr) (vm₁ : Vm) (B : Pt), s.WarmedH vm₁ ∧ Stand p l e R s m args below meth c B.U B.locs B.cells B.slots ∧ PostX ⟨T.setVm vm₁, locs, cells, slots⟩ argsL.toArray q B ∧
      Steps p.tables e below (T.setTop g) ((B.U.setTop { g with stack := rest }).pushFrame (.throwing q))) := by
  obtain ⟨mk, methM, cM, hnamed, hmethM, -, -, -, -, -, -, hsigM⟩ := Cond.codeWith_spec hcode
  have hstatic : methM.isStatic = true := Cond.static_spec hnamed hmethM hstat
  obtain ⟨kP, hkP, -⟩ := className_of_methodNamed hnamed
  have hinitP : kP.init = .initialized := Cond.initialized_spec (findClass_of_methodNamed hnamed) hkP hinit
  obtain ⟨vm₁, X₁, hstep₁⟩ := X.invokestatic hexec hown hlink hnamed hmethM hstatic hkP hinitP hy (g := g) hg (argsL := argsL) (rest := rest) (hlen _ hsigM) hstack hdg
  rcases hK m meth c ⟨T.setVm vm₁, locs, cells, slots⟩ { g with stack := rest } (.invokestatic index) mk argsL.toArray X₁ hg hsize hdg hW (X₁.named hnamed) (hpre vm₁ X₁.warmed) with ⟨v, B, X', hpost, hsteps⟩ | ⟨q, B, X', hpost, hsteps⟩
  · exact Or.inl ⟨v, vm₁, B, X₁.warmed, X', hpost, fun target h => hstep₁ _ fun acts => by rw [doInvoke_state]; exact hsteps.trans h⟩
  · exact Or.inr ⟨q, vm₁, B, X₁.warmed, X', hpost, hstep₁ _ fun acts => by rw [doInvoke_state]; exact hsteps⟩
theorem vx_callVW (X : Stand p l e R s m args below meth c T locs cells slots) (hexec : p.tables.exec = Jvm.exec) {own C : String} {index : Nat} {y : MethodName} {bytes : ByteArray} {maxL : Nat} {ret : Option FieldType} {hh : List (Nat × Nat × Nat × Nat)}
    (hown : s.vm.findClass own = some m.cls) (hlink : (Cond.methodLink own index y).before args s = true) (hinst : (Cond.instanceMethod y).before args s = true) (hsel : (Cond.selects C y y).before args s = true)
    (hcode : (Cond.codeWith y bytes maxL ret hh).before args s = true) (hy : y.cls ≠ "java/lang/invoke/MethodHandle" ∧ y.cls ≠ "java/lang/invoke/VarHandle")
    {W9 : Nat} {Pre : Pt → Array Value → Prop} {Post : Pt → Array Value → Option Value → Pt → Prop} (hK : Back l R p e below s args y 3 W9 Pre Post)
    {b : Addr} {cellB : Cell} (hcell : T.heap[b]? = some cellB) (hobj : cellB.vm.isStatics = false) (hcls : s.vm.findClass C = some cellB.cls)
    {g : JFrame} (hg : g.method = m) (hsize : g.locals.size = c.maxLocals) {argsL rest : List Value} (hlen : ∀ sig, parseMethodDescriptor y.desc = some sig → argsL.length = sig.parameters.length)
    (hstack : g.stack = argsL.reverse ++ .ref b :: rest) (hW : 2 * g.monitorRoom + (rest.map fun v => v.category).sum ≤ W9) (hdg : decode c.code g.pc = .ok (.invokevirtual index, 3))
    (hpre : ∀ vm₁, s.WarmedH vm₁ → Pre ⟨T.setVm vm₁, locs, cells, slots⟩ (Value.ref b :: argsL).toArray) :
    ∃ (v : Option Value) (vm₁ : Vm) (B : Pt), s.WarmedH vm₁ ∧ Stand p l e R s m args below meth c B.U B.locs B.cells B.slots ∧ Post ⟨T.setVm vm₁, locs, cells, slots⟩ (Value.ref b :: argsL).toArray v B ∧
      ∀ target, Steps p.tables e below (B.U.setTop { g with pc := g.pc + 3, stack := v.toList ++ rest }) target → Steps p.tables e below (T.setTop g) target := by
  obtain ⟨mk, methM, hnamed, hmethM, hstM, habM⟩ := Cond.instanceMethod_spec hinst
  obtain ⟨m8, methM', cM, hn8, hmethM', -, -, -, -, -, -, hsigM⟩ := Cond.codeWith_spec hcode
  cases Option.some.inj (hn8.symm.trans hnamed)
  cases hmethM.symm.trans hmethM'
  obtain ⟨c2, r2, m2, q1, q2, q3, q4, kP, hkP, hkPi⟩ := Cond.selects_spec hsel
  cases hcls.symm.trans q1
  cases (State.methodFound?_of_named hnamed hy).symm.trans q2
  cases hnamed.symm.trans q3
  have hselP : selectMethod e.platform s.vm cellB.cls mk = .method mk := by rw [Launch.admits_selectMethod X.admits]; exact q4
  obtain ⟨vm₁, X₁, hstep₁⟩ := X.invokevirtual hexec hown hlink hnamed hmethM hstM hkP hkPi hy (a := b) (cell := cellB) hcell
    (fun z h => by rw [h] at hobj; cases hobj) hselP hmethM habM hkP hkPi (g := g) hg (argsL := argsL) (rest := rest) (hlen _ hsigM) hstack hdg
  obtain ⟨v, B, X', hpost, hsteps⟩ := hK m meth c ⟨T.setVm vm₁, locs, cells, slots⟩ { g with stack := rest } (.invokevirtual index) mk (Value.ref b :: argsL).toArray X₁ hg hsize hdg hW (X₁.named hnamed) (hpre vm₁ X₁.warmed)
  exact ⟨v, vm₁, B, X₁.warmed, X', hpost, fun target h => hstep₁ _ fun acts => by rw [doInvoke_state]; exact hsteps.trans h⟩
abbrev vx_CVW (R : Room) (s : State) (args : Array Value) (own C : String) (index : Nat) (y : MethodName) (bytes : ByteArray) (maxL : Nat) (ret : Option FieldType) (hh : List (Nat × Nat × Nat × Nat)) (ws : List Cond) (rm : Room) (mc ms n : Nat) : Prop :=
  (rm.cells = mc ∧ rm.slots = ms ∧ rm.frames + 1 ≤ R.frames ∧ 8 + (maxL + 11) + rm.locals ≤ R.locals ∧ (∀ w ∈ ws, ∀ (a' : Array Value) (U : State), s.WarmedH U.vm → w.before a' U = true) ∧ Cond.codeWith y bytes maxL ret hh ∈ ws) ∧
  (Cond.codeWith y bytes maxL ret hh).before args s = true ∧ (Cond.initialized y.cls).before args s = true ∧ (y.cls ≠ "java/lang/invoke/MethodHandle" ∧ y.cls ≠ "java/lang/invoke/VarHandle") ∧
  (∀ sig, parseMethodDescriptor y.desc = some sig → n = sig.parameters.length) ∧ (Cond.methodLink own index y).before args s = true ∧ (Cond.instanceMethod y).before args s = true ∧ (Cond.selects C y y).before args s = true
theorem vx_cwVW {own C : String} {index maxL mc ms : Nat} {y : MethodName} {bytes : ByteArray} {ret : Option FieldType} {hh : List (Nat × Nat × Nat × Nat)} {Ts ws ws' : List Cond} {rm : Room} (n : Nat) (ht : ∀ w ∈ Ts, w.before args s = true) (hT : GoodIn Ts (wsV own index C y ws)) (hw : ws = Cond.codeWith y bytes maxL ret hh :: ws') (hrc : rm.cells = mc) (hrs : rm.slots = ms)
    (hd : y.cls = C ∧ y.cls ≠ "java/lang/invoke/MethodHandle" ∧ y.cls ≠ "java/lang/invoke/VarHandle" ∧ (parseMethodDescriptor y.desc).map (fun d => d.parameters.length) = some n) (hR : rm.frames + 1 ≤ R.frames ∧ 8 + (maxL + 11) + rm.locals ≤ R.locals) :
    vx_CVW R s args own C index y bytes maxL ret hh ws rm mc ms n := by
  obtain ⟨hC, hd⟩ := hd
  subst hC
  have ok : ∀ w ∈ wsV own index y.cls y ws, w.before args s = true := fun w h => ht w (hT w h).1
  have hG : GoodIn Ts ws := fun w h => hT w (by unfold wsV; exact List.mem_append_right _ h)
  have hc : Cond.codeWith y bytes maxL ret hh ∈ ws := by rw [hw]; exact List.mem_cons_self
  refine ⟨⟨hrc, hrs, hR.1, hR.2, pay_in ht hG, hc⟩, ht _ (hG _ hc).1, ok _ (by simp [wsV]), ⟨hd.1, hd.2.1⟩, fun sig h => ?_, ok _ (by simp [wsV]), ok _ (by simp [wsV]), ok _ (by simp [wsV])⟩
  have h2 := hd.2.2
  rw [h] at h2
  exact (Option.some.inj h2).symm
theorem vx_runVW {y : MethodName} {bytes cc : ByteArray} {maxL nL mc ms n index : Nat} {ret : Option FieldType} {hh : List (Nat × Nat × Nat × Nat)} {ws : List Cond} {rm : Room} {Pc : Array Value → State → Prop} {Qc : Array Value → State → Outcome → State → Prop} {free : Addr → Prop} {Ts : List Cond} {own C : String} {b : Addr} {As rest : List Value} {g : JFrame}
    (S : CallFix p m c cc nL s args Ts own) (hM : Met l y ws rm Pc Qc mc ms free) (cw : vx_CVW R s args own C index y bytes maxL ret hh ws rm mc ms n) (hp : PreV s H C b Pc As)
    (hg : g.method = m) (hn : As.length = n) (hsize : g.locals.size = nL) (hstack : g.stack = As.reverse ++ .ref b :: rest) (hW : 2 * g.monitorRoom + (rest.map fun v => v.category).sum ≤ 8) (hdg : decode cc g.pc = .ok (.invokevirtual index, 3)) (hf : cells + mc ≤ R.cells ∧ slots + ms ≤ R.slots) :
    va_Run p l e R s m args below meth c H locs cells slots mc ms g rest (Qc (Value.ref b :: As).toArray) free := by
  obtain ⟨⟨hrc, hrs, hfr, hlo, hws, hcw⟩, hcode, hini, hy, hlen, hl, hin, hse⟩ := cw
  have hK : Back l R p e below s args y 3 8 (PreOf R mc ms Pc) (PostOf Qc mc ms free) := va_backW (hh := hh) (bytes := bytes) (maxL := maxL) (ret := ret) hM hp.1 hrc hrs hfr hlo hws hcw (fun a' U hW => word_at hW (Or.inl (by first | rfl | simp [Cond.onTables, Cond.keeps, Cond.steady])) hini)
  obtain ⟨hx, hb, hml, ho, -⟩ := S
  obtain ⟨-, ⟨cellB, hcB, hoB, hclB⟩, hPc⟩ := hp
  intro T hT X
  obtain ⟨v, vm₁, ⟨U', l2, c2, s2⟩, hW₁, X', ⟨g', mk, t, L, e1, e2, hq, h1, hL, h2, h3⟩, st⟩ := vx_callVW X hx (C := C) (hh := hh) (bytes := bytes) (maxL := maxL) (ret := ret) ho hl hin hse hcode hy hK (by rw [hT]; exact hcB) hoB hclB hg (hsize.trans hml.symm) (argsL := As) (rest := rest) (fun sig h => hn.trans (hlen sig h)) hstack hW (by rw [hb]; exact hdg)
    (fun vm₁ hW₁ => ⟨hf.1, hf.2, hPc (T.setVm vm₁) hT hW₁⟩)
  dsimp only [Pt.U, Pt.locs, Pt.cells, Pt.slots] at X' e1 e2 h1 h2 h3 st
  subst h1; subst h2; subst h3
  exact ⟨v, (T.setVm vm₁).calling g' mk (Value.ref b :: As).toArray, t, U', L, hT, X', hL, e1, e2, hq, st⟩
section
variable {y : MethodName} {bytes cc : ByteArray} {maxL nL mc ms n index : Nat} {ret : Option FieldType} {ws : List Cond} {rm : Room} {Pc : Array Value → State → Prop} {Qc : Array Value → State → Outcome → State → Prop} {XC : String → State → State → Prop} {free : Addr → Prop} {Ts : List Cond} {own C : String} {b : Addr} {As rest : List Value} {g : JFrame}
theorem vx_runVX {hh : List (Nat × Nat × Nat × Nat)} (S : CallFix p m c cc nL s args Ts own) (hM : vx_Met l y ws rm Pc Qc XC mc ms free) (cw : vx_CVW R s args own C index y bytes maxL ret hh ws rm mc ms n) (hp : PreV s H C b Pc As)
    (hg : g.method = m) (hn : As.length = n) (hsize : g.locals.size = nL) (hstack : g.stack = As.reverse ++ .ref b :: rest) (hW : 2 * g.monitorRoom + (rest.map fun v => v.category).sum ≤ 8) (hdg : decode cc g.pc = .ok (.invokevirtual index, 3)) (hf : cells + mc ≤ R.cells ∧ slots + ms ≤ R.slots) :
    vx_Run p l e R s m args below meth c H locs cells slots mc ms g rest (Qc (Value.ref b :: As).toArray) XC free := by
  obtain ⟨⟨hrc, hrs, hfr, hlo, hws, hcw⟩, hcode, hini, hy, hlen, hl, hin, hse⟩ := cw
  have hK : vx_Back l R p e below s args y 3 8 (PreOf R mc ms Pc) (PostOf Qc mc ms free) (vx_Post XC mc ms free) := vx_backW (hh := hh) (bytes := bytes) (maxL := maxL) (ret := ret) hM hp.1 hrc hrs hfr hlo hws hcw (fun a' U hW => word_at hW (Or.inl (by first | rfl | simp [Cond.onTables, Cond.keeps, Cond.steady])) hini)
  obtain ⟨hx, hb, hml, ho, -⟩ := S
  obtain ⟨-, ⟨cellB, hcB, hoB, hclB⟩, hPc⟩ := hp
  intro T hT X
  rcases vx_callVX X hx (C := C) (hh := hh) (bytes := bytes) (maxL := maxL) (ret := ret) ho hl hin hse hcode hy hK (by rw [hT]; exact hcB) hoB hclB hg (hsize.trans hml.symm) (argsL := As) (rest := rest) (fun sig h => hn.trans (hlen sig h)) hstack hW (by rw [hb]; exact hdg)
    (fun vm₁ hW₁ => ⟨hf.1, hf.2, hPc (T.setVm vm₁) hT hW₁⟩) with ⟨v, vm₁, ⟨U', l2, c2, s2⟩, hW₁, X', ⟨g', mk, t, L, e1, e2, hq, h1, hL, h2, h3⟩, st⟩ | ⟨q, vm₁, ⟨U', l2, c2, s2⟩, hW₁, X', ⟨g', mk, t, L, E, ce, e1, e2, hq, hce, hcv, hcl, h1, hL, h2, h3⟩, st⟩
  · dsimp only [Pt.U, Pt.locs, Pt.cells, Pt.slots] at X' e1 e2 h1 h2 h3 st
    subst h1; subst h2; subst h3
    exact Or.inl ⟨v, (T.setVm vm₁).calling g' mk (Value.ref b :: As).toArray, t, U', L, hT, X', hL, e1, e2, hq, st⟩
  · dsimp only [Pt.U, Pt.locs, Pt.cells, Pt.slots] at X' e1 e2 h1 h2 h3 st hcl
    subst h1; subst h2; subst h3
    exact Or.inr ⟨q, (T.setVm vm₁).calling g' mk (Value.ref b :: As).toArray, t, U', L, E, ce, hT, X', hL, e1, e2, hq, hce, hcv, vx_cls hW₁ hcl, st⟩
theorem vx_runSX {hh : List (Nat × Nat × Nat × Nat)} (S : CallFix p m c cc nL s args Ts own) (hM : vx_Met l y ws rm Pc Qc XC mc ms free) (cw : vx_CSW R s args own index y bytes maxL ret hh ws rm mc ms n) (hp : PreS s H Pc As)
    (hg : g.method = m) (hn : As.length = n) (hsize : g.locals.size = nL) (hstack : g.stack = As.reverse ++ rest) (hW : 2 * g.monitorRoom + (rest.map fun v => v.category).sum ≤ 8) (hdg : decode cc g.pc = .ok (.invokestatic index, 3)) (hf : cells + mc ≤ R.cells ∧ slots + ms ≤ R.slots) :
    vx_Run p l e R s m args below meth c H locs cells slots mc ms g rest (Qc As.toArray) XC free := by
  obtain ⟨⟨hrc, hrs, hfr, hlo, hws, hcw⟩, hcode, hini, hy, hlen, hl, hstt⟩ := cw
  have hK : vx_Back l R p e below s args y 3 8 (PreOf R mc ms Pc) (PostOf Qc mc ms free) (vx_Post XC mc ms free) := vx_backW (hh := hh) (bytes := bytes) (maxL := maxL) (ret := ret) hM hp.1 hrc hrs hfr hlo hws hcw (fun a' U hW => word_at hW (Or.inl (by first | rfl | simp [Cond.onTables, Cond.keeps, Cond.steady])) hini)
  obtain ⟨hx, hb, hml, ho, -⟩ := S
  intro T hT X
  rcases vx_callSX X hx (hh := hh) (bytes := bytes) (maxL := maxL) (ret := ret) ho hl hstt hini hcode hy hK hg (hsize.trans hml.symm) (argsL := As) (rest := rest) (fun sig h => hn.trans (hlen sig h)) hstack hW (by rw [hb]; exact hdg)
    (fun vm₁ hW₁ => ⟨hf.1, hf.2, hp.2 (T.setVm vm₁) hT hW₁⟩) with ⟨v, vm₁, ⟨U', l2, c2, s2⟩, hW₁, X', ⟨g', mk, t, L, e1, e2, hq, h1, hL, h2, h3⟩, st⟩ | ⟨q, vm₁, ⟨U', l2, c2, s2⟩, hW₁, X', ⟨g', mk, t, L, E, ce, e1, e2, hq, hce, hcv, hcl, h1, hL, h2, h3⟩, st⟩
  · dsimp only [Pt.U, Pt.locs, Pt.cells, Pt.slots] at X' e1 e2 h1 h2 h3 st
    subst h1; subst h2; subst h3
    exact Or.inl ⟨v, (T.setVm vm₁).calling g' mk As.toArray, t, U', L, hT, X', hL, e1, e2, hq, st⟩
  · dsimp only [Pt.U, Pt.locs, Pt.cells, Pt.slots] at X' e1 e2 h1 h2 h3 st hcl
    subst h1; subst h2; subst h3
    exact Or.inr ⟨q, (T.setVm vm₁).calling g' mk As.toArray, t, U', L, E, ce, hT, X', hL, e1, e2, hq, hce, hcv, vx_cls hW₁ hcl, st⟩
end
end VXH
theorem vx_ofWH {l : Launch} {y : MethodName} {ws ws' : List Cond} {rm : Room} {Pc : Array Value → State → Prop} {Qc : Array Value → State → Outcome → State → Prop} {XC : String → State → State → Prop} {mc ms : Nat} {free : Addr → Prop} {cc : ByteArray} {maxL : Nat} {ret : Option FieldType} {hh : List (Nat × Nat × Nat × Nat)}
    (hy : plainName y.cls = true) (hw : ws = Cond.codeWith y cc maxL ret hh :: ws')
    (body : ∀ p e s m args below meth c s₁, BodyLoose p l y (headSpec ws rm) cc maxL ret e s m args below meth c s₁ → c.maxLocals = maxL → Pc args s →
      W p l e (headSpec ws rm).room s m args below meth c s.heap [] 0 0 (vx_MQ below Qc XC args s mc ms free) (entryFrame m args maxL)) : vx_Met l y ws rm Pc Qc XC mc ms free := by
  refine MetFree.of_bodyS (code := cc) (maxLocals := maxL) (ret := ret) hy ?_ ?_
  · intro args s m h hn
    obtain ⟨m9, meth, c, hn9, h1, h2, h3, h4, -, h5, h6, -⟩ := Cond.codeWith_spec (atoms_spec (ws := ws) h _ (by rw [hw]; exact List.mem_cons_self))
    cases hn.symm.trans hn9
    exact ⟨meth, c, h1, h2, h3, h4, h5, h6⟩
  · intro p e s m args below meth c s₁ B hml hP _
    have hh0 : s₁.heap = s.heap := by rw [B.state]; rfl
    obtain ⟨t, a1, o, b1, b2, b3⟩ := body p e s m args below meth c s₁ B hml hP s₁ hh0 (Stand.of_body B)
    exact ⟨t, o, a1, b1, b2, b3⟩
/-! ===== END ===== -/
end
section
/-! names out of the claim's printed names: classes, fields, codes -/
def RX0 : String := "GapSets$Blocks"
def TX0 : u_T := fun k => match k with
  | 0 => ("GapSets$Blocks", "starts", "[I", true)
  | 1 => ("GapSets$Blocks", "amount", "I", false)
  | _ => ("GapSets$Blocks", "members", "LGapSets$Members;", false)
def tyX0 : Nat → FieldType := fun k => match k with
  | 0 => .array .int
  | 1 => .int
  | _ => .object "GapSets$Members"
theorem nmX0 : ∀ a, a < 3 → ∀ b, b < 3 → a ≠ b → (TX0 a).2.1 ≠ (TX0 b).2.1 := by decide +kernel
theorem tyX0_ok : ∀ k, k < 3 → parseFieldDescriptor (TX0 k).2.2.1 = some (tyX0 k) := by decide +kernel
abbrev cX0_init : ByteArray := prog_2_method_1_code
def yX0_init : MethodName := ⟨RX0, "<init>", "()V"⟩
abbrev cX0_cut : ByteArray := prog_2_method_2_code
def yX0_cut : MethodName := ⟨RX0, "cut", "(LGapSets$State;I)I"⟩
abbrev cX0_amount : ByteArray := prog_2_method_3_code
def yX0_amount : MethodName := ⟨RX0, "amount", "()I"⟩
abbrev cX0_putStart : ByteArray := prog_2_method_4_code
def yX0_putStart : MethodName := ⟨RX0, "putStart", "(II)V"⟩
abbrev cX0_start : ByteArray := prog_2_method_5_code
def yX0_start : MethodName := ⟨RX0, "start", "(I)I"⟩
abbrev cX0_end : ByteArray := prog_2_method_6_code
def yX0_end : MethodName := ⟨RX0, "end", "(I)I"⟩
abbrev cX0_base : ByteArray := prog_2_method_7_code
def yX0_base : MethodName := ⟨RX0, "base", "(I)I"⟩
abbrev cX0_membersIn : ByteArray := prog_2_method_8_code
def yX0_membersIn : MethodName := ⟨RX0, "membersIn", "(I)I"⟩
abbrev cX0_greatestIn : ByteArray := prog_2_method_9_code
def yX0_greatestIn : MethodName := ⟨RX0, "greatestIn", "(I)I"⟩
abbrev cX0_bytesOf : ByteArray := prog_2_method_10_code
def yX0_bytesOf : MethodName := ⟨RX0, "bytesOf", "(I)I"⟩
abbrev cX0_greatestGapIn : ByteArray := prog_2_method_11_code
def yX0_greatestGapIn : MethodName := ⟨RX0, "greatestGapIn", "(I)I"⟩
abbrev cX0_wideGaps : ByteArray := prog_2_method_12_code
def yX0_wideGaps : MethodName := ⟨RX0, "wideGaps", "()I"⟩
abbrev cX0_blockAt : ByteArray := prog_2_method_13_code
def yX0_blockAt : MethodName := ⟨RX0, "blockAt", "(I)I"⟩
def RX1 : String := "GapSets$Buffer"
def TX1 : u_T := fun k => match k with
  | 0 => ("GapSets$Buffer", "codes", "[I", true)
  | _ => ("GapSets$Buffer", "length", "I", false)
def tyX1 : Nat → FieldType := fun k => match k with
  | 0 => .array .int
  | _ => .int
theorem nmX1 : ∀ a, a < 2 → ∀ b, b < 2 → a ≠ b → (TX1 a).2.1 ≠ (TX1 b).2.1 := by decide +kernel
theorem tyX1_ok : ∀ k, k < 2 → parseFieldDescriptor (TX1 k).2.2.1 = some (tyX1 k) := by decide +kernel
abbrev cX1_init : ByteArray := prog_3_method_1_code
def yX1_init : MethodName := ⟨RX1, "<init>", "()V"⟩
abbrev cX1_length : ByteArray := prog_3_method_2_code
def yX1_length : MethodName := ⟨RX1, "length", "()I"⟩
abbrev cX1_at : ByteArray := prog_3_method_3_code
def yX1_at : MethodName := ⟨RX1, "at", "(I)I"⟩
abbrev cX1_put : ByteArray := prog_3_method_4_code
def yX1_put : MethodName := ⟨RX1, "put", "(I)V"⟩
abbrev cX1_empty : ByteArray := prog_3_method_5_code
def yX1_empty : MethodName := ⟨RX1, "empty", "()V"⟩
def RX2 : String := "GapSets$History"
def TX2 : u_T := fun k => match k with
  | 0 => ("GapSets$History", "ring", "[LGapSets$State;", true)
  | 1 => ("GapSets$History", "next", "I", false)
  | _ => ("GapSets$History", "amount", "I", false)
def tyX2 : Nat → FieldType := fun k => match k with
  | 0 => .array (.object "GapSets$State")
  | 1 => .int
  | _ => .int
theorem nmX2 : ∀ a, a < 3 → ∀ b, b < 3 → a ≠ b → (TX2 a).2.1 ≠ (TX2 b).2.1 := by decide +kernel
theorem tyX2_ok : ∀ k, k < 3 → parseFieldDescriptor (TX2 k).2.2.1 = some (tyX2 k) := by decide +kernel
abbrev cX2_init : ByteArray := prog_4_method_1_code
def yX2_init : MethodName := ⟨RX2, "<init>", "()V"⟩
abbrev cX2_amount : ByteArray := prog_4_method_2_code
def yX2_amount : MethodName := ⟨RX2, "amount", "()I"⟩
abbrev cX2_save : ByteArray := prog_4_method_3_code
def yX2_save : MethodName := ⟨RX2, "save", "(LGapSets$State;)V"⟩
abbrev cX2_restore : ByteArray := prog_4_method_4_code
def yX2_restore : MethodName := ⟨RX2, "restore", "(LGapSets$State;)V"⟩
abbrev cX2_slotAt : ByteArray := prog_4_method_5_code
def yX2_slotAt : MethodName := ⟨RX2, "slotAt", "(I)LGapSets$State;"⟩
def RX3 : String := "GapSets$Leaper"
def TX3 : u_T := fun k => match k with
  | 0 => ("GapSets$Leaper", "blocks", "LGapSets$Blocks;", true)
  | 1 => ("GapSets$Leaper", "members", "LGapSets$Members;", false)
  | 2 => ("GapSets$Leaper", "place", "I", false)
  | 3 => ("GapSets$Leaper", "leaps", "I", false)
  | _ => ("GapSets$Leaper", "looks", "I", false)
def tyX3 : Nat → FieldType := fun k => match k with
  | 0 => .object "GapSets$Blocks"
  | 1 => .object "GapSets$Members"
  | 2 => .int
  | 3 => .int
  | _ => .int
theorem nmX3 : ∀ a, a < 5 → ∀ b, b < 5 → a ≠ b → (TX3 a).2.1 ≠ (TX3 b).2.1 := by decide +kernel
theorem tyX3_ok : ∀ k, k < 5 → parseFieldDescriptor (TX3 k).2.2.1 = some (tyX3 k) := by decide +kernel
abbrev cX3_init : ByteArray := prog_5_method_1_code
def yX3_init : MethodName := ⟨RX3, "<init>", "()V"⟩
abbrev cX3_begin : ByteArray := prog_5_method_2_code
def yX3_begin : MethodName := ⟨RX3, "begin", "(LGapSets$State;I)V"⟩
abbrev cX3_reached : ByteArray := prog_5_method_3_code
def yX3_reached : MethodName := ⟨RX3, "reached", "()I"⟩
abbrev cX3_allLeaps : ByteArray := prog_5_method_4_code
def yX3_allLeaps : MethodName := ⟨RX3, "allLeaps", "()I"⟩
abbrev cX3_allLooks : ByteArray := prog_5_method_5_code
def yX3_allLooks : MethodName := ⟨RX3, "allLooks", "()I"⟩
abbrev cX3_steps : ByteArray := prog_5_method_6_code
def yX3_steps : MethodName := ⟨RX3, "steps", "()Z"⟩
abbrev cX3_leapsTo : ByteArray := prog_5_method_7_code
def yX3_leapsTo : MethodName := ⟨RX3, "leapsTo", "(I)Z"⟩
abbrev cX3_lookForBlock : ByteArray := prog_5_method_8_code
def yX3_lookForBlock : MethodName := ⟨RX3, "lookForBlock", "(I)I"⟩
def RX4 : String := "GapSets$Meeting"
def TX4 : u_T := fun k => match k with
  | 0 => ("GapSets$Meeting", "first", "LGapSets$Leaper;", true)
  | 1 => ("GapSets$Meeting", "second", "LGapSets$Leaper;", true)
  | _ => ("GapSets$Meeting", "common", "I", false)
def tyX4 : Nat → FieldType := fun k => match k with
  | 0 => .object "GapSets$Leaper"
  | 1 => .object "GapSets$Leaper"
  | _ => .int
theorem nmX4 : ∀ a, a < 3 → ∀ b, b < 3 → a ≠ b → (TX4 a).2.1 ≠ (TX4 b).2.1 := by decide +kernel
theorem tyX4_ok : ∀ k, k < 3 → parseFieldDescriptor (TX4 k).2.2.1 = some (tyX4 k) := by decide +kernel
abbrev cX4_init : ByteArray := prog_6_method_1_code
def yX4_init : MethodName := ⟨RX4, "<init>", "()V"⟩
abbrev cX4_run : ByteArray := prog_6_method_2_code
def yX4_run : MethodName := ⟨RX4, "run", "(LGapSets$State;II)V"⟩
abbrev cX4_result : ByteArray := prog_6_method_3_code
def yX4_result : MethodName := ⟨RX4, "result", "(I)I"⟩
def RX5 : String := "GapSets$Members"
def TX5 : u_T := fun k => match k with
  | 0 => ("GapSets$Members", "numbers", "[I", true)
  | _ => ("GapSets$Members", "amount", "I", false)
def tyX5 : Nat → FieldType := fun k => match k with
  | 0 => .array .int
  | _ => .int
theorem nmX5 : ∀ a, a < 2 → ∀ b, b < 2 → a ≠ b → (TX5 a).2.1 ≠ (TX5 b).2.1 := by decide +kernel
theorem tyX5_ok : ∀ k, k < 2 → parseFieldDescriptor (TX5 k).2.2.1 = some (tyX5 k) := by decide +kernel
abbrev cX5_init : ByteArray := prog_7_method_1_code
def yX5_init : MethodName := ⟨RX5, "<init>", "(I)V"⟩
abbrev cX5_amount : ByteArray := prog_7_method_2_code
def yX5_amount : MethodName := ⟨RX5, "amount", "()I"⟩
abbrev cX5_isEmpty : ByteArray := prog_7_method_3_code
def yX5_isEmpty : MethodName := ⟨RX5, "isEmpty", "()Z"⟩
abbrev cX5_at : ByteArray := prog_7_method_4_code
def yX5_at : MethodName := ⟨RX5, "at", "(I)I"⟩
abbrev cX5_least : ByteArray := prog_7_method_5_code
def yX5_least : MethodName := ⟨RX5, "least", "()I"⟩
abbrev cX5_greatest : ByteArray := prog_7_method_6_code
def yX5_greatest : MethodName := ⟨RX5, "greatest", "()I"⟩
abbrev cX5_gapAhead : ByteArray := prog_7_method_7_code
def yX5_gapAhead : MethodName := ⟨RX5, "gapAhead", "(I)I"⟩
abbrev cX5_placeOf : ByteArray := prog_7_method_8_code
def yX5_placeOf : MethodName := ⟨RX5, "placeOf", "(I)I"⟩
abbrev cX5_holds : ByteArray := prog_7_method_9_code
def yX5_holds : MethodName := ⟨RX5, "holds", "(I)Z"⟩
abbrev cX5_nearestTo : ByteArray := prog_7_method_10_code
def yX5_nearestTo : MethodName := ⟨RX5, "nearestTo", "(I)I"⟩
abbrev cX5_longestRow : ByteArray := prog_7_method_11_code
def yX5_longestRow : MethodName := ⟨RX5, "longestRow", "()I"⟩
abbrev cX5_isLike : ByteArray := prog_7_method_12_code
def yX5_isLike : MethodName := ⟨RX5, "isLike", "(LGapSets$Members;)Z"⟩
abbrev cX5_beginsBlock : ByteArray := prog_7_method_13_code
def yX5_beginsBlock : MethodName := ⟨RX5, "beginsBlock", "(IIII)Z"⟩
abbrev cX5_bytes : ByteArray := prog_7_method_14_code
def yX5_bytes : MethodName := ⟨RX5, "bytes", "(II)I"⟩
abbrev cX5_empty : ByteArray := prog_7_method_15_code
def yX5_empty : MethodName := ⟨RX5, "empty", "()V"⟩
abbrev cX5_put : ByteArray := prog_7_method_16_code
def yX5_put : MethodName := ⟨RX5, "put", "(I)V"⟩
abbrev cX5_cutOut : ByteArray := prog_7_method_17_code
def yX5_cutOut : MethodName := ⟨RX5, "cutOut", "(II)I"⟩
abbrev cX5_moveBy : ByteArray := prog_7_method_18_code
def yX5_moveBy : MethodName := ⟨RX5, "moveBy", "(I)V"⟩
abbrev cX5_copyFrom : ByteArray := prog_7_method_19_code
def yX5_copyFrom : MethodName := ⟨RX5, "copyFrom", "(LGapSets$Members;)V"⟩
def RX6 : String := "GapSets$Parser"
def TX6 : u_T := fun k => match k with
  | 0 => ("GapSets$Parser", "firsts", "[I", true)
  | 1 => ("GapSets$Parser", "lasts", "[I", true)
  | 2 => ("GapSets$Parser", "parts", "I", false)
  | 3 => ("GapSets$Parser", "isRange", "Z", false)
  | 4 => ("GapSets$Parser", "first", "I", false)
  | 5 => ("GapSets$Parser", "least", "I", false)
  | 6 => ("GapSets$Parser", "value", "I", false)
  | _ => ("GapSets$Parser", "digits", "I", false)
def tyX6 : Nat → FieldType := fun k => match k with
  | 0 => .array .int
  | 1 => .array .int
  | 2 => .int
  | 3 => .boolean
  | 4 => .int
  | 5 => .int
  | 6 => .int
  | _ => .int
theorem nmX6 : ∀ a, a < 8 → ∀ b, b < 8 → a ≠ b → (TX6 a).2.1 ≠ (TX6 b).2.1 := by decide +kernel
theorem tyX6_ok : ∀ k, k < 8 → parseFieldDescriptor (TX6 k).2.2.1 = some (tyX6 k) := by decide +kernel
abbrev cX6_init : ByteArray := prog_8_method_1_code
def yX6_init : MethodName := ⟨RX6, "<init>", "()V"⟩
abbrev cX6_parse : ByteArray := prog_8_method_2_code
def yX6_parse : MethodName := ⟨RX6, "parse", "(LGapSets$Buffer;)I"⟩
abbrev cX6_parsesWhole : ByteArray := prog_8_method_3_code
def yX6_parsesWhole : MethodName := ⟨RX6, "parsesWhole", "(LGapSets$Buffer;)Z"⟩
abbrev cX6_amount : ByteArray := prog_8_method_4_code
def yX6_amount : MethodName := ⟨RX6, "amount", "()I"⟩
abbrev cX6_fill : ByteArray := prog_8_method_5_code
def yX6_fill : MethodName := ⟨RX6, "fill", "(LGapSets$Members;)V"⟩
abbrev cX6_restart : ByteArray := prog_8_method_6_code
def yX6_restart : MethodName := ⟨RX6, "restart", "()V"⟩
abbrev cX6_beginNumber : ByteArray := prog_8_method_7_code
def yX6_beginNumber : MethodName := ⟨RX6, "beginNumber", "(I)V"⟩
abbrev cX6_takes : ByteArray := prog_8_method_8_code
def yX6_takes : MethodName := ⟨RX6, "takes", "(I)Z"⟩
abbrev cX6_takesComma : ByteArray := prog_8_method_9_code
def yX6_takesComma : MethodName := ⟨RX6, "takesComma", "()Z"⟩
abbrev cX6_takesDash : ByteArray := prog_8_method_10_code
def yX6_takesDash : MethodName := ⟨RX6, "takesDash", "()Z"⟩
abbrev cX6_takesDigit : ByteArray := prog_8_method_11_code
def yX6_takesDigit : MethodName := ⟨RX6, "takesDigit", "(I)Z"⟩
abbrev cX6_isWhole : ByteArray := prog_8_method_12_code
def yX6_isWhole : MethodName := ⟨RX6, "isWhole", "()Z"⟩
abbrev cX6_closePart : ByteArray := prog_8_method_13_code
def yX6_closePart : MethodName := ⟨RX6, "closePart", "()V"⟩
abbrev cX6_greatestFrom : ByteArray := prog_8_method_14_code
def yX6_greatestFrom : MethodName := ⟨RX6, "greatestFrom", "(II)I"⟩
def RX7 : String := "GapSets$State"
def TX7 : u_T := fun k => match k with
  | 0 => ("GapSets$State", "sets", "[LGapSets$Members;", true)
  | 1 => ("GapSets$State", "noSet", "LGapSets$Members;", true)
  | _ => ("GapSets$State", "settings", "[I", true)
def tyX7 : Nat → FieldType := fun k => match k with
  | 0 => .array (.object "GapSets$Members")
  | 1 => .object "GapSets$Members"
  | _ => .array .int
theorem nmX7 : ∀ a, a < 3 → ∀ b, b < 3 → a ≠ b → (TX7 a).2.1 ≠ (TX7 b).2.1 := by decide +kernel
theorem tyX7_ok : ∀ k, k < 3 → parseFieldDescriptor (TX7 k).2.2.1 = some (tyX7 k) := by decide +kernel
abbrev cX7_init : ByteArray := prog_9_method_1_code
def yX7_init : MethodName := ⟨RX7, "<init>", "()V"⟩
abbrev cX7_members : ByteArray := prog_9_method_2_code
def yX7_members : MethodName := ⟨RX7, "members", "(I)LGapSets$Members;"⟩
abbrev cX7_valueOf : ByteArray := prog_9_method_3_code
def yX7_valueOf : MethodName := ⟨RX7, "valueOf", "(I)I"⟩
abbrev cX7_change : ByteArray := prog_9_method_4_code
def yX7_change : MethodName := ⟨RX7, "change", "(II)V"⟩
abbrev cX7_copyFrom : ByteArray := prog_9_method_5_code
def yX7_copyFrom : MethodName := ⟨RX7, "copyFrom", "(LGapSets$State;)V"⟩
def RX8 : String := "GapSets"
def TX8 : u_T := fun k => match k with
  | 0 => ("GapSets", "now", "LGapSets$State;", true)
  | 1 => ("GapSets", "history", "LGapSets$History;", true)
  | 2 => ("GapSets", "buffer", "LGapSets$Buffer;", true)
  | 3 => ("GapSets", "parser", "LGapSets$Parser;", true)
  | 4 => ("GapSets", "blocks", "LGapSets$Blocks;", true)
  | 5 => ("GapSets", "meeting", "LGapSets$Meeting;", true)
  | 6 => ("GapSets", "trial", "LGapSets$Members;", true)
  | _ => ("GapSets", "widths", "LGapSets$Members;", true)
def tyX8 : Nat → FieldType := fun k => match k with
  | 0 => .object "GapSets$State"
  | 1 => .object "GapSets$History"
  | 2 => .object "GapSets$Buffer"
  | 3 => .object "GapSets$Parser"
  | 4 => .object "GapSets$Blocks"
  | 5 => .object "GapSets$Meeting"
  | 6 => .object "GapSets$Members"
  | _ => .object "GapSets$Members"
theorem nmX8 : ∀ a, a < 8 → ∀ b, b < 8 → a ≠ b → (TX8 a).2.1 ≠ (TX8 b).2.1 := by decide +kernel
theorem tyX8_ok : ∀ k, k < 8 → parseFieldDescriptor (TX8 k).2.2.1 = some (tyX8 k) := by decide +kernel
abbrev cX8_init : ByteArray := prog_1_method_1_code
def yX8_init : MethodName := ⟨RX8, "<init>", "()V"⟩
abbrev cX8_add : ByteArray := prog_1_method_2_code
def yX8_add : MethodName := ⟨RX8, "add", "(II)I"⟩
abbrev cX8_remove : ByteArray := prog_1_method_3_code
def yX8_remove : MethodName := ⟨RX8, "remove", "(II)I"⟩
abbrev cX8_removeRange : ByteArray := prog_1_method_4_code
def yX8_removeRange : MethodName := ⟨RX8, "removeRange", "(III)I"⟩
abbrev cX8_shift : ByteArray := prog_1_method_5_code
def yX8_shift : MethodName := ⟨RX8, "shift", "(II)I"⟩
abbrev cX8_combine : ByteArray := prog_1_method_6_code
def yX8_combine : MethodName := ⟨RX8, "combine", "(IIII)I"⟩
abbrev cX8_set : ByteArray := prog_1_method_7_code
def yX8_set : MethodName := ⟨RX8, "set", "(II)I"⟩
abbrev cX8_append : ByteArray := prog_1_method_8_code
def yX8_append : MethodName := ⟨RX8, "append", "(I)I"⟩
abbrev cX8_clearBuffer : ByteArray := prog_1_method_9_code
def yX8_clearBuffer : MethodName := ⟨RX8, "clearBuffer", "()I"⟩
abbrev cX8_firstError : ByteArray := prog_1_method_10_code
def yX8_firstError : MethodName := ⟨RX8, "firstError", "()I"⟩
abbrev cX8_read : ByteArray := prog_1_method_11_code
def yX8_read : MethodName := ⟨RX8, "read", "(I)I"⟩
abbrev cX8_undo : ByteArray := prog_1_method_12_code
def yX8_undo : MethodName := ⟨RX8, "undo", "()I"⟩
abbrev cX8_has : ByteArray := prog_1_method_13_code
def yX8_has : MethodName := ⟨RX8, "has", "(II)I"⟩
abbrev cX8_member : ByteArray := prog_1_method_14_code
def yX8_member : MethodName := ⟨RX8, "member", "(II)I"⟩
abbrev cX8_less : ByteArray := prog_1_method_15_code
def yX8_less : MethodName := ⟨RX8, "less", "(II)I"⟩
abbrev cX8_nearest : ByteArray := prog_1_method_16_code
def yX8_nearest : MethodName := ⟨RX8, "nearest", "(II)I"⟩
abbrev cX8_block : ByteArray := prog_1_method_17_code
def yX8_block : MethodName := ⟨RX8, "block", "(III)I"⟩
abbrev cX8_of : ByteArray := prog_1_method_18_code
def yX8_of : MethodName := ⟨RX8, "of", "(II)I"⟩
abbrev cX8_leaps : ByteArray := prog_1_method_19_code
def yX8_leaps : MethodName := ⟨RX8, "leaps", "(III)I"⟩
abbrev cX8_count : ByteArray := prog_1_method_20_code
def yX8_count : MethodName := ⟨RX8, "count", "(I)I"⟩
abbrev cX8_setting : ByteArray := prog_1_method_21_code
def yX8_setting : MethodName := ⟨RX8, "setting", "(I)I"⟩
abbrev cX8_ifSet : ByteArray := prog_1_method_22_code
def yX8_ifSet : MethodName := ⟨RX8, "ifSet", "(III)I"⟩
abbrev cX8_ifAdded : ByteArray := prog_1_method_23_code
def yX8_ifAdded : MethodName := ⟨RX8, "ifAdded", "(II)I"⟩
abbrev cX8_dearest : ByteArray := prog_1_method_24_code
def yX8_dearest : MethodName := ⟨RX8, "dearest", "(II)I"⟩
abbrev cX8_bestWidth : ByteArray := prog_1_method_25_code
def yX8_bestWidth : MethodName := ⟨RX8, "bestWidth", "()I"⟩
abbrev cX8_smallness : ByteArray := prog_1_method_26_code
def yX8_smallness : MethodName := ⟨RX8, "smallness", "()D"⟩
abbrev cX8_digest : ByteArray := prog_1_method_27_code
def yX8_digest : MethodName := ⟨RX8, "digest", "()J"⟩
abbrev cX8_requireSet : ByteArray := prog_1_method_28_code
def yX8_requireSet : MethodName := ⟨RX8, "requireSet", "(I)V"⟩
abbrev cX8_requireSetting : ByteArray := prog_1_method_29_code
def yX8_requireSetting : MethodName := ⟨RX8, "requireSetting", "(I)V"⟩
abbrev cX8_requireNumber : ByteArray := prog_1_method_30_code
def yX8_requireNumber : MethodName := ⟨RX8, "requireNumber", "(I)V"⟩
abbrev cX8_requireArgument : ByteArray := prog_1_method_31_code
def yX8_requireArgument : MethodName := ⟨RX8, "requireArgument", "(Z)V"⟩
abbrev cX8_requireState : ByteArray := prog_1_method_32_code
def yX8_requireState : MethodName := ⟨RX8, "requireState", "(Z)V"⟩
abbrev cX8_isMost : ByteArray := prog_1_method_33_code
def yX8_isMost : MethodName := ⟨RX8, "isMost", "(I)Z"⟩
abbrev cX8_isWidth : ByteArray := prog_1_method_34_code
def yX8_isWidth : MethodName := ⟨RX8, "isWidth", "(I)Z"⟩
abbrev cX8_joinInto : ByteArray := prog_1_method_35_code
def yX8_joinInto : MethodName := ⟨RX8, "joinInto", "(LGapSets$Members;LGapSets$Members;LGapSets$Members;I)V"⟩
abbrev cX8_sizeOf : ByteArray := prog_1_method_36_code
def yX8_sizeOf : MethodName := ⟨RX8, "sizeOf", "(LGapSets$Members;)I"⟩
abbrev cX8_allMembers : ByteArray := prog_1_method_37_code
def yX8_allMembers : MethodName := ⟨RX8, "allMembers", "()I"⟩
abbrev cX8_unlikeMembers : ByteArray := prog_1_method_38_code
def yX8_unlikeMembers : MethodName := ⟨RX8, "unlikeMembers", "()I"⟩
abbrev cX8_membersOfAllFour : ByteArray := prog_1_method_39_code
def yX8_membersOfAllFour : MethodName := ⟨RX8, "membersOfAllFour", "()I"⟩
abbrev cX8_holdersAhead : ByteArray := prog_1_method_40_code
def yX8_holdersAhead : MethodName := ⟨RX8, "holdersAhead", "(II)I"⟩
abbrev cX8_allSizes : ByteArray := prog_1_method_41_code
def yX8_allSizes : MethodName := ⟨RX8, "allSizes", "(I)I"⟩
abbrev cX8_allBlocks : ByteArray := prog_1_method_42_code
def yX8_allBlocks : MethodName := ⟨RX8, "allBlocks", "()I"⟩
abbrev cX8_pairsAlike : ByteArray := prog_1_method_43_code
def yX8_pairsAlike : MethodName := ⟨RX8, "pairsAlike", "()I"⟩
abbrev cX8_gatherWidths : ByteArray := prog_1_method_44_code
def yX8_gatherWidths : MethodName := ⟨RX8, "gatherWidths", "()V"⟩
abbrev cX8_mix : ByteArray := prog_1_method_45_code
def yX8_mix : MethodName := ⟨RX8, "mix", "(JJ)J"⟩
abbrev cX8_mixMembers : ByteArray := prog_1_method_46_code
def yX8_mixMembers : MethodName := ⟨RX8, "mixMembers", "(JI)J"⟩
abbrev cX8_mixBlocks : ByteArray := prog_1_method_47_code
def yX8_mixBlocks : MethodName := ⟨RX8, "mixBlocks", "(JI)J"⟩
abbrev cX8_mixLooks : ByteArray := prog_1_method_48_code
def yX8_mixLooks : MethodName := ⟨RX8, "mixLooks", "(JI)J"⟩
abbrev cX8_mixBuffer : ByteArray := prog_1_method_49_code
def yX8_mixBuffer : MethodName := ⟨RX8, "mixBuffer", "(J)J"⟩
abbrev cX8_bitsOf : ByteArray := prog_1_method_50_code
def yX8_bitsOf : MethodName := ⟨RX8, "bitsOf", "(D)J"⟩
abbrev cX8_gapBytes : ByteArray := prog_1_method_51_code
def yX8_gapBytes : MethodName := ⟨RX8, "gapBytes", "(I)I"⟩
def RX9 : String := "GapSetsModel"
def TX9 : u_T := fun k => match k with
  | 0 => ("GapSetsModel", "z", "[I", true)
  | 1 => ("GapSetsModel", "states", "I", false)
  | 2 => ("GapSetsModel", "history", "[I", true)
  | 3 => ("GapSetsModel", "length", "I", false)
  | 4 => ("GapSetsModel", "text", "[I", true)
  | 5 => ("GapSetsModel", "thrown", "I", false)
  | 6 => ("GapSetsModel", "row", "[I", true)
  | 7 => ("GapSetsModel", "rowMany", "I", false)
  | 8 => ("GapSetsModel", "starts", "[I", true)
  | 9 => ("GapSetsModel", "blocks", "I", false)
  | 10 => ("GapSetsModel", "parts", "[I", true)
  | 11 => ("GapSetsModel", "read", "I", false)
  | 12 => ("GapSetsModel", "number", "I", false)
  | 13 => ("GapSetsModel", "bound", "I", false)
  | 14 => ("GapSetsModel", "isSecond", "Z", false)
  | 15 => ("GapSetsModel", "blockAt", "[I", true)
  | 16 => ("GapSetsModel", "told", "[I", true)
  | _ => ("GapSetsModel", "hash", "J", false)
def tyX9 : Nat → FieldType := fun k => match k with
  | 0 => .array .int
  | 1 => .int
  | 2 => .array .int
  | 3 => .int
  | 4 => .array .int
  | 5 => .int
  | 6 => .array .int
  | 7 => .int
  | 8 => .array .int
  | 9 => .int
  | 10 => .array .int
  | 11 => .int
  | 12 => .int
  | 13 => .int
  | 14 => .boolean
  | 15 => .array .int
  | 16 => .array .int
  | _ => .long
theorem nmX9 : ∀ a, a < 18 → ∀ b, b < 18 → a ≠ b → (TX9 a).2.1 ≠ (TX9 b).2.1 := by decide +kernel
theorem tyX9_ok : ∀ k, k < 18 → parseFieldDescriptor (TX9 k).2.2.1 = some (tyX9 k) := by decide +kernel
abbrev cX9_init : ByteArray := prog_11_method_1_code
def yX9_init : MethodName := ⟨RX9, "<init>", "()V"⟩
abbrev cX9_thrown : ByteArray := prog_11_method_2_code
def yX9_thrown : MethodName := ⟨RX9, "thrown", "()I"⟩
abbrev cX9_within : ByteArray := prog_11_method_3_code
def yX9_within : MethodName := ⟨RX9, "within", "(III)Z"⟩
abbrev cX9_save : ByteArray := prog_11_method_4_code
def yX9_save : MethodName := ⟨RX9, "save", "()V"⟩
abbrev cX9_isSet : ByteArray := prog_11_method_5_code
def yX9_isSet : MethodName := ⟨RX9, "isSet", "(I)Z"⟩
abbrev cX9_isNumber : ByteArray := prog_11_method_6_code
def yX9_isNumber : MethodName := ⟨RX9, "isNumber", "(I)Z"⟩
abbrev cX9_many : ByteArray := prog_11_method_7_code
def yX9_many : MethodName := ⟨RX9, "many", "(I)I"⟩
abbrev cX9_at : ByteArray := prog_11_method_8_code
def yX9_at : MethodName := ⟨RX9, "at", "(II)I"⟩
abbrev cX9_lessThan : ByteArray := prog_11_method_9_code
def yX9_lessThan : MethodName := ⟨RX9, "lessThan", "(II)I"⟩
abbrev cX9_isMember : ByteArray := prog_11_method_10_code
def yX9_isMember : MethodName := ⟨RX9, "isMember", "(II)Z"⟩
abbrev cX9_takeRow : ByteArray := prog_11_method_11_code
def yX9_takeRow : MethodName := ⟨RX9, "takeRow", "(I)V"⟩
abbrev cX9_layRow : ByteArray := prog_11_method_12_code
def yX9_layRow : MethodName := ⟨RX9, "layRow", "(I)V"⟩
abbrev cX9_layBlocks : ByteArray := prog_11_method_13_code
def yX9_layBlocks : MethodName := ⟨RX9, "layBlocks", "(II)V"⟩
abbrev cX9_blocksOf : ByteArray := prog_11_method_14_code
def yX9_blocksOf : MethodName := ⟨RX9, "blocksOf", "(I)V"⟩
abbrev cX9_bytesOf : ByteArray := prog_11_method_15_code
def yX9_bytesOf : MethodName := ⟨RX9, "bytesOf", "(I)I"⟩
abbrev cX9_bytes : ByteArray := prog_11_method_16_code
def yX9_bytes : MethodName := ⟨RX9, "bytes", "()I"⟩
abbrev cX9_sizeBy : ByteArray := prog_11_method_17_code
def yX9_sizeBy : MethodName := ⟨RX9, "sizeBy", "(III)I"⟩
abbrev cX9_sizeOf : ByteArray := prog_11_method_18_code
def yX9_sizeOf : MethodName := ⟨RX9, "sizeOf", "(I)I"⟩
abbrev cX9_insert : ByteArray := prog_11_method_19_code
def yX9_insert : MethodName := ⟨RX9, "insert", "(II)V"⟩
abbrev cX9_add : ByteArray := prog_11_method_20_code
def yX9_add : MethodName := ⟨RX9, "add", "(II)I"⟩
abbrev cX9_takeAway : ByteArray := prog_11_method_21_code
def yX9_takeAway : MethodName := ⟨RX9, "takeAway", "(III)I"⟩
abbrev cX9_remove : ByteArray := prog_11_method_22_code
def yX9_remove : MethodName := ⟨RX9, "remove", "(II)I"⟩
abbrev cX9_removeRange : ByteArray := prog_11_method_23_code
def yX9_removeRange : MethodName := ⟨RX9, "removeRange", "(III)I"⟩
abbrev cX9_leastOf : ByteArray := prog_11_method_24_code
def yX9_leastOf : MethodName := ⟨RX9, "leastOf", "(I)I"⟩
abbrev cX9_greatestOf : ByteArray := prog_11_method_25_code
def yX9_greatestOf : MethodName := ⟨RX9, "greatestOf", "(I)I"⟩
abbrev cX9_canShift : ByteArray := prog_11_method_26_code
def yX9_canShift : MethodName := ⟨RX9, "canShift", "(II)Z"⟩
abbrev cX9_shift : ByteArray := prog_11_method_27_code
def yX9_shift : MethodName := ⟨RX9, "shift", "(II)I"⟩
abbrev cX9_belongs : ByteArray := prog_11_method_28_code
def yX9_belongs : MethodName := ⟨RX9, "belongs", "(ZZI)Z"⟩
abbrev cX9_layCombined : ByteArray := prog_11_method_29_code
def yX9_layCombined : MethodName := ⟨RX9, "layCombined", "(III)V"⟩
abbrev cX9_combine : ByteArray := prog_11_method_30_code
def yX9_combine : MethodName := ⟨RX9, "combine", "(IIII)I"⟩
abbrev cX9_isMost : ByteArray := prog_11_method_31_code
def yX9_isMost : MethodName := ⟨RX9, "isMost", "(I)Z"⟩
abbrev cX9_isWidth : ByteArray := prog_11_method_32_code
def yX9_isWidth : MethodName := ⟨RX9, "isWidth", "(I)Z"⟩
abbrev cX9_set : ByteArray := prog_11_method_33_code
def yX9_set : MethodName := ⟨RX9, "set", "(II)I"⟩
abbrev cX9_append : ByteArray := prog_11_method_34_code
def yX9_append : MethodName := ⟨RX9, "append", "(I)I"⟩
abbrev cX9_clearBuffer : ByteArray := prog_11_method_35_code
def yX9_clearBuffer : MethodName := ⟨RX9, "clearBuffer", "()I"⟩
abbrev cX9_greatestFrom : ByteArray := prog_11_method_36_code
def yX9_greatestFrom : MethodName := ⟨RX9, "greatestFrom", "(I)I"⟩
abbrev cX9_takesDigit : ByteArray := prog_11_method_37_code
def yX9_takesDigit : MethodName := ⟨RX9, "takesDigit", "(I)Z"⟩
abbrev cX9_isEnded : ByteArray := prog_11_method_38_code
def yX9_isEnded : MethodName := ⟨RX9, "isEnded", "()Z"⟩
abbrev cX9_endNumber : ByteArray := prog_11_method_39_code
def yX9_endNumber : MethodName := ⟨RX9, "endNumber", "()V"⟩
abbrev cX9_takes : ByteArray := prog_11_method_40_code
def yX9_takes : MethodName := ⟨RX9, "takes", "(I)Z"⟩
abbrev cX9_rightUpTo : ByteArray := prog_11_method_41_code
def yX9_rightUpTo : MethodName := ⟨RX9, "rightUpTo", "()I"⟩
abbrev cX9_firstError : ByteArray := prog_11_method_42_code
def yX9_firstError : MethodName := ⟨RX9, "firstError", "()I"⟩
abbrev cX9_toldMany : ByteArray := prog_11_method_43_code
def yX9_toldMany : MethodName := ⟨RX9, "toldMany", "()I"⟩
abbrev cX9_read : ByteArray := prog_11_method_44_code
def yX9_read : MethodName := ⟨RX9, "read", "(I)I"⟩
abbrev cX9_undo : ByteArray := prog_11_method_45_code
def yX9_undo : MethodName := ⟨RX9, "undo", "()I"⟩
abbrev cX9_has : ByteArray := prog_11_method_46_code
def yX9_has : MethodName := ⟨RX9, "has", "(II)I"⟩
abbrev cX9_member : ByteArray := prog_11_method_47_code
def yX9_member : MethodName := ⟨RX9, "member", "(II)I"⟩
abbrev cX9_less : ByteArray := prog_11_method_48_code
def yX9_less : MethodName := ⟨RX9, "less", "(II)I"⟩
abbrev cX9_nearestTo : ByteArray := prog_11_method_49_code
def yX9_nearestTo : MethodName := ⟨RX9, "nearestTo", "(II)I"⟩
abbrev cX9_nearest : ByteArray := prog_11_method_50_code
def yX9_nearest : MethodName := ⟨RX9, "nearest", "(II)I"⟩
abbrev cX9_greatestGap : ByteArray := prog_11_method_51_code
def yX9_greatestGap : MethodName := ⟨RX9, "greatestGap", "(I)I"⟩
abbrev cX9_blockNow : ByteArray := prog_11_method_52_code
def yX9_blockNow : MethodName := ⟨RX9, "blockNow", "(III)I"⟩
abbrev cX9_block : ByteArray := prog_11_method_53_code
def yX9_block : MethodName := ⟨RX9, "block", "(III)I"⟩
abbrev cX9_longestRun : ByteArray := prog_11_method_54_code
def yX9_longestRun : MethodName := ⟨RX9, "longestRun", "(I)I"⟩
abbrev cX9_wideGaps : ByteArray := prog_11_method_55_code
def yX9_wideGaps : MethodName := ⟨RX9, "wideGaps", "(I)I"⟩
abbrev cX9_blockCount : ByteArray := prog_11_method_56_code
def yX9_blockCount : MethodName := ⟨RX9, "blockCount", "(I)I"⟩
abbrev cX9_setNow : ByteArray := prog_11_method_57_code
def yX9_setNow : MethodName := ⟨RX9, "setNow", "(II)I"⟩
abbrev cX9_of : ByteArray := prog_11_method_58_code
def yX9_of : MethodName := ⟨RX9, "of", "(II)I"⟩
abbrev cX9_leap : ByteArray := prog_11_method_59_code
def yX9_leap : MethodName := ⟨RX9, "leap", "(III)I"⟩
abbrev cX9_blockWith : ByteArray := prog_11_method_60_code
def yX9_blockWith : MethodName := ⟨RX9, "blockWith", "(II)I"⟩
abbrev cX9_goThrough : ByteArray := prog_11_method_61_code
def yX9_goThrough : MethodName := ⟨RX9, "goThrough", "(II)V"⟩
abbrev cX9_leapsNow : ByteArray := prog_11_method_62_code
def yX9_leapsNow : MethodName := ⟨RX9, "leapsNow", "(III)I"⟩
abbrev cX9_leaps : ByteArray := prog_11_method_63_code
def yX9_leaps : MethodName := ⟨RX9, "leaps", "(III)I"⟩
abbrev cX9_setsWith : ByteArray := prog_11_method_64_code
def yX9_setsWith : MethodName := ⟨RX9, "setsWith", "(II)I"⟩
abbrev cX9_membersOfAll : ByteArray := prog_11_method_65_code
def yX9_membersOfAll : MethodName := ⟨RX9, "membersOfAll", "(Z)I"⟩
abbrev cX9_sumOf : ByteArray := prog_11_method_66_code
def yX9_sumOf : MethodName := ⟨RX9, "sumOf", "(I)I"⟩
abbrev cX9_areAlike : ByteArray := prog_11_method_67_code
def yX9_areAlike : MethodName := ⟨RX9, "areAlike", "(II)Z"⟩
abbrev cX9_alikePairs : ByteArray := prog_11_method_68_code
def yX9_alikePairs : MethodName := ⟨RX9, "alikePairs", "()I"⟩
abbrev cX9_counted : ByteArray := prog_11_method_69_code
def yX9_counted : MethodName := ⟨RX9, "counted", "(I)I"⟩
abbrev cX9_count : ByteArray := prog_11_method_70_code
def yX9_count : MethodName := ⟨RX9, "count", "(I)I"⟩
abbrev cX9_setting : ByteArray := prog_11_method_71_code
def yX9_setting : MethodName := ⟨RX9, "setting", "(I)I"⟩
abbrev cX9_ifSet : ByteArray := prog_11_method_72_code
def yX9_ifSet : MethodName := ⟨RX9, "ifSet", "(III)I"⟩
abbrev cX9_addedThen : ByteArray := prog_11_method_73_code
def yX9_addedThen : MethodName := ⟨RX9, "addedThen", "(II)I"⟩
abbrev cX9_ifAdded : ByteArray := prog_11_method_74_code
def yX9_ifAdded : MethodName := ⟨RX9, "ifAdded", "(II)I"⟩
abbrev cX9_sizeWithout : ByteArray := prog_11_method_75_code
def yX9_sizeWithout : MethodName := ⟨RX9, "sizeWithout", "(II)I"⟩
abbrev cX9_dearestNow : ByteArray := prog_11_method_76_code
def yX9_dearestNow : MethodName := ⟨RX9, "dearestNow", "(II)I"⟩
abbrev cX9_dearest : ByteArray := prog_11_method_77_code
def yX9_dearest : MethodName := ⟨RX9, "dearest", "(II)I"⟩
abbrev cX9_sizesBy : ByteArray := prog_11_method_78_code
def yX9_sizesBy : MethodName := ⟨RX9, "sizesBy", "(I)I"⟩
abbrev cX9_bestNow : ByteArray := prog_11_method_79_code
def yX9_bestNow : MethodName := ⟨RX9, "bestNow", "()I"⟩
abbrev cX9_bestWidth : ByteArray := prog_11_method_80_code
def yX9_bestWidth : MethodName := ⟨RX9, "bestWidth", "()I"⟩
abbrev cX9_small : ByteArray := prog_11_method_81_code
def yX9_small : MethodName := ⟨RX9, "small", "()D"⟩
abbrev cX9_smallness : ByteArray := prog_11_method_82_code
def yX9_smallness : MethodName := ⟨RX9, "smallness", "()D"⟩
abbrev cX9_mix : ByteArray := prog_11_method_83_code
def yX9_mix : MethodName := ⟨RX9, "mix", "(J)V"⟩
abbrev cX9_mixSet : ByteArray := prog_11_method_84_code
def yX9_mixSet : MethodName := ⟨RX9, "mixSet", "(I)V"⟩
abbrev cX9_digest : ByteArray := prog_11_method_85_code
def yX9_digest : MethodName := ⟨RX9, "digest", "()J"⟩
def RL : String := "GapSetsLaw"
abbrev cL_add : ByteArray := method_3_code
def yL_add : MethodName := ⟨RL, "add", "(LGapSets;II[J)I"⟩
abbrev cL_remove : ByteArray := method_4_code
def yL_remove : MethodName := ⟨RL, "remove", "(LGapSets;II[J)I"⟩
abbrev cL_removeRange : ByteArray := method_5_code
def yL_removeRange : MethodName := ⟨RL, "removeRange", "(LGapSets;III[J)I"⟩
abbrev cL_shift : ByteArray := method_6_code
def yL_shift : MethodName := ⟨RL, "shift", "(LGapSets;II[J)I"⟩
abbrev cL_combine : ByteArray := method_7_code
def yL_combine : MethodName := ⟨RL, "combine", "(LGapSets;IIII[J)I"⟩
abbrev cL_set : ByteArray := method_8_code
def yL_set : MethodName := ⟨RL, "set", "(LGapSets;II[J)I"⟩
abbrev cL_append : ByteArray := method_9_code
def yL_append : MethodName := ⟨RL, "append", "(LGapSets;I[J)I"⟩
abbrev cL_read : ByteArray := method_10_code
def yL_read : MethodName := ⟨RL, "read", "(LGapSets;I[J)I"⟩
abbrev cL_undo : ByteArray := method_11_code
def yL_undo : MethodName := ⟨RL, "undo", "(LGapSets;[J)I"⟩
abbrev cL_has : ByteArray := method_12_code
def yL_has : MethodName := ⟨RL, "has", "(LGapSets;II[J)I"⟩
abbrev cL_member : ByteArray := method_13_code
def yL_member : MethodName := ⟨RL, "member", "(LGapSets;II[J)I"⟩
abbrev cL_less : ByteArray := method_14_code
def yL_less : MethodName := ⟨RL, "less", "(LGapSets;II[J)I"⟩
abbrev cL_nearest : ByteArray := method_15_code
def yL_nearest : MethodName := ⟨RL, "nearest", "(LGapSets;II[J)I"⟩
abbrev cL_block : ByteArray := method_16_code
def yL_block : MethodName := ⟨RL, "block", "(LGapSets;III[J)I"⟩
abbrev cL_of : ByteArray := method_17_code
def yL_of : MethodName := ⟨RL, "of", "(LGapSets;II[J)I"⟩
abbrev cL_leaps : ByteArray := method_18_code
def yL_leaps : MethodName := ⟨RL, "leaps", "(LGapSets;III[J)I"⟩
abbrev cL_count : ByteArray := method_19_code
def yL_count : MethodName := ⟨RL, "count", "(LGapSets;I[J)I"⟩
abbrev cL_setting : ByteArray := method_20_code
def yL_setting : MethodName := ⟨RL, "setting", "(LGapSets;I[J)I"⟩
abbrev cL_ifSet : ByteArray := method_21_code
def yL_ifSet : MethodName := ⟨RL, "ifSet", "(LGapSets;III[J)I"⟩
abbrev cL_ifAdded : ByteArray := method_22_code
def yL_ifAdded : MethodName := ⟨RL, "ifAdded", "(LGapSets;II[J)I"⟩
abbrev cL_dearest : ByteArray := method_23_code
def yL_dearest : MethodName := ⟨RL, "dearest", "(LGapSets;II[J)I"⟩
abbrev cL_law : ByteArray := code
def yL_law : MethodName := ⟨RL, "law", "([I)Z"⟩
abbrev vwCl : List vw_C := [(RX0, TX0, 3), (RX1, TX1, 2), (RX2, TX2, 3), (RX3, TX3, 5), (RX4, TX4, 3), (RX5, TX5, 2), (RX6, TX6, 8), (RX7, TX7, 3), (RX8, TX8, 8), (RX9, TX9, 18)]
end
section
/-! J: a method's frame over an abstract memory (addresses to objects and arrays, ints as integers); every row is one of the kit's rows -/
def iN (z : Int) : Int32 := Int32.ofInt z
def vI (z : Int) : Value := .int (iN z)
abbrev R32 (z : Int) : Prop := -2147483648 ≤ z ∧ z ≤ 2147483647
theorem iN_toInt {z : Int} (h : R32 z) : (iN z).toInt = z := by
  unfold iN
  rw [Int32.toInt_ofInt]
  show z.bmod (2 ^ 32) = z
  rw [Int.bmod_eq_of_le (by omega) (by omega)]
theorem iN_of (x : Int32) : x = iN x.toInt := (Int32.ofInt_toInt x).symm
theorem r32_of (x : Int32) : R32 x.toInt := by
  have h1 := Int32.le_toInt x
  have h2 := Int32.toInt_lt x
  constructor <;> omega
theorem iN_add (x y : Int) : iN x + iN y = iN (x + y) := (Int32.ofInt_add x y).symm
theorem iN_sub (x y : Int) : iN x - iN y = iN (x - y) := (Int32.ofInt_sub x y).symm
theorem iN_mul (x y : Int) : iN x * iN y = iN (x * y) := (Int32.ofInt_mul x y).symm
theorem iN_lt {x y : Int} (hx : R32 x) (hy : R32 y) : iN x < iN y ↔ x < y := by rw [Int32.lt_iff_toInt_lt, iN_toInt hx, iN_toInt hy]
theorem iN_le {x y : Int} (hx : R32 x) (hy : R32 y) : iN x ≤ iN y ↔ x ≤ y := by rw [Int32.le_iff_toInt_le, iN_toInt hx, iN_toInt hy]
theorem iN_eq {x y : Int} (hx : R32 x) (hy : R32 y) : iN x = iN y ↔ x = y := by rw [← Int32.toInt_inj, iN_toInt hx, iN_toInt hy]
theorem iN_0 : iN 0 = 0 := rfl
theorem iN_clamp {z : Int} (h : R32 z) : (iN z).toNatClampNeg = z.toNat := by
  have h1 := iN_toInt h
  show (iN z).toInt.toNat = z.toNat
  rw [h1]
theorem iN_in {z : Int} {n : Nat} (h0 : 0 ≤ z) (h1 : z < n) (h2 : R32 z) : vp_in (iN z) n := by
  refine vp_in_iff.mpr ?_
  rw [iN_toInt h2]
  exact ⟨h0, h1⟩
/-- abstract contents: an object, an int array, a long array, an array of references, the script -/
abbrev AC : Type := (Nat × List Value) ⊕ ((Nat × (Int → Int)) ⊕ ((Nat × (Int → Int64)) ⊕ ((Nat × (Nat × (Int → Option Nat))) ⊕ (Nat × (Int → Int)))))
def oC (ci : Nat) (fs : List Value) : AC := .inl (ci, fs)
def aI (n : Nat) (f : Int → Int) : AC := .inr (.inl (n, f))
def aL (n : Nat) (f : Int → Int64) : AC := .inr (.inr (.inl (n, f)))
def aR (ci n : Nat) (f : Int → Option Nat) : AC := .inr (.inr (.inr (.inl (ci, n, f))))
def aS (n : Nat) (f : Int → Int) : AC := .inr (.inr (.inr (.inr (n, f))))
abbrev Mem : Type := Nat → Option AC
def up (M : Mem) (a : Nat) (x : AC) : Mem := fun b => if b = a then some x else M b
def uI {α : Type} (f : Int → α) (i : Int) (x : α) : Int → α := fun j => if j = i then x else f j
theorem up_s (M : Mem) (a : Nat) (x : AC) : up M a x a = some x := by simp [up]
theorem up_n {M : Mem} {a b : Nat} (x : AC) (h : b ≠ a) : up M a x b = M b := by simp [up, h]
def Rl (ws : va_W) (tys : List (ClassId × FieldType)) (s : State) (H : Heap) (B a : Nat) : AC → Prop
  | .inl (ci, fs) => ∃ k : Nat, ws[k]? = some (a, .inr (ci, fs))
  | .inr (.inl (n, f)) => ∃ (k t0 : Nat) (cA : ClassId), ws[k]? = some (a, .inl (cA, n, .inl (fun j => iN (f j)))) ∧ tys[t0]? = some (cA, .int)
  | .inr (.inr (.inl (n, f))) => ∃ (k t0 : Nat) (cA : ClassId), ws[k]? = some (a, .inl (cA, n, .inr (.inl (fun j => f j)))) ∧ tys[t0]? = some (cA, .long)
  | .inr (.inr (.inr (.inl (ci, n, f)))) => ∃ (k t0 : Nat) (cA : ClassId) (r : vw_C), ws[k]? = some (a, .inl (cA, n, .inr (.inr (.inr (.inr (fun j => f j)))))) ∧ tys[t0]? = some (cA, .object r.1) ∧ vwCl[ci]? = some r
  | .inr (.inr (.inr (.inr (n, f)))) => va_X a n (fun j => iN (f j)) s H ∧ a < B
/-- the heap H, seen from the tables of s, holds the memory M, at addresses from B on (the script below it) -/
def Wd (D : va_G) (B : Nat) (s : State) (H : Heap) (M : Mem) : Prop :=
  ∃ (ws : va_W) (tys : List (ClassId × FieldType)), va_P D vwCl ws H ∧ va_K D vwCl tys s ∧ va_D (fun q => B ≤ q) ws ∧ ∀ (a : Nat) (x : AC), M a = some x → Rl ws tys s H B a x
theorem Rl.moved {ws : va_W} {tys : List (ClassId × FieldType)} {s t : State} {H H1 : Heap} {B a : Nat} {x : AC} (hvm : s.vm.Alike t.vm) (hH : ∀ q, q < B → H1[q]? = H[q]?) (h : Rl ws tys s H B a x) : Rl ws tys t H1 B a x := by
  match x, h with
  | .inl _, h => exact h
  | .inr (.inl _), h => exact h
  | .inr (.inr (.inl _)), h => exact h
  | .inr (.inr (.inr (.inl _))), h => exact h
  | .inr (.inr (.inr (.inr (n, f)))), h => exact ⟨(va_X.moved hvm h.1).kept (hH a h.2), h.2⟩
theorem Wd.moved {D : va_G} {B : Nat} {s t : State} {H : Heap} {M : Mem} (hvm : s.vm.Alike t.vm) (h : Wd D B s H M) : Wd D B t H M := by
  obtain ⟨ws, tys, hP, hK, hD, hR⟩ := h
  exact ⟨ws, tys, hP, va_K.moved hvm hK, hD, fun a x hx => (hR a x hx).moved hvm (fun _ _ => rfl)⟩
theorem Wd.less {D : va_G} {B : Nat} {s : State} {H : Heap} {M M' : Mem} (hM : ∀ a x, M' a = some x → M a = some x) (h : Wd D B s H M) : Wd D B s H M' := by
  obtain ⟨ws, tys, hP, hK, hD, hR⟩ := h
  exact ⟨ws, tys, hP, hK, hD, fun a x hx => hR a x (hM a x hx)⟩
/-- the words that every method may use -/
def lw_g : List Cond := lw_tbl.filter goodWord
theorem lw_gin {w : Cond} (i : Nat) (h : lw_tbl[i]? = some w) (g : goodWord w = true) : w ∈ lw_g := List.mem_filter.mpr ⟨List.mem_of_getElem? h, g⟩
theorem lw_gg : GoodIn lw_g lw_g := fun _ h => ⟨h, good_of_word (List.mem_filter.mp h).2⟩
/-- a method: name, code, locals, type, handlers, frames and words of locals below it -/
abbrev Kp : Type := MethodName × (ByteArray × (Nat × (Option FieldType × (List (Nat × Nat × Nat × Nat) × (Nat × Nat)))))
abbrev kY (κ : Kp) : MethodName := κ.1
abbrev kC (κ : Kp) : ByteArray := κ.2.1
abbrev kL (κ : Kp) : Nat := κ.2.2.1
abbrev kR (κ : Kp) : Option FieldType := κ.2.2.2.1
abbrev kH (κ : Kp) : List (Nat × Nat × Nat × Nat) := κ.2.2.2.2.1
abbrev kF (κ : Kp) : Nat := κ.2.2.2.2.2.1
abbrev kV (κ : Kp) : Nat := κ.2.2.2.2.2.2
def wc (κ : Kp) : Cond := if (kH κ).isEmpty = true then .code (kY κ) (kC κ) (kL κ) (kR κ) else .codeWith (kY κ) (kC κ) (kL κ) (kR κ) (kH κ)
abbrev wsOf (κ : Kp) : List Cond := wc κ :: lw_g
def rmOf (κ : Kp) (bc bs : Nat) : Room := { frames := kF κ, cells := bc, slots := bs, locals := kV κ }
/-- what two statics of Throwable are, as a throw asks -/
def Zt (B : Nat) (s : State) : Prop := vx_Zq Bundle.tN "UNASSIGNED_STACK" Bundle.steD (fun q => B ≤ q) s s.heap ∧ vx_Zq Bundle.tN "SUPPRESSED_SENTINEL" Bundle.listD (fun q => B ≤ q) s s.heap ∧ va_AO "GapSets$Members" s ∧ va_AO "GapSets$State" s ∧ va_Nw (.methodLinkNest "GapSets$Members" 48 ⟨"GapSets", "gapBytes", "(I)I"⟩ "GapSets") s ∧ va_Nw (.methodLinkNest "GapSets$Blocks" 60 ⟨"GapSets", "gapBytes", "(I)I"⟩ "GapSets") s
def Cx (κ : Kp) (p : Program) (l : Launch) (s : State) (m : MethodId) (args : Array Value) (meth : Method) (c : Code) : Prop :=
  p.tables.exec = Jvm.exec ∧ c.code = kC κ ∧ meth.sig.returnType = kR κ ∧ c.maxLocals = kL κ ∧ s.vm.findClass (kY κ).cls = some m.cls ∧ (∀ w ∈ lw_g, w.before args s = true) ∧ meth.locks = false ∧ c.exceptionTable.toList = tableOf (kH κ) ∧ l.stackTraces = false ∧ meth.name = (kY κ).name
/-- locals: the newest entry of a place counts; none: not known -/
abbrev Ls : Type := List (Nat × Option Value)
def lk (L : Ls) (i : Nat) : Option Value := (L.lookup i).join
def Lc (ls : Array Slot) (nL : Nat) (L : Ls) : Prop := ls.size = nL ∧ lv_wf ls ∧ ∀ (i : Nat) (v : Value), lk L i = some v → ls[i]? = some (.val v)
/-- no value of two words is cut by a store at i -/
def okS (L : Ls) (i : Nat) : Bool := match i with
  | 0 => true
  | j + 1 => match lk L j with
    | some w => w.category == 1
    | none => false
abbrev Rs : Type := Option Value ⊕ String
def qR (D : va_G) (B : Nat) (Q : Rs → Mem → Prop) : Array Value → State → Outcome → State → Prop := fun _ st o t => (∃ (v : Option Value) (M' : Mem), o = .returned v ∧ Q (.inl v) M' ∧ Wd D B t t.heap M') ∧ va_F (fun q => B ≤ q) st t
def qX (D : va_G) (B : Nat) (Q : Rs → Mem → Prop) : String → State → State → Prop := fun E st t => ∃ M' : Mem, Q (.inr E) M' ∧ Wd D B t t.heap M' ∧ va_F (fun q => B ≤ q) st t
def Pic (D : va_G) (B : Nat) (M : Mem) (U : State) : Prop := B ≤ U.heap.size ∧ Zt B U ∧ Wd D B U U.heap M
/-- the contract of a method on these arguments over this memory, with bc cells of bs slots at most: Q says of the answer (or the exception) and the memory then -/
def Ct (κ : Kp) (args : List Value) (M : Mem) (bc bs : Nat) (Q : Rs → Mem → Prop) : Prop :=
  ∀ (l : Launch) (D : va_G) (B : Nat), l.stackTraces = false → vx_Met l (kY κ) (wsOf κ) (rmOf κ bc bs) (va_Pc args (Pic D B M)) (qR D B Q) (qX D B Q) bc bs (fun q => B ≤ q)
def J (κ : Kp) (bc bs : Nat) (Q : Rs → Mem → Prop) (pc : Nat) (L : Ls) (st : List Value) (M : Mem) (k n : Nat) : Prop :=
  ∀ (p : Program) (l : Launch) (e : Env) (s : State) (m : MethodId) (args : Array Value) (below : List Frame) (meth : Method) (c : Code) (H : Heap) (locs : List Loc) (ls : Array Slot) (D : va_G) (B : Nat),
    Cx κ p l s m args meth c → B ≤ s.heap.size → Zt B s → Wd D B s H M → va_S (fun q => B ≤ q) s.heap H locs → Lc ls (kL κ) L →
    W p l e (rmOf κ bc bs) s m args below meth c H locs k n (vx_MQ below (qR D B Q) (qX D B Q) args s bc bs (fun q => B ≤ q)) (F0 m pc ls st)
abbrev Dc (κ : Kp) (pc : Nat) (i : Instr) (len : Nat) : Prop := decode (kC κ) pc = .ok (i, len)

theorem r_iconst {κ : Kp} {bc bs : Nat} {Q : Rs → Mem → Prop} {pc : Nat} {L : Ls} {st : List Value} {M : Mem} {k n : Nat} {z : Int} (d : Dc κ pc (.iconst z) 1)  (kk : J κ bc bs Q (pc + 1) L (vI z :: st) M k n) : J κ bc bs Q (pc) L (st) M k n := by
  intro p l e s m args below meth c H locs ls D B hc hB hZ hW hS hL
  obtain ⟨hx, hb, hr, hml, hown, hts, hlo, htab, hfl, hnm⟩ := id hc
  refine lv_iconst (v := iN z) hx hb d rfl ?_
  exact kk p l e s m args below meth c H locs ls D B hc hB hZ hW hS hL

theorem r_bipush {κ : Kp} {bc bs : Nat} {Q : Rs → Mem → Prop} {pc : Nat} {L : Ls} {st : List Value} {M : Mem} {k n : Nat} {z : Int} (d : Dc κ pc (.bipush z) 2) (h : (Int8.ofInt z).toInt32 = iN z) (kk : J κ bc bs Q (pc + 2) L (vI z :: st) M k n) : J κ bc bs Q (pc) L (st) M k n := by
  intro p l e s m args below meth c H locs ls D B hc hB hZ hW hS hL
  obtain ⟨hx, hb, hr, hml, hown, hts, hlo, htab, hfl, hnm⟩ := id hc
  refine lv_bipush (v := iN z) hx hb d h ?_
  exact kk p l e s m args below meth c H locs ls D B hc hB hZ hW hS hL

theorem r_sipush {κ : Kp} {bc bs : Nat} {Q : Rs → Mem → Prop} {pc : Nat} {L : Ls} {st : List Value} {M : Mem} {k n : Nat} {z : Int} (d : Dc κ pc (.sipush z) 3) (h : (Int16.ofInt z).toInt32 = iN z) (kk : J κ bc bs Q (pc + 3) L (vI z :: st) M k n) : J κ bc bs Q (pc) L (st) M k n := by
  intro p l e s m args below meth c H locs ls D B hc hB hZ hW hS hL
  obtain ⟨hx, hb, hr, hml, hown, hts, hlo, htab, hfl, hnm⟩ := id hc
  refine lv_sipush (v := iN z) hx hb d h ?_
  exact kk p l e s m args below meth c H locs ls D B hc hB hZ hW hS hL

theorem r_iadd {κ : Kp} {bc bs : Nat} {Q : Rs → Mem → Prop} {pc : Nat} {L : Ls} {st : List Value} {M : Mem} {k n : Nat} {x y : Int} (d : Dc κ pc (.iadd) 1)  (kk : J κ bc bs Q (pc + 1) L (vI (x + y) :: st) M k n) : J κ bc bs Q (pc) L (vI y :: vI x :: st) M k n := by
  intro p l e s m args below meth c H locs ls D B hc hB hZ hW hS hL
  obtain ⟨hx, hb, hr, hml, hown, hts, hlo, htab, hfl, hnm⟩ := id hc
  refine lv_iadd (x := iN x) (y := iN y) hx hb d ?_
  rw [iN_add]
  exact kk p l e s m args below meth c H locs ls D B hc hB hZ hW hS hL

theorem r_isub {κ : Kp} {bc bs : Nat} {Q : Rs → Mem → Prop} {pc : Nat} {L : Ls} {st : List Value} {M : Mem} {k n : Nat} {x y : Int} (d : Dc κ pc (.isub) 1)  (kk : J κ bc bs Q (pc + 1) L (vI (x - y) :: st) M k n) : J κ bc bs Q (pc) L (vI y :: vI x :: st) M k n := by
  intro p l e s m args below meth c H locs ls D B hc hB hZ hW hS hL
  obtain ⟨hx, hb, hr, hml, hown, hts, hlo, htab, hfl, hnm⟩ := id hc
  refine lv_isub (x := iN x) (y := iN y) hx hb d ?_
  rw [iN_sub]
  exact kk p l e s m args below meth c H locs ls D B hc hB hZ hW hS hL

theorem r_imul {κ : Kp} {bc bs : Nat} {Q : Rs → Mem → Prop} {pc : Nat} {L : Ls} {st : List Value} {M : Mem} {k n : Nat} {x y : Int} (d : Dc κ pc (.imul) 1)  (kk : J κ bc bs Q (pc + 1) L (vI (x * y) :: st) M k n) : J κ bc bs Q (pc) L (vI y :: vI x :: st) M k n := by
  intro p l e s m args below meth c H locs ls D B hc hB hZ hW hS hL
  obtain ⟨hx, hb, hr, hml, hown, hts, hlo, htab, hfl, hnm⟩ := id hc
  refine lv_imul (x := iN x) (y := iN y) hx hb d ?_
  rw [iN_mul]
  exact kk p l e s m args below meth c H locs ls D B hc hB hZ hW hS hL

theorem r_ladd {κ : Kp} {bc bs : Nat} {Q : Rs → Mem → Prop} {pc : Nat} {L : Ls} {st : List Value} {M : Mem} {k n : Nat} {x y : Int64} (d : Dc κ pc (.ladd) 1)  (kk : J κ bc bs Q (pc + 1) L (.long (x + y) :: st) M k n) : J κ bc bs Q (pc) L (.long y :: .long x :: st) M k n := by
  intro p l e s m args below meth c H locs ls D B hc hB hZ hW hS hL
  obtain ⟨hx, hb, hr, hml, hown, hts, hlo, htab, hfl, hnm⟩ := id hc
  refine lv_ladd hx hb d ?_
  exact kk p l e s m args below meth c H locs ls D B hc hB hZ hW hS hL

theorem r_lsub {κ : Kp} {bc bs : Nat} {Q : Rs → Mem → Prop} {pc : Nat} {L : Ls} {st : List Value} {M : Mem} {k n : Nat} {x y : Int64} (d : Dc κ pc (.lsub) 1)  (kk : J κ bc bs Q (pc + 1) L (.long (x - y) :: st) M k n) : J κ bc bs Q (pc) L (.long y :: .long x :: st) M k n := by
  intro p l e s m args below meth c H locs ls D B hc hB hZ hW hS hL
  obtain ⟨hx, hb, hr, hml, hown, hts, hlo, htab, hfl, hnm⟩ := id hc
  refine lv_lsub hx hb d ?_
  exact kk p l e s m args below meth c H locs ls D B hc hB hZ hW hS hL

theorem r_lmul {κ : Kp} {bc bs : Nat} {Q : Rs → Mem → Prop} {pc : Nat} {L : Ls} {st : List Value} {M : Mem} {k n : Nat} {x y : Int64} (d : Dc κ pc (.lmul) 1)  (kk : J κ bc bs Q (pc + 1) L (.long (x * y) :: st) M k n) : J κ bc bs Q (pc) L (.long y :: .long x :: st) M k n := by
  intro p l e s m args below meth c H locs ls D B hc hB hZ hW hS hL
  obtain ⟨hx, hb, hr, hml, hown, hts, hlo, htab, hfl, hnm⟩ := id hc
  refine lv_lmul hx hb d ?_
  exact kk p l e s m args below meth c H locs ls D B hc hB hZ hW hS hL

theorem r_lshl {κ : Kp} {bc bs : Nat} {Q : Rs → Mem → Prop} {pc : Nat} {L : Ls} {st : List Value} {M : Mem} {k n : Nat} {x : Int64} {y : Int} (d : Dc κ pc (.lshl) 1)  (kk : J κ bc bs Q (pc + 1) L (.long (x <<< ((iN y).toInt64 &&& 63)) :: st) M k n) : J κ bc bs Q (pc) L (vI y :: .long x :: st) M k n := by
  intro p l e s m args below meth c H locs ls D B hc hB hZ hW hS hL
  obtain ⟨hx, hb, hr, hml, hown, hts, hlo, htab, hfl, hnm⟩ := id hc
  refine lv_lshl (y := iN y) hx hb d rfl ?_
  exact kk p l e s m args below meth c H locs ls D B hc hB hZ hW hS hL

theorem r_i2l {κ : Kp} {bc bs : Nat} {Q : Rs → Mem → Prop} {pc : Nat} {L : Ls} {st : List Value} {M : Mem} {k n : Nat} {x : Int} (d : Dc κ pc (.i2l) 1)  (kk : J κ bc bs Q (pc + 1) L (.long (iN x).toInt64 :: st) M k n) : J κ bc bs Q (pc) L (vI x :: st) M k n := by
  intro p l e s m args below meth c H locs ls D B hc hB hZ hW hS hL
  obtain ⟨hx, hb, hr, hml, hown, hts, hlo, htab, hfl, hnm⟩ := id hc
  refine lv_i2l (x := iN x) hx hb d rfl ?_
  exact kk p l e s m args below meth c H locs ls D B hc hB hZ hW hS hL

theorem r_lcmp {κ : Kp} {bc bs : Nat} {Q : Rs → Mem → Prop} {pc : Nat} {L : Ls} {st : List Value} {M : Mem} {k n : Nat} {x y : Int64} (d : Dc κ pc (.lcmp) 1)  (kk : J κ bc bs Q (pc + 1) L (.int (lg_cmp x y) :: st) M k n) : J κ bc bs Q (pc) L (.long y :: .long x :: st) M k n := by
  intro p l e s m args below meth c H locs ls D B hc hB hZ hW hS hL
  obtain ⟨hx, hb, hr, hml, hown, hts, hlo, htab, hfl, hnm⟩ := id hc
  refine W.lcmp hx hb d ?_
  exact kk p l e s m args below meth c H locs ls D B hc hB hZ hW hS hL

theorem r_iand {κ : Kp} {bc bs : Nat} {Q : Rs → Mem → Prop} {pc : Nat} {L : Ls} {st : List Value} {M : Mem} {k n : Nat} {x y : Int} (d : Dc κ pc (.iand) 1)  (kk : J κ bc bs Q (pc + 1) L (.int (iN x &&& iN y) :: st) M k n) : J κ bc bs Q (pc) L (vI y :: vI x :: st) M k n := by
  intro p l e s m args below meth c H locs ls D B hc hB hZ hW hS hL
  obtain ⟨hx, hb, hr, hml, hown, hts, hlo, htab, hfl, hnm⟩ := id hc
  refine lv_iand (x := iN x) (y := iN y) hx hb d ?_
  exact kk p l e s m args below meth c H locs ls D B hc hB hZ hW hS hL

theorem r_i2d {κ : Kp} {bc bs : Nat} {Q : Rs → Mem → Prop} {pc : Nat} {L : Ls} {st : List Value} {M : Mem} {k n : Nat} {x : Int} (d : Dc κ pc (.i2d) 1)  (kk : J κ bc bs Q (pc + 1) L (.double (FP.i2d (iN x)) :: st) M k n) : J κ bc bs Q (pc) L (vI x :: st) M k n := by
  intro p l e s m args below meth c H locs ls D B hc hB hZ hW hS hL
  obtain ⟨hx, hb, hr, hml, hown, hts, hlo, htab, hfl, hnm⟩ := id hc
  refine lv_i2d (x := iN x) hx hb d ?_
  exact kk p l e s m args below meth c H locs ls D B hc hB hZ hW hS hL

theorem r_dmul {κ : Kp} {bc bs : Nat} {Q : Rs → Mem → Prop} {pc : Nat} {L : Ls} {st : List Value} {M : Mem} {k n : Nat} {x y : UInt64} (d : Dc κ pc (.dmul) 1) (h : vf_n64 (FP.dmul x y)) (kk : J κ bc bs Q (pc + 1) L (.double (FP.dmul x y) :: st) M k n) : J κ bc bs Q (pc) L (.double y :: .double x :: st) M k n := by
  intro p l e s m args below meth c H locs ls D B hc hB hZ hW hS hL
  obtain ⟨hx, hb, hr, hml, hown, hts, hlo, htab, hfl, hnm⟩ := id hc
  refine lv_dmul hx hb d h ?_
  exact kk p l e s m args below meth c H locs ls D B hc hB hZ hW hS hL

theorem r_ddiv {κ : Kp} {bc bs : Nat} {Q : Rs → Mem → Prop} {pc : Nat} {L : Ls} {st : List Value} {M : Mem} {k n : Nat} {x y : UInt64} (d : Dc κ pc (.ddiv) 1) (h : vf_n64 (FP.ddiv x y)) (kk : J κ bc bs Q (pc + 1) L (.double (FP.ddiv x y) :: st) M k n) : J κ bc bs Q (pc) L (.double y :: .double x :: st) M k n := by
  intro p l e s m args below meth c H locs ls D B hc hB hZ hW hS hL
  obtain ⟨hx, hb, hr, hml, hown, hts, hlo, htab, hfl, hnm⟩ := id hc
  refine lv_ddiv hx hb d h ?_
  exact kk p l e s m args below meth c H locs ls D B hc hB hZ hW hS hL

theorem r_dsub {κ : Kp} {bc bs : Nat} {Q : Rs → Mem → Prop} {pc : Nat} {L : Ls} {st : List Value} {M : Mem} {k n : Nat} {x y : UInt64} (d : Dc κ pc (.dsub) 1) (h : vf_n64 (FP.dsub x y)) (kk : J κ bc bs Q (pc + 1) L (.double (FP.dsub x y) :: st) M k n) : J κ bc bs Q (pc) L (.double y :: .double x :: st) M k n := by
  intro p l e s m args below meth c H locs ls D B hc hB hZ hW hS hL
  obtain ⟨hx, hb, hr, hml, hown, hts, hlo, htab, hfl, hnm⟩ := id hc
  refine lv_dsub hx hb d h ?_
  exact kk p l e s m args below meth c H locs ls D B hc hB hZ hW hS hL

theorem r_dcmp {κ : Kp} {bc bs : Nat} {Q : Rs → Mem → Prop} {pc : Nat} {L : Ls} {st : List Value} {M : Mem} {k n : Nat} {x y : UInt64} {op : CmpOp} (d : Dc κ pc (.dcmp op) 1)  (kk : J κ bc bs Q (pc + 1) L (.int (Op.cmpValue (FP.dcmp x y) op) :: st) M k n) : J κ bc bs Q (pc) L (.double y :: .double x :: st) M k n := by
  intro p l e s m args below meth c H locs ls D B hc hB hZ hW hS hL
  obtain ⟨hx, hb, hr, hml, hown, hts, hlo, htab, hfl, hnm⟩ := id hc
  refine lv_dcmp hx hb d ?_
  exact kk p l e s m args below meth c H locs ls D B hc hB hZ hW hS hL

theorem r_dup {κ : Kp} {bc bs : Nat} {Q : Rs → Mem → Prop} {pc : Nat} {L : Ls} {st : List Value} {M : Mem} {k n : Nat} {a : Nat} (d : Dc κ pc (.dup) 1)  (kk : J κ bc bs Q (pc + 1) L (.ref a :: .ref a :: st) M k n) : J κ bc bs Q (pc) L (.ref a :: st) M k n := by
  intro p l e s m args below meth c H locs ls D B hc hB hZ hW hS hL
  obtain ⟨hx, hb, hr, hml, hown, hts, hlo, htab, hfl, hnm⟩ := id hc
  refine lv_dup hx hb d rfl ?_
  exact kk p l e s m args below meth c H locs ls D B hc hB hZ hW hS hL

theorem r_dupI {κ : Kp} {bc bs : Nat} {Q : Rs → Mem → Prop} {pc : Nat} {L : Ls} {st : List Value} {M : Mem} {k n : Nat} {a : Int} (d : Dc κ pc (.dup) 1)  (kk : J κ bc bs Q (pc + 1) L (vI a :: vI a :: st) M k n) : J κ bc bs Q (pc) L (vI a :: st) M k n := by
  intro p l e s m args below meth c H locs ls D B hc hB hZ hW hS hL
  obtain ⟨hx, hb, hr, hml, hown, hts, hlo, htab, hfl, hnm⟩ := id hc
  refine lv_dup hx hb d rfl ?_
  exact kk p l e s m args below meth c H locs ls D B hc hB hZ hW hS hL

theorem r_dup2 {κ : Kp} {bc bs : Nat} {Q : Rs → Mem → Prop} {pc : Nat} {L : Ls} {st : List Value} {M : Mem} {k n : Nat} {a : Nat} {x : Int} (d : Dc κ pc (.dup2) 1)  (kk : J κ bc bs Q (pc + 1) L (vI x :: .ref a :: vI x :: .ref a :: st) M k n) : J κ bc bs Q (pc) L (vI x :: .ref a :: st) M k n := by
  intro p l e s m args below meth c H locs ls D B hc hB hZ hW hS hL
  obtain ⟨hx, hb, hr, hml, hown, hts, hlo, htab, hfl, hnm⟩ := id hc
  refine lv_dup2_11 hx hb d rfl rfl ?_
  exact kk p l e s m args below meth c H locs ls D B hc hB hZ hW hS hL

theorem r_popI {κ : Kp} {bc bs : Nat} {Q : Rs → Mem → Prop} {pc : Nat} {L : Ls} {st : List Value} {M : Mem} {k n : Nat} {x : Int} (d : Dc κ pc (.pop) 1)  (kk : J κ bc bs Q (pc + 1) L (st) M k n) : J κ bc bs Q (pc) L (vI x :: st) M k n := by
  intro p l e s m args below meth c H locs ls D B hc hB hZ hW hS hL
  obtain ⟨hx, hb, hr, hml, hown, hts, hlo, htab, hfl, hnm⟩ := id hc
  refine lv_pop hx hb d rfl ?_
  exact kk p l e s m args below meth c H locs ls D B hc hB hZ hW hS hL

theorem r_popR {κ : Kp} {bc bs : Nat} {Q : Rs → Mem → Prop} {pc : Nat} {L : Ls} {st : List Value} {M : Mem} {k n : Nat} {a : Nat} (d : Dc κ pc (.pop) 1)  (kk : J κ bc bs Q (pc + 1) L (st) M k n) : J κ bc bs Q (pc) L (.ref a :: st) M k n := by
  intro p l e s m args below meth c H locs ls D B hc hB hZ hW hS hL
  obtain ⟨hx, hb, hr, hml, hown, hts, hlo, htab, hfl, hnm⟩ := id hc
  refine lv_pop hx hb d rfl ?_
  exact kk p l e s m args below meth c H locs ls D B hc hB hZ hW hS hL

theorem r_null {κ : Kp} {bc bs : Nat} {Q : Rs → Mem → Prop} {pc : Nat} {L : Ls} {st : List Value} {M : Mem} {k n : Nat}  (d : Dc κ pc (.aconst_null) 1)  (kk : J κ bc bs Q (pc + 1) L (.null :: st) M k n) : J κ bc bs Q (pc) L (st) M k n := by
  intro p l e s m args below meth c H locs ls D B hc hB hZ hW hS hL
  obtain ⟨hx, hb, hr, hml, hown, hts, hlo, htab, hfl, hnm⟩ := id hc
  refine lv_null hx hb d ?_
  exact kk p l e s m args below meth c H locs ls D B hc hB hZ hW hS hL

theorem iN_div {x y : Int} (h0 : 0 ≤ x) (hy : R32 y) (hx : R32 x) (hp : 0 < y) : iN x / iN y = iN (x / y) := by
  have h1 : 0 ≤ x / y := Int.ediv_nonneg h0 (by omega)
  have h2 : x / y ≤ x := Int.ediv_le_self y h0
  apply Int32.toInt_inj.mp
  rw [Int32.toInt_div, iN_toInt hx, iN_toInt hy, iN_toInt (by omega), Int.tdiv_eq_ediv_of_nonneg h0, Int.bmod_eq_of_le (by omega) (by omega)]

theorem r_idiv {κ : Kp} {bc bs : Nat} {Q : Rs → Mem → Prop} {pc : Nat} {L : Ls} {st : List Value} {M : Mem} {k n : Nat} {x y : Int} (d : Dc κ pc (.idiv) 1) (h0 : 0 ≤ x) (hx0 : R32 x) (hy0 : R32 y) (hyp : 0 < y) (kk : J κ bc bs Q (pc + 1) L (vI (x / y) :: st) M k n) : J κ bc bs Q (pc) L (vI y :: vI x :: st) M k n := by
  intro p l e s m args below meth c H locs ls D B hc hB hZ hW hS hL
  obtain ⟨hx, hb, hr, hml, hown, hts, hlo, htab, hfl, hnm⟩ := id hc
  refine lv_idiv (x := iN x) (y := iN y) hx hb d (fun h0 => by have := (iN_eq (y := 0) hy0 (by omega)).mp h0; omega) ?_
  rw [iN_div h0 hy0 hx0 hyp]
  exact kk p l e s m args below meth c H locs ls D B hc hB hZ hW hS hL

theorem r_irem {κ : Kp} {bc bs : Nat} {Q : Rs → Mem → Prop} {pc : Nat} {L : Ls} {st : List Value} {M : Mem} {k n : Nat} {x y : Int} (d : Dc κ pc (.irem) 1) (h0 : 0 ≤ x) (hx0 : R32 x) (hy0 : R32 y) (hyp : 0 < y) (kk : J κ bc bs Q (pc + 1) L (vI (x % y) :: st) M k n) : J κ bc bs Q (pc) L (vI y :: vI x :: st) M k n := by
  intro p l e s m args below meth c H locs ls D B hc hB hZ hW hS hL
  obtain ⟨hx, hb, hr, hml, hown, hts, hlo, htab, hfl, hnm⟩ := id hc
  refine lv_irem (x := iN x) (y := iN y) hx hb d (fun h0 => by have := (iN_eq (y := 0) hy0 (by omega)).mp h0; omega) ?_
  rw [iN_div h0 hy0 hx0 hyp, iN_mul, iN_sub, show x - x / y * y = x % y by rw [Int.emod_def, Int.mul_comm]]
  exact kk p l e s m args below meth c H locs ls D B hc hB hZ hW hS hL

theorem r_ldc2 {κ : Kp} {bc bs : Nat} {Q : Rs → Mem → Prop} {pc : Nat} {L : Ls} {st : List Value} {M : Mem} {k n : Nat} {v : Int64} {ix : Nat} (d : Dc κ pc (.ldc2_w ix) 3) (h : Cond.constantLong (kY κ).cls ix v ∈ lw_g) (kk : J κ bc bs Q (pc + 3) L (.long v :: st) M k n) : J κ bc bs Q (pc) L (st) M k n := by
  intro p l e s m args below meth c H locs ls D B hc hB hZ hW hS hL
  obtain ⟨hx, hb, hr, hml, hown, hts, hlo, htab, hfl, hnm⟩ := id hc
  refine lv_ldc2 hx hb hown (hts _ h) d ?_
  exact kk p l e s m args below meth c H locs ls D B hc hB hZ hW hS hL

theorem r_ldc2d {κ : Kp} {bc bs : Nat} {Q : Rs → Mem → Prop} {pc : Nat} {L : Ls} {st : List Value} {M : Mem} {k n : Nat} {v : UInt64} {ix : Nat} (d : Dc κ pc (.ldc2_w ix) 3) (h : Cond.constantDouble (kY κ).cls ix v ∈ lw_g) (kk : J κ bc bs Q (pc + 3) L (.double v :: st) M k n) : J κ bc bs Q (pc) L (st) M k n := by
  intro p l e s m args below meth c H locs ls D B hc hB hZ hW hS hL
  obtain ⟨hx, hb, hr, hml, hown, hts, hlo, htab, hfl, hnm⟩ := id hc
  refine lv_ldc2d hx hb hown (hts _ h) d ?_
  exact kk p l e s m args below meth c H locs ls D B hc hB hZ hW hS hL

theorem r_iload {κ : Kp} {bc bs : Nat} {Q : Rs → Mem → Prop} {pc : Nat} {L : Ls} {st : List Value} {M : Mem} {k n : Nat} {x : Int} {i : Nat} (d : Dc κ pc (.iload i) 2) (h : lk L i = some (vI x)) (kk : J κ bc bs Q (pc + 2) L (vI x :: st) M k n) : J κ bc bs Q (pc) L (st) M k n := by
  intro p l e s m args below meth c H locs ls D B hc hB hZ hW hS hL
  obtain ⟨hx, hb, hr, hml, hown, hts, hlo, htab, hfl, hnm⟩ := id hc
  refine lv_iload (x := iN x) hx hb d (hL.2.2 i _ h) ?_
  exact kk p l e s m args below meth c H locs ls D B hc hB hZ hW hS hL

theorem r_iload_n {κ : Kp} {bc bs : Nat} {Q : Rs → Mem → Prop} {pc : Nat} {L : Ls} {st : List Value} {M : Mem} {k n : Nat} {x : Int} {i : Fin 4} (d : Dc κ pc (.iload_n i) 1) (h : lk L i = some (vI x)) (kk : J κ bc bs Q (pc + 1) L (vI x :: st) M k n) : J κ bc bs Q (pc) L (st) M k n := by
  intro p l e s m args below meth c H locs ls D B hc hB hZ hW hS hL
  obtain ⟨hx, hb, hr, hml, hown, hts, hlo, htab, hfl, hnm⟩ := id hc
  refine lv_iload_n (x := iN x) hx hb d rfl (hL.2.2 (i : Nat) _ h) ?_
  exact kk p l e s m args below meth c H locs ls D B hc hB hZ hW hS hL

theorem r_aload {κ : Kp} {bc bs : Nat} {Q : Rs → Mem → Prop} {pc : Nat} {L : Ls} {st : List Value} {M : Mem} {k n : Nat} {x : Nat} {i : Nat} (d : Dc κ pc (.aload i) 2) (h : lk L i = some (.ref x)) (kk : J κ bc bs Q (pc + 2) L (.ref x :: st) M k n) : J κ bc bs Q (pc) L (st) M k n := by
  intro p l e s m args below meth c H locs ls D B hc hB hZ hW hS hL
  obtain ⟨hx, hb, hr, hml, hown, hts, hlo, htab, hfl, hnm⟩ := id hc
  refine lv_aload  hx hb d (hL.2.2 i _ h) ?_
  exact kk p l e s m args below meth c H locs ls D B hc hB hZ hW hS hL

theorem r_aload_n {κ : Kp} {bc bs : Nat} {Q : Rs → Mem → Prop} {pc : Nat} {L : Ls} {st : List Value} {M : Mem} {k n : Nat} {x : Nat} {i : Fin 4} (d : Dc κ pc (.aload_n i) 1) (h : lk L i = some (.ref x)) (kk : J κ bc bs Q (pc + 1) L (.ref x :: st) M k n) : J κ bc bs Q (pc) L (st) M k n := by
  intro p l e s m args below meth c H locs ls D B hc hB hZ hW hS hL
  obtain ⟨hx, hb, hr, hml, hown, hts, hlo, htab, hfl, hnm⟩ := id hc
  refine lv_aload_n  hx hb d rfl (hL.2.2 (i : Nat) _ h) ?_
  exact kk p l e s m args below meth c H locs ls D B hc hB hZ hW hS hL

theorem r_lload {κ : Kp} {bc bs : Nat} {Q : Rs → Mem → Prop} {pc : Nat} {L : Ls} {st : List Value} {M : Mem} {k n : Nat} {x : Int64} {i : Nat} (d : Dc κ pc (.lload i) 2) (h : lk L i = some (.long x)) (kk : J κ bc bs Q (pc + 2) L (.long x :: st) M k n) : J κ bc bs Q (pc) L (st) M k n := by
  intro p l e s m args below meth c H locs ls D B hc hB hZ hW hS hL
  obtain ⟨hx, hb, hr, hml, hown, hts, hlo, htab, hfl, hnm⟩ := id hc
  refine lv_lload  hx hb d (hL.2.2 i _ h) ?_
  exact kk p l e s m args below meth c H locs ls D B hc hB hZ hW hS hL

theorem r_lload_n {κ : Kp} {bc bs : Nat} {Q : Rs → Mem → Prop} {pc : Nat} {L : Ls} {st : List Value} {M : Mem} {k n : Nat} {x : Int64} {i : Fin 4} (d : Dc κ pc (.lload_n i) 1) (h : lk L i = some (.long x)) (kk : J κ bc bs Q (pc + 1) L (.long x :: st) M k n) : J κ bc bs Q (pc) L (st) M k n := by
  intro p l e s m args below meth c H locs ls D B hc hB hZ hW hS hL
  obtain ⟨hx, hb, hr, hml, hown, hts, hlo, htab, hfl, hnm⟩ := id hc
  refine lv_lload_n  hx hb d rfl (hL.2.2 (i : Nat) _ h) ?_
  exact kk p l e s m args below meth c H locs ls D B hc hB hZ hW hS hL

theorem r_dload {κ : Kp} {bc bs : Nat} {Q : Rs → Mem → Prop} {pc : Nat} {L : Ls} {st : List Value} {M : Mem} {k n : Nat} {x : UInt64} {i : Nat} (d : Dc κ pc (.dload i) 2) (h : lk L i = some (.double x)) (kk : J κ bc bs Q (pc + 2) L (.double x :: st) M k n) : J κ bc bs Q (pc) L (st) M k n := by
  intro p l e s m args below meth c H locs ls D B hc hB hZ hW hS hL
  obtain ⟨hx, hb, hr, hml, hown, hts, hlo, htab, hfl, hnm⟩ := id hc
  refine lv_dload  hx hb d (hL.2.2 i _ h) ?_
  exact kk p l e s m args below meth c H locs ls D B hc hB hZ hW hS hL

theorem r_dload_n {κ : Kp} {bc bs : Nat} {Q : Rs → Mem → Prop} {pc : Nat} {L : Ls} {st : List Value} {M : Mem} {k n : Nat} {x : UInt64} {i : Fin 4} (d : Dc κ pc (.dload_n i) 1) (h : lk L i = some (.double x)) (kk : J κ bc bs Q (pc + 1) L (.double x :: st) M k n) : J κ bc bs Q (pc) L (st) M k n := by
  intro p l e s m args below meth c H locs ls D B hc hB hZ hW hS hL
  obtain ⟨hx, hb, hr, hml, hown, hts, hlo, htab, hfl, hnm⟩ := id hc
  refine lv_dload_n  hx hb d rfl (hL.2.2 (i : Nat) _ h) ?_
  exact kk p l e s m args below meth c H locs ls D B hc hB hZ hW hS hL

theorem r_aloadN {κ : Kp} {bc bs : Nat} {Q : Rs → Mem → Prop} {pc : Nat} {L : Ls} {st : List Value} {M : Mem} {k n : Nat} {i : Nat} (d : Dc κ pc (.aload i) 2) (h : lk L i = some .null) (kk : J κ bc bs Q (pc + 2) L (.null :: st) M k n) : J κ bc bs Q (pc) L (st) M k n := by
  intro p l e s m args below meth c H locs ls D B hc hB hZ hW hS hL
  obtain ⟨hx, hb, hr, hml, hown, hts, hlo, htab, hfl, hnm⟩ := id hc
  refine lv_aloadN hx hb d (hL.2.2 i _ h) ?_
  exact kk p l e s m args below meth c H locs ls D B hc hB hZ hW hS hL

theorem r_aloadN_n {κ : Kp} {bc bs : Nat} {Q : Rs → Mem → Prop} {pc : Nat} {L : Ls} {st : List Value} {M : Mem} {k n : Nat} {i : Fin 4} (d : Dc κ pc (.aload_n i) 1) (h : lk L i = some .null) (kk : J κ bc bs Q (pc + 1) L (.null :: st) M k n) : J κ bc bs Q (pc) L (st) M k n := by
  intro p l e s m args below meth c H locs ls D B hc hB hZ hW hS hL
  obtain ⟨hx, hb, hr, hml, hown, hts, hlo, htab, hfl, hnm⟩ := id hc
  refine lv_aload_nN hx hb d rfl (hL.2.2 (i : Nat) _ h) ?_
  exact kk p l e s m args below meth c H locs ls D B hc hB hZ hW hS hL

theorem lk_cons {L : Ls} {i j : Nat} {v : Option Value} : lk ((i, v) :: L) j = if j = i then v else lk L j := by
  unfold lk
  rw [List.lookup_cons]
  by_cases h : j = i
  · subst h; simp
  · rw [if_neg h]
    have h9 : (j == i) = false := by simp [h]
    rw [h9]
/-- the known places, as the kit's rows want them -/
def prs (L : Ls) (N : Nat) : List (Nat × Value) := (List.range N).filterMap (fun i => (lk L i).map (fun v => (i, v)))
theorem prs_mem {L : Ls} {N i : Nat} {v : Value} : (i, v) ∈ prs L N ↔ i < N ∧ lk L i = some v := by
  unfold prs
  rw [List.mem_filterMap]
  constructor
  · rintro ⟨j, hj, h⟩
    cases hl : lk L j with
    | none => rw [hl] at h; cases h
    | some w => rw [hl] at h; cases h; exact ⟨List.mem_range.mp hj, hl⟩
  · rintro ⟨h1, h2⟩
    exact ⟨i, List.mem_range.mpr h1, by rw [h2]; rfl⟩
theorem Lc.has {ls : Array Slot} {nL : Nat} {L : Ls} (h : Lc ls nL L) : lv_has ls nL (prs L nL) := ⟨h.1, h.2.1, fun q hq => h.2.2 q.1 q.2 (prs_mem.mp hq).2⟩
theorem Lc.lt {ls : Array Slot} {nL : Nat} {L : Ls} (h : Lc ls nL L) {i : Nat} {v : Value} (hi : lk L i = some v) : i < nL := by
  have h1 := (Array.getElem?_eq_some_iff.mp (h.2.2 i v hi)).1
  rw [h.1] at h1
  exact h1
theorem Lc.st1 {ls ls' : Array Slot} {nL : Nat} {L : Ls} {i : Nat} {v : Value} (h : Lc ls nL L) (ho : okS L i = true) (h' : lv_has ls' nL ((i, v) :: (prs L nL).filter (fun q => !(q.1 == i) && !(q.1 + 1 == i && q.2.category == 2)))) : Lc ls' nL ((i, some v) :: L) := by
  refine ⟨h'.1, h'.2.1, fun j w hj => ?_⟩
  rw [lk_cons] at hj
  by_cases e : j = i
  · rw [if_pos e] at hj
    cases hj
    rw [e]
    exact h'.2.2 (i, v) List.mem_cons_self
  · rw [if_neg e] at hj
    refine h'.2.2 (j, w) (List.mem_cons_of_mem _ (List.mem_filter.mpr ⟨prs_mem.mpr ⟨h.lt hj, hj⟩, ?_⟩))
    cases i with
    | zero => simp [e]
    | succ i0 =>
      by_cases e2 : j = i0
      · subst e2
        have h9 : okS L (j + 1) = true := ho
        unfold okS at h9
        simp only [hj] at h9
        have h8 : w.category = 1 := by simpa using h9
        simp [h8]
      · have h7 : ¬ j + 1 = i0 + 1 := by omega
        simp [e, e2]
theorem Lc.st2 {ls ls' : Array Slot} {nL : Nat} {L : Ls} {i : Nat} {v : Value} (h : Lc ls nL L) (ho : okS L i = true) (h' : lv_has ls' nL ((i, v) :: (prs L nL).filter (fun q => !(q.1 == i) && (!(q.1 == i + 1) && !(q.1 + 1 == i && q.2.category == 2))))) : Lc ls' nL ((i, some v) :: (i + 1, none) :: L) := by
  refine ⟨h'.1, h'.2.1, fun j w hj => ?_⟩
  rw [lk_cons] at hj
  by_cases e : j = i
  · rw [if_pos e] at hj
    cases hj
    rw [e]
    exact h'.2.2 (i, v) List.mem_cons_self
  · rw [if_neg e, lk_cons] at hj
    by_cases e1 : j = i + 1
    · rw [if_pos e1] at hj; cases hj
    · rw [if_neg e1] at hj
      refine h'.2.2 (j, w) (List.mem_cons_of_mem _ (List.mem_filter.mpr ⟨prs_mem.mpr ⟨h.lt hj, hj⟩, ?_⟩))
      cases i with
      | zero => simp [e, e1]
      | succ i0 =>
        by_cases e2 : j = i0
        · subst e2
          have h9 : okS L (j + 1) = true := ho
          unfold okS at h9
          simp only [hj] at h9
          have h8 : w.category = 1 := by simpa using h9
          simp [h8]
          omega
        · have h7 : ¬ j + 1 = i0 + 1 := by omega
          simp [e, e1, e2]

theorem r_istore {κ : Kp} {bc bs : Nat} {Q : Rs → Mem → Prop} {pc : Nat} {L : Ls} {st : List Value} {M : Mem} {k n : Nat} {x : Int} {i : Nat} (d : Dc κ pc (.istore i) 2) (hi : (i : Nat) < kL κ) (ho : okS L i = true) (kk : J κ bc bs Q (pc + 2) ((i, some (vI x)) :: L) (st) M k n) : J κ bc bs Q (pc) L (vI x :: st) M k n := by
  intro p l e s m args below meth c H locs ls D B hc hB hZ hW hS hL
  obtain ⟨hx, hb, hr, hml, hown, hts, hlo, htab, hfl, hnm⟩ := id hc
  refine lv_istore (x := iN x) (lv := prs L (kL κ)) hx hb d hL.has hi rfl ?_
  intro ls' h'
  exact kk p l e s m args below meth c H locs ls' D B hc hB hZ hW hS (Lc.st1 hL ho h')

theorem r_istore_n {κ : Kp} {bc bs : Nat} {Q : Rs → Mem → Prop} {pc : Nat} {L : Ls} {st : List Value} {M : Mem} {k n : Nat} {x : Int} {i : Fin 4} (d : Dc κ pc (.istore_n i) 1) (hi : (i : Nat) < kL κ) (ho : okS L i = true) (kk : J κ bc bs Q (pc + 1) (((i : Nat), some (vI x)) :: L) (st) M k n) : J κ bc bs Q (pc) L (vI x :: st) M k n := by
  intro p l e s m args below meth c H locs ls D B hc hB hZ hW hS hL
  obtain ⟨hx, hb, hr, hml, hown, hts, hlo, htab, hfl, hnm⟩ := id hc
  refine lv_istore_n (x := iN x) (i := (i : Nat)) (lv := prs L (kL κ)) hx hb d rfl hL.has hi rfl ?_
  intro ls' h'
  exact kk p l e s m args below meth c H locs ls' D B hc hB hZ hW hS (Lc.st1 hL ho h')

theorem r_astore {κ : Kp} {bc bs : Nat} {Q : Rs → Mem → Prop} {pc : Nat} {L : Ls} {st : List Value} {M : Mem} {k n : Nat} {x : Nat} {i : Nat} (d : Dc κ pc (.astore i) 2) (hi : (i : Nat) < kL κ) (ho : okS L i = true) (kk : J κ bc bs Q (pc + 2) ((i, some (.ref x)) :: L) (st) M k n) : J κ bc bs Q (pc) L (.ref x :: st) M k n := by
  intro p l e s m args below meth c H locs ls D B hc hB hZ hW hS hL
  obtain ⟨hx, hb, hr, hml, hown, hts, hlo, htab, hfl, hnm⟩ := id hc
  refine lv_astore  (lv := prs L (kL κ)) hx hb d hL.has hi rfl ?_
  intro ls' h'
  exact kk p l e s m args below meth c H locs ls' D B hc hB hZ hW hS (Lc.st1 hL ho h')

theorem r_astore_n {κ : Kp} {bc bs : Nat} {Q : Rs → Mem → Prop} {pc : Nat} {L : Ls} {st : List Value} {M : Mem} {k n : Nat} {x : Nat} {i : Fin 4} (d : Dc κ pc (.astore_n i) 1) (hi : (i : Nat) < kL κ) (ho : okS L i = true) (kk : J κ bc bs Q (pc + 1) (((i : Nat), some (.ref x)) :: L) (st) M k n) : J κ bc bs Q (pc) L (.ref x :: st) M k n := by
  intro p l e s m args below meth c H locs ls D B hc hB hZ hW hS hL
  obtain ⟨hx, hb, hr, hml, hown, hts, hlo, htab, hfl, hnm⟩ := id hc
  refine lv_astore_n  (i := (i : Nat)) (lv := prs L (kL κ)) hx hb d rfl hL.has hi rfl ?_
  intro ls' h'
  exact kk p l e s m args below meth c H locs ls' D B hc hB hZ hW hS (Lc.st1 hL ho h')

theorem r_lstore {κ : Kp} {bc bs : Nat} {Q : Rs → Mem → Prop} {pc : Nat} {L : Ls} {st : List Value} {M : Mem} {k n : Nat} {x : Int64} {i : Nat} (d : Dc κ pc (.lstore i) 2) (hi : (i : Nat) + 1 < kL κ) (ho : okS L i = true) (kk : J κ bc bs Q (pc + 2) ((i, some (.long x)) :: (i + 1, none) :: L) (st) M k n) : J κ bc bs Q (pc) L (.long x :: st) M k n := by
  intro p l e s m args below meth c H locs ls D B hc hB hZ hW hS hL
  obtain ⟨hx, hb, hr, hml, hown, hts, hlo, htab, hfl, hnm⟩ := id hc
  refine lv_lstore  (lv := prs L (kL κ)) hx hb d hL.has hi rfl ?_
  intro ls' h'
  exact kk p l e s m args below meth c H locs ls' D B hc hB hZ hW hS (Lc.st2 hL ho h')

theorem r_lstore_n {κ : Kp} {bc bs : Nat} {Q : Rs → Mem → Prop} {pc : Nat} {L : Ls} {st : List Value} {M : Mem} {k n : Nat} {x : Int64} {i : Fin 4} (d : Dc κ pc (.lstore_n i) 1) (hi : (i : Nat) + 1 < kL κ) (ho : okS L i = true) (kk : J κ bc bs Q (pc + 1) (((i : Nat), some (.long x)) :: ((i : Nat) + 1, none) :: L) (st) M k n) : J κ bc bs Q (pc) L (.long x :: st) M k n := by
  intro p l e s m args below meth c H locs ls D B hc hB hZ hW hS hL
  obtain ⟨hx, hb, hr, hml, hown, hts, hlo, htab, hfl, hnm⟩ := id hc
  refine lv_lstore_n  (i := (i : Nat)) (lv := prs L (kL κ)) hx hb d rfl hL.has hi rfl ?_
  intro ls' h'
  exact kk p l e s m args below meth c H locs ls' D B hc hB hZ hW hS (Lc.st2 hL ho h')

theorem r_dstore {κ : Kp} {bc bs : Nat} {Q : Rs → Mem → Prop} {pc : Nat} {L : Ls} {st : List Value} {M : Mem} {k n : Nat} {x : UInt64} {i : Nat} (d : Dc κ pc (.dstore i) 2) (hi : (i : Nat) + 1 < kL κ) (ho : okS L i = true) (kk : J κ bc bs Q (pc + 2) ((i, some (.double x)) :: (i + 1, none) :: L) (st) M k n) : J κ bc bs Q (pc) L (.double x :: st) M k n := by
  intro p l e s m args below meth c H locs ls D B hc hB hZ hW hS hL
  obtain ⟨hx, hb, hr, hml, hown, hts, hlo, htab, hfl, hnm⟩ := id hc
  refine lv_dstore  (lv := prs L (kL κ)) hx hb d hL.has hi rfl ?_
  intro ls' h'
  exact kk p l e s m args below meth c H locs ls' D B hc hB hZ hW hS (Lc.st2 hL ho h')

theorem r_dstore_n {κ : Kp} {bc bs : Nat} {Q : Rs → Mem → Prop} {pc : Nat} {L : Ls} {st : List Value} {M : Mem} {k n : Nat} {x : UInt64} {i : Fin 4} (d : Dc κ pc (.dstore_n i) 1) (hi : (i : Nat) + 1 < kL κ) (ho : okS L i = true) (kk : J κ bc bs Q (pc + 1) (((i : Nat), some (.double x)) :: ((i : Nat) + 1, none) :: L) (st) M k n) : J κ bc bs Q (pc) L (.double x :: st) M k n := by
  intro p l e s m args below meth c H locs ls D B hc hB hZ hW hS hL
  obtain ⟨hx, hb, hr, hml, hown, hts, hlo, htab, hfl, hnm⟩ := id hc
  refine lv_dstore_n  (i := (i : Nat)) (lv := prs L (kL κ)) hx hb d rfl hL.has hi rfl ?_
  intro ls' h'
  exact kk p l e s m args below meth c H locs ls' D B hc hB hZ hW hS (Lc.st2 hL ho h')

theorem r_astoreN {κ : Kp} {bc bs : Nat} {Q : Rs → Mem → Prop} {pc : Nat} {L : Ls} {st : List Value} {M : Mem} {k n : Nat} {i : Nat} (d : Dc κ pc (.astore i) 2) (hi : (i : Nat) < kL κ) (ho : okS L i = true) (kk : J κ bc bs Q (pc + 2) ((i, some (.null)) :: L) (st) M k n) : J κ bc bs Q (pc) L (.null :: st) M k n := by
  intro p l e s m args below meth c H locs ls D B hc hB hZ hW hS hL
  obtain ⟨hx, hb, hr, hml, hown, hts, hlo, htab, hfl, hnm⟩ := id hc
  refine lv_astoreN (lv := prs L (kL κ)) hx hb d hL.has hi rfl ?_
  intro ls' h'
  exact kk p l e s m args below meth c H locs ls' D B hc hB hZ hW hS (Lc.st1 hL ho h')

theorem r_astoreN_n {κ : Kp} {bc bs : Nat} {Q : Rs → Mem → Prop} {pc : Nat} {L : Ls} {st : List Value} {M : Mem} {k n : Nat} {i : Fin 4} (d : Dc κ pc (.astore_n i) 1) (hi : (i : Nat) < kL κ) (ho : okS L i = true) (kk : J κ bc bs Q (pc + 1) (((i : Nat), some (.null)) :: L) (st) M k n) : J κ bc bs Q (pc) L (.null :: st) M k n := by
  intro p l e s m args below meth c H locs ls D B hc hB hZ hW hS hL
  obtain ⟨hx, hb, hr, hml, hown, hts, hlo, htab, hfl, hnm⟩ := id hc
  refine lv_astore_nN (i := (i : Nat)) (lv := prs L (kL κ)) hx hb d rfl hL.has hi rfl ?_
  intro ls' h'
  exact kk p l e s m args below meth c H locs ls' D B hc hB hZ hW hS (Lc.st1 hL ho h')

theorem r_iinc {κ : Kp} {bc bs : Nat} {Q : Rs → Mem → Prop} {pc : Nat} {L : Ls} {st : List Value} {M : Mem} {k n : Nat} {i : Nat} {z x : Int} (d : Dc κ pc (.iinc i z) 3) (h : lk L i = some (vI x)) (ho : okS L i = true) (kk : J κ bc bs Q (pc + 3) ((i, some (vI (x + z))) :: L) (st) M k n) : J κ bc bs Q (pc) L (st) M k n := by
  intro p l e s m args below meth c H locs ls D B hc hB hZ hW hS hL
  obtain ⟨hx, hb, hr, hml, hown, hts, hlo, htab, hfl, hnm⟩ := id hc
  have hm : (i, vI x) ∈ prs L (kL κ) := prs_mem.mpr ⟨hL.lt h, h⟩
  obtain ⟨k9, hk9⟩ := List.getElem?_of_mem hm
  refine lv_iinc (x := iN x) (v := iN (x + z)) (lv := prs L (kL κ)) hx hb d hL.has hk9 (iN_add x z) (hL.lt h) rfl ?_
  intro ls' h'
  exact kk p l e s m args below meth c H locs ls' D B hc hB hZ hW hS (Lc.st1 hL ho h')

theorem r_icmp_eq {κ : Kp} {bc bs : Nat} {Q : Rs → Mem → Prop} {pc : Nat} {L : Ls} {st : List Value} {M : Mem} {k n : Nat} {x y : Int} {off : Int} {tgt : Nat} (d : Dc κ pc (.if_icmp .eq off) 3) (ht : (pc : Int) + off = (tgt : Int)) (hx9 : R32 x) (hy9 : R32 y) (kt : x = y → J κ bc bs Q (tgt) L (st) M k n) (kf : ¬ (x = y) → J κ bc bs Q (pc + 3) L (st) M k n) : J κ bc bs Q (pc) L (vI y :: vI x :: st) M k n := by
  intro p l e s m args below meth c H locs ls D B hc hB hZ hW hS hL
  obtain ⟨hx, hb, hr, hml, hown, hts, hlo, htab, hfl, hnm⟩ := id hc
  refine lv_icmp_eq (x := iN x) (y := iN y) hx hb d ht (fun h => kt ?_ p l e s m args below meth c H locs ls D B hc hB hZ hW hS hL) (fun h => kf ?_ p l e s m args below meth c H locs ls D B hc hB hZ hW hS hL)
  · exact (iN_eq hx9 hy9).mp h
  · exact fun h9 => h ((iN_eq hx9 hy9).mpr h9)

theorem r_if_eq {κ : Kp} {bc bs : Nat} {Q : Rs → Mem → Prop} {pc : Nat} {L : Ls} {st : List Value} {M : Mem} {k n : Nat} {x : Int} {off : Int} {tgt : Nat} (d : Dc κ pc (.ifCond .eq off) 3) (ht : (pc : Int) + off = (tgt : Int)) (hx9 : R32 x) (kt : x = 0 → J κ bc bs Q (tgt) L (st) M k n) (kf : ¬ (x = 0) → J κ bc bs Q (pc + 3) L (st) M k n) : J κ bc bs Q (pc) L (vI x :: st) M k n := by
  intro p l e s m args below meth c H locs ls D B hc hB hZ hW hS hL
  obtain ⟨hx, hb, hr, hml, hown, hts, hlo, htab, hfl, hnm⟩ := id hc
  refine lv_if_eq (x := iN x) hx hb d ht (fun h => kt ?_ p l e s m args below meth c H locs ls D B hc hB hZ hW hS hL) (fun h => kf ?_ p l e s m args below meth c H locs ls D B hc hB hZ hW hS hL)
  · exact (iN_eq hx9 (show R32 0 by omega)).mp h
  · exact fun h9 => h ((iN_eq hx9 (show R32 0 by omega)).mpr h9)

theorem r_icmp_ne {κ : Kp} {bc bs : Nat} {Q : Rs → Mem → Prop} {pc : Nat} {L : Ls} {st : List Value} {M : Mem} {k n : Nat} {x y : Int} {off : Int} {tgt : Nat} (d : Dc κ pc (.if_icmp .ne off) 3) (ht : (pc : Int) + off = (tgt : Int)) (hx9 : R32 x) (hy9 : R32 y) (kt : ¬ x = y → J κ bc bs Q (tgt) L (st) M k n) (kf : x = y → J κ bc bs Q (pc + 3) L (st) M k n) : J κ bc bs Q (pc) L (vI y :: vI x :: st) M k n := by
  intro p l e s m args below meth c H locs ls D B hc hB hZ hW hS hL
  obtain ⟨hx, hb, hr, hml, hown, hts, hlo, htab, hfl, hnm⟩ := id hc
  refine lv_icmp_ne (x := iN x) (y := iN y) hx hb d ht (fun h => kt ?_ p l e s m args below meth c H locs ls D B hc hB hZ hW hS hL) (fun h => kf ?_ p l e s m args below meth c H locs ls D B hc hB hZ hW hS hL)
  · exact (not_congr (iN_eq hx9 hy9)).mp h
  · exact (iN_eq hx9 hy9).mp h

theorem r_if_ne {κ : Kp} {bc bs : Nat} {Q : Rs → Mem → Prop} {pc : Nat} {L : Ls} {st : List Value} {M : Mem} {k n : Nat} {x : Int} {off : Int} {tgt : Nat} (d : Dc κ pc (.ifCond .ne off) 3) (ht : (pc : Int) + off = (tgt : Int)) (hx9 : R32 x) (kt : ¬ x = 0 → J κ bc bs Q (tgt) L (st) M k n) (kf : x = 0 → J κ bc bs Q (pc + 3) L (st) M k n) : J κ bc bs Q (pc) L (vI x :: st) M k n := by
  intro p l e s m args below meth c H locs ls D B hc hB hZ hW hS hL
  obtain ⟨hx, hb, hr, hml, hown, hts, hlo, htab, hfl, hnm⟩ := id hc
  refine lv_if_ne (x := iN x) hx hb d ht (fun h => kt ?_ p l e s m args below meth c H locs ls D B hc hB hZ hW hS hL) (fun h => kf ?_ p l e s m args below meth c H locs ls D B hc hB hZ hW hS hL)
  · exact (not_congr (iN_eq hx9 (show R32 0 by omega))).mp h
  · exact (iN_eq hx9 (show R32 0 by omega)).mp h

theorem r_icmp_lt {κ : Kp} {bc bs : Nat} {Q : Rs → Mem → Prop} {pc : Nat} {L : Ls} {st : List Value} {M : Mem} {k n : Nat} {x y : Int} {off : Int} {tgt : Nat} (d : Dc κ pc (.if_icmp .lt off) 3) (ht : (pc : Int) + off = (tgt : Int)) (hx9 : R32 x) (hy9 : R32 y) (kt : x < y → J κ bc bs Q (tgt) L (st) M k n) (kf : ¬ (x < y) → J κ bc bs Q (pc + 3) L (st) M k n) : J κ bc bs Q (pc) L (vI y :: vI x :: st) M k n := by
  intro p l e s m args below meth c H locs ls D B hc hB hZ hW hS hL
  obtain ⟨hx, hb, hr, hml, hown, hts, hlo, htab, hfl, hnm⟩ := id hc
  refine lv_icmp_lt (x := iN x) (y := iN y) hx hb d ht (fun h => kt ?_ p l e s m args below meth c H locs ls D B hc hB hZ hW hS hL) (fun h => kf ?_ p l e s m args below meth c H locs ls D B hc hB hZ hW hS hL)
  · exact (iN_lt hx9 hy9).mp h
  · exact fun h9 => h ((iN_lt hx9 hy9).mpr h9)

theorem r_if_lt {κ : Kp} {bc bs : Nat} {Q : Rs → Mem → Prop} {pc : Nat} {L : Ls} {st : List Value} {M : Mem} {k n : Nat} {x : Int} {off : Int} {tgt : Nat} (d : Dc κ pc (.ifCond .lt off) 3) (ht : (pc : Int) + off = (tgt : Int)) (hx9 : R32 x) (kt : x < 0 → J κ bc bs Q (tgt) L (st) M k n) (kf : ¬ (x < 0) → J κ bc bs Q (pc + 3) L (st) M k n) : J κ bc bs Q (pc) L (vI x :: st) M k n := by
  intro p l e s m args below meth c H locs ls D B hc hB hZ hW hS hL
  obtain ⟨hx, hb, hr, hml, hown, hts, hlo, htab, hfl, hnm⟩ := id hc
  refine lv_if_lt (x := iN x) hx hb d ht (fun h => kt ?_ p l e s m args below meth c H locs ls D B hc hB hZ hW hS hL) (fun h => kf ?_ p l e s m args below meth c H locs ls D B hc hB hZ hW hS hL)
  · exact (iN_lt hx9 (show R32 0 by omega)).mp h
  · exact fun h9 => h ((iN_lt hx9 (show R32 0 by omega)).mpr h9)

theorem r_icmp_ge {κ : Kp} {bc bs : Nat} {Q : Rs → Mem → Prop} {pc : Nat} {L : Ls} {st : List Value} {M : Mem} {k n : Nat} {x y : Int} {off : Int} {tgt : Nat} (d : Dc κ pc (.if_icmp .ge off) 3) (ht : (pc : Int) + off = (tgt : Int)) (hx9 : R32 x) (hy9 : R32 y) (kt : y ≤ x → J κ bc bs Q (tgt) L (st) M k n) (kf : ¬ (y ≤ x) → J κ bc bs Q (pc + 3) L (st) M k n) : J κ bc bs Q (pc) L (vI y :: vI x :: st) M k n := by
  intro p l e s m args below meth c H locs ls D B hc hB hZ hW hS hL
  obtain ⟨hx, hb, hr, hml, hown, hts, hlo, htab, hfl, hnm⟩ := id hc
  refine lv_icmp_ge (x := iN x) (y := iN y) hx hb d ht (fun h => kt ?_ p l e s m args below meth c H locs ls D B hc hB hZ hW hS hL) (fun h => kf ?_ p l e s m args below meth c H locs ls D B hc hB hZ hW hS hL)
  · exact (iN_le hy9 hx9).mp h
  · exact fun h9 => h ((iN_le hy9 hx9).mpr h9)

theorem r_if_ge {κ : Kp} {bc bs : Nat} {Q : Rs → Mem → Prop} {pc : Nat} {L : Ls} {st : List Value} {M : Mem} {k n : Nat} {x : Int} {off : Int} {tgt : Nat} (d : Dc κ pc (.ifCond .ge off) 3) (ht : (pc : Int) + off = (tgt : Int)) (hx9 : R32 x) (kt : 0 ≤ x → J κ bc bs Q (tgt) L (st) M k n) (kf : ¬ (0 ≤ x) → J κ bc bs Q (pc + 3) L (st) M k n) : J κ bc bs Q (pc) L (vI x :: st) M k n := by
  intro p l e s m args below meth c H locs ls D B hc hB hZ hW hS hL
  obtain ⟨hx, hb, hr, hml, hown, hts, hlo, htab, hfl, hnm⟩ := id hc
  refine lv_if_ge (x := iN x) hx hb d ht (fun h => kt ?_ p l e s m args below meth c H locs ls D B hc hB hZ hW hS hL) (fun h => kf ?_ p l e s m args below meth c H locs ls D B hc hB hZ hW hS hL)
  · exact (iN_le (show R32 0 by omega) hx9).mp h
  · exact fun h9 => h ((iN_le (show R32 0 by omega) hx9).mpr h9)

theorem r_icmp_gt {κ : Kp} {bc bs : Nat} {Q : Rs → Mem → Prop} {pc : Nat} {L : Ls} {st : List Value} {M : Mem} {k n : Nat} {x y : Int} {off : Int} {tgt : Nat} (d : Dc κ pc (.if_icmp .gt off) 3) (ht : (pc : Int) + off = (tgt : Int)) (hx9 : R32 x) (hy9 : R32 y) (kt : y < x → J κ bc bs Q (tgt) L (st) M k n) (kf : ¬ (y < x) → J κ bc bs Q (pc + 3) L (st) M k n) : J κ bc bs Q (pc) L (vI y :: vI x :: st) M k n := by
  intro p l e s m args below meth c H locs ls D B hc hB hZ hW hS hL
  obtain ⟨hx, hb, hr, hml, hown, hts, hlo, htab, hfl, hnm⟩ := id hc
  refine lv_icmp_gt (x := iN x) (y := iN y) hx hb d ht (fun h => kt ?_ p l e s m args below meth c H locs ls D B hc hB hZ hW hS hL) (fun h => kf ?_ p l e s m args below meth c H locs ls D B hc hB hZ hW hS hL)
  · exact (iN_lt hy9 hx9).mp h
  · exact fun h9 => h ((iN_lt hy9 hx9).mpr h9)

theorem r_if_gt {κ : Kp} {bc bs : Nat} {Q : Rs → Mem → Prop} {pc : Nat} {L : Ls} {st : List Value} {M : Mem} {k n : Nat} {x : Int} {off : Int} {tgt : Nat} (d : Dc κ pc (.ifCond .gt off) 3) (ht : (pc : Int) + off = (tgt : Int)) (hx9 : R32 x) (kt : 0 < x → J κ bc bs Q (tgt) L (st) M k n) (kf : ¬ (0 < x) → J κ bc bs Q (pc + 3) L (st) M k n) : J κ bc bs Q (pc) L (vI x :: st) M k n := by
  intro p l e s m args below meth c H locs ls D B hc hB hZ hW hS hL
  obtain ⟨hx, hb, hr, hml, hown, hts, hlo, htab, hfl, hnm⟩ := id hc
  refine lv_if_gt (x := iN x) hx hb d ht (fun h => kt ?_ p l e s m args below meth c H locs ls D B hc hB hZ hW hS hL) (fun h => kf ?_ p l e s m args below meth c H locs ls D B hc hB hZ hW hS hL)
  · exact (iN_lt (show R32 0 by omega) hx9).mp h
  · exact fun h9 => h ((iN_lt (show R32 0 by omega) hx9).mpr h9)

theorem r_icmp_le {κ : Kp} {bc bs : Nat} {Q : Rs → Mem → Prop} {pc : Nat} {L : Ls} {st : List Value} {M : Mem} {k n : Nat} {x y : Int} {off : Int} {tgt : Nat} (d : Dc κ pc (.if_icmp .le off) 3) (ht : (pc : Int) + off = (tgt : Int)) (hx9 : R32 x) (hy9 : R32 y) (kt : x ≤ y → J κ bc bs Q (tgt) L (st) M k n) (kf : ¬ (x ≤ y) → J κ bc bs Q (pc + 3) L (st) M k n) : J κ bc bs Q (pc) L (vI y :: vI x :: st) M k n := by
  intro p l e s m args below meth c H locs ls D B hc hB hZ hW hS hL
  obtain ⟨hx, hb, hr, hml, hown, hts, hlo, htab, hfl, hnm⟩ := id hc
  refine lv_icmp_le (x := iN x) (y := iN y) hx hb d ht (fun h => kt ?_ p l e s m args below meth c H locs ls D B hc hB hZ hW hS hL) (fun h => kf ?_ p l e s m args below meth c H locs ls D B hc hB hZ hW hS hL)
  · exact (iN_le hx9 hy9).mp h
  · exact fun h9 => h ((iN_le hx9 hy9).mpr h9)

theorem r_if_le {κ : Kp} {bc bs : Nat} {Q : Rs → Mem → Prop} {pc : Nat} {L : Ls} {st : List Value} {M : Mem} {k n : Nat} {x : Int} {off : Int} {tgt : Nat} (d : Dc κ pc (.ifCond .le off) 3) (ht : (pc : Int) + off = (tgt : Int)) (hx9 : R32 x) (kt : x ≤ 0 → J κ bc bs Q (tgt) L (st) M k n) (kf : ¬ (x ≤ 0) → J κ bc bs Q (pc + 3) L (st) M k n) : J κ bc bs Q (pc) L (vI x :: st) M k n := by
  intro p l e s m args below meth c H locs ls D B hc hB hZ hW hS hL
  obtain ⟨hx, hb, hr, hml, hown, hts, hlo, htab, hfl, hnm⟩ := id hc
  refine lv_if_le (x := iN x) hx hb d ht (fun h => kt ?_ p l e s m args below meth c H locs ls D B hc hB hZ hW hS hL) (fun h => kf ?_ p l e s m args below meth c H locs ls D B hc hB hZ hW hS hL)
  · exact (iN_le hx9 (show R32 0 by omega)).mp h
  · exact fun h9 => h ((iN_le hx9 (show R32 0 by omega)).mpr h9)

theorem r_goto {κ : Kp} {bc bs : Nat} {Q : Rs → Mem → Prop} {pc : Nat} {L : Ls} {st : List Value} {M : Mem} {k n : Nat} {off : Int} {tgt : Nat} (d : Dc κ pc (.goto off) 3) (ht : (pc : Int) + off = (tgt : Int)) (kk : J κ bc bs Q (tgt) L (st) M k n) : J κ bc bs Q (pc) L (st) M k n := by
  intro p l e s m args below meth c H locs ls D B hc hB hZ hW hS hL
  obtain ⟨hx, hb, hr, hml, hown, hts, hlo, htab, hfl, hnm⟩ := id hc
  exact lv_goto hx hb d ht (kk p l e s m args below meth c H locs ls D B hc hB hZ hW hS hL)

theorem r_ifnull {κ : Kp} {bc bs : Nat} {Q : Rs → Mem → Prop} {pc : Nat} {L : Ls} {st : List Value} {M : Mem} {k n : Nat} {a : Nat} {off : Int} (d : Dc κ pc (.ifnull off) 3) (kk : J κ bc bs Q (pc + 3) L (st) M k n) : J κ bc bs Q (pc) L (.ref a :: st) M k n := by
  intro p l e s m args below meth c H locs ls D B hc hB hZ hW hS hL
  obtain ⟨hx, hb, hr, hml, hown, hts, hlo, htab, hfl, hnm⟩ := id hc
  exact lv_ifnull hx hb d (kk p l e s m args below meth c H locs ls D B hc hB hZ hW hS hL)

theorem r_ifnullN {κ : Kp} {bc bs : Nat} {Q : Rs → Mem → Prop} {pc : Nat} {L : Ls} {st : List Value} {M : Mem} {k n : Nat} {off : Int} {tgt : Nat} (d : Dc κ pc (.ifnull off) 3) (ht : (pc : Int) + off = (tgt : Int)) (kk : J κ bc bs Q (tgt) L (st) M k n) : J κ bc bs Q (pc) L (.null :: st) M k n := by
  intro p l e s m args below meth c H locs ls D B hc hB hZ hW hS hL
  obtain ⟨hx, hb, hr, hml, hown, hts, hlo, htab, hfl, hnm⟩ := id hc
  exact lv_ifnullN hx hb d ht (kk p l e s m args below meth c H locs ls D B hc hB hZ hW hS hL)

theorem r_ifnonnull {κ : Kp} {bc bs : Nat} {Q : Rs → Mem → Prop} {pc : Nat} {L : Ls} {st : List Value} {M : Mem} {k n : Nat} {a : Nat} {off : Int} {tgt : Nat} (d : Dc κ pc (.ifnonnull off) 3) (ht : (pc : Int) + off = (tgt : Int)) (kk : J κ bc bs Q (tgt) L (st) M k n) : J κ bc bs Q (pc) L (.ref a :: st) M k n := by
  intro p l e s m args below meth c H locs ls D B hc hB hZ hW hS hL
  obtain ⟨hx, hb, hr, hml, hown, hts, hlo, htab, hfl, hnm⟩ := id hc
  exact lv_ifnonnull hx hb d ht (kk p l e s m args below meth c H locs ls D B hc hB hZ hW hS hL)

theorem r_ifnonnullN {κ : Kp} {bc bs : Nat} {Q : Rs → Mem → Prop} {pc : Nat} {L : Ls} {st : List Value} {M : Mem} {k n : Nat} {off : Int} (d : Dc κ pc (.ifnonnull off) 3) (kk : J κ bc bs Q (pc + 3) L (st) M k n) : J κ bc bs Q (pc) L (.null :: st) M k n := by
  intro p l e s m args below meth c H locs ls D B hc hB hZ hW hS hL
  obtain ⟨hx, hb, hr, hml, hown, hts, hlo, htab, hfl, hnm⟩ := id hc
  exact lv_ifnonnullN hx hb d (kk p l e s m args below meth c H locs ls D B hc hB hZ hW hS hL)

theorem r_tableIn {κ : Kp} {bc bs : Nat} {Q : Rs → Mem → Prop} {pc : Nat} {L : Ls} {st : List Value} {M : Mem} {k n : Nat} {x : Int} {dflt lo hi : Int} {offs : Array Int} {len : Nat} {off : Int} {tgt : Nat} (d : Dc κ pc (.tableswitch dflt lo hi offs) len) (hx9 : R32 x) (h1 : lo ≤ x) (h2 : x ≤ hi) (ho : offs[(x - lo).toNat]? = some off) (ht : (pc : Int) + off = (tgt : Int)) (kk : J κ bc bs Q (tgt) L (st) M k n) : J κ bc bs Q (pc) L (vI x :: st) M k n := by
  intro p l e s m args below meth c H locs ls D B hc hB hZ hW hS hL
  obtain ⟨hx, hb, hr, hml, hown, hts, hlo, htab, hfl, hnm⟩ := id hc
  exact lv_tableIn (x := iN x) hx hb d (by rw [iN_toInt hx9]; omega) (by rw [iN_toInt hx9]; omega) (by rw [iN_toInt hx9]; exact ho) ht (kk p l e s m args below meth c H locs ls D B hc hB hZ hW hS hL)

theorem r_tableOut {κ : Kp} {bc bs : Nat} {Q : Rs → Mem → Prop} {pc : Nat} {L : Ls} {st : List Value} {M : Mem} {k n : Nat} {x : Int} {dflt lo hi : Int} {offs : Array Int} {len : Nat} {tgt : Nat} (d : Dc κ pc (.tableswitch dflt lo hi offs) len) (hx9 : R32 x) (h1 : x < lo ∨ hi < x) (ht : (pc : Int) + dflt = (tgt : Int)) (kk : J κ bc bs Q (tgt) L (st) M k n) : J κ bc bs Q (pc) L (vI x :: st) M k n := by
  intro p l e s m args below meth c H locs ls D B hc hB hZ hW hS hL
  obtain ⟨hx, hb, hr, hml, hown, hts, hlo, htab, hfl, hnm⟩ := id hc
  exact lv_tableOut (x := iN x) hx hb d (by rw [iN_toInt hx9]; exact h1) ht (kk p l e s m args below meth c H locs ls D B hc hB hZ hW hS hL)
end
section
/-! J's rows for memory, calls and ends -/
/-- class ci of vwCl, and what the tables say of its fields -/
def Cl (ci : Nat) (C : String) (T : u_T) (N : Nat) (ty : Nat → FieldType) : Prop :=
  vwCl[ci]? = some (C, T, N) ∧ (∀ w ∈ u_ws C T N, w ∈ lw_g) ∧ (∀ j, j < N → parseFieldDescriptor (T j).2.2.1 = some (ty j)) ∧ (∀ a, a < N → ∀ b, b < N → a ≠ b → (T a).2.1 ≠ (T b).2.1)
/-- the world behind a write at place q0 of ws -/
theorem Rl.set {ws : va_W} {tys : List (ClassId × FieldType)} {s : State} {H H1 : Heap} {B : Nat} {M : Mem} {q0 a : Nat} {e0 e : va_E} {x : AC} (hD : va_D (fun q => B ≤ q) ws) (h0 : ws[q0]? = some (a, e0)) (hx : ws.length = ws.length → Rl (ws.set q0 (a, e)) tys s H1 B a x) (hH : ∀ q, q < B → H1[q]? = H[q]?)
    (hR : ∀ (b : Nat) (y : AC), M b = some y → Rl ws tys s H B b y) : ∀ (b : Nat) (y : AC), up M a x b = some y → Rl (ws.set q0 (a, e)) tys s H1 B b y := by
  intro b y hb
  unfold up at hb
  by_cases hba : b = a
  · rw [if_pos hba] at hb
    cases hb
    rw [hba]
    exact hx rfl
  · rw [if_neg hba] at hb
    have h1 := hR b y hb
    have key : ∀ (k : Nat) (z : va_E), ws[k]? = some (b, z) → (ws.set q0 (a, e))[k]? = some (b, z) := by
      intro k z hk
      have hne : q0 ≠ k := by
        intro h
        subst h
        rw [h0] at hk
        cases hk
        exact hba rfl
      rw [List.getElem?_set_ne hne]
      exact hk
    match y, h1 with
    | .inl _, ⟨k, hk⟩ => exact ⟨k, key _ _ hk⟩
    | .inr (.inl _), ⟨k, t0, cA, hk, ht⟩ => exact ⟨k, t0, cA, key _ _ hk, ht⟩
    | .inr (.inr (.inl _)), ⟨k, t0, cA, hk, ht⟩ => exact ⟨k, t0, cA, key _ _ hk, ht⟩
    | .inr (.inr (.inr (.inl _))), ⟨k, t0, cA, r, hk, ht⟩ => exact ⟨k, t0, cA, r, key _ _ hk, ht⟩
    | .inr (.inr (.inr (.inr (n, f)))), h => exact ⟨h.1.kept (hH b h.2), h.2⟩
theorem set_self {ws : va_W} {q0 : Nat} {p e : Nat × va_E} (h : ws[q0]? = some p) : (ws.set q0 e)[q0]? = some e := List.getElem?_set_self (List.getElem?_eq_some_iff.mp h).1
theorem low_eq {B : Nat} {H0 H H1 : Heap} {l1 l2 : List Loc} (hB : B ≤ H0.size) (h1 : va_S (fun q => B ≤ q) H0 H l1) (h2 : va_S (fun q => B ≤ q) H0 H1 l2) : ∀ q, q < B → H1[q]? = H[q]? := fun q hq => by
  rw [h1.2.1 q (by omega) (by omega), h2.2.1 q (by omega) (by omega)]
/-- the world with a new thing -/
theorem Rl.push {ws : va_W} {tys tys' : List (ClassId × FieldType)} {s : State} {H H1 : Heap} {B : Nat} {M : Mem} {a : Nat} {e : va_E} {x : AC} (hx : Rl (ws ++ [(a, e)]) (tys ++ tys') s H1 B a x) (hH : ∀ q, q < B → H1[q]? = H[q]?)
    (hR : ∀ (b : Nat) (y : AC), M b = some y → Rl ws tys s H B b y) : ∀ (b : Nat) (y : AC), up M a x b = some y → Rl (ws ++ [(a, e)]) (tys ++ tys') s H1 B b y := by
  intro b y hb
  unfold up at hb
  by_cases hba : b = a
  · rw [if_pos hba] at hb
    cases hb
    rw [hba]
    exact hx
  · rw [if_neg hba] at hb
    have h1 := hR b y hb
    have key : ∀ (k : Nat) (z : Nat × va_E), ws[k]? = some z → (ws ++ [(a, e)])[k]? = some z := by
      intro k z hk
      rw [List.getElem?_append_left (List.getElem?_eq_some_iff.mp hk).1]
      exact hk
    have key2 : ∀ (k : Nat) (z : ClassId × FieldType), tys[k]? = some z → (tys ++ tys')[k]? = some z := by
      intro k z hk
      rw [List.getElem?_append_left (List.getElem?_eq_some_iff.mp hk).1]
      exact hk
    match y, h1 with
    | .inl _, ⟨k, hk⟩ => exact ⟨k, key _ _ hk⟩
    | .inr (.inl _), ⟨k, t0, cA, hk, ht⟩ => exact ⟨k, t0, cA, key _ _ hk, key2 _ _ ht⟩
    | .inr (.inr (.inl _)), ⟨k, t0, cA, hk, ht⟩ => exact ⟨k, t0, cA, key _ _ hk, key2 _ _ ht⟩
    | .inr (.inr (.inr (.inl _))), ⟨k, t0, cA, r, hk, ht, hr⟩ => exact ⟨k, t0, cA, r, key _ _ hk, key2 _ _ ht, hr⟩
    | .inr (.inr (.inr (.inr (n, f)))), h => exact ⟨h.1.kept (hH b h.2), h.2⟩
theorem app_last {α : Type} {ws : List α} {e : α} : (ws ++ [e])[ws.length]? = some e := by rw [List.getElem?_append_right (Nat.le_refl _), Nat.sub_self]; rfl
/-- nothing of the memory lies where a new thing comes -/
theorem Rl.fresh {ws : va_W} {tys : List (ClassId × FieldType)} {s : State} {H : Heap} {B : Nat} {M : Mem} {q : Nat} {e : va_E} (hD : va_D (fun q => B ≤ q) (ws ++ [(q, e)])) (hR : ∀ (b : Nat) (y : AC), M b = some y → Rl ws tys s H B b y) : M q = none := by
  cases hM : M q with
  | none => rfl
  | some x =>
    have h := hR q x hM
    have key : ∀ (k : Nat) (z : va_E), ws[k]? = some (q, z) → False := fun k z hk => by
      have hl := (List.getElem?_eq_some_iff.mp hk).1
      have h1 : (ws ++ [(q, e)])[k]? = some (q, z) := by rw [List.getElem?_append_left hl]; exact hk
      have := hD.1 k ws.length (q, z) (q, e) h1 app_last rfl
      omega
    match x, h with
    | .inl _, ⟨k, hk⟩ => exact (key _ _ hk).elim
    | .inr (.inl _), ⟨k, t0, cA, hk, ht⟩ => exact (key _ _ hk).elim
    | .inr (.inr (.inl _)), ⟨k, t0, cA, hk, ht⟩ => exact (key _ _ hk).elim
    | .inr (.inr (.inr (.inl _))), ⟨k, t0, cA, r, hk, ht, hr⟩ => exact (key _ _ hk).elim
    | .inr (.inr (.inr (.inr (n, f)))), h =>
      have h1 : B ≤ q := hD.2 ws.length (q, e) app_last
      have h2 : q < B := h.2
      exact absurd h2 (by omega)

theorem r_getfield {κ : Kp} {bc bs : Nat} {Q : Rs → Mem → Prop} {pc : Nat} {L : Ls} {st : List Value} {M : Mem} {k n : Nat} {a ci ix N : Nat} {C : String} {T : u_T} {ty : Nat → FieldType} {fs : List Value} {v : Value} (cl : Cl ci C T N ty) (j : Nat) (hj : j < N) (hl : Cond.fieldLink (kY κ).cls ix (T j).1 (T j).2.1 (T j).2.2.1 ∈ lw_g) (hM : M a = some (oC ci fs)) (hv : fs[j]? = some v) (d : Dc κ pc (.getfield ix) 3) (kk : J κ bc bs Q (pc + 3) L (v :: st) M (k) (n)) : J κ bc bs Q (pc) L (.ref a :: st) M (k) (n) := by
  intro p l e s m args below meth c H locs ls D B hc hB hZ hW hS hL
  obtain ⟨hx, hb, hr, hml, hown, hts, hlo, htab, hfl, hnm⟩ := id hc
  obtain ⟨ws, tys, hP, hK, hD, hR⟩ := id hW
  obtain ⟨q0, hq⟩ := hR a _ hM
  exact va_get (D := D) (cl := vwCl) hx hb hts cl.2.1 hown hK hP q0 hq cl.1 j hj (hts _ hl) (fun _ h9 => h9) hv d (kk p l e s m args below meth c H locs ls D B hc hB hZ hW hS hL)

theorem r_putfield {κ : Kp} {bc bs : Nat} {Q : Rs → Mem → Prop} {pc : Nat} {L : Ls} {st : List Value} {M : Mem} {k n : Nat} {a ci ix N : Nat} {C : String} {T : u_T} {ty : Nat → FieldType} {fs : List Value} {v : Value} (cl : Cl ci C T N ty) (j : Nat) (hj : j < N) (hl : Cond.fieldLink (kY κ).cls ix (T j).1 (T j).2.1 (T j).2.2.1 ∈ lw_g) (hF : (T j).2.2.2 = false) (hM : M a = some (oC ci fs)) (hn : narrow (ty j) v = v) (hf : fits (ty j) v = true) (hlen : j < fs.length) (d : Dc κ pc (.putfield ix) 3) (kk : J κ bc bs Q (pc + 3) L (st) (up M a (oC ci (fs.set j v))) (k) (n)) : J κ bc bs Q (pc) L (v :: .ref a :: st) M (k) (n) := by
  intro p l e s m args below meth c H locs ls D B hc hB hZ hW hS hL
  obtain ⟨hx, hb, hr, hml, hown, hts, hlo, htab, hfl, hnm⟩ := id hc
  obtain ⟨ws, tys, hP, hK, hD, hR⟩ := id hW
  obtain ⟨q0, hq⟩ := hR a _ hM
  refine va_put (D := D) (cl := vwCl) hx hb hts cl.2.1 ty cl.2.2.1 cl.2.2.2 hown hK hP hD hS q0 hq cl.1 j hj (hts _ hl) (fun _ h9 => h9) hF (cl.2.2.1 j hj) hn hf hlen d (fun H1 locs1 hP1 hD1 hS1 => ?_)
  exact kk p l e s m args below meth c H1 locs1 ls D B hc hB hZ ⟨_, _, hP1, hK, hD1, Rl.set hD hq (fun _ => ⟨q0, set_self hq⟩) (low_eq hB hS hS1) hR⟩ hS1 hL

theorem r_putfieldF {κ : Kp} {bc bs : Nat} {Q : Rs → Mem → Prop} {pc : Nat} {L : Ls} {st : List Value} {M : Mem} {k n : Nat} {a ci ix N : Nat} {C : String} {T : u_T} {ty : Nat → FieldType} {fs : List Value} {v : Value} (cl : Cl ci C T N ty) (j : Nat) (hj : j < N) (hl : Cond.fieldLink (kY κ).cls ix (T j).1 (T j).2.1 (T j).2.2.1 ∈ lw_g) (hF : (T j).2.2.2 = true) (hI : (kY κ).name = "<init>") (hdF : (T j).1 = (kY κ).cls) (hM : M a = some (oC ci fs)) (hn : narrow (ty j) v = v) (hf : fits (ty j) v = true) (hlen : j < fs.length) (d : Dc κ pc (.putfield ix) 3) (kk : J κ bc bs Q (pc + 3) L (st) (up M a (oC ci (fs.set j v))) (k) (n)) : J κ bc bs Q (pc) L (v :: .ref a :: st) M (k) (n) := by
  intro p l e s m args below meth c H locs ls D B hc hB hZ hW hS hL
  obtain ⟨hx, hb, hr, hml, hown, hts, hlo, htab, hfl, hnm⟩ := id hc
  obtain ⟨ws, tys, hP, hK, hD, hR⟩ := id hW
  obtain ⟨q0, hq⟩ := hR a _ hM
  refine va_putF (D := D) (cl := vwCl) hx hb hts cl.2.1 ty cl.2.2.1 cl.2.2.2 hown hK hP hD hS q0 hq cl.1 j hj (hts _ hl) (fun _ h9 => h9) hF (hnm.trans hI) hdF (cl.2.2.1 j hj) hn hf hlen d (fun H1 locs1 hP1 hD1 hS1 => ?_)
  exact kk p l e s m args below meth c H1 locs1 ls D B hc hB hZ ⟨_, _, hP1, hK, hD1, Rl.set hD hq (fun _ => ⟨q0, set_self hq⟩) (low_eq hB hS hS1) hR⟩ hS1 hL

theorem r_iaload {κ : Kp} {bc bs : Nat} {Q : Rs → Mem → Prop} {pc : Nat} {L : Ls} {st : List Value} {M : Mem} {k n : Nat} {a N : Nat} {f : Int → Int} {i : Int} (hM : M a = some (aI N f)) (h0 : 0 ≤ i) (h1 : i < N) (h2 : R32 i) (d : Dc κ pc .iaload 1) (kk : J κ bc bs Q (pc + 1) L (vI (f i) :: st) M (k) (n)) : J κ bc bs Q (pc) L (vI i :: .ref a :: st) M (k) (n) := by
  intro p l e s m args below meth c H locs ls D B hc hB hZ hW hS hL
  obtain ⟨hx, hb, hr, hml, hown, hts, hlo, htab, hfl, hnm⟩ := id hc
  obtain ⟨ws, tys, hP, hK, hD, hR⟩ := id hW
  obtain ⟨q0, t0, cA, hq, ht⟩ := hR a _ hM
  refine va_iald (D := D) (cl := vwCl) (i := iN i) hx hb hK hP q0 t0 hq ht (iN_in h0 h1 h2) d ?_
  rw [iN_clamp h2, Int.toNat_of_nonneg h0]
  exact kk p l e s m args below meth c H locs ls D B hc hB hZ hW hS hL

theorem r_ialoadS {κ : Kp} {bc bs : Nat} {Q : Rs → Mem → Prop} {pc : Nat} {L : Ls} {st : List Value} {M : Mem} {k n : Nat} {a N : Nat} {f : Int → Int} {i : Int} (hM : M a = some (aS N f)) (h0 : 0 ≤ i) (h1 : i < N) (h2 : R32 i) (d : Dc κ pc .iaload 1) (kk : J κ bc bs Q (pc + 1) L (vI (f i) :: st) M (k) (n)) : J κ bc bs Q (pc) L (vI i :: .ref a :: st) M (k) (n) := by
  intro p l e s m args below meth c H locs ls D B hc hB hZ hW hS hL
  obtain ⟨hx, hb, hr, hml, hown, hts, hlo, htab, hfl, hnm⟩ := id hc
  obtain ⟨ws, tys, hP, hK, hD, hR⟩ := id hW
  obtain ⟨⟨scr, g1, g2, g3, g4, g5⟩, -⟩ := hR a _ hM
  have hi2 := iN_in h0 h1 h2
  have g6 : scr.slots[i.toNat]? = some (vI (f i)) := by
    have g7 := g5 i.toNat (by omega)
    dsimp only at g7
    rw [Int.toNat_of_nonneg h0] at g7
    exact g7
  refine W.iald hx hb (j := iN i) g1 g2 g3 (by rw [g4]; exact hi2) (by rw [iN_clamp h2]; exact g6) rfl rfl d ?_
  exact kk p l e s m args below meth c H locs ls D B hc hB hZ hW hS hL

theorem r_iastore {κ : Kp} {bc bs : Nat} {Q : Rs → Mem → Prop} {pc : Nat} {L : Ls} {st : List Value} {M : Mem} {k n : Nat} {a N : Nat} {f : Int → Int} {i x : Int} (hM : M a = some (aI N f)) (h0 : 0 ≤ i) (h1 : i < N) (h2 : R32 i) (d : Dc κ pc .iastore 1) (kk : J κ bc bs Q (pc + 1) L (st) (up M a (aI N (uI f i x))) (k) (n)) : J κ bc bs Q (pc) L (vI x :: vI i :: .ref a :: st) M (k) (n) := by
  intro p l e s m args below meth c H locs ls D B hc hB hZ hW hS hL
  obtain ⟨hx, hb, hr, hml, hown, hts, hlo, htab, hfl, hnm⟩ := id hc
  obtain ⟨ws, tys, hP, hK, hD, hR⟩ := id hW
  obtain ⟨q0, t0, cA, hq, ht⟩ := hR a _ hM
  have e9 : (fun j : Nat => iN (uI f i x j)) = upd (fun j : Nat => iN (f j)) (iN i).toNatClampNeg (iN x) := by
    funext j
    rw [iN_clamp h2]
    unfold uI upd
    by_cases h : j = i.toNat
    · have h9 : (j : Int) = i := by omega
      rw [if_pos h, if_pos h9]
    · have h9 : ¬ (j : Int) = i := by omega
      rw [if_neg h, if_neg h9]
  refine va_iast (D := D) (cl := vwCl) (i := iN i) (x := iN x) hx hb hK hP hD hS q0 t0 hq ht (iN_in h0 h1 h2) d (fun H1 locs1 hP1 hD1 hS1 => ?_)
  rw [← e9] at hP1 hD1
  exact kk p l e s m args below meth c H1 locs1 ls D B hc hB hZ ⟨_, _, hP1, hK, hD1, Rl.set hD hq (fun _ => ⟨q0, t0, cA, set_self hq, ht⟩) (low_eq hB hS hS1) hR⟩ hS1 hL

theorem r_laload {κ : Kp} {bc bs : Nat} {Q : Rs → Mem → Prop} {pc : Nat} {L : Ls} {st : List Value} {M : Mem} {k n : Nat} {a N : Nat} {f : Int → Int64} {i : Int} (hM : M a = some (aL N f)) (h0 : 0 ≤ i) (h1 : i < N) (h2 : R32 i) (d : Dc κ pc .laload 1) (kk : J κ bc bs Q (pc + 1) L (.long (f i) :: st) M (k) (n)) : J κ bc bs Q (pc) L (vI i :: .ref a :: st) M (k) (n) := by
  intro p l e s m args below meth c H locs ls D B hc hB hZ hW hS hL
  obtain ⟨hx, hb, hr, hml, hown, hts, hlo, htab, hfl, hnm⟩ := id hc
  obtain ⟨ws, tys, hP, hK, hD, hR⟩ := id hW
  obtain ⟨q0, t0, cA, hq, ht⟩ := hR a _ hM
  refine va_lald (D := D) (cl := vwCl) (i := iN i) hx hb hK hP q0 t0 hq ht (iN_in h0 h1 h2) d ?_
  rw [iN_clamp h2, Int.toNat_of_nonneg h0]
  exact kk p l e s m args below meth c H locs ls D B hc hB hZ hW hS hL

theorem r_lastore {κ : Kp} {bc bs : Nat} {Q : Rs → Mem → Prop} {pc : Nat} {L : Ls} {st : List Value} {M : Mem} {k n : Nat} {a N : Nat} {f : Int → Int64} {i : Int} {x : Int64} (hM : M a = some (aL N f)) (h0 : 0 ≤ i) (h1 : i < N) (h2 : R32 i) (d : Dc κ pc .lastore 1) (kk : J κ bc bs Q (pc + 1) L (st) (up M a (aL N (uI f i x))) (k) (n)) : J κ bc bs Q (pc) L (.long x :: vI i :: .ref a :: st) M (k) (n) := by
  intro p l e s m args below meth c H locs ls D B hc hB hZ hW hS hL
  obtain ⟨hx, hb, hr, hml, hown, hts, hlo, htab, hfl, hnm⟩ := id hc
  obtain ⟨ws, tys, hP, hK, hD, hR⟩ := id hW
  obtain ⟨q0, t0, cA, hq, ht⟩ := hR a _ hM
  have e9 : (fun j : Nat => uI f i x j) = vp_updL (fun j : Nat => f j) (iN i).toNatClampNeg x := by
    funext j
    rw [iN_clamp h2]
    unfold uI vp_updL
    by_cases h : j = i.toNat
    · have h9 : (j : Int) = i := by omega
      rw [if_pos h, if_pos h9]
    · have h9 : ¬ (j : Int) = i := by omega
      rw [if_neg h, if_neg h9]
  refine va_last (D := D) (cl := vwCl) (i := iN i) hx hb hK hP hD hS q0 t0 hq ht (iN_in h0 h1 h2) d (fun H1 locs1 hP1 hD1 hS1 => ?_)
  rw [← e9] at hP1 hD1
  exact kk p l e s m args below meth c H1 locs1 ls D B hc hB hZ ⟨_, _, hP1, hK, hD1, Rl.set hD hq (fun _ => ⟨q0, t0, cA, set_self hq, ht⟩) (low_eq hB hS hS1) hR⟩ hS1 hL

theorem r_aaload {κ : Kp} {bc bs : Nat} {Q : Rs → Mem → Prop} {pc : Nat} {L : Ls} {st : List Value} {M : Mem} {k n : Nat} {a N ci : Nat} {f : Int → Option Nat} {i : Int} (hM : M a = some (aR ci N f)) (h0 : 0 ≤ i) (h1 : i < N) (h2 : R32 i) (d : Dc κ pc .aaload 1) (kk : J κ bc bs Q (pc + 1) L (va_rf (f i) :: st) M (k) (n)) : J κ bc bs Q (pc) L (vI i :: .ref a :: st) M (k) (n) := by
  intro p l e s m args below meth c H locs ls D B hc hB hZ hW hS hL
  obtain ⟨hx, hb, hr, hml, hown, hts, hlo, htab, hfl, hnm⟩ := id hc
  obtain ⟨ws, tys, hP, hK, hD, hR⟩ := id hW
  obtain ⟨q0, t0, cA, r9, hq, ht, hr9⟩ := hR a _ hM
  refine va_aldq (D := D) (cl := vwCl) (i := iN i) hx hb hK hP q0 t0 hq ht (iN_in h0 h1 h2) d ?_
  rw [iN_clamp h2, Int.toNat_of_nonneg h0]
  exact kk p l e s m args below meth c H locs ls D B hc hB hZ hW hS hL

theorem r_aastore {κ : Kp} {bc bs : Nat} {Q : Rs → Mem → Prop} {pc : Nat} {L : Ls} {st : List Value} {M : Mem} {k n : Nat} {a N ci v : Nat} {f : Int → Option Nat} {i : Int} {vs : List Value} (hM : M a = some (aR ci N f)) (hV : M v = some (oC ci vs)) (h0 : 0 ≤ i) (h1 : i < N) (h2 : R32 i) (d : Dc κ pc .aastore 1) (kk : J κ bc bs Q (pc + 1) L (st) (up M a (aR ci N (uI f i (some v)))) (k) (n)) : J κ bc bs Q (pc) L (.ref v :: vI i :: .ref a :: st) M (k) (n) := by
  intro p l e s m args below meth c H locs ls D B hc hB hZ hW hS hL
  obtain ⟨hx, hb, hr, hml, hown, hts, hlo, htab, hfl, hnm⟩ := id hc
  obtain ⟨ws, tys, hP, hK, hD, hR⟩ := id hW
  obtain ⟨q0, t0, cA, r9, hq, ht, hr9⟩ := hR a _ hM
  obtain ⟨qk, hqk⟩ := hR v _ hV
  have e9 : (fun j : Nat => uI f i (some v) j) = va_up (fun j : Nat => f j) (iN i).toNatClampNeg (some v) := by
    funext j
    rw [iN_clamp h2]
    unfold uI va_up
    by_cases h : j = i.toNat
    · have h9 : (j : Int) = i := by omega
      rw [if_pos h, if_pos h9]
    · have h9 : ¬ (j : Int) = i := by omega
      rw [if_neg h, if_neg h9]
  refine va_astq (D := D) (cl := vwCl) (i := iN i) hx hb hK hP hD hS q0 t0 qk ci hq ht hqk hr9 (iN_in h0 h1 h2) d (fun H1 locs1 hP1 hD1 hS1 => ?_)
  rw [← e9] at hP1 hD1
  exact kk p l e s m args below meth c H1 locs1 ls D B hc hB hZ ⟨_, _, hP1, hK, hD1, Rl.set hD hq (fun _ => ⟨q0, t0, cA, r9, set_self hq, ht, hr9⟩) (low_eq hB hS hS1) hR⟩ hS1 hL

theorem r_alenI {κ : Kp} {bc bs : Nat} {Q : Rs → Mem → Prop} {pc : Nat} {L : Ls} {st : List Value} {M : Mem} {k n : Nat} {a N : Nat} {f : Int → Int} (hM : M a = some (aI N f)) (d : Dc κ pc .arraylength 1) (kk : J κ bc bs Q (pc + 1) L (vI N :: st) M (k) (n)) : J κ bc bs Q (pc) L (.ref a :: st) M (k) (n) := by
  intro p l e s m args below meth c H locs ls D B hc hB hZ hW hS hL
  obtain ⟨hx, hb, hr, hml, hown, hts, hlo, htab, hfl, hnm⟩ := id hc
  obtain ⟨ws, tys, hP, hK, hD, hR⟩ := id hW
  obtain ⟨q0, t0, cA, hq, ht⟩ := hR a _ hM
  exact va_alen (D := D) (cl := vwCl) hx hb hK hP q0 t0 hq ht (v := iN N) rfl d (kk p l e s m args below meth c H locs ls D B hc hB hZ hW hS hL)

theorem r_alenR {κ : Kp} {bc bs : Nat} {Q : Rs → Mem → Prop} {pc : Nat} {L : Ls} {st : List Value} {M : Mem} {k n : Nat} {a N ci : Nat} {f : Int → Option Nat} (hM : M a = some (aR ci N f)) (d : Dc κ pc .arraylength 1) (kk : J κ bc bs Q (pc + 1) L (vI N :: st) M (k) (n)) : J κ bc bs Q (pc) L (.ref a :: st) M (k) (n) := by
  intro p l e s m args below meth c H locs ls D B hc hB hZ hW hS hL
  obtain ⟨hx, hb, hr, hml, hown, hts, hlo, htab, hfl, hnm⟩ := id hc
  obtain ⟨ws, tys, hP, hK, hD, hR⟩ := id hW
  obtain ⟨q0, t0, cA, r9, hq, ht, hr9⟩ := hR a _ hM
  exact va_alen (D := D) (cl := vwCl) hx hb hK hP q0 t0 hq ht (v := iN N) rfl d (kk p l e s m args below meth c H locs ls D B hc hB hZ hW hS hL)

theorem r_alenS {κ : Kp} {bc bs : Nat} {Q : Rs → Mem → Prop} {pc : Nat} {L : Ls} {st : List Value} {M : Mem} {k n : Nat} {a N : Nat} {f : Int → Int} (hM : M a = some (aS N f)) (d : Dc κ pc .arraylength 1) (kk : J κ bc bs Q (pc + 1) L (vI N :: st) M (k) (n)) : J κ bc bs Q (pc) L (.ref a :: st) M (k) (n) := by
  intro p l e s m args below meth c H locs ls D B hc hB hZ hW hS hL
  obtain ⟨hx, hb, hr, hml, hown, hts, hlo, htab, hfl, hnm⟩ := id hc
  obtain ⟨ws, tys, hP, hK, hD, hR⟩ := id hW
  obtain ⟨⟨scr, g1, g2, g3, g4, g5⟩, -⟩ := hR a _ hM
  exact W.alen hx hb (n := iN N) g1 g2 (by rw [g4]; rfl) rfl rfl d (kk p l e s m args below meth c H locs ls D B hc hB hZ hW hS hL)

theorem r_newI {κ : Kp} {bc bs : Nat} {Q : Rs → Mem → Prop} {pc : Nat} {L : Ls} {st : List Value} {M : Mem} {k n : Nat} {N : Nat} {z : Int} (hz : z = N) (hN : N ≤ 10000) (harr : Cond.arrayClass .int ∈ lw_g) (hk : k + 1 ≤ bc) (hn : n + N ≤ bs) (d : Dc κ pc (.newarray .int) 2) (kk : ∀ q : Nat, M q = none → J κ bc bs Q (pc + 2) L (.ref q :: st) (up M q (aI N (fun _ => 0))) (k + 1) (n + N)) : J κ bc bs Q (pc) L (vI z :: st) M (k) (n) := by
  intro p l e s m args below meth c H locs ls D B hc hB hZ hW hS hL
  obtain ⟨hx, hb, hr, hml, hown, hts, hlo, htab, hfl, hnm⟩ := id hc
  subst hz
  have h2 : R32 (N : Int) := by omega
  obtain ⟨ws, tys, hP, hK, hD, hR⟩ := id hW
  refine va_newa (D := D) (cl := vwCl) (atype := .int) hx hb (hts _ harr) rfl hK hP hD hS (fun q h => Nat.le_trans hB h) (n := iN (N : Int)) (N' := N) (a0 := (N, .inl (fun _ => iN 0))) (fun cA => rfl) (by have h9 := (iN_lt (y := 0) h2 (by omega)); intro h; have := h9.mp h; omega) (by rw [iN_clamp h2]; omega) (by show N * 4 ≤ 536870912; omega) hk hn d (fun q cA H1 hK1 hP1 hD1 hS1 => ?_)
  exact kk q (Rl.fresh hD1 hR) p l e s m args below meth c H1 locs ls D B hc hB hZ ⟨_, _, hP1, hK1, hD1, Rl.push ⟨ws.length, tys.length, cA, app_last, app_last⟩ (low_eq hB hS hS1) hR⟩ hS1 hL

theorem r_newL {κ : Kp} {bc bs : Nat} {Q : Rs → Mem → Prop} {pc : Nat} {L : Ls} {st : List Value} {M : Mem} {k n : Nat} {N : Nat} {z : Int} (hz : z = N) (hN : N ≤ 10000) (harr : Cond.arrayClass .long ∈ lw_g) (hk : k + 1 ≤ bc) (hn : n + N ≤ bs) (d : Dc κ pc (.newarray .long) 2) (kk : ∀ q : Nat, M q = none → J κ bc bs Q (pc + 2) L (.ref q :: st) (up M q (aL N (fun _ => 0))) (k + 1) (n + N)) : J κ bc bs Q (pc) L (vI z :: st) M (k) (n) := by
  intro p l e s m args below meth c H locs ls D B hc hB hZ hW hS hL
  obtain ⟨hx, hb, hr, hml, hown, hts, hlo, htab, hfl, hnm⟩ := id hc
  subst hz
  have h2 : R32 (N : Int) := by omega
  obtain ⟨ws, tys, hP, hK, hD, hR⟩ := id hW
  refine va_newa (D := D) (cl := vwCl) (atype := .long) hx hb (hts _ harr) rfl hK hP hD hS (fun q h => Nat.le_trans hB h) (n := iN (N : Int)) (N' := N) (a0 := (N, .inr (.inl (fun _ => 0)))) (fun cA => rfl) (by have h9 := (iN_lt (y := 0) h2 (by omega)); intro h; have := h9.mp h; omega) (by rw [iN_clamp h2]; omega) (by show N * 8 ≤ 536870912; omega) hk hn d (fun q cA H1 hK1 hP1 hD1 hS1 => ?_)
  exact kk q (Rl.fresh hD1 hR) p l e s m args below meth c H1 locs ls D B hc hB hZ ⟨_, _, hP1, hK1, hD1, Rl.push ⟨ws.length, tys.length, cA, app_last, app_last⟩ (low_eq hB hS hS1) hR⟩ hS1 hL
end
section
/-! J: making, ends, calls -/
theorem r_newA {κ : Kp} {bc bs : Nat} {Q : Rs → Mem → Prop} {pc : Nat} {L : Ls} {st : List Value} {M : Mem} {k n : Nat} {N ci ix : Nat} {z : Int} {r : vw_C} (hz : z = N) (hN : N ≤ 10000) (hci : vwCl[ci]? = some r) (hlk : Cond.classLink (kY κ).cls ix r.1 ∈ lw_g) (hov : ∀ (B : Nat) (s : State), Zt B s → va_AO r.1 s) (hk : k + 1 ≤ bc) (hn : n + N ≤ bs) (d : Dc κ pc (.anewarray ix) 3) (kk : ∀ q : Nat, M q = none → J κ bc bs Q (pc + 3) L (.ref q :: st) (up M q (aR ci N (fun _ => none))) (k + 1) (n + N)) : J κ bc bs Q (pc) L (vI z :: st) M (k) (n) := by
  intro p l e s m args below meth c H locs ls D B hc hB hZ hW hS hL
  obtain ⟨hx, hb, hr, hml, hown, hts, hlo, htab, hfl, hnm⟩ := id hc
  subst hz
  have h2 : R32 (N : Int) := by omega
  obtain ⟨ws, tys, hP, hK, hD, hR⟩ := id hW
  refine va_newq (D := D) (cl := vwCl) hx hb hown (hts _ hlk) (hov B s hZ) hK hP hD hS (fun q h => Nat.le_trans hB h) (n := iN (N : Int)) (N' := N) (by have h9 := (iN_lt (y := 0) h2 (by omega)); intro h; have := h9.mp h; omega) (by rw [iN_clamp h2]; omega) (by omega) hk hn d (fun q cA H1 hK1 hP1 hD1 hS1 => ?_)
  exact kk q (Rl.fresh hD1 hR) p l e s m args below meth c H1 locs ls D B hc hB hZ ⟨_, _, hP1, hK1, hD1, Rl.push ⟨ws.length, tys.length, cA, r, app_last, app_last, hci⟩ (low_eq hB hS hS1) hR⟩ hS1 hL

theorem r_new {κ : Kp} {bc bs : Nat} {Q : Rs → Mem → Prop} {pc : Nat} {L : Ls} {st : List Value} {M : Mem} {k n : Nat} {N ci ix : Nat} {C : String} {T : u_T} {ty : Nat → FieldType} (cl : Cl ci C T N ty) (fs : List Value) (hfs : ∀ j, j < N → defaultValue (ty j) = vp_V fs j) (hlk : Cond.classLink (kY κ).cls ix C ∈ lw_g) (hin : Cond.instantiable C N ∈ lw_g) (hini : Cond.initialized C ∈ lw_g) (hk : k + 1 ≤ bc) (hn : n + N ≤ bs) (d : Dc κ pc (.new ix) 3) (kk : ∀ q : Nat, M q = none → J κ bc bs Q (pc + 3) L (.ref q :: st) (up M q (oC ci fs)) (k + 1) (n + N)) : J κ bc bs Q (pc) L (st) M (k) (n) := by
  intro p l e s m args below meth c H locs ls D B hc hB hZ hW hS hL
  obtain ⟨hx, hb, hr, hml, hown, hts, hlo, htab, hfl, hnm⟩ := id hc
  obtain ⟨ws, tys, hP, hK, hD, hR⟩ := id hW
  refine va_new (D := D) (cl := vwCl) hx hb hts cl.2.1 ty cl.2.2.1 hown (hts _ hlk) (hts _ hin) (hts _ hini) hK hP hD hS (fun q h => Nat.le_trans hB h) cl.1 hfs hk hn d (fun q H1 hP1 hD1 hS1 => ?_)
  have hR1 := Rl.push (a := q) (e := .inr (ci, fs)) (tys' := []) (x := oC ci fs) ⟨ws.length, app_last⟩ (low_eq hB hS hS1) hR
  rw [List.append_nil] at hR1
  exact kk q (Rl.fresh hD1 hR) p l e s m args below meth c H1 locs ls D B hc hB hZ ⟨_, _, hP1, hK, hD1, hR1⟩ hS1 hL

theorem r_objInit {κ : Kp} {bc bs : Nat} {Q : Rs → Mem → Prop} {pc : Nat} {L : Ls} {st : List Value} {M : Mem} {k n : Nat} {a ix : Nat} (hlk : Cond.methodLink (kY κ).cls ix objectInit ∈ lw_g) (hin : Cond.instanceMethod objectInit ∈ lw_g) (hco : Cond.code objectInit ⟨#[0xb1]⟩ 1 none ∈ lw_g) (hF : 1 ≤ kF κ) (hV : (st.map fun v => v.category).sum + 12 ≤ kV κ) (d : Dc κ pc (.invokespecial ix) 3) (kk : J κ bc bs Q (pc + 3) L (st) M (k) (n)) : J κ bc bs Q (pc) L (.ref a :: st) M (k) (n) := by
  intro p l e s m args below meth c H locs ls D B hc hB hZ hW hS hL
  obtain ⟨hx, hb, hr, hml, hown, hts, hlo, htab, hfl, hnm⟩ := id hc
  refine W.objInit hx hb hown (hts _ hlk) (hts _ hin) (hts _ hco) rfl (by rw [hml]; exact hL.1) rfl d hF (by show 2 * 0 + _ + 12 ≤ kV κ; omega) ?_
  exact kk p l e s m args below meth c H locs ls D B hc hB hZ hW hS hL

theorem r_ireturn {κ : Kp} {bc bs : Nat} {Q : Rs → Mem → Prop} {pc : Nat} {L : Ls} {st : List Value} {M : Mem} {k n : Nat} {z : Int} (d : Dc κ pc .ireturn 1) (hR9 : kR κ = some .int) (hk : k ≤ bc) (hn : n ≤ bs) (hQ : Q (.inl (some (vI z))) M) : J κ bc bs Q (pc) L ([vI z]) M (k) (n) := by
  intro p l e s m args below meth c H locs ls D B hc hB hZ hW hS hL
  obtain ⟨hx, hb, hr, hml, hown, hts, hlo, htab, hfl, hnm⟩ := id hc
  refine W.widen hk hn (vx_ret ?_)
  exact W.iret (v := iN z) hx hb (hr.trans hR9) (fun t ht hW9 => ⟨⟨_, M, rfl, hQ, by rw [ht]; exact hW.moved hW9.alike⟩, hS.F ht⟩) hS.2.2 d hlo

theorem r_zreturn {κ : Kp} {bc bs : Nat} {Q : Rs → Mem → Prop} {pc : Nat} {L : Ls} {st : List Value} {M : Mem} {k n : Nat} {z : Int} (d : Dc κ pc .ireturn 1) (hR9 : kR κ = some .boolean) (hz : z = 0 ∨ z = 1) (hk : k ≤ bc) (hn : n ≤ bs) (hQ : Q (.inl (some (vI z))) M) : J κ bc bs Q (pc) L ([vI z]) M (k) (n) := by
  intro p l e s m args below meth c H locs ls D B hc hB hZ hW hS hL
  obtain ⟨hx, hb, hr, hml, hown, hts, hlo, htab, hfl, hnm⟩ := id hc
  refine W.widen hk hn (vx_ret ?_)
  exact W.zret (v := iN z) hx hb (hr.trans hR9) (by rcases hz with rfl | rfl <;> rfl) (fun t ht hW9 => ⟨⟨_, M, rfl, hQ, by rw [ht]; exact hW.moved hW9.alike⟩, hS.F ht⟩) hS.2.2 d hlo

theorem r_lreturn {κ : Kp} {bc bs : Nat} {Q : Rs → Mem → Prop} {pc : Nat} {L : Ls} {st : List Value} {M : Mem} {k n : Nat} {z : Int64} (d : Dc κ pc .lreturn 1) (hR9 : kR κ = some .long) (hk : k ≤ bc) (hn : n ≤ bs) (hQ : Q (.inl (some (.long z))) M) : J κ bc bs Q (pc) L ([.long z]) M (k) (n) := by
  intro p l e s m args below meth c H locs ls D B hc hB hZ hW hS hL
  obtain ⟨hx, hb, hr, hml, hown, hts, hlo, htab, hfl, hnm⟩ := id hc
  refine W.widen hk hn (vx_ret ?_)
  exact W.lret (v := z) hx hb (hr.trans hR9) (fun t ht hW9 => ⟨⟨_, M, rfl, hQ, by rw [ht]; exact hW.moved hW9.alike⟩, hS.F ht⟩) hS.2.2 d hlo

theorem r_dreturn {κ : Kp} {bc bs : Nat} {Q : Rs → Mem → Prop} {pc : Nat} {L : Ls} {st : List Value} {M : Mem} {k n : Nat} {z : UInt64} (d : Dc κ pc .dreturn 1) (hR9 : kR κ = some .double) (hk : k ≤ bc) (hn : n ≤ bs) (hQ : Q (.inl (some (.double z))) M) : J κ bc bs Q (pc) L ([.double z]) M (k) (n) := by
  intro p l e s m args below meth c H locs ls D B hc hB hZ hW hS hL
  obtain ⟨hx, hb, hr, hml, hown, hts, hlo, htab, hfl, hnm⟩ := id hc
  refine W.widen hk hn (vx_ret ?_)
  exact W.dret (v := z) hx hb (hr.trans hR9) (fun t ht hW9 => ⟨⟨_, M, rfl, hQ, by rw [ht]; exact hW.moved hW9.alike⟩, hS.F ht⟩) hS.2.2 d hlo

theorem r_areturn {κ : Kp} {bc bs : Nat} {Q : Rs → Mem → Prop} {pc : Nat} {L : Ls} {st : List Value} {M : Mem} {k n : Nat} {z : Nat} (d : Dc κ pc .areturn 1) {rt : FieldType} (hR9 : kR κ = some rt) (hrt : (∃ n, rt = .object n) ∨ ∃ t, rt = .array t) (hk : k ≤ bc) (hn : n ≤ bs) (hQ : Q (.inl (some (.ref z))) M) : J κ bc bs Q (pc) L ([.ref z]) M (k) (n) := by
  intro p l e s m args below meth c H locs ls D B hc hB hZ hW hS hL
  obtain ⟨hx, hb, hr, hml, hown, hts, hlo, htab, hfl, hnm⟩ := id hc
  refine W.widen hk hn (vx_ret ?_)
  exact W.aret (v := .ref z) hx hb (hr.trans hR9) hrt (Or.inr ⟨z, rfl⟩) (fun t ht hW9 => ⟨⟨_, M, rfl, hQ, by rw [ht]; exact hW.moved hW9.alike⟩, hS.F ht⟩) hS.2.2 d hlo

theorem r_areturnN {κ : Kp} {bc bs : Nat} {Q : Rs → Mem → Prop} {pc : Nat} {L : Ls} {st : List Value} {M : Mem} {k n : Nat}  (d : Dc κ pc .areturn 1) {rt : FieldType} (hR9 : kR κ = some rt) (hrt : (∃ n, rt = .object n) ∨ ∃ t, rt = .array t) (hk : k ≤ bc) (hn : n ≤ bs) (hQ : Q (.inl (some .null)) M) : J κ bc bs Q (pc) L ([.null]) M (k) (n) := by
  intro p l e s m args below meth c H locs ls D B hc hB hZ hW hS hL
  obtain ⟨hx, hb, hr, hml, hown, hts, hlo, htab, hfl, hnm⟩ := id hc
  refine W.widen hk hn (vx_ret ?_)
  exact W.aret (v := .null) hx hb (hr.trans hR9) hrt (Or.inl rfl) (fun t ht hW9 => ⟨⟨_, M, rfl, hQ, by rw [ht]; exact hW.moved hW9.alike⟩, hS.F ht⟩) hS.2.2 d hlo

theorem r_return {κ : Kp} {bc bs : Nat} {Q : Rs → Mem → Prop} {pc : Nat} {L : Ls} {st : List Value} {M : Mem} {k n : Nat}  (d : Dc κ pc .return_ 1) (hR9 : kR κ = none) (hk : k ≤ bc) (hn : n ≤ bs) (hQ : Q (.inl (none)) M) : J κ bc bs Q (pc) L ([]) M (k) (n) := by
  intro p l e s m args below meth c H locs ls D B hc hB hZ hW hS hL
  obtain ⟨hx, hb, hr, hml, hown, hts, hlo, htab, hfl, hnm⟩ := id hc
  refine W.widen hk hn (vx_ret ?_)
  exact W.vret hx hb (hr.trans hR9) (fun t ht hW9 => ⟨⟨_, M, rfl, hQ, by rw [ht]; exact hW.moved hW9.alike⟩, hS.F ht⟩) hS.2.2 d hlo

/-! calls -/
section QC
variable {p : Program} {l : Launch} {e : Env} {R : Room} {s : State} {m : MethodId} {args : Array Value} {below : List Frame} {meth : Method} {c : Code} {H : Heap} {locs : List Loc} {cells slots mc ms pc B : Nat} {ls : Array Slot} {st0 rest : List Value} {a : Array Value} {D : va_G} {Q' : Rs → Mem → Prop} {Z : State → Prop}
theorem qcall (hr : vx_Run p l e R s m args below meth c H locs cells slots mc ms (F0 m pc ls st0) rest (qR D B Q' a) (qX D B Q') (fun q => B ≤ q)) (hS : va_S (fun q => B ≤ q) s.heap H locs)
    (kx : ∀ (E : String) (ce : Cell) (q9 : Addr) (M' : Mem) (H1 : Heap) (locs1 : List Loc), Q' (.inr E) M' → Wd D B s H1 M' → va_S (fun q => B ≤ q) s.heap H1 locs1 → H1[q9]? = some ce → ce.vm = .none → s.vm.findClass E = some ce.cls → vx_W p l e R s m args below meth c H1 locs1 (cells + mc) (slots + ms) Z (F0 m pc ls rest) q9)
    (kk : ∀ (v : Option Value) (M' : Mem) (H1 : Heap) (locs1 : List Loc), Q' (.inl v) M' → Wd D B s H1 M' → va_S (fun q => B ≤ q) s.heap H1 locs1 → W p l e R s m args below meth c H1 locs1 (cells + mc) (slots + ms) Z (F0 m (pc + 3) ls (v.toList ++ rest))) : W p l e R s m args below meth c H locs cells slots Z (F0 m pc ls st0) := by
  intro T hT X
  rcases hr T hT X with ⟨v, st₀, t, T', L, h0, X', hL, e1, e2, ⟨⟨v2, M', hv, hq, hw⟩, hF⟩, st⟩ | ⟨q, st₀, t, T', L, E, ce, h0, X', hL, e1, e2, ⟨M', hq, hw, hF⟩, hce, hcv, hcl, st⟩
  · cases hv
    obtain ⟨k1, k2, k3⟩ := vx_keep h0 e1 hS (fun _ _ h => h) (fun _ h => h) hL hF
    have ha : t.vm.Alike s.vm := by rw [← e2]; exact X'.warmed.alike.symm
    obtain ⟨t2, a1, b1⟩ := kk v M' T'.heap (locs ++ L) hq (by rw [e1]; exact hw.moved ha) k3 T' rfl X'
    exact ⟨t2, st t2 a1, b1⟩
  · obtain ⟨k1, k2, k3⟩ := vx_keep h0 e1 hS (fun _ _ h => h) (fun _ h => h) hL hF
    have ha : t.vm.Alike s.vm := by rw [← e2]; exact X'.warmed.alike.symm
    obtain ⟨t2, a1, b1⟩ := kx E ce q M' T'.heap (locs ++ L) hq (by rw [e1]; exact hw.moved ha) k3 (by rw [e1]; exact hce) hcv hcl T' rfl X'
    exact ⟨t2, st.trans a1, b1⟩
theorem qcall0 (hr : va_Run p l e R s m args below meth c H locs cells slots mc ms (F0 m pc ls st0) rest (qR D B Q' a) (fun q => B ≤ q)) (hS : va_S (fun q => B ≤ q) s.heap H locs)
    (kk : ∀ (v : Option Value) (M' : Mem) (H1 : Heap) (locs1 : List Loc), Q' (.inl v) M' → Wd D B s H1 M' → va_S (fun q => B ≤ q) s.heap H1 locs1 → W p l e R s m args below meth c H1 locs1 (cells + mc) (slots + ms) Z (F0 m (pc + 3) ls (v.toList ++ rest))) : W p l e R s m args below meth c H locs cells slots Z (F0 m pc ls st0) := by
  intro T hT X
  obtain ⟨v, st₀, t, T', L, h0, X', hL, e1, e2, ⟨⟨v2, M', hv, hq, hw⟩, hF⟩, st⟩ := hr T hT X
  cases hv
  obtain ⟨k1, k2, k3⟩ := vx_keep h0 e1 hS (fun _ _ h => h) (fun _ h => h) hL hF
  have ha : t.vm.Alike s.vm := by rw [← e2]; exact X'.warmed.alike.symm
  obtain ⟨t2, a1, b1⟩ := kk v M' T'.heap (locs ++ L) hq (by rw [e1]; exact hw.moved ha) k3 T' rfl X'
  exact ⟨t2, st t2 a1, b1⟩
end QC
/-- a contract without a throw is the kit's -/
theorem met_of {l : Launch} {y : MethodName} {ws : List Cond} {rm : Room} {Pc : Array Value → State → Prop} {Qc : Array Value → State → Outcome → State → Prop} {XC : String → State → State → Prop} {mc ms : Nat} {free : Addr → Prop} (h : vx_Met l y ws rm Pc Qc XC mc ms free) (hX : ∀ E st t, ¬ XC E st t) : Met l y ws rm Pc Qc mc ms free := by
  intro p e h1 h2 h3 s m args below h4 h5 h6 h7
  obtain ⟨n, o, g1, g2, g3, g4⟩ := h p e h1 h2 h3 s m args below h4 h5 h6 h7
  refine ⟨n, o, g1, g2, g3, ?_⟩
  rcases g4 with g4 | ⟨q, -, E, ce, L, hx, -⟩
  · exact g4
  · exact absurd hx (hX E _ _)
theorem Zt.go {B : Nat} {s U : State} {H : Heap} {locs : List Loc} (hZ : Zt B s) (hS : va_S (fun q => B ≤ q) s.heap H locs) (hU : U.heap = H) (hWm : s.WarmedH U.vm) : Zt B U := by
  have hvm := hWm.alike
  unfold Zt
  rw [hU]
  exact ⟨vx_Zq.moved hvm (hZ.1.kept hS.2.1), vx_Zq.moved hvm (hZ.2.1.kept hS.2.1), va_AO.moved hvm hZ.2.2.1, va_AO.moved hvm hZ.2.2.2.1, va_Nw.warmM hWm hZ.2.2.2.2.1, va_Nw.warmM hWm hZ.2.2.2.2.2⟩
theorem Pic.blind {D : va_G} {B : Nat} {M : Mem} {As : List Value} : FrameBlind (va_Pc As (Pic D B M)) := by
  intro a U g mk q
  obtain ⟨q0, q1, ⟨z1, z2, z3, z4, z5, z6⟩, q3⟩ := q
  have ha : U.vm.Alike (U.calling g mk a).vm := Vm.Alike.refl U.vm
  exact ⟨q0, q1, ⟨vx_Zq.moved ha z1, vx_Zq.moved ha z2, va_AO.moved ha z3, va_AO.moved ha z4, va_Nw.same rfl rfl z5, va_Nw.same rfl rfl z6⟩, q3.moved ha⟩
theorem Pic.at {D : va_G} {B : Nat} {s : State} {H : Heap} {M : Mem} {locs : List Loc} {As : List Value} (hB : B ≤ s.heap.size) (hZ : Zt B s) (hW : Wd D B s H M) (hS : va_S (fun q => B ≤ q) s.heap H locs) : ∀ U : State, U.heap = H → s.WarmedH U.vm → va_Pc As (Pic D B M) As.toArray U := by
  intro U hU hWm
  exact ⟨rfl, by rw [hU]; exact Nat.le_trans hB hS.1, hZ.go hS hU hWm, by rw [hU]; exact hW.moved hWm.alike⟩
/-- the tables' words of a callee -/
def Ok (κ : Kp) (n : Nat) : Prop := wc κ ∈ lw_g ∧ Cond.initialized (kY κ).cls ∈ lw_g ∧ ((kY κ).cls ≠ "java/lang/invoke/MethodHandle" ∧ (kY κ).cls ≠ "java/lang/invoke/VarHandle" ∧ (parseMethodDescriptor (kY κ).desc).map (fun d => d.parameters.length) = some n)
def OkV (κ : Kp) (n : Nat) : Prop := kH κ = [] ∧ Ok κ n ∧ Cond.instanceMethod (kY κ) ∈ lw_g ∧ Cond.selects (kY κ).cls (kY κ) (kY κ) ∈ lw_g
def OkS (κ : Kp) (n : Nat) : Prop := kH κ = [] ∧ Ok κ n ∧ Cond.static (kY κ) ∈ lw_g
def OkI (κ : Kp) (n : Nat) : Prop := kH κ = [] ∧ kR κ = none ∧ Ok κ n ∧ Cond.instanceMethod (kY κ) ∈ lw_g ∧ (kY κ).name = "<init>"
def OkH (κ : Kp) (n : Nat) : Prop := (kH κ).isEmpty = false ∧ Ok κ n ∧ Cond.static (kY κ) ∈ lw_g
theorem wc_code {κ : Kp} (h : kH κ = []) : wc κ = .code (kY κ) (kC κ) (kL κ) (kR κ) := by unfold wc; rw [h]; rfl
theorem wc_with {κ : Kp} (h : (kH κ).isEmpty = false) : wc κ = .codeWith (kY κ) (kC κ) (kL κ) (kR κ) (kH κ) := by unfold wc; rw [h]; rfl
theorem Ok.in {κ : Kp} {n : Nat} (h : Ok κ n) : GoodIn lw_g (wsOf κ) := fun w hw => (List.mem_cons.mp hw).elim (fun e => by rw [e]; exact lw_gg _ h.1) (fun e => lw_gg w e)
/-- the callee's room fits -/
abbrev Fit (κ κ' : Kp) : Prop := kF κ' + 1 ≤ kF κ ∧ 8 + (kL κ' + 11) + kV κ' ≤ kV κ
theorem Ok.callB {κ κ' : Kp} {n bc bs bc' bs' ix : Nat} {s : State} {args : Array Value} (hH : kH κ' = []) (h : Ok κ' n) (hts : ∀ w ∈ lw_g, w.before args s = true) (hlk : Cond.methodLink (kY κ).cls ix (kY κ') ∈ lw_g) (hfit : Fit κ κ') : CallB (rmOf κ bc bs) s args (kY κ).cls ix (kY κ') (kC κ') (kL κ') (kR κ') (wsOf κ') (rmOf κ' bc' bs') bc' bs' n :=
  callB_of n hts h.in (by rw [← wc_code hH]) rfl rfl (hts _ h.2.1) (hts _ hlk) h.2.2 hfit
/-- not caught in a method without handlers -/
theorem qthrow {κ : Kp} {bc bs : Nat} {Q : Rs → Mem → Prop} {p : Program} {l : Launch} {e : Env} {s : State} {m : MethodId} {args : Array Value} {below : List Frame} {meth : Method} {c : Code} {H : Heap} {locs : List Loc} {k n pc B : Nat} {ls : Array Slot} {rest : List Value} {D : va_G} {M' : Mem} {E : String} {ce : Cell} {q9 : Addr}
    (hH : kH κ = []) (htab : c.exceptionTable.toList = tableOf (kH κ)) (hlo : meth.locks = false) (hQ : Q (.inr E) M') (hW : Wd D B s H M') (hS : va_S (fun q => B ≤ q) s.heap H locs) (hce : H[q9]? = some ce) (hcv : ce.vm = .none) (hcl : s.vm.findClass E = some ce.cls) (hk : k ≤ bc) (hn : n ≤ bs) :
    vx_W p l e (rmOf κ bc bs) s m args below meth c H locs k n (vx_MQ below (qR D B Q) (qX D B Q) args s bc bs (fun q => B ≤ q)) (F0 m pc ls rest) q9 := by
  refine vx_out (fun x hx => ?_) hlo hce hcv hcl (fun t ht ha => ⟨M', hQ, by rw [ht]; exact hW.moved ha, hS.F ht⟩) hS.2.2 hk hn
  rw [htab, hH] at hx
  cases hx

theorem r_callV0 {κ : Kp} {bc bs : Nat} {Q : Rs → Mem → Prop} {pc : Nat} {L : Ls} {st : List Value} {M : Mem} {k n : Nat} {κ' : Kp} {ix bc' bs' : Nat} {Q' : Rs → Mem → Prop} {o : Nat}  (ok : OkV κ' 0) (hfit : Fit κ κ') (hlk : Cond.methodLink (kY κ).cls ix (kY κ') ∈ lw_g) (hct : Ct κ' (.ref o :: []) M bc' bs' Q') {ci : Nat} {fs : List Value} {r : vw_C} (hM : M o = some (oC ci fs)) (hci : vwCl[ci]? = some r) (hcls : r.1 = (kY κ').cls) (hst : (st.map fun v => v.category).sum ≤ 8) (hbk : k + bc' ≤ bc) (hbn : n + bs' ≤ bs) (hH : kH κ = []) (d : Dc κ pc (.invokevirtual ix) 3) (hthr : ∀ (E : String) (M' : Mem), Q' (.inr E) M' → Q (.inr E) M') (kk : ∀ (v : Option Value) (M' : Mem), Q' (.inl v) M' → J κ bc bs Q (pc + 3) L (v.toList ++ st) M' (k + bc') (n + bs')) : J κ bc bs Q (pc) L (.ref o :: st) M (k) (n) := by
  intro p l e s m args below meth c H locs ls D B hc hB hZ hW hS hL
  obtain ⟨hx, hb, hr, hml, hown, hts, hlo, htab, hfl, hnm⟩ := id hc
  refine qcall (vx_runV (As := []) (rest := st) ⟨hx, hb, hml, hown, hts⟩ (hct l D B hfl) ⟨Ok.callB ok.1 ok.2.1 hts hlk hfit, hts _ ok.2.2.1, hts _ ok.2.2.2⟩ ⟨Pic.blind, (by
    obtain ⟨ws, tys, hP, hK, hD, hR⟩ := id hW
    obtain ⟨q0, hq⟩ := hR o _ hM
    rw [← hcls]
    exact va_recv hK hP hci hq), Pic.at hB hZ hW hS⟩ rfl rfl hL.1 rfl (lv_room hst) d ⟨hbk, hbn⟩) hS (fun E ce q9 M' H1 locs1 hq hw hS1 hce hcv hcl => qthrow hH htab hlo (hthr E M' hq) hw hS1 hce hcv hcl hbk hbn) (fun v M' H1 locs1 hq hw hS1 => ?_)
  exact kk v M' hq p l e s m args below meth c H1 locs1 ls D B hc hB hZ hw hS1 hL

theorem r_callV1 {κ : Kp} {bc bs : Nat} {Q : Rs → Mem → Prop} {pc : Nat} {L : Ls} {st : List Value} {M : Mem} {k n : Nat} {κ' : Kp} {ix bc' bs' : Nat} {Q' : Rs → Mem → Prop} {o : Nat} {a1 : Value}  (ok : OkV κ' 1) (hfit : Fit κ κ') (hlk : Cond.methodLink (kY κ).cls ix (kY κ') ∈ lw_g) (hct : Ct κ' (.ref o :: [a1]) M bc' bs' Q') {ci : Nat} {fs : List Value} {r : vw_C} (hM : M o = some (oC ci fs)) (hci : vwCl[ci]? = some r) (hcls : r.1 = (kY κ').cls) (hst : (st.map fun v => v.category).sum ≤ 8) (hbk : k + bc' ≤ bc) (hbn : n + bs' ≤ bs) (hH : kH κ = []) (d : Dc κ pc (.invokevirtual ix) 3) (hthr : ∀ (E : String) (M' : Mem), Q' (.inr E) M' → Q (.inr E) M') (kk : ∀ (v : Option Value) (M' : Mem), Q' (.inl v) M' → J κ bc bs Q (pc + 3) L (v.toList ++ st) M' (k + bc') (n + bs')) : J κ bc bs Q (pc) L (a1 :: .ref o :: st) M (k) (n) := by
  intro p l e s m args below meth c H locs ls D B hc hB hZ hW hS hL
  obtain ⟨hx, hb, hr, hml, hown, hts, hlo, htab, hfl, hnm⟩ := id hc
  refine qcall (vx_runV (As := [a1]) (rest := st) ⟨hx, hb, hml, hown, hts⟩ (hct l D B hfl) ⟨Ok.callB ok.1 ok.2.1 hts hlk hfit, hts _ ok.2.2.1, hts _ ok.2.2.2⟩ ⟨Pic.blind, (by
    obtain ⟨ws, tys, hP, hK, hD, hR⟩ := id hW
    obtain ⟨q0, hq⟩ := hR o _ hM
    rw [← hcls]
    exact va_recv hK hP hci hq), Pic.at hB hZ hW hS⟩ rfl rfl hL.1 rfl (lv_room hst) d ⟨hbk, hbn⟩) hS (fun E ce q9 M' H1 locs1 hq hw hS1 hce hcv hcl => qthrow hH htab hlo (hthr E M' hq) hw hS1 hce hcv hcl hbk hbn) (fun v M' H1 locs1 hq hw hS1 => ?_)
  exact kk v M' hq p l e s m args below meth c H1 locs1 ls D B hc hB hZ hw hS1 hL

theorem r_callV2 {κ : Kp} {bc bs : Nat} {Q : Rs → Mem → Prop} {pc : Nat} {L : Ls} {st : List Value} {M : Mem} {k n : Nat} {κ' : Kp} {ix bc' bs' : Nat} {Q' : Rs → Mem → Prop} {o : Nat} {a1 a2 : Value}  (ok : OkV κ' 2) (hfit : Fit κ κ') (hlk : Cond.methodLink (kY κ).cls ix (kY κ') ∈ lw_g) (hct : Ct κ' (.ref o :: [a1, a2]) M bc' bs' Q') {ci : Nat} {fs : List Value} {r : vw_C} (hM : M o = some (oC ci fs)) (hci : vwCl[ci]? = some r) (hcls : r.1 = (kY κ').cls) (hst : (st.map fun v => v.category).sum ≤ 8) (hbk : k + bc' ≤ bc) (hbn : n + bs' ≤ bs) (hH : kH κ = []) (d : Dc κ pc (.invokevirtual ix) 3) (hthr : ∀ (E : String) (M' : Mem), Q' (.inr E) M' → Q (.inr E) M') (kk : ∀ (v : Option Value) (M' : Mem), Q' (.inl v) M' → J κ bc bs Q (pc + 3) L (v.toList ++ st) M' (k + bc') (n + bs')) : J κ bc bs Q (pc) L (a2 :: a1 :: .ref o :: st) M (k) (n) := by
  intro p l e s m args below meth c H locs ls D B hc hB hZ hW hS hL
  obtain ⟨hx, hb, hr, hml, hown, hts, hlo, htab, hfl, hnm⟩ := id hc
  refine qcall (vx_runV (As := [a1, a2]) (rest := st) ⟨hx, hb, hml, hown, hts⟩ (hct l D B hfl) ⟨Ok.callB ok.1 ok.2.1 hts hlk hfit, hts _ ok.2.2.1, hts _ ok.2.2.2⟩ ⟨Pic.blind, (by
    obtain ⟨ws, tys, hP, hK, hD, hR⟩ := id hW
    obtain ⟨q0, hq⟩ := hR o _ hM
    rw [← hcls]
    exact va_recv hK hP hci hq), Pic.at hB hZ hW hS⟩ rfl rfl hL.1 rfl (lv_room hst) d ⟨hbk, hbn⟩) hS (fun E ce q9 M' H1 locs1 hq hw hS1 hce hcv hcl => qthrow hH htab hlo (hthr E M' hq) hw hS1 hce hcv hcl hbk hbn) (fun v M' H1 locs1 hq hw hS1 => ?_)
  exact kk v M' hq p l e s m args below meth c H1 locs1 ls D B hc hB hZ hw hS1 hL

theorem r_callV3 {κ : Kp} {bc bs : Nat} {Q : Rs → Mem → Prop} {pc : Nat} {L : Ls} {st : List Value} {M : Mem} {k n : Nat} {κ' : Kp} {ix bc' bs' : Nat} {Q' : Rs → Mem → Prop} {o : Nat} {a1 a2 a3 : Value}  (ok : OkV κ' 3) (hfit : Fit κ κ') (hlk : Cond.methodLink (kY κ).cls ix (kY κ') ∈ lw_g) (hct : Ct κ' (.ref o :: [a1, a2, a3]) M bc' bs' Q') {ci : Nat} {fs : List Value} {r : vw_C} (hM : M o = some (oC ci fs)) (hci : vwCl[ci]? = some r) (hcls : r.1 = (kY κ').cls) (hst : (st.map fun v => v.category).sum ≤ 8) (hbk : k + bc' ≤ bc) (hbn : n + bs' ≤ bs) (hH : kH κ = []) (d : Dc κ pc (.invokevirtual ix) 3) (hthr : ∀ (E : String) (M' : Mem), Q' (.inr E) M' → Q (.inr E) M') (kk : ∀ (v : Option Value) (M' : Mem), Q' (.inl v) M' → J κ bc bs Q (pc + 3) L (v.toList ++ st) M' (k + bc') (n + bs')) : J κ bc bs Q (pc) L (a3 :: a2 :: a1 :: .ref o :: st) M (k) (n) := by
  intro p l e s m args below meth c H locs ls D B hc hB hZ hW hS hL
  obtain ⟨hx, hb, hr, hml, hown, hts, hlo, htab, hfl, hnm⟩ := id hc
  refine qcall (vx_runV (As := [a1, a2, a3]) (rest := st) ⟨hx, hb, hml, hown, hts⟩ (hct l D B hfl) ⟨Ok.callB ok.1 ok.2.1 hts hlk hfit, hts _ ok.2.2.1, hts _ ok.2.2.2⟩ ⟨Pic.blind, (by
    obtain ⟨ws, tys, hP, hK, hD, hR⟩ := id hW
    obtain ⟨q0, hq⟩ := hR o _ hM
    rw [← hcls]
    exact va_recv hK hP hci hq), Pic.at hB hZ hW hS⟩ rfl rfl hL.1 rfl (lv_room hst) d ⟨hbk, hbn⟩) hS (fun E ce q9 M' H1 locs1 hq hw hS1 hce hcv hcl => qthrow hH htab hlo (hthr E M' hq) hw hS1 hce hcv hcl hbk hbn) (fun v M' H1 locs1 hq hw hS1 => ?_)
  exact kk v M' hq p l e s m args below meth c H1 locs1 ls D B hc hB hZ hw hS1 hL

theorem r_callV4 {κ : Kp} {bc bs : Nat} {Q : Rs → Mem → Prop} {pc : Nat} {L : Ls} {st : List Value} {M : Mem} {k n : Nat} {κ' : Kp} {ix bc' bs' : Nat} {Q' : Rs → Mem → Prop} {o : Nat} {a1 a2 a3 a4 : Value}  (ok : OkV κ' 4) (hfit : Fit κ κ') (hlk : Cond.methodLink (kY κ).cls ix (kY κ') ∈ lw_g) (hct : Ct κ' (.ref o :: [a1, a2, a3, a4]) M bc' bs' Q') {ci : Nat} {fs : List Value} {r : vw_C} (hM : M o = some (oC ci fs)) (hci : vwCl[ci]? = some r) (hcls : r.1 = (kY κ').cls) (hst : (st.map fun v => v.category).sum ≤ 8) (hbk : k + bc' ≤ bc) (hbn : n + bs' ≤ bs) (hH : kH κ = []) (d : Dc κ pc (.invokevirtual ix) 3) (hthr : ∀ (E : String) (M' : Mem), Q' (.inr E) M' → Q (.inr E) M') (kk : ∀ (v : Option Value) (M' : Mem), Q' (.inl v) M' → J κ bc bs Q (pc + 3) L (v.toList ++ st) M' (k + bc') (n + bs')) : J κ bc bs Q (pc) L (a4 :: a3 :: a2 :: a1 :: .ref o :: st) M (k) (n) := by
  intro p l e s m args below meth c H locs ls D B hc hB hZ hW hS hL
  obtain ⟨hx, hb, hr, hml, hown, hts, hlo, htab, hfl, hnm⟩ := id hc
  refine qcall (vx_runV (As := [a1, a2, a3, a4]) (rest := st) ⟨hx, hb, hml, hown, hts⟩ (hct l D B hfl) ⟨Ok.callB ok.1 ok.2.1 hts hlk hfit, hts _ ok.2.2.1, hts _ ok.2.2.2⟩ ⟨Pic.blind, (by
    obtain ⟨ws, tys, hP, hK, hD, hR⟩ := id hW
    obtain ⟨q0, hq⟩ := hR o _ hM
    rw [← hcls]
    exact va_recv hK hP hci hq), Pic.at hB hZ hW hS⟩ rfl rfl hL.1 rfl (lv_room hst) d ⟨hbk, hbn⟩) hS (fun E ce q9 M' H1 locs1 hq hw hS1 hce hcv hcl => qthrow hH htab hlo (hthr E M' hq) hw hS1 hce hcv hcl hbk hbn) (fun v M' H1 locs1 hq hw hS1 => ?_)
  exact kk v M' hq p l e s m args below meth c H1 locs1 ls D B hc hB hZ hw hS1 hL

theorem r_callS0 {κ : Kp} {bc bs : Nat} {Q : Rs → Mem → Prop} {pc : Nat} {L : Ls} {st : List Value} {M : Mem} {k n : Nat} {κ' : Kp} {ix bc' bs' : Nat} {Q' : Rs → Mem → Prop}  (ok : OkS κ' 0) (hfit : Fit κ κ') (hlk : Cond.methodLink (kY κ).cls ix (kY κ') ∈ lw_g) (hct : Ct κ' [] M bc' bs' Q') (hst : (st.map fun v => v.category).sum ≤ 8) (hbk : k + bc' ≤ bc) (hbn : n + bs' ≤ bs) (hH : kH κ = []) (d : Dc κ pc (.invokestatic ix) 3) (hthr : ∀ (E : String) (M' : Mem), Q' (.inr E) M' → Q (.inr E) M') (kk : ∀ (v : Option Value) (M' : Mem), Q' (.inl v) M' → J κ bc bs Q (pc + 3) L (v.toList ++ st) M' (k + bc') (n + bs')) : J κ bc bs Q (pc) L (st) M (k) (n) := by
  intro p l e s m args below meth c H locs ls D B hc hB hZ hW hS hL
  obtain ⟨hx, hb, hr, hml, hown, hts, hlo, htab, hfl, hnm⟩ := id hc
  refine qcall (vx_runS (As := []) (rest := st) ⟨hx, hb, hml, hown, hts⟩ (hct l D B hfl) ⟨Ok.callB ok.1 ok.2.1 hts hlk hfit, hts _ ok.2.2⟩ ⟨Pic.blind, Pic.at hB hZ hW hS⟩ rfl rfl hL.1 rfl (lv_room hst) d ⟨hbk, hbn⟩) hS (fun E ce q9 M' H1 locs1 hq hw hS1 hce hcv hcl => qthrow hH htab hlo (hthr E M' hq) hw hS1 hce hcv hcl hbk hbn) (fun v M' H1 locs1 hq hw hS1 => ?_)
  exact kk v M' hq p l e s m args below meth c H1 locs1 ls D B hc hB hZ hw hS1 hL

theorem r_callS1 {κ : Kp} {bc bs : Nat} {Q : Rs → Mem → Prop} {pc : Nat} {L : Ls} {st : List Value} {M : Mem} {k n : Nat} {κ' : Kp} {ix bc' bs' : Nat} {Q' : Rs → Mem → Prop} {a1 : Value}  (ok : OkS κ' 1) (hfit : Fit κ κ') (hlk : Cond.methodLink (kY κ).cls ix (kY κ') ∈ lw_g) (hct : Ct κ' [a1] M bc' bs' Q') (hst : (st.map fun v => v.category).sum ≤ 8) (hbk : k + bc' ≤ bc) (hbn : n + bs' ≤ bs) (hH : kH κ = []) (d : Dc κ pc (.invokestatic ix) 3) (hthr : ∀ (E : String) (M' : Mem), Q' (.inr E) M' → Q (.inr E) M') (kk : ∀ (v : Option Value) (M' : Mem), Q' (.inl v) M' → J κ bc bs Q (pc + 3) L (v.toList ++ st) M' (k + bc') (n + bs')) : J κ bc bs Q (pc) L (a1 :: st) M (k) (n) := by
  intro p l e s m args below meth c H locs ls D B hc hB hZ hW hS hL
  obtain ⟨hx, hb, hr, hml, hown, hts, hlo, htab, hfl, hnm⟩ := id hc
  refine qcall (vx_runS (As := [a1]) (rest := st) ⟨hx, hb, hml, hown, hts⟩ (hct l D B hfl) ⟨Ok.callB ok.1 ok.2.1 hts hlk hfit, hts _ ok.2.2⟩ ⟨Pic.blind, Pic.at hB hZ hW hS⟩ rfl rfl hL.1 rfl (lv_room hst) d ⟨hbk, hbn⟩) hS (fun E ce q9 M' H1 locs1 hq hw hS1 hce hcv hcl => qthrow hH htab hlo (hthr E M' hq) hw hS1 hce hcv hcl hbk hbn) (fun v M' H1 locs1 hq hw hS1 => ?_)
  exact kk v M' hq p l e s m args below meth c H1 locs1 ls D B hc hB hZ hw hS1 hL

theorem r_callS2 {κ : Kp} {bc bs : Nat} {Q : Rs → Mem → Prop} {pc : Nat} {L : Ls} {st : List Value} {M : Mem} {k n : Nat} {κ' : Kp} {ix bc' bs' : Nat} {Q' : Rs → Mem → Prop} {a1 a2 : Value}  (ok : OkS κ' 2) (hfit : Fit κ κ') (hlk : Cond.methodLink (kY κ).cls ix (kY κ') ∈ lw_g) (hct : Ct κ' [a1, a2] M bc' bs' Q') (hst : (st.map fun v => v.category).sum ≤ 8) (hbk : k + bc' ≤ bc) (hbn : n + bs' ≤ bs) (hH : kH κ = []) (d : Dc κ pc (.invokestatic ix) 3) (hthr : ∀ (E : String) (M' : Mem), Q' (.inr E) M' → Q (.inr E) M') (kk : ∀ (v : Option Value) (M' : Mem), Q' (.inl v) M' → J κ bc bs Q (pc + 3) L (v.toList ++ st) M' (k + bc') (n + bs')) : J κ bc bs Q (pc) L (a2 :: a1 :: st) M (k) (n) := by
  intro p l e s m args below meth c H locs ls D B hc hB hZ hW hS hL
  obtain ⟨hx, hb, hr, hml, hown, hts, hlo, htab, hfl, hnm⟩ := id hc
  refine qcall (vx_runS (As := [a1, a2]) (rest := st) ⟨hx, hb, hml, hown, hts⟩ (hct l D B hfl) ⟨Ok.callB ok.1 ok.2.1 hts hlk hfit, hts _ ok.2.2⟩ ⟨Pic.blind, Pic.at hB hZ hW hS⟩ rfl rfl hL.1 rfl (lv_room hst) d ⟨hbk, hbn⟩) hS (fun E ce q9 M' H1 locs1 hq hw hS1 hce hcv hcl => qthrow hH htab hlo (hthr E M' hq) hw hS1 hce hcv hcl hbk hbn) (fun v M' H1 locs1 hq hw hS1 => ?_)
  exact kk v M' hq p l e s m args below meth c H1 locs1 ls D B hc hB hZ hw hS1 hL

theorem r_callS3 {κ : Kp} {bc bs : Nat} {Q : Rs → Mem → Prop} {pc : Nat} {L : Ls} {st : List Value} {M : Mem} {k n : Nat} {κ' : Kp} {ix bc' bs' : Nat} {Q' : Rs → Mem → Prop} {a1 a2 a3 : Value}  (ok : OkS κ' 3) (hfit : Fit κ κ') (hlk : Cond.methodLink (kY κ).cls ix (kY κ') ∈ lw_g) (hct : Ct κ' [a1, a2, a3] M bc' bs' Q') (hst : (st.map fun v => v.category).sum ≤ 8) (hbk : k + bc' ≤ bc) (hbn : n + bs' ≤ bs) (hH : kH κ = []) (d : Dc κ pc (.invokestatic ix) 3) (hthr : ∀ (E : String) (M' : Mem), Q' (.inr E) M' → Q (.inr E) M') (kk : ∀ (v : Option Value) (M' : Mem), Q' (.inl v) M' → J κ bc bs Q (pc + 3) L (v.toList ++ st) M' (k + bc') (n + bs')) : J κ bc bs Q (pc) L (a3 :: a2 :: a1 :: st) M (k) (n) := by
  intro p l e s m args below meth c H locs ls D B hc hB hZ hW hS hL
  obtain ⟨hx, hb, hr, hml, hown, hts, hlo, htab, hfl, hnm⟩ := id hc
  refine qcall (vx_runS (As := [a1, a2, a3]) (rest := st) ⟨hx, hb, hml, hown, hts⟩ (hct l D B hfl) ⟨Ok.callB ok.1 ok.2.1 hts hlk hfit, hts _ ok.2.2⟩ ⟨Pic.blind, Pic.at hB hZ hW hS⟩ rfl rfl hL.1 rfl (lv_room hst) d ⟨hbk, hbn⟩) hS (fun E ce q9 M' H1 locs1 hq hw hS1 hce hcv hcl => qthrow hH htab hlo (hthr E M' hq) hw hS1 hce hcv hcl hbk hbn) (fun v M' H1 locs1 hq hw hS1 => ?_)
  exact kk v M' hq p l e s m args below meth c H1 locs1 ls D B hc hB hZ hw hS1 hL

theorem r_callS4 {κ : Kp} {bc bs : Nat} {Q : Rs → Mem → Prop} {pc : Nat} {L : Ls} {st : List Value} {M : Mem} {k n : Nat} {κ' : Kp} {ix bc' bs' : Nat} {Q' : Rs → Mem → Prop} {a1 a2 a3 a4 : Value}  (ok : OkS κ' 4) (hfit : Fit κ κ') (hlk : Cond.methodLink (kY κ).cls ix (kY κ') ∈ lw_g) (hct : Ct κ' [a1, a2, a3, a4] M bc' bs' Q') (hst : (st.map fun v => v.category).sum ≤ 8) (hbk : k + bc' ≤ bc) (hbn : n + bs' ≤ bs) (hH : kH κ = []) (d : Dc κ pc (.invokestatic ix) 3) (hthr : ∀ (E : String) (M' : Mem), Q' (.inr E) M' → Q (.inr E) M') (kk : ∀ (v : Option Value) (M' : Mem), Q' (.inl v) M' → J κ bc bs Q (pc + 3) L (v.toList ++ st) M' (k + bc') (n + bs')) : J κ bc bs Q (pc) L (a4 :: a3 :: a2 :: a1 :: st) M (k) (n) := by
  intro p l e s m args below meth c H locs ls D B hc hB hZ hW hS hL
  obtain ⟨hx, hb, hr, hml, hown, hts, hlo, htab, hfl, hnm⟩ := id hc
  refine qcall (vx_runS (As := [a1, a2, a3, a4]) (rest := st) ⟨hx, hb, hml, hown, hts⟩ (hct l D B hfl) ⟨Ok.callB ok.1 ok.2.1 hts hlk hfit, hts _ ok.2.2⟩ ⟨Pic.blind, Pic.at hB hZ hW hS⟩ rfl rfl hL.1 rfl (lv_room hst) d ⟨hbk, hbn⟩) hS (fun E ce q9 M' H1 locs1 hq hw hS1 hce hcv hcl => qthrow hH htab hlo (hthr E M' hq) hw hS1 hce hcv hcl hbk hbn) (fun v M' H1 locs1 hq hw hS1 => ?_)
  exact kk v M' hq p l e s m args below meth c H1 locs1 ls D B hc hB hZ hw hS1 hL

theorem r_callS5 {κ : Kp} {bc bs : Nat} {Q : Rs → Mem → Prop} {pc : Nat} {L : Ls} {st : List Value} {M : Mem} {k n : Nat} {κ' : Kp} {ix bc' bs' : Nat} {Q' : Rs → Mem → Prop} {a1 a2 a3 a4 a5 : Value}  (ok : OkS κ' 5) (hfit : Fit κ κ') (hlk : Cond.methodLink (kY κ).cls ix (kY κ') ∈ lw_g) (hct : Ct κ' [a1, a2, a3, a4, a5] M bc' bs' Q') (hst : (st.map fun v => v.category).sum ≤ 8) (hbk : k + bc' ≤ bc) (hbn : n + bs' ≤ bs) (hH : kH κ = []) (d : Dc κ pc (.invokestatic ix) 3) (hthr : ∀ (E : String) (M' : Mem), Q' (.inr E) M' → Q (.inr E) M') (kk : ∀ (v : Option Value) (M' : Mem), Q' (.inl v) M' → J κ bc bs Q (pc + 3) L (v.toList ++ st) M' (k + bc') (n + bs')) : J κ bc bs Q (pc) L (a5 :: a4 :: a3 :: a2 :: a1 :: st) M (k) (n) := by
  intro p l e s m args below meth c H locs ls D B hc hB hZ hW hS hL
  obtain ⟨hx, hb, hr, hml, hown, hts, hlo, htab, hfl, hnm⟩ := id hc
  refine qcall (vx_runS (As := [a1, a2, a3, a4, a5]) (rest := st) ⟨hx, hb, hml, hown, hts⟩ (hct l D B hfl) ⟨Ok.callB ok.1 ok.2.1 hts hlk hfit, hts _ ok.2.2⟩ ⟨Pic.blind, Pic.at hB hZ hW hS⟩ rfl rfl hL.1 rfl (lv_room hst) d ⟨hbk, hbn⟩) hS (fun E ce q9 M' H1 locs1 hq hw hS1 hce hcv hcl => qthrow hH htab hlo (hthr E M' hq) hw hS1 hce hcv hcl hbk hbn) (fun v M' H1 locs1 hq hw hS1 => ?_)
  exact kk v M' hq p l e s m args below meth c H1 locs1 ls D B hc hB hZ hw hS1 hL

theorem r_callI0 {κ : Kp} {bc bs : Nat} {Q : Rs → Mem → Prop} {pc : Nat} {L : Ls} {st : List Value} {M : Mem} {k n : Nat} {κ' : Kp} {ix bc' bs' : Nat} {Q' : Rs → Mem → Prop} {o : Nat}  (ok : OkI κ' 0) (hfit : Fit κ κ') (hlk : Cond.methodLink (kY κ).cls ix (kY κ') ∈ lw_g) (hct : Ct κ' (.ref o :: []) M bc' bs' Q') (hst : (st.map fun v => v.category).sum ≤ 8) (hbk : k + bc' ≤ bc) (hbn : n + bs' ≤ bs) (hno : ∀ (E : String) (M' : Mem), ¬ Q' (.inr E) M') (d : Dc κ pc (.invokespecial ix) 3) (kk : ∀ (v : Option Value) (M' : Mem), Q' (.inl v) M' → J κ bc bs Q (pc + 3) L (v.toList ++ st) M' (k + bc') (n + bs')) : J κ bc bs Q (pc) L (.ref o :: st) M (k) (n) := by
  intro p l e s m args below meth c H locs ls D B hc hB hZ hW hS hL
  obtain ⟨hx, hb, hr, hml, hown, hts, hlo, htab, hfl, hnm⟩ := id hc
  refine qcall0 (va_runI (As := []) (rest := st) (b := o) ⟨hx, hb, hml, hown, hts⟩ (met_of (hct l D B hfl) (fun E _ _ h => by obtain ⟨M9, h9, -⟩ := h; exact hno E M9 h9)) ⟨(by have h9 := Ok.callB (bc := bc) (bs := bs) (bc' := bc') (bs' := bs') ok.1 ok.2.2.1 hts hlk hfit; rw [ok.2.1] at h9; exact h9), ok.2.2.2.2, hts _ ok.2.2.2.1⟩ ⟨Pic.blind, Pic.at hB hZ hW hS⟩ rfl rfl hL.1 rfl (lv_room hst) d ⟨hbk, hbn⟩) hS (fun v M' H1 locs1 hq hw hS1 => ?_)
  exact kk v M' hq p l e s m args below meth c H1 locs1 ls D B hc hB hZ hw hS1 hL

theorem r_callI1 {κ : Kp} {bc bs : Nat} {Q : Rs → Mem → Prop} {pc : Nat} {L : Ls} {st : List Value} {M : Mem} {k n : Nat} {κ' : Kp} {ix bc' bs' : Nat} {Q' : Rs → Mem → Prop} {o : Nat} {a1 : Value}  (ok : OkI κ' 1) (hfit : Fit κ κ') (hlk : Cond.methodLink (kY κ).cls ix (kY κ') ∈ lw_g) (hct : Ct κ' (.ref o :: [a1]) M bc' bs' Q') (hst : (st.map fun v => v.category).sum ≤ 8) (hbk : k + bc' ≤ bc) (hbn : n + bs' ≤ bs) (hno : ∀ (E : String) (M' : Mem), ¬ Q' (.inr E) M') (d : Dc κ pc (.invokespecial ix) 3) (kk : ∀ (v : Option Value) (M' : Mem), Q' (.inl v) M' → J κ bc bs Q (pc + 3) L (v.toList ++ st) M' (k + bc') (n + bs')) : J κ bc bs Q (pc) L (a1 :: .ref o :: st) M (k) (n) := by
  intro p l e s m args below meth c H locs ls D B hc hB hZ hW hS hL
  obtain ⟨hx, hb, hr, hml, hown, hts, hlo, htab, hfl, hnm⟩ := id hc
  refine qcall0 (va_runI (As := [a1]) (rest := st) (b := o) ⟨hx, hb, hml, hown, hts⟩ (met_of (hct l D B hfl) (fun E _ _ h => by obtain ⟨M9, h9, -⟩ := h; exact hno E M9 h9)) ⟨(by have h9 := Ok.callB (bc := bc) (bs := bs) (bc' := bc') (bs' := bs') ok.1 ok.2.2.1 hts hlk hfit; rw [ok.2.1] at h9; exact h9), ok.2.2.2.2, hts _ ok.2.2.2.1⟩ ⟨Pic.blind, Pic.at hB hZ hW hS⟩ rfl rfl hL.1 rfl (lv_room hst) d ⟨hbk, hbn⟩) hS (fun v M' H1 locs1 hq hw hS1 => ?_)
  exact kk v M' hq p l e s m args below meth c H1 locs1 ls D B hc hB hZ hw hS1 hL

theorem r_callN1 {κ : Kp} {bc bs : Nat} {Q : Rs → Mem → Prop} {pc : Nat} {L : Ls} {st : List Value} {M : Mem} {k n : Nat} {κ' : Kp} {ix bc' bs' : Nat} {Q' : Rs → Mem → Prop} {a1 : Value}  (ok : OkS κ' 1) (hfit : Fit κ κ') {host : String} (hlk : ∀ (B : Nat) (s : State), Zt B s → va_Nw (.methodLinkNest (kY κ).cls ix (kY κ') host) s) (hct : Ct κ' [a1] M bc' bs' Q') (hst : (st.map fun v => v.category).sum ≤ 8) (hbk : k + bc' ≤ bc) (hbn : n + bs' ≤ bs) (hno : ∀ (E : String) (M' : Mem), ¬ Q' (.inr E) M') (d : Dc κ pc (.invokestatic ix) 3) (kk : ∀ (v : Option Value) (M' : Mem), Q' (.inl v) M' → J κ bc bs Q (pc + 3) L (v.toList ++ st) M' (k + bc') (n + bs')) : J κ bc bs Q (pc) L (a1 :: st) M (k) (n) := by
  intro p l e s m args below meth c H locs ls D B hc hB hZ hW hS hL
  obtain ⟨hx, hb, hr, hml, hown, hts, hlo, htab, hfl, hnm⟩ := id hc
  refine qcall0 (va_runSN (As := [a1]) (rest := st) ⟨hx, hb, hml, hown, hts⟩ (met_of (hct l D B hfl) (fun E _ _ h => by obtain ⟨M9, h9, -⟩ := h; exact hno E M9 h9)) ⟨va_cnB 1 hts ok.2.1.in (by rw [← wc_code ok.1]) rfl rfl (hlk B s hZ) (hts _ ok.2.1.2.1) ok.2.1.2.2 hfit, hts _ ok.2.2, trivial⟩ ⟨Pic.blind, Pic.at hB hZ hW hS⟩ rfl rfl hL.1 rfl (lv_room hst) d ⟨hbk, hbn⟩) hS (fun v M' H1 locs1 hq hw hS1 => ?_)
  exact kk v M' hq p l e s m args below meth c H1 locs1 ls D B hc hB hZ hw hS1 hL

/-! a contract out of its body -/
def las : Nat → List Value → Ls
  | _, [] => []
  | i, v :: vs => if v.category = 2 then (i, some v) :: las (i + 2) vs else (i, some v) :: las (i + 1) vs
theorem las_mem : ∀ (vs : List Value) (i j : Nat) (v : Value), lk (las i vs) j = some v → (j, v) ∈ lv_args i vs
  | [], i, j, v, h => by simp [las, lk] at h
  | w :: vs, i, j, v, h => by
    unfold las at h
    unfold lv_args
    by_cases hw : w.category = 2
    · rw [if_pos hw] at h ⊢
      rw [lk_cons] at h
      by_cases e : j = i
      · rw [if_pos e] at h; cases h; rw [e]; exact List.mem_cons_self
      · rw [if_neg e] at h; exact List.mem_cons_of_mem _ (las_mem vs _ j v h)
    · rw [if_neg hw] at h ⊢
      rw [lk_cons] at h
      by_cases e : j = i
      · rw [if_pos e] at h; cases h; rw [e]; exact List.mem_cons_self
      · rw [if_neg e] at h; exact List.mem_cons_of_mem _ (las_mem vs _ j v h)
theorem Ct.of {κ : Kp} {bc bs : Nat} {Q : Rs → Mem → Prop} {M : Mem} (As : List Value) (hy : plainName (kY κ).cls = true) (hH : kH κ = []) (hlen : (lg_sl As).length ≤ kL κ) (hJ : J κ bc bs Q 0 (las 0 As) [] M 0 0) : Ct κ As M bc bs Q := by
  intro l D B hfl
  refine vx_ofW (cc := kC κ) (maxL := kL κ) (ret := kR κ) (ws' := lw_g) hy (by rw [← wc_code hH]) ?_
  intro p e s m args below meth c s₁ Bd hml ht hv
  obtain ⟨rfl, hB, hZ, hW⟩ := hv
  have hts9 := atoms_spec (ws := wsOf κ) Bd.pre
  have hl := lv_entry As (n := kL κ) hlen
  rw [lg_entry_eq]
  refine hJ p l e s m As.toArray below meth c s.heap [] _ D B ⟨Bd.exec, Bd.bytes, Bd.returns, hml, findClass_of_methodNamed Bd.named, fun w h => hts9 w (List.mem_cons_of_mem _ h), Bd.notSynchronized, ?_, hfl, (name_of_methodNamed Bd.named Bd.method).1⟩ hB hZ hW va_S.rf ⟨hl.1, hl.2.1, fun i v h => hl.2.2 (i, v) (las_mem As 0 i v h)⟩
  rw [hH]
  cases h9 : c.exceptionTable.toList with
  | nil => rfl
  | cons x xs => exact (ht x (by rw [h9]; exact List.mem_cons_self)).elim
theorem Ct.ofH {κ : Kp} {bc bs : Nat} {Q : Rs → Mem → Prop} {M : Mem} (As : List Value) (hy : plainName (kY κ).cls = true) (hH : (kH κ).isEmpty = false) (hlen : (lg_sl As).length ≤ kL κ) (hJ : J κ bc bs Q 0 (las 0 As) [] M 0 0) : Ct κ As M bc bs Q := by
  intro l D B hfl
  refine vx_ofWH (cc := kC κ) (maxL := kL κ) (ret := kR κ) (hh := kH κ) (ws' := lw_g) hy (by rw [← wc_with hH]) ?_
  intro p e s m args below meth c s₁ Bd hml hv
  obtain ⟨rfl, hB, hZ, hW⟩ := hv
  have hts9 := atoms_spec (ws := wsOf κ) Bd.pre
  have hl := lv_entry As (n := kL κ) hlen
  rw [lg_entry_eq]
  have hcw := hts9 _ List.mem_cons_self
  rw [wc_with hH] at hcw
  exact hJ p l e s m As.toArray below meth c s.heap [] _ D B ⟨Bd.exec, Bd.bytes, Bd.returns, hml, findClass_of_methodNamed Bd.named, fun w h => hts9 w (List.mem_cons_of_mem _ h), Bd.notSynchronized, vx_table (x := kY κ) Bd hcw, hfl, (name_of_methodNamed Bd.named Bd.method).1⟩ hB hZ hW va_S.rf ⟨hl.1, hl.2.1, fun i v h => hl.2.2 (i, v) (las_mem As 0 i v h)⟩
/-! ways to read J and Ct -/
theorem J.loc {κ : Kp} {bc bs : Nat} {Q : Rs → Mem → Prop} {pc : Nat} {L L' : Ls} {st : List Value} {M : Mem} {k n : Nat} (h : ∀ (i : Nat) (v : Value), lk L' i = some v → lk L i = some v) (j : J κ bc bs Q pc L' st M k n) : J κ bc bs Q pc L st M k n :=
  fun p l e s m args below meth c H locs ls D B hc hB hZ hW hS hL => j p l e s m args below meth c H locs ls D B hc hB hZ hW hS ⟨hL.1, hL.2.1, fun i v hi => hL.2.2 i v (h i v hi)⟩
theorem J.mem {κ : Kp} {bc bs : Nat} {Q : Rs → Mem → Prop} {pc : Nat} {L : Ls} {st : List Value} {M M' : Mem} {k n : Nat} (h : ∀ (a : Nat) (x : AC), M' a = some x → M a = some x) (j : J κ bc bs Q pc L st M' k n) : J κ bc bs Q pc L st M k n :=
  fun p l e s m args below meth c H locs ls D B hc hB hZ hW hS hL => j p l e s m args below meth c H locs ls D B hc hB hZ (hW.less h) hS hL
theorem J.wide {κ : Kp} {bc bs : Nat} {Q : Rs → Mem → Prop} {pc : Nat} {L : Ls} {st : List Value} {M : Mem} {k n k' n' : Nat} (hk : k ≤ k') (hn : n ≤ n') (j : J κ bc bs Q pc L st M k' n') : J κ bc bs Q pc L st M k n :=
  fun p l e s m args below meth c H locs ls D B hc hB hZ hW hS hL => W.widen hk hn (j p l e s m args below meth c H locs ls D B hc hB hZ hW hS hL)
def lsub (L' L : Ls) : Prop := ∀ (i : Nat) (v : Value), lk L' i = some v → lk L i = some v
theorem lsub_nil {L : Ls} : lsub [] L := fun i v h => by simp [lk] at h
theorem lsub_cons {L' L : Ls} {i : Nat} {v : Value} (h : lk L i = some v) (t : lsub L' L) : lsub ((i, some v) :: L') L := fun j w hj => by
  rw [lk_cons] at hj
  by_cases e : j = i
  · rw [if_pos e] at hj; cases hj; rw [e]; exact h
  · rw [if_neg e] at hj; exact t j w hj
end
section
/-! the methods, as J and Ct name them; the tables' words of each; links -/
def KX0_init : Kp := (yX0_init, cX0_init, 1, none, [], 2, 41)
def KX0_cut : Kp := (yX0_cut, cX0_cut, 8, (some .int), [], 2, 46)
def KX0_amount : Kp := (yX0_amount, cX0_amount, 1, (some .int), [], 0, 0)
def KX0_putStart : Kp := (yX0_putStart, cX0_putStart, 3, none, [], 0, 0)
def KX0_start : Kp := (yX0_start, cX0_start, 2, (some .int), [], 0, 0)
def KX0_end : Kp := (yX0_end, cX0_end, 2, (some .int), [], 1, 21)
def KX0_base : Kp := (yX0_base, cX0_base, 2, (some .int), [], 1, 21)
def KX0_membersIn : Kp := (yX0_membersIn, cX0_membersIn, 2, (some .int), [], 2, 42)
def KX0_greatestIn : Kp := (yX0_greatestIn, cX0_greatestIn, 2, (some .int), [], 2, 42)
def KX0_bytesOf : Kp := (yX0_bytesOf, cX0_bytesOf, 4, (some .int), [], 2, 42)
def KX0_greatestGapIn : Kp := (yX0_greatestGapIn, cX0_greatestGapIn, 4, (some .int), [], 2, 42)
def KX0_wideGaps : Kp := (yX0_wideGaps, cX0_wideGaps, 4, (some .int), [], 2, 42)
def KX0_blockAt : Kp := (yX0_blockAt, cX0_blockAt, 4, (some .int), [], 1, 21)
def KX1_init : Kp := (yX1_init, cX1_init, 1, none, [], 1, 20)
def KX1_length : Kp := (yX1_length, cX1_length, 1, (some .int), [], 0, 0)
def KX1_at : Kp := (yX1_at, cX1_at, 2, (some .int), [], 0, 0)
def KX1_put : Kp := (yX1_put, cX1_put, 2, none, [], 0, 0)
def KX1_empty : Kp := (yX1_empty, cX1_empty, 1, none, [], 0, 0)
def KX2_init : Kp := (yX2_init, cX2_init, 2, none, [], 3, 62)
def KX2_amount : Kp := (yX2_amount, cX2_amount, 1, (some .int), [], 0, 0)
def KX2_save : Kp := (yX2_save, cX2_save, 3, none, [], 3, 65)
def KX2_restore : Kp := (yX2_restore, cX2_restore, 4, none, [], 3, 65)
def KX2_slotAt : Kp := (yX2_slotAt, cX2_slotAt, 2, (some (.object "GapSets$State")), [], 0, 0)
def KX3_init : Kp := (yX3_init, cX3_init, 1, none, [], 3, 61)
def KX3_begin : Kp := (yX3_begin, cX3_begin, 3, none, [], 3, 73)
def KX3_reached : Kp := (yX3_reached, cX3_reached, 1, (some .int), [], 1, 21)
def KX3_allLeaps : Kp := (yX3_allLeaps, cX3_allLeaps, 1, (some .int), [], 0, 0)
def KX3_allLooks : Kp := (yX3_allLooks, cX3_allLooks, 1, (some .int), [], 0, 0)
def KX3_steps : Kp := (yX3_steps, cX3_steps, 1, (some .boolean), [], 1, 20)
def KX3_leapsTo : Kp := (yX3_leapsTo, cX3_leapsTo, 4, (some .boolean), [], 3, 67)
def KX3_lookForBlock : Kp := (yX3_lookForBlock, cX3_lookForBlock, 4, (some .int), [], 2, 44)
def KX4_init : Kp := (yX4_init, cX4_init, 1, none, [], 4, 81)
def KX4_run : Kp := (yX4_run, cX4_run, 8, none, [], 4, 95)
def KX4_result : Kp := (yX4_result, cX4_result, 2, (some .int), [], 1, 20)
def KX5_init : Kp := (yX5_init, cX5_init, 2, none, [], 1, 20)
def KX5_amount : Kp := (yX5_amount, cX5_amount, 1, (some .int), [], 0, 0)
def KX5_isEmpty : Kp := (yX5_isEmpty, cX5_isEmpty, 1, (some .boolean), [], 0, 0)
def KX5_at : Kp := (yX5_at, cX5_at, 2, (some .int), [], 0, 0)
def KX5_least : Kp := (yX5_least, cX5_least, 1, (some .int), [], 1, 21)
def KX5_greatest : Kp := (yX5_greatest, cX5_greatest, 1, (some .int), [], 1, 21)
def KX5_gapAhead : Kp := (yX5_gapAhead, cX5_gapAhead, 3, (some .int), [], 0, 0)
def KX5_placeOf : Kp := (yX5_placeOf, cX5_placeOf, 3, (some .int), [], 1, 21)
def KX5_holds : Kp := (yX5_holds, cX5_holds, 3, (some .boolean), [], 2, 43)
def KX5_nearestTo : Kp := (yX5_nearestTo, cX5_nearestTo, 5, (some .int), [], 2, 43)
def KX5_longestRow : Kp := (yX5_longestRow, cX5_longestRow, 4, (some .int), [], 1, 22)
def KX5_isLike : Kp := (yX5_isLike, cX5_isLike, 3, (some .boolean), [], 1, 21)
def KX5_beginsBlock : Kp := (yX5_beginsBlock, cX5_beginsBlock, 5, (some .boolean), [], 1, 22)
def KX5_bytes : Kp := (yX5_bytes, cX5_bytes, 6, (some .int), [], 2, 46)
def KX5_empty : Kp := (yX5_empty, cX5_empty, 1, none, [], 0, 0)
def KX5_put : Kp := (yX5_put, cX5_put, 4, none, [], 3, 65)
def KX5_cutOut : Kp := (yX5_cutOut, cX5_cutOut, 6, (some .int), [], 0, 0)
def KX5_moveBy : Kp := (yX5_moveBy, cX5_moveBy, 3, none, [], 0, 0)
def KX5_copyFrom : Kp := (yX5_copyFrom, cX5_copyFrom, 3, none, [], 1, 21)
def KX6_init : Kp := (yX6_init, cX6_init, 1, none, [], 2, 41)
def KX6_parse : Kp := (yX6_parse, cX6_parse, 3, (some .int), [], 3, 67)
def KX6_parsesWhole : Kp := (yX6_parsesWhole, cX6_parsesWhole, 2, (some .boolean), [], 4, 89)
def KX6_amount : Kp := (yX6_amount, cX6_amount, 3, (some .int), [], 0, 0)
def KX6_fill : Kp := (yX6_fill, cX6_fill, 4, none, [], 4, 88)
def KX6_restart : Kp := (yX6_restart, cX6_restart, 1, none, [], 1, 21)
def KX6_beginNumber : Kp := (yX6_beginNumber, cX6_beginNumber, 2, none, [], 0, 0)
def KX6_takes : Kp := (yX6_takes, cX6_takes, 2, (some .boolean), [], 2, 46)
def KX6_takesComma : Kp := (yX6_takesComma, cX6_takesComma, 1, (some .boolean), [], 1, 21)
def KX6_takesDash : Kp := (yX6_takesDash, cX6_takesDash, 1, (some .boolean), [], 1, 21)
def KX6_takesDigit : Kp := (yX6_takesDigit, cX6_takesDigit, 4, (some .boolean), [], 1, 23)
def KX6_isWhole : Kp := (yX6_isWhole, cX6_isWhole, 1, (some .boolean), [], 0, 0)
def KX6_closePart : Kp := (yX6_closePart, cX6_closePart, 1, none, [], 0, 0)
def KX6_greatestFrom : Kp := (yX6_greatestFrom, cX6_greatestFrom, 4, (some .int), [], 0, 0)
def KX7_init : Kp := (yX7_init, cX7_init, 2, none, [], 2, 41)
def KX7_members : Kp := (yX7_members, cX7_members, 3, (some (.object "GapSets$Members")), [], 0, 0)
def KX7_valueOf : Kp := (yX7_valueOf, cX7_valueOf, 2, (some .int), [], 0, 0)
def KX7_change : Kp := (yX7_change, cX7_change, 3, none, [], 0, 0)
def KX7_copyFrom : Kp := (yX7_copyFrom, cX7_copyFrom, 3, none, [], 2, 43)
def KX8_init : Kp := (yX8_init, cX8_init, 1, none, [], 5, 101)
def KX8_add : Kp := (yX8_add, cX8_add, 5, (some .int), [], 9, 143)
def KX8_remove : Kp := (yX8_remove, cX8_remove, 3, (some .int), [], 9, 143)
def KX8_removeRange : Kp := (yX8_removeRange, cX8_removeRange, 4, (some .int), [], 9, 143)
def KX8_shift : Kp := (yX8_shift, cX8_shift, 4, (some .int), [], 8, 123)
def KX8_combine : Kp := (yX8_combine, cX8_combine, 5, (some .int), [], 8, 123)
def KX8_set : Kp := (yX8_set, cX8_set, 4, (some .int), [], 8, 123)
def KX8_append : Kp := (yX8_append, cX8_append, 2, (some .int), [], 8, 123)
def KX8_clearBuffer : Kp := (yX8_clearBuffer, cX8_clearBuffer, 2, (some .int), [], 1, 20)
def KX8_firstError : Kp := (yX8_firstError, cX8_firstError, 1, (some .int), [], 4, 89)
def KX8_read : Kp := (yX8_read, cX8_read, 3, (some .int), [], 8, 123)
def KX8_undo : Kp := (yX8_undo, cX8_undo, 1, (some .int), [], 8, 123)
def KX8_has : Kp := (yX8_has, cX8_has, 3, (some .int), [], 9, 143)
def KX8_member : Kp := (yX8_member, cX8_member, 3, (some .int), [], 8, 123)
def KX8_less : Kp := (yX8_less, cX8_less, 3, (some .int), [], 9, 143)
def KX8_nearest : Kp := (yX8_nearest, cX8_nearest, 3, (some .int), [], 9, 143)
def KX8_block : Kp := (yX8_block, cX8_block, 4, (some .int), [], 8, 123)
def KX8_of : Kp := (yX8_of, cX8_of, 4, (some .int), [], 8, 123)
def KX8_leaps : Kp := (yX8_leaps, cX8_leaps, 4, (some .int), [], 8, 123)
def KX8_count : Kp := (yX8_count, cX8_count, 2, (some .int), [], 8, 123)
def KX8_setting : Kp := (yX8_setting, cX8_setting, 2, (some .int), [], 8, 123)
def KX8_ifSet : Kp := (yX8_ifSet, cX8_ifSet, 4, (some .int), [], 8, 123)
def KX8_ifAdded : Kp := (yX8_ifAdded, cX8_ifAdded, 4, (some .int), [], 9, 143)
def KX8_dearest : Kp := (yX8_dearest, cX8_dearest, 9, (some .int), [], 8, 123)
def KX8_bestWidth : Kp := (yX8_bestWidth, cX8_bestWidth, 5, (some .int), [], 5, 111)
def KX8_smallness : Kp := (yX8_smallness, cX8_smallness, 2, (some .double), [], 4, 94)
def KX8_digest : Kp := (yX8_digest, cX8_digest, 4, (some .long), [], 11, 192)
def KX8_requireSet : Kp := (yX8_requireSet, cX8_requireSet, 1, none, [], 7, 103)
def KX8_requireSetting : Kp := (yX8_requireSetting, cX8_requireSetting, 1, none, [], 7, 103)
def KX8_requireNumber : Kp := (yX8_requireNumber, cX8_requireNumber, 1, none, [], 8, 123)
def KX8_requireArgument : Kp := (yX8_requireArgument, cX8_requireArgument, 1, none, [], 7, 103)
def KX8_requireState : Kp := (yX8_requireState, cX8_requireState, 1, none, [], 7, 103)
def KX8_isMost : Kp := (yX8_isMost, cX8_isMost, 1, (some .boolean), [], 0, 0)
def KX8_isWidth : Kp := (yX8_isWidth, cX8_isWidth, 1, (some .boolean), [], 0, 0)
def KX8_joinInto : Kp := (yX8_joinInto, cX8_joinInto, 6, none, [], 4, 88)
def KX8_sizeOf : Kp := (yX8_sizeOf, cX8_sizeOf, 2, (some .int), [], 3, 71)
def KX8_allMembers : Kp := (yX8_allMembers, cX8_allMembers, 3, (some .int), [], 1, 22)
def KX8_unlikeMembers : Kp := (yX8_unlikeMembers, cX8_unlikeMembers, 5, (some .int), [], 4, 89)
def KX8_membersOfAllFour : Kp := (yX8_membersOfAllFour, cX8_membersOfAllFour, 4, (some .int), [], 4, 89)
def KX8_holdersAhead : Kp := (yX8_holdersAhead, cX8_holdersAhead, 5, (some .int), [], 3, 65)
def KX8_allSizes : Kp := (yX8_allSizes, cX8_allSizes, 4, (some .int), [], 3, 71)
def KX8_allBlocks : Kp := (yX8_allBlocks, cX8_allBlocks, 3, (some .int), [], 3, 73)
def KX8_pairsAlike : Kp := (yX8_pairsAlike, cX8_pairsAlike, 4, (some .int), [], 2, 43)
def KX8_gatherWidths : Kp := (yX8_gatherWidths, cX8_gatherWidths, 4, none, [], 4, 88)
def KX8_mix : Kp := (yX8_mix, cX8_mix, 4, (some .long), [], 0, 0)
def KX8_mixMembers : Kp := (yX8_mixMembers, cX8_mixMembers, 8, (some .long), [], 9, 146)
def KX8_mixBlocks : Kp := (yX8_mixBlocks, cX8_mixBlocks, 9, (some .long), [], 9, 146)
def KX8_mixLooks : Kp := (yX8_mixLooks, cX8_mixLooks, 7, (some .long), [], 10, 166)
def KX8_mixBuffer : Kp := (yX8_mixBuffer, cX8_mixBuffer, 6, (some .long), [], 1, 23)
def KX8_bitsOf : Kp := (yX8_bitsOf, cX8_bitsOf, 7, (some .long), [], 0, 0)
def KX8_gapBytes : Kp := (yX8_gapBytes, cX8_gapBytes, 1, (some .int), [], 0, 0)
def KX9_init : Kp := (yX9_init, cX9_init, 1, none, [], 1, 20)
def KX9_thrown : Kp := (yX9_thrown, cX9_thrown, 1, (some .int), [], 0, 0)
def KX9_within : Kp := (yX9_within, cX9_within, 3, (some .boolean), [], 0, 0)
def KX9_save : Kp := (yX9_save, cX9_save, 2, none, [], 0, 0)
def KX9_isSet : Kp := (yX9_isSet, cX9_isSet, 1, (some .boolean), [], 1, 22)
def KX9_isNumber : Kp := (yX9_isNumber, cX9_isNumber, 1, (some .boolean), [], 1, 22)
def KX9_many : Kp := (yX9_many, cX9_many, 2, (some .int), [], 0, 0)
def KX9_at : Kp := (yX9_at, cX9_at, 3, (some .int), [], 0, 0)
def KX9_lessThan : Kp := (yX9_lessThan, cX9_lessThan, 4, (some .int), [], 1, 22)
def KX9_isMember : Kp := (yX9_isMember, cX9_isMember, 4, (some .boolean), [], 2, 45)
def KX9_takeRow : Kp := (yX9_takeRow, cX9_takeRow, 3, none, [], 1, 22)
def KX9_layRow : Kp := (yX9_layRow, cX9_layRow, 3, none, [], 0, 0)
def KX9_layBlocks : Kp := (yX9_layBlocks, cX9_layBlocks, 6, none, [], 0, 0)
def KX9_blocksOf : Kp := (yX9_blocksOf, cX9_blocksOf, 2, none, [], 2, 44)
def KX9_bytesOf : Kp := (yX9_bytesOf, cX9_bytesOf, 4, (some .int), [], 0, 0)
def KX9_bytes : Kp := (yX9_bytes, cX9_bytes, 3, (some .int), [], 1, 23)
def KX9_sizeBy : Kp := (yX9_sizeBy, cX9_sizeBy, 4, (some .int), [], 2, 45)
def KX9_sizeOf : Kp := (yX9_sizeOf, cX9_sizeOf, 2, (some .int), [], 3, 68)
def KX9_insert : Kp := (yX9_insert, cX9_insert, 5, none, [], 2, 45)
def KX9_add : Kp := (yX9_add, cX9_add, 3, (some .int), [], 3, 69)
def KX9_takeAway : Kp := (yX9_takeAway, cX9_takeAway, 7, (some .int), [], 2, 45)
def KX9_remove : Kp := (yX9_remove, cX9_remove, 3, (some .int), [], 3, 71)
def KX9_removeRange : Kp := (yX9_removeRange, cX9_removeRange, 4, (some .int), [], 3, 71)
def KX9_leastOf : Kp := (yX9_leastOf, cX9_leastOf, 2, (some .int), [], 1, 22)
def KX9_greatestOf : Kp := (yX9_greatestOf, cX9_greatestOf, 2, (some .int), [], 1, 22)
def KX9_canShift : Kp := (yX9_canShift, cX9_canShift, 3, (some .boolean), [], 2, 43)
def KX9_shift : Kp := (yX9_shift, cX9_shift, 4, (some .int), [], 3, 65)
def KX9_belongs : Kp := (yX9_belongs, cX9_belongs, 3, (some .boolean), [], 0, 0)
def KX9_layCombined : Kp := (yX9_layCombined, cX9_layCombined, 9, none, [], 1, 22)
def KX9_combine : Kp := (yX9_combine, cX9_combine, 5, (some .int), [], 2, 50)
def KX9_isMost : Kp := (yX9_isMost, cX9_isMost, 1, (some .boolean), [], 1, 22)
def KX9_isWidth : Kp := (yX9_isWidth, cX9_isWidth, 1, (some .boolean), [], 1, 22)
def KX9_set : Kp := (yX9_set, cX9_set, 4, (some .int), [], 2, 42)
def KX9_append : Kp := (yX9_append, cX9_append, 2, (some .int), [], 1, 22)
def KX9_clearBuffer : Kp := (yX9_clearBuffer, cX9_clearBuffer, 2, (some .int), [], 0, 0)
def KX9_greatestFrom : Kp := (yX9_greatestFrom, cX9_greatestFrom, 2, (some .int), [], 0, 0)
def KX9_takesDigit : Kp := (yX9_takesDigit, cX9_takesDigit, 4, (some .boolean), [], 1, 22)
def KX9_isEnded : Kp := (yX9_isEnded, cX9_isEnded, 1, (some .boolean), [], 0, 0)
def KX9_endNumber : Kp := (yX9_endNumber, cX9_endNumber, 1, none, [], 0, 0)
def KX9_takes : Kp := (yX9_takes, cX9_takes, 2, (some .boolean), [], 2, 45)
def KX9_rightUpTo : Kp := (yX9_rightUpTo, cX9_rightUpTo, 2, (some .int), [], 3, 66)
def KX9_firstError : Kp := (yX9_firstError, cX9_firstError, 1, (some .int), [], 4, 87)
def KX9_toldMany : Kp := (yX9_toldMany, cX9_toldMany, 3, (some .int), [], 0, 0)
def KX9_read : Kp := (yX9_read, cX9_read, 5, (some .int), [], 4, 87)
def KX9_undo : Kp := (yX9_undo, cX9_undo, 2, (some .int), [], 0, 0)
def KX9_has : Kp := (yX9_has, cX9_has, 3, (some .int), [], 3, 68)
def KX9_member : Kp := (yX9_member, cX9_member, 3, (some .int), [], 2, 42)
def KX9_less : Kp := (yX9_less, cX9_less, 3, (some .int), [], 2, 45)
def KX9_nearestTo : Kp := (yX9_nearestTo, cX9_nearestTo, 8, (some .int), [], 1, 22)
def KX9_nearest : Kp := (yX9_nearest, cX9_nearest, 3, (some .int), [], 2, 49)
def KX9_greatestGap : Kp := (yX9_greatestGap, cX9_greatestGap, 5, (some .int), [], 0, 0)
def KX9_blockNow : Kp := (yX9_blockNow, cX9_blockNow, 4, (some .int), [], 3, 65)
def KX9_block : Kp := (yX9_block, cX9_block, 4, (some .int), [], 4, 88)
def KX9_longestRun : Kp := (yX9_longestRun, cX9_longestRun, 6, (some .int), [], 1, 22)
def KX9_wideGaps : Kp := (yX9_wideGaps, cX9_wideGaps, 5, (some .int), [], 3, 65)
def KX9_blockCount : Kp := (yX9_blockCount, cX9_blockCount, 2, (some .int), [], 3, 65)
def KX9_setNow : Kp := (yX9_setNow, cX9_setNow, 3, (some .int), [], 4, 89)
def KX9_of : Kp := (yX9_of, cX9_of, 3, (some .int), [], 5, 111)
def KX9_leap : Kp := (yX9_leap, cX9_leap, 7, (some .int), [], 3, 65)
def KX9_blockWith : Kp := (yX9_blockWith, cX9_blockWith, 4, (some .int), [], 3, 65)
def KX9_goThrough : Kp := (yX9_goThrough, cX9_goThrough, 6, none, [], 4, 91)
def KX9_leapsNow : Kp := (yX9_leapsNow, cX9_leapsNow, 4, (some .int), [], 5, 116)
def KX9_leaps : Kp := (yX9_leaps, cX9_leaps, 4, (some .int), [], 6, 139)
def KX9_setsWith : Kp := (yX9_setsWith, cX9_setsWith, 5, (some .int), [], 3, 68)
def KX9_membersOfAll : Kp := (yX9_membersOfAll, cX9_membersOfAll, 6, (some .int), [], 4, 92)
def KX9_sumOf : Kp := (yX9_sumOf, cX9_sumOf, 5, (some .int), [], 5, 111)
def KX9_areAlike : Kp := (yX9_areAlike, cX9_areAlike, 5, (some .boolean), [], 1, 22)
def KX9_alikePairs : Kp := (yX9_alikePairs, cX9_alikePairs, 4, (some .int), [], 2, 46)
def KX9_counted : Kp := (yX9_counted, cX9_counted, 2, (some .int), [], 6, 135)
def KX9_count : Kp := (yX9_count, cX9_count, 2, (some .int), [], 7, 156)
def KX9_setting : Kp := (yX9_setting, cX9_setting, 2, (some .int), [], 1, 22)
def KX9_ifSet : Kp := (yX9_ifSet, cX9_ifSet, 4, (some .int), [], 3, 68)
def KX9_addedThen : Kp := (yX9_addedThen, cX9_addedThen, 5, (some .int), [], 4, 89)
def KX9_ifAdded : Kp := (yX9_ifAdded, cX9_ifAdded, 3, (some .int), [], 5, 113)
def KX9_sizeWithout : Kp := (yX9_sizeWithout, cX9_sizeWithout, 4, (some .int), [], 2, 45)
def KX9_dearestNow : Kp := (yX9_dearestNow, cX9_dearestNow, 8, (some .int), [], 3, 68)
def KX9_dearest : Kp := (yX9_dearest, cX9_dearest, 3, (some .int), [], 4, 95)
def KX9_sizesBy : Kp := (yX9_sizesBy, cX9_sizesBy, 5, (some .int), [], 3, 68)
def KX9_bestNow : Kp := (yX9_bestNow, cX9_bestNow, 8, (some .int), [], 4, 92)
def KX9_bestWidth : Kp := (yX9_bestWidth, cX9_bestWidth, 1, (some .int), [], 5, 119)
def KX9_small : Kp := (yX9_small, cX9_small, 2, (some .double), [], 6, 135)
def KX9_smallness : Kp := (yX9_smallness, cX9_smallness, 1, (some .double), [], 7, 156)
def KX9_mix : Kp := (yX9_mix, cX9_mix, 3, none, [], 0, 0)
def KX9_mixSet : Kp := (yX9_mixSet, cX9_mixSet, 4, none, [], 6, 139)
def KX9_digest : Kp := (yX9_digest, cX9_digest, 2, (some .long), [], 7, 162)
def KL_add : Kp := (yL_add, cL_add, 5, (some .int), [(0, 10, 13, 13), (0, 10, 17, 15), (0, 10, 21, 17)], 10, 167)
def KL_remove : Kp := (yL_remove, cL_remove, 5, (some .int), [(0, 10, 13, 13), (0, 10, 17, 15)], 10, 165)
def KL_removeRange : Kp := (yL_removeRange, cL_removeRange, 6, (some .int), [(0, 12, 15, 13), (0, 12, 19, 15)], 10, 166)
def KL_shift : Kp := (yL_shift, cL_shift, 5, (some .int), [(0, 10, 13, 13), (0, 10, 17, 15), (0, 10, 21, 17)], 9, 146)
def KL_combine : Kp := (yL_combine, cL_combine, 7, (some .int), [(0, 14, 17, 13), (0, 14, 21, 15), (0, 14, 25, 17)], 9, 147)
def KL_set : Kp := (yL_set, cL_set, 5, (some .int), [(0, 10, 13, 13), (0, 10, 17, 15)], 9, 146)
def KL_append : Kp := (yL_append, cL_append, 4, (some .int), [(0, 9, 12, 15), (0, 9, 15, 17)], 9, 144)
def KL_read : Kp := (yL_read, cL_read, 4, (some .int), [(0, 9, 12, 13), (0, 9, 15, 15), (0, 9, 18, 17)], 9, 145)
def KL_undo : Kp := (yL_undo, cL_undo, 3, (some .int), [(0, 8, 11, 17)], 9, 143)
def KL_has : Kp := (yL_has, cL_has, 5, (some .int), [(0, 10, 13, 13), (0, 10, 17, 15)], 10, 165)
def KL_member : Kp := (yL_member, cL_member, 5, (some .int), [(0, 10, 13, 13), (0, 10, 17, 15)], 9, 145)
def KL_less : Kp := (yL_less, cL_less, 5, (some .int), [(0, 10, 13, 13), (0, 10, 17, 15)], 10, 165)
def KL_nearest : Kp := (yL_nearest, cL_nearest, 5, (some .int), [(0, 10, 13, 13), (0, 10, 17, 15)], 10, 165)
def KL_block : Kp := (yL_block, cL_block, 6, (some .int), [(0, 12, 15, 13), (0, 12, 19, 15)], 9, 146)
def KL_of : Kp := (yL_of, cL_of, 5, (some .int), [(0, 10, 13, 13), (0, 10, 17, 15)], 9, 146)
def KL_leaps : Kp := (yL_leaps, cL_leaps, 6, (some .int), [(0, 12, 15, 13), (0, 12, 19, 15)], 9, 146)
def KL_count : Kp := (yL_count, cL_count, 4, (some .int), [(0, 9, 12, 15)], 9, 144)
def KL_setting : Kp := (yL_setting, cL_setting, 4, (some .int), [(0, 9, 12, 13)], 9, 144)
def KL_ifSet : Kp := (yL_ifSet, cL_ifSet, 6, (some .int), [(0, 12, 15, 13), (0, 12, 19, 15)], 9, 146)
def KL_ifAdded : Kp := (yL_ifAdded, cL_ifAdded, 5, (some .int), [(0, 10, 13, 13), (0, 10, 17, 15)], 10, 166)
def KL_dearest : Kp := (yL_dearest, cL_dearest, 5, (some .int), [(0, 10, 13, 13), (0, 10, 17, 15)], 9, 151)
def KL_law : Kp := (x, code, 9, ret, [], 13, 474)
def KM_max : Kp := (⟨"java/lang/Math", "max", "(II)I"⟩, prog_17_method_65_code, 2, (some .int), [], 0, 0)
def KM_min : Kp := (⟨"java/lang/Math", "min", "(II)I"⟩, prog_17_method_69_code, 2, (some .int), [], 0, 0)
def KD_d2l : Kp := (⟨"java/lang/Double", "doubleToLongBits", "(D)J"⟩, prog_12_method_23_code, 2, (some .long), [], 1, 40)
def KD_isNaN : Kp := (⟨"java/lang/Double", "isNaN", "(D)Z"⟩, prog_12_method_6_code, 2, (some .boolean), [], 0, 0)
theorem okX0_init : OkI KX0_init 0 := ⟨rfl, rfl, ⟨lw_gin 208 (by decide +kernel) (by decide +kernel), lw_gin 82 (by decide +kernel) (by decide +kernel), by decide +kernel⟩, lw_gin 207 (by decide +kernel) (by decide +kernel), rfl⟩
theorem okX0_cut : OkV KX0_cut 2 := ⟨rfl, ⟨lw_gin 512 (by decide +kernel) (by decide +kernel), lw_gin 82 (by decide +kernel) (by decide +kernel), by decide +kernel⟩, lw_gin 510 (by decide +kernel) (by decide +kernel), lw_gin 511 (by decide +kernel) (by decide +kernel)⟩
theorem okX0_amount : OkV KX0_amount 0 := ⟨rfl, ⟨lw_gin 701 (by decide +kernel) (by decide +kernel), lw_gin 82 (by decide +kernel) (by decide +kernel), by decide +kernel⟩, lw_gin 699 (by decide +kernel) (by decide +kernel), lw_gin 700 (by decide +kernel) (by decide +kernel)⟩
theorem okX0_putStart : OkV KX0_putStart 2 := ⟨rfl, ⟨lw_gin 520 (by decide +kernel) (by decide +kernel), lw_gin 82 (by decide +kernel) (by decide +kernel), by decide +kernel⟩, lw_gin 519 (by decide +kernel) (by decide +kernel), lw_gin 16 (by decide +kernel) (by decide +kernel)⟩
theorem okX0_start : OkV KX0_start 1 := ⟨rfl, ⟨lw_gin 591 (by decide +kernel) (by decide +kernel), lw_gin 82 (by decide +kernel) (by decide +kernel), by decide +kernel⟩, lw_gin 589 (by decide +kernel) (by decide +kernel), lw_gin 590 (by decide +kernel) (by decide +kernel)⟩
theorem okX0_end : OkV KX0_end 1 := ⟨rfl, ⟨lw_gin 595 (by decide +kernel) (by decide +kernel), lw_gin 82 (by decide +kernel) (by decide +kernel), by decide +kernel⟩, lw_gin 593 (by decide +kernel) (by decide +kernel), lw_gin 594 (by decide +kernel) (by decide +kernel)⟩
theorem okX0_base : OkV KX0_base 1 := ⟨rfl, ⟨lw_gin 608 (by decide +kernel) (by decide +kernel), lw_gin 82 (by decide +kernel) (by decide +kernel), by decide +kernel⟩, lw_gin 606 (by decide +kernel) (by decide +kernel), lw_gin 607 (by decide +kernel) (by decide +kernel)⟩
theorem okX0_membersIn : OkV KX0_membersIn 1 := ⟨rfl, ⟨lw_gin 613 (by decide +kernel) (by decide +kernel), lw_gin 82 (by decide +kernel) (by decide +kernel), by decide +kernel⟩, lw_gin 611 (by decide +kernel) (by decide +kernel), lw_gin 612 (by decide +kernel) (by decide +kernel)⟩
theorem okX0_greatestIn : OkV KX0_greatestIn 1 := ⟨rfl, ⟨lw_gin 617 (by decide +kernel) (by decide +kernel), lw_gin 82 (by decide +kernel) (by decide +kernel), by decide +kernel⟩, lw_gin 615 (by decide +kernel) (by decide +kernel), lw_gin 616 (by decide +kernel) (by decide +kernel)⟩
theorem okX0_bytesOf : OkV KX0_bytesOf 1 := ⟨rfl, ⟨lw_gin 621 (by decide +kernel) (by decide +kernel), lw_gin 82 (by decide +kernel) (by decide +kernel), by decide +kernel⟩, lw_gin 619 (by decide +kernel) (by decide +kernel), lw_gin 620 (by decide +kernel) (by decide +kernel)⟩
theorem okX0_greatestGapIn : OkV KX0_greatestGapIn 1 := ⟨rfl, ⟨lw_gin 626 (by decide +kernel) (by decide +kernel), lw_gin 82 (by decide +kernel) (by decide +kernel), by decide +kernel⟩, lw_gin 624 (by decide +kernel) (by decide +kernel), lw_gin 625 (by decide +kernel) (by decide +kernel)⟩
theorem okX0_wideGaps : OkV KX0_wideGaps 0 := ⟨rfl, ⟨lw_gin 587 (by decide +kernel) (by decide +kernel), lw_gin 82 (by decide +kernel) (by decide +kernel), by decide +kernel⟩, lw_gin 585 (by decide +kernel) (by decide +kernel), lw_gin 586 (by decide +kernel) (by decide +kernel)⟩
theorem okX0_blockAt : OkV KX0_blockAt 1 := ⟨rfl, ⟨lw_gin 697 (by decide +kernel) (by decide +kernel), lw_gin 82 (by decide +kernel) (by decide +kernel), by decide +kernel⟩, lw_gin 695 (by decide +kernel) (by decide +kernel), lw_gin 696 (by decide +kernel) (by decide +kernel)⟩
theorem okX1_init : OkI KX1_init 0 := ⟨rfl, rfl, ⟨lw_gin 156 (by decide +kernel) (by decide +kernel), lw_gin 80 (by decide +kernel) (by decide +kernel), by decide +kernel⟩, lw_gin 155 (by decide +kernel) (by decide +kernel), rfl⟩
theorem okX1_length : OkV KX1_length 0 := ⟨rfl, ⟨lw_gin 298 (by decide +kernel) (by decide +kernel), lw_gin 80 (by decide +kernel) (by decide +kernel), by decide +kernel⟩, lw_gin 296 (by decide +kernel) (by decide +kernel), lw_gin 297 (by decide +kernel) (by decide +kernel)⟩
theorem okX1_at : OkV KX1_at 1 := ⟨rfl, ⟨lw_gin 315 (by decide +kernel) (by decide +kernel), lw_gin 80 (by decide +kernel) (by decide +kernel), by decide +kernel⟩, lw_gin 313 (by decide +kernel) (by decide +kernel), lw_gin 314 (by decide +kernel) (by decide +kernel)⟩
theorem okX1_put : OkV KX1_put 1 := ⟨rfl, ⟨lw_gin 848 (by decide +kernel) (by decide +kernel), lw_gin 80 (by decide +kernel) (by decide +kernel), by decide +kernel⟩, lw_gin 846 (by decide +kernel) (by decide +kernel), lw_gin 847 (by decide +kernel) (by decide +kernel)⟩
theorem okX1_empty : OkV KX1_empty 0 := ⟨rfl, ⟨lw_gin 302 (by decide +kernel) (by decide +kernel), lw_gin 80 (by decide +kernel) (by decide +kernel), by decide +kernel⟩, lw_gin 300 (by decide +kernel) (by decide +kernel), lw_gin 301 (by decide +kernel) (by decide +kernel)⟩
theorem okX2_init : OkI KX2_init 0 := ⟨rfl, rfl, ⟨lw_gin 137 (by decide +kernel) (by decide +kernel), lw_gin 79 (by decide +kernel) (by decide +kernel), by decide +kernel⟩, lw_gin 136 (by decide +kernel) (by decide +kernel), rfl⟩
theorem okX2_amount : OkV KX2_amount 0 := ⟨rfl, ⟨lw_gin 533 (by decide +kernel) (by decide +kernel), lw_gin 79 (by decide +kernel) (by decide +kernel), by decide +kernel⟩, lw_gin 531 (by decide +kernel) (by decide +kernel), lw_gin 532 (by decide +kernel) (by decide +kernel)⟩
theorem okX2_save : OkV KX2_save 1 := ⟨rfl, ⟨lw_gin 767 (by decide +kernel) (by decide +kernel), lw_gin 79 (by decide +kernel) (by decide +kernel), by decide +kernel⟩, lw_gin 765 (by decide +kernel) (by decide +kernel), lw_gin 766 (by decide +kernel) (by decide +kernel)⟩
theorem okX2_restore : OkV KX2_restore 1 := ⟨rfl, ⟨lw_gin 881 (by decide +kernel) (by decide +kernel), lw_gin 79 (by decide +kernel) (by decide +kernel), by decide +kernel⟩, lw_gin 879 (by decide +kernel) (by decide +kernel), lw_gin 880 (by decide +kernel) (by decide +kernel)⟩
theorem okX2_slotAt : OkV KX2_slotAt 1 := ⟨rfl, ⟨lw_gin 771 (by decide +kernel) (by decide +kernel), lw_gin 79 (by decide +kernel) (by decide +kernel), by decide +kernel⟩, lw_gin 770 (by decide +kernel) (by decide +kernel), lw_gin 24 (by decide +kernel) (by decide +kernel)⟩
theorem okX3_init : OkI KX3_init 0 := ⟨rfl, rfl, ⟨lw_gin 232 (by decide +kernel) (by decide +kernel), lw_gin 84 (by decide +kernel) (by decide +kernel), by decide +kernel⟩, lw_gin 231 (by decide +kernel) (by decide +kernel), rfl⟩
theorem okX3_begin : OkV KX3_begin 2 := ⟨rfl, ⟨lw_gin 672 (by decide +kernel) (by decide +kernel), lw_gin 84 (by decide +kernel) (by decide +kernel), by decide +kernel⟩, lw_gin 670 (by decide +kernel) (by decide +kernel), lw_gin 671 (by decide +kernel) (by decide +kernel)⟩
theorem okX3_reached : OkV KX3_reached 0 := ⟨rfl, ⟨lw_gin 680 (by decide +kernel) (by decide +kernel), lw_gin 84 (by decide +kernel) (by decide +kernel), by decide +kernel⟩, lw_gin 678 (by decide +kernel) (by decide +kernel), lw_gin 679 (by decide +kernel) (by decide +kernel)⟩
theorem okX3_allLeaps : OkV KX3_allLeaps 0 := ⟨rfl, ⟨lw_gin 717 (by decide +kernel) (by decide +kernel), lw_gin 84 (by decide +kernel) (by decide +kernel), by decide +kernel⟩, lw_gin 715 (by decide +kernel) (by decide +kernel), lw_gin 716 (by decide +kernel) (by decide +kernel)⟩
theorem okX3_allLooks : OkV KX3_allLooks 0 := ⟨rfl, ⟨lw_gin 721 (by decide +kernel) (by decide +kernel), lw_gin 84 (by decide +kernel) (by decide +kernel), by decide +kernel⟩, lw_gin 719 (by decide +kernel) (by decide +kernel), lw_gin 720 (by decide +kernel) (by decide +kernel)⟩
theorem okX3_steps : OkV KX3_steps 0 := ⟨rfl, ⟨lw_gin 708 (by decide +kernel) (by decide +kernel), lw_gin 84 (by decide +kernel) (by decide +kernel), by decide +kernel⟩, lw_gin 706 (by decide +kernel) (by decide +kernel), lw_gin 707 (by decide +kernel) (by decide +kernel)⟩
theorem okX3_leapsTo : OkV KX3_leapsTo 1 := ⟨rfl, ⟨lw_gin 685 (by decide +kernel) (by decide +kernel), lw_gin 84 (by decide +kernel) (by decide +kernel), by decide +kernel⟩, lw_gin 683 (by decide +kernel) (by decide +kernel), lw_gin 684 (by decide +kernel) (by decide +kernel)⟩
theorem okX3_lookForBlock : OkV KX3_lookForBlock 1 := ⟨rfl, ⟨lw_gin 693 (by decide +kernel) (by decide +kernel), lw_gin 84 (by decide +kernel) (by decide +kernel), by decide +kernel⟩, lw_gin 692 (by decide +kernel) (by decide +kernel), lw_gin 22 (by decide +kernel) (by decide +kernel)⟩
theorem okX4_init : OkI KX4_init 0 := ⟨rfl, rfl, ⟨lw_gin 226 (by decide +kernel) (by decide +kernel), lw_gin 83 (by decide +kernel) (by decide +kernel), by decide +kernel⟩, lw_gin 225 (by decide +kernel) (by decide +kernel), rfl⟩
theorem okX4_run : OkV KX4_run 3 := ⟨rfl, ⟨lw_gin 668 (by decide +kernel) (by decide +kernel), lw_gin 83 (by decide +kernel) (by decide +kernel), by decide +kernel⟩, lw_gin 666 (by decide +kernel) (by decide +kernel), lw_gin 667 (by decide +kernel) (by decide +kernel)⟩
theorem okX4_result : OkV KX4_result 1 := ⟨rfl, ⟨lw_gin 713 (by decide +kernel) (by decide +kernel), lw_gin 83 (by decide +kernel) (by decide +kernel), by decide +kernel⟩, lw_gin 711 (by decide +kernel) (by decide +kernel), lw_gin 712 (by decide +kernel) (by decide +kernel)⟩
theorem okX5_init : OkI KX5_init 1 := ⟨rfl, rfl, ⟨lw_gin 113 (by decide +kernel) (by decide +kernel), lw_gin 78 (by decide +kernel) (by decide +kernel), by decide +kernel⟩, lw_gin 112 (by decide +kernel) (by decide +kernel), rfl⟩
theorem okX5_amount : OkV KX5_amount 0 := ⟨rfl, ⟨lw_gin 378 (by decide +kernel) (by decide +kernel), lw_gin 78 (by decide +kernel) (by decide +kernel), by decide +kernel⟩, lw_gin 376 (by decide +kernel) (by decide +kernel), lw_gin 377 (by decide +kernel) (by decide +kernel)⟩
theorem okX5_isEmpty : OkV KX5_isEmpty 0 := ⟨rfl, ⟨lw_gin 689 (by decide +kernel) (by decide +kernel), lw_gin 78 (by decide +kernel) (by decide +kernel), by decide +kernel⟩, lw_gin 687 (by decide +kernel) (by decide +kernel), lw_gin 688 (by decide +kernel) (by decide +kernel)⟩
theorem okX5_at : OkV KX5_at 1 := ⟨rfl, ⟨lw_gin 370 (by decide +kernel) (by decide +kernel), lw_gin 78 (by decide +kernel) (by decide +kernel), by decide +kernel⟩, lw_gin 368 (by decide +kernel) (by decide +kernel), lw_gin 369 (by decide +kernel) (by decide +kernel)⟩
theorem okX5_least : OkV KX5_least 0 := ⟨rfl, ⟨lw_gin 572 (by decide +kernel) (by decide +kernel), lw_gin 78 (by decide +kernel) (by decide +kernel), by decide +kernel⟩, lw_gin 570 (by decide +kernel) (by decide +kernel), lw_gin 571 (by decide +kernel) (by decide +kernel)⟩
theorem okX5_greatest : OkV KX5_greatest 0 := ⟨rfl, ⟨lw_gin 576 (by decide +kernel) (by decide +kernel), lw_gin 78 (by decide +kernel) (by decide +kernel), by decide +kernel⟩, lw_gin 574 (by decide +kernel) (by decide +kernel), lw_gin 575 (by decide +kernel) (by decide +kernel)⟩
theorem okX5_gapAhead : OkV KX5_gapAhead 1 := ⟨rfl, ⟨lw_gin 382 (by decide +kernel) (by decide +kernel), lw_gin 78 (by decide +kernel) (by decide +kernel), by decide +kernel⟩, lw_gin 380 (by decide +kernel) (by decide +kernel), lw_gin 381 (by decide +kernel) (by decide +kernel)⟩
theorem okX5_placeOf : OkV KX5_placeOf 1 := ⟨rfl, ⟨lw_gin 366 (by decide +kernel) (by decide +kernel), lw_gin 78 (by decide +kernel) (by decide +kernel), by decide +kernel⟩, lw_gin 364 (by decide +kernel) (by decide +kernel), lw_gin 365 (by decide +kernel) (by decide +kernel)⟩
theorem okX5_holds : OkV KX5_holds 1 := ⟨rfl, ⟨lw_gin 362 (by decide +kernel) (by decide +kernel), lw_gin 78 (by decide +kernel) (by decide +kernel), by decide +kernel⟩, lw_gin 360 (by decide +kernel) (by decide +kernel), lw_gin 361 (by decide +kernel) (by decide +kernel)⟩
theorem okX5_nearestTo : OkV KX5_nearestTo 1 := ⟨rfl, ⟨lw_gin 662 (by decide +kernel) (by decide +kernel), lw_gin 78 (by decide +kernel) (by decide +kernel), by decide +kernel⟩, lw_gin 660 (by decide +kernel) (by decide +kernel), lw_gin 661 (by decide +kernel) (by decide +kernel)⟩
theorem okX5_longestRow : OkV KX5_longestRow 0 := ⟨rfl, ⟨lw_gin 580 (by decide +kernel) (by decide +kernel), lw_gin 78 (by decide +kernel) (by decide +kernel), by decide +kernel⟩, lw_gin 578 (by decide +kernel) (by decide +kernel), lw_gin 579 (by decide +kernel) (by decide +kernel)⟩
theorem okX5_isLike : OkV KX5_isLike 1 := ⟨rfl, ⟨lw_gin 528 (by decide +kernel) (by decide +kernel), lw_gin 78 (by decide +kernel) (by decide +kernel), by decide +kernel⟩, lw_gin 526 (by decide +kernel) (by decide +kernel), lw_gin 527 (by decide +kernel) (by decide +kernel)⟩
theorem okX5_beginsBlock : OkV KX5_beginsBlock 4 := ⟨rfl, ⟨lw_gin 398 (by decide +kernel) (by decide +kernel), lw_gin 78 (by decide +kernel) (by decide +kernel), by decide +kernel⟩, lw_gin 396 (by decide +kernel) (by decide +kernel), lw_gin 397 (by decide +kernel) (by decide +kernel)⟩
theorem okX5_bytes : OkV KX5_bytes 2 := ⟨rfl, ⟨lw_gin 394 (by decide +kernel) (by decide +kernel), lw_gin 78 (by decide +kernel) (by decide +kernel), by decide +kernel⟩, lw_gin 392 (by decide +kernel) (by decide +kernel), lw_gin 393 (by decide +kernel) (by decide +kernel)⟩
theorem okX5_empty : OkV KX5_empty 0 := ⟨rfl, ⟨lw_gin 354 (by decide +kernel) (by decide +kernel), lw_gin 78 (by decide +kernel) (by decide +kernel), by decide +kernel⟩, lw_gin 352 (by decide +kernel) (by decide +kernel), lw_gin 353 (by decide +kernel) (by decide +kernel)⟩
theorem okX5_put : OkV KX5_put 1 := ⟨rfl, ⟨lw_gin 358 (by decide +kernel) (by decide +kernel), lw_gin 78 (by decide +kernel) (by decide +kernel), by decide +kernel⟩, lw_gin 356 (by decide +kernel) (by decide +kernel), lw_gin 357 (by decide +kernel) (by decide +kernel)⟩
theorem okX5_cutOut : OkV KX5_cutOut 2 := ⟨rfl, ⟨lw_gin 647 (by decide +kernel) (by decide +kernel), lw_gin 78 (by decide +kernel) (by decide +kernel), by decide +kernel⟩, lw_gin 645 (by decide +kernel) (by decide +kernel), lw_gin 646 (by decide +kernel) (by decide +kernel)⟩
theorem okX5_moveBy : OkV KX5_moveBy 1 := ⟨rfl, ⟨lw_gin 809 (by decide +kernel) (by decide +kernel), lw_gin 78 (by decide +kernel) (by decide +kernel), by decide +kernel⟩, lw_gin 807 (by decide +kernel) (by decide +kernel), lw_gin 808 (by decide +kernel) (by decide +kernel)⟩
theorem okX5_copyFrom : OkV KX5_copyFrom 1 := ⟨rfl, ⟨lw_gin 640 (by decide +kernel) (by decide +kernel), lw_gin 78 (by decide +kernel) (by decide +kernel), by decide +kernel⟩, lw_gin 638 (by decide +kernel) (by decide +kernel), lw_gin 639 (by decide +kernel) (by decide +kernel)⟩
theorem okX6_init : OkI KX6_init 0 := ⟨rfl, rfl, ⟨lw_gin 169 (by decide +kernel) (by decide +kernel), lw_gin 81 (by decide +kernel) (by decide +kernel), by decide +kernel⟩, lw_gin 168 (by decide +kernel) (by decide +kernel), rfl⟩
theorem okX6_parse : OkV KX6_parse 1 := ⟨rfl, ⟨lw_gin 310 (by decide +kernel) (by decide +kernel), lw_gin 81 (by decide +kernel) (by decide +kernel), by decide +kernel⟩, lw_gin 308 (by decide +kernel) (by decide +kernel), lw_gin 309 (by decide +kernel) (by decide +kernel)⟩
theorem okX6_parsesWhole : OkV KX6_parsesWhole 1 := ⟨rfl, ⟨lw_gin 859 (by decide +kernel) (by decide +kernel), lw_gin 81 (by decide +kernel) (by decide +kernel), by decide +kernel⟩, lw_gin 857 (by decide +kernel) (by decide +kernel), lw_gin 858 (by decide +kernel) (by decide +kernel)⟩
theorem okX6_amount : OkV KX6_amount 0 := ⟨rfl, ⟨lw_gin 864 (by decide +kernel) (by decide +kernel), lw_gin 81 (by decide +kernel) (by decide +kernel), by decide +kernel⟩, lw_gin 862 (by decide +kernel) (by decide +kernel), lw_gin 863 (by decide +kernel) (by decide +kernel)⟩
theorem okX6_fill : OkV KX6_fill 1 := ⟨rfl, ⟨lw_gin 868 (by decide +kernel) (by decide +kernel), lw_gin 81 (by decide +kernel) (by decide +kernel), by decide +kernel⟩, lw_gin 866 (by decide +kernel) (by decide +kernel), lw_gin 867 (by decide +kernel) (by decide +kernel)⟩
theorem okX6_restart : OkV KX6_restart 0 := ⟨rfl, ⟨lw_gin 174 (by decide +kernel) (by decide +kernel), lw_gin 81 (by decide +kernel) (by decide +kernel), by decide +kernel⟩, lw_gin 173 (by decide +kernel) (by decide +kernel), lw_gin 0 (by decide +kernel) (by decide +kernel)⟩
theorem okX6_beginNumber : OkV KX6_beginNumber 1 := ⟨rfl, ⟨lw_gin 178 (by decide +kernel) (by decide +kernel), lw_gin 81 (by decide +kernel) (by decide +kernel), by decide +kernel⟩, lw_gin 177 (by decide +kernel) (by decide +kernel), lw_gin 1 (by decide +kernel) (by decide +kernel)⟩
theorem okX6_takes : OkV KX6_takes 1 := ⟨rfl, ⟨lw_gin 319 (by decide +kernel) (by decide +kernel), lw_gin 81 (by decide +kernel) (by decide +kernel), by decide +kernel⟩, lw_gin 318 (by decide +kernel) (by decide +kernel), lw_gin 2 (by decide +kernel) (by decide +kernel)⟩
theorem okX6_takesComma : OkV KX6_takesComma 0 := ⟨rfl, ⟨lw_gin 323 (by decide +kernel) (by decide +kernel), lw_gin 81 (by decide +kernel) (by decide +kernel), by decide +kernel⟩, lw_gin 322 (by decide +kernel) (by decide +kernel), lw_gin 3 (by decide +kernel) (by decide +kernel)⟩
theorem okX6_takesDash : OkV KX6_takesDash 0 := ⟨rfl, ⟨lw_gin 335 (by decide +kernel) (by decide +kernel), lw_gin 81 (by decide +kernel) (by decide +kernel), by decide +kernel⟩, lw_gin 334 (by decide +kernel) (by decide +kernel), lw_gin 6 (by decide +kernel) (by decide +kernel)⟩
theorem okX6_takesDigit : OkV KX6_takesDigit 1 := ⟨rfl, ⟨lw_gin 339 (by decide +kernel) (by decide +kernel), lw_gin 81 (by decide +kernel) (by decide +kernel), by decide +kernel⟩, lw_gin 338 (by decide +kernel) (by decide +kernel), lw_gin 7 (by decide +kernel) (by decide +kernel)⟩
theorem okX6_isWhole : OkV KX6_isWhole 0 := ⟨rfl, ⟨lw_gin 327 (by decide +kernel) (by decide +kernel), lw_gin 81 (by decide +kernel) (by decide +kernel), by decide +kernel⟩, lw_gin 326 (by decide +kernel) (by decide +kernel), lw_gin 4 (by decide +kernel) (by decide +kernel)⟩
theorem okX6_closePart : OkV KX6_closePart 0 := ⟨rfl, ⟨lw_gin 331 (by decide +kernel) (by decide +kernel), lw_gin 81 (by decide +kernel) (by decide +kernel), by decide +kernel⟩, lw_gin 330 (by decide +kernel) (by decide +kernel), lw_gin 5 (by decide +kernel) (by decide +kernel)⟩
theorem okX6_greatestFrom : OkS KX6_greatestFrom 2 := ⟨rfl, ⟨lw_gin 342 (by decide +kernel) (by decide +kernel), lw_gin 81 (by decide +kernel) (by decide +kernel), by decide +kernel⟩, lw_gin 341 (by decide +kernel) (by decide +kernel)⟩
theorem okX7_init : OkI KX7_init 0 := ⟨rfl, rfl, ⟨lw_gin 106 (by decide +kernel) (by decide +kernel), lw_gin 77 (by decide +kernel) (by decide +kernel), by decide +kernel⟩, lw_gin 105 (by decide +kernel) (by decide +kernel), rfl⟩
theorem okX7_members : OkV KX7_members 1 := ⟨rfl, ⟨lw_gin 374 (by decide +kernel) (by decide +kernel), lw_gin 77 (by decide +kernel) (by decide +kernel), by decide +kernel⟩, lw_gin 372 (by decide +kernel) (by decide +kernel), lw_gin 373 (by decide +kernel) (by decide +kernel)⟩
theorem okX7_valueOf : OkV KX7_valueOf 1 := ⟨rfl, ⟨lw_gin 390 (by decide +kernel) (by decide +kernel), lw_gin 77 (by decide +kernel) (by decide +kernel), by decide +kernel⟩, lw_gin 388 (by decide +kernel) (by decide +kernel), lw_gin 389 (by decide +kernel) (by decide +kernel)⟩
theorem okX7_change : OkV KX7_change 2 := ⟨rfl, ⟨lw_gin 782 (by decide +kernel) (by decide +kernel), lw_gin 77 (by decide +kernel) (by decide +kernel), by decide +kernel⟩, lw_gin 780 (by decide +kernel) (by decide +kernel), lw_gin 781 (by decide +kernel) (by decide +kernel)⟩
theorem okX7_copyFrom : OkV KX7_copyFrom 1 := ⟨rfl, ⟨lw_gin 775 (by decide +kernel) (by decide +kernel), lw_gin 77 (by decide +kernel) (by decide +kernel), by decide +kernel⟩, lw_gin 773 (by decide +kernel) (by decide +kernel), lw_gin 774 (by decide +kernel) (by decide +kernel)⟩
theorem okX8_init : OkI KX8_init 0 := ⟨rfl, rfl, ⟨lw_gin 98 (by decide +kernel) (by decide +kernel), lw_gin 76 (by decide +kernel) (by decide +kernel), by decide +kernel⟩, lw_gin 97 (by decide +kernel) (by decide +kernel), rfl⟩
theorem okX8_add : OkV KX8_add 2 := ⟨rfl, ⟨lw_gin 744 (by decide +kernel) (by decide +kernel), lw_gin 76 (by decide +kernel) (by decide +kernel), by decide +kernel⟩, lw_gin 742 (by decide +kernel) (by decide +kernel), lw_gin 743 (by decide +kernel) (by decide +kernel)⟩
theorem okX8_remove : OkV KX8_remove 2 := ⟨rfl, ⟨lw_gin 790 (by decide +kernel) (by decide +kernel), lw_gin 76 (by decide +kernel) (by decide +kernel), by decide +kernel⟩, lw_gin 788 (by decide +kernel) (by decide +kernel), lw_gin 789 (by decide +kernel) (by decide +kernel)⟩
theorem okX8_removeRange : OkV KX8_removeRange 3 := ⟨rfl, ⟨lw_gin 797 (by decide +kernel) (by decide +kernel), lw_gin 76 (by decide +kernel) (by decide +kernel), by decide +kernel⟩, lw_gin 795 (by decide +kernel) (by decide +kernel), lw_gin 796 (by decide +kernel) (by decide +kernel)⟩
theorem okX8_shift : OkV KX8_shift 2 := ⟨rfl, ⟨lw_gin 804 (by decide +kernel) (by decide +kernel), lw_gin 76 (by decide +kernel) (by decide +kernel), by decide +kernel⟩, lw_gin 802 (by decide +kernel) (by decide +kernel), lw_gin 803 (by decide +kernel) (by decide +kernel)⟩
theorem okX8_combine : OkV KX8_combine 4 := ⟨rfl, ⟨lw_gin 816 (by decide +kernel) (by decide +kernel), lw_gin 76 (by decide +kernel) (by decide +kernel), by decide +kernel⟩, lw_gin 814 (by decide +kernel) (by decide +kernel), lw_gin 815 (by decide +kernel) (by decide +kernel)⟩
theorem okX8_set : OkV KX8_set 2 := ⟨rfl, ⟨lw_gin 826 (by decide +kernel) (by decide +kernel), lw_gin 76 (by decide +kernel) (by decide +kernel), by decide +kernel⟩, lw_gin 824 (by decide +kernel) (by decide +kernel), lw_gin 825 (by decide +kernel) (by decide +kernel)⟩
theorem okX8_append : OkV KX8_append 1 := ⟨rfl, ⟨lw_gin 844 (by decide +kernel) (by decide +kernel), lw_gin 76 (by decide +kernel) (by decide +kernel), by decide +kernel⟩, lw_gin 842 (by decide +kernel) (by decide +kernel), lw_gin 843 (by decide +kernel) (by decide +kernel)⟩
theorem okX8_clearBuffer : OkV KX8_clearBuffer 0 := ⟨rfl, ⟨lw_gin 294 (by decide +kernel) (by decide +kernel), lw_gin 76 (by decide +kernel) (by decide +kernel), by decide +kernel⟩, lw_gin 292 (by decide +kernel) (by decide +kernel), lw_gin 293 (by decide +kernel) (by decide +kernel)⟩
theorem okX8_firstError : OkV KX8_firstError 0 := ⟨rfl, ⟨lw_gin 306 (by decide +kernel) (by decide +kernel), lw_gin 76 (by decide +kernel) (by decide +kernel), by decide +kernel⟩, lw_gin 304 (by decide +kernel) (by decide +kernel), lw_gin 305 (by decide +kernel) (by decide +kernel)⟩
theorem okX8_read : OkV KX8_read 1 := ⟨rfl, ⟨lw_gin 855 (by decide +kernel) (by decide +kernel), lw_gin 76 (by decide +kernel) (by decide +kernel), by decide +kernel⟩, lw_gin 853 (by decide +kernel) (by decide +kernel), lw_gin 854 (by decide +kernel) (by decide +kernel)⟩
theorem okX8_undo : OkV KX8_undo 0 := ⟨rfl, ⟨lw_gin 877 (by decide +kernel) (by decide +kernel), lw_gin 76 (by decide +kernel) (by decide +kernel), by decide +kernel⟩, lw_gin 875 (by decide +kernel) (by decide +kernel), lw_gin 876 (by decide +kernel) (by decide +kernel)⟩
theorem okX8_has : OkV KX8_has 2 := ⟨rfl, ⟨lw_gin 888 (by decide +kernel) (by decide +kernel), lw_gin 76 (by decide +kernel) (by decide +kernel), by decide +kernel⟩, lw_gin 886 (by decide +kernel) (by decide +kernel), lw_gin 887 (by decide +kernel) (by decide +kernel)⟩
theorem okX8_member : OkV KX8_member 2 := ⟨rfl, ⟨lw_gin 895 (by decide +kernel) (by decide +kernel), lw_gin 76 (by decide +kernel) (by decide +kernel), by decide +kernel⟩, lw_gin 893 (by decide +kernel) (by decide +kernel), lw_gin 894 (by decide +kernel) (by decide +kernel)⟩
theorem okX8_less : OkV KX8_less 2 := ⟨rfl, ⟨lw_gin 902 (by decide +kernel) (by decide +kernel), lw_gin 76 (by decide +kernel) (by decide +kernel), by decide +kernel⟩, lw_gin 900 (by decide +kernel) (by decide +kernel), lw_gin 901 (by decide +kernel) (by decide +kernel)⟩
theorem okX8_nearest : OkV KX8_nearest 2 := ⟨rfl, ⟨lw_gin 658 (by decide +kernel) (by decide +kernel), lw_gin 76 (by decide +kernel) (by decide +kernel), by decide +kernel⟩, lw_gin 656 (by decide +kernel) (by decide +kernel), lw_gin 657 (by decide +kernel) (by decide +kernel)⟩
theorem okX8_block : OkV KX8_block 3 := ⟨rfl, ⟨lw_gin 604 (by decide +kernel) (by decide +kernel), lw_gin 76 (by decide +kernel) (by decide +kernel), by decide +kernel⟩, lw_gin 602 (by decide +kernel) (by decide +kernel), lw_gin 603 (by decide +kernel) (by decide +kernel)⟩
theorem okX8_of : OkV KX8_of 2 := ⟨rfl, ⟨lw_gin 545 (by decide +kernel) (by decide +kernel), lw_gin 76 (by decide +kernel) (by decide +kernel), by decide +kernel⟩, lw_gin 543 (by decide +kernel) (by decide +kernel), lw_gin 544 (by decide +kernel) (by decide +kernel)⟩
theorem okX8_leaps : OkV KX8_leaps 3 := ⟨rfl, ⟨lw_gin 922 (by decide +kernel) (by decide +kernel), lw_gin 76 (by decide +kernel) (by decide +kernel), by decide +kernel⟩, lw_gin 920 (by decide +kernel) (by decide +kernel), lw_gin 921 (by decide +kernel) (by decide +kernel)⟩
theorem okX8_count : OkV KX8_count 1 := ⟨rfl, ⟨lw_gin 420 (by decide +kernel) (by decide +kernel), lw_gin 76 (by decide +kernel) (by decide +kernel), by decide +kernel⟩, lw_gin 418 (by decide +kernel) (by decide +kernel), lw_gin 419 (by decide +kernel) (by decide +kernel)⟩
theorem okX8_setting : OkV KX8_setting 1 := ⟨rfl, ⟨lw_gin 933 (by decide +kernel) (by decide +kernel), lw_gin 76 (by decide +kernel) (by decide +kernel), by decide +kernel⟩, lw_gin 931 (by decide +kernel) (by decide +kernel), lw_gin 932 (by decide +kernel) (by decide +kernel)⟩
theorem okX8_ifSet : OkV KX8_ifSet 3 := ⟨rfl, ⟨lw_gin 940 (by decide +kernel) (by decide +kernel), lw_gin 76 (by decide +kernel) (by decide +kernel), by decide +kernel⟩, lw_gin 938 (by decide +kernel) (by decide +kernel), lw_gin 939 (by decide +kernel) (by decide +kernel)⟩
theorem okX8_ifAdded : OkV KX8_ifAdded 2 := ⟨rfl, ⟨lw_gin 651 (by decide +kernel) (by decide +kernel), lw_gin 76 (by decide +kernel) (by decide +kernel), by decide +kernel⟩, lw_gin 649 (by decide +kernel) (by decide +kernel), lw_gin 650 (by decide +kernel) (by decide +kernel)⟩
theorem okX8_dearest : OkV KX8_dearest 2 := ⟨rfl, ⟨lw_gin 636 (by decide +kernel) (by decide +kernel), lw_gin 76 (by decide +kernel) (by decide +kernel), by decide +kernel⟩, lw_gin 634 (by decide +kernel) (by decide +kernel), lw_gin 635 (by decide +kernel) (by decide +kernel)⟩
theorem okX8_bestWidth : OkV KX8_bestWidth 0 := ⟨rfl, ⟨lw_gin 346 (by decide +kernel) (by decide +kernel), lw_gin 76 (by decide +kernel) (by decide +kernel), by decide +kernel⟩, lw_gin 344 (by decide +kernel) (by decide +kernel), lw_gin 345 (by decide +kernel) (by decide +kernel)⟩
theorem okX8_smallness : OkV KX8_smallness 0 := ⟨rfl, ⟨lw_gin 407 (by decide +kernel) (by decide +kernel), lw_gin 76 (by decide +kernel) (by decide +kernel), by decide +kernel⟩, lw_gin 405 (by decide +kernel) (by decide +kernel), lw_gin 406 (by decide +kernel) (by decide +kernel)⟩
theorem okX8_digest : OkV KX8_digest 0 := ⟨rfl, ⟨lw_gin 415 (by decide +kernel) (by decide +kernel), lw_gin 76 (by decide +kernel) (by decide +kernel), by decide +kernel⟩, lw_gin 413 (by decide +kernel) (by decide +kernel), lw_gin 414 (by decide +kernel) (by decide +kernel)⟩
theorem okX8_requireSet : OkS KX8_requireSet 1 := ⟨rfl, ⟨lw_gin 548 (by decide +kernel) (by decide +kernel), lw_gin 76 (by decide +kernel) (by decide +kernel), by decide +kernel⟩, lw_gin 547 (by decide +kernel) (by decide +kernel)⟩
theorem okX8_requireSetting : OkS KX8_requireSetting 1 := ⟨rfl, ⟨lw_gin 829 (by decide +kernel) (by decide +kernel), lw_gin 76 (by decide +kernel) (by decide +kernel), by decide +kernel⟩, lw_gin 828 (by decide +kernel) (by decide +kernel)⟩
theorem okX8_requireNumber : OkS KX8_requireNumber 1 := ⟨rfl, ⟨lw_gin 654 (by decide +kernel) (by decide +kernel), lw_gin 76 (by decide +kernel) (by decide +kernel), by decide +kernel⟩, lw_gin 653 (by decide +kernel) (by decide +kernel)⟩
theorem okX8_requireArgument : OkS KX8_requireArgument 1 := ⟨rfl, ⟨lw_gin 423 (by decide +kernel) (by decide +kernel), lw_gin 76 (by decide +kernel) (by decide +kernel), by decide +kernel⟩, lw_gin 422 (by decide +kernel) (by decide +kernel)⟩
theorem okX8_requireState : OkS KX8_requireState 1 := ⟨rfl, ⟨lw_gin 747 (by decide +kernel) (by decide +kernel), lw_gin 76 (by decide +kernel) (by decide +kernel), by decide +kernel⟩, lw_gin 746 (by decide +kernel) (by decide +kernel)⟩
theorem okX8_isMost : OkS KX8_isMost 1 := ⟨rfl, ⟨lw_gin 833 (by decide +kernel) (by decide +kernel), lw_gin 76 (by decide +kernel) (by decide +kernel), by decide +kernel⟩, lw_gin 832 (by decide +kernel) (by decide +kernel)⟩
theorem okX8_isWidth : OkS KX8_isWidth 1 := ⟨rfl, ⟨lw_gin 836 (by decide +kernel) (by decide +kernel), lw_gin 76 (by decide +kernel) (by decide +kernel), by decide +kernel⟩, lw_gin 835 (by decide +kernel) (by decide +kernel)⟩
theorem okX8_joinInto : OkS KX8_joinInto 4 := ⟨rfl, ⟨lw_gin 819 (by decide +kernel) (by decide +kernel), lw_gin 76 (by decide +kernel) (by decide +kernel), by decide +kernel⟩, lw_gin 818 (by decide +kernel) (by decide +kernel)⟩
theorem okX8_sizeOf : OkV KX8_sizeOf 1 := ⟨rfl, ⟨lw_gin 568 (by decide +kernel) (by decide +kernel), lw_gin 76 (by decide +kernel) (by decide +kernel), by decide +kernel⟩, lw_gin 567 (by decide +kernel) (by decide +kernel), lw_gin 19 (by decide +kernel) (by decide +kernel)⟩
theorem okX8_allMembers : OkV KX8_allMembers 0 := ⟨rfl, ⟨lw_gin 411 (by decide +kernel) (by decide +kernel), lw_gin 76 (by decide +kernel) (by decide +kernel), by decide +kernel⟩, lw_gin 410 (by decide +kernel) (by decide +kernel), lw_gin 10 (by decide +kernel) (by decide +kernel)⟩
theorem okX8_unlikeMembers : OkV KX8_unlikeMembers 0 := ⟨rfl, ⟨lw_gin 495 (by decide +kernel) (by decide +kernel), lw_gin 76 (by decide +kernel) (by decide +kernel), by decide +kernel⟩, lw_gin 494 (by decide +kernel) (by decide +kernel), lw_gin 12 (by decide +kernel) (by decide +kernel)⟩
theorem okX8_membersOfAllFour : OkV KX8_membersOfAllFour 0 := ⟨rfl, ⟨lw_gin 504 (by decide +kernel) (by decide +kernel), lw_gin 76 (by decide +kernel) (by decide +kernel), by decide +kernel⟩, lw_gin 503 (by decide +kernel) (by decide +kernel), lw_gin 14 (by decide +kernel) (by decide +kernel)⟩
theorem okX8_holdersAhead : OkV KX8_holdersAhead 2 := ⟨rfl, ⟨lw_gin 499 (by decide +kernel) (by decide +kernel), lw_gin 76 (by decide +kernel) (by decide +kernel), by decide +kernel⟩, lw_gin 498 (by decide +kernel) (by decide +kernel), lw_gin 13 (by decide +kernel) (by decide +kernel)⟩
theorem okX8_allSizes : OkV KX8_allSizes 1 := ⟨rfl, ⟨lw_gin 386 (by decide +kernel) (by decide +kernel), lw_gin 76 (by decide +kernel) (by decide +kernel), by decide +kernel⟩, lw_gin 385 (by decide +kernel) (by decide +kernel), lw_gin 9 (by decide +kernel) (by decide +kernel)⟩
theorem okX8_allBlocks : OkV KX8_allBlocks 0 := ⟨rfl, ⟨lw_gin 508 (by decide +kernel) (by decide +kernel), lw_gin 76 (by decide +kernel) (by decide +kernel), by decide +kernel⟩, lw_gin 507 (by decide +kernel) (by decide +kernel), lw_gin 15 (by decide +kernel) (by decide +kernel)⟩
theorem okX8_pairsAlike : OkV KX8_pairsAlike 0 := ⟨rfl, ⟨lw_gin 524 (by decide +kernel) (by decide +kernel), lw_gin 76 (by decide +kernel) (by decide +kernel), by decide +kernel⟩, lw_gin 523 (by decide +kernel) (by decide +kernel), lw_gin 17 (by decide +kernel) (by decide +kernel)⟩
theorem okX8_gatherWidths : OkV KX8_gatherWidths 0 := ⟨rfl, ⟨lw_gin 350 (by decide +kernel) (by decide +kernel), lw_gin 76 (by decide +kernel) (by decide +kernel), by decide +kernel⟩, lw_gin 349 (by decide +kernel) (by decide +kernel), lw_gin 8 (by decide +kernel) (by decide +kernel)⟩
theorem okX8_mix : OkS KX8_mix 2 := ⟨rfl, ⟨lw_gin 536 (by decide +kernel) (by decide +kernel), lw_gin 76 (by decide +kernel) (by decide +kernel), by decide +kernel⟩, lw_gin 535 (by decide +kernel) (by decide +kernel)⟩
theorem okX8_mixMembers : OkV KX8_mixMembers 2 := ⟨rfl, ⟨lw_gin 541 (by decide +kernel) (by decide +kernel), lw_gin 76 (by decide +kernel) (by decide +kernel), by decide +kernel⟩, lw_gin 540 (by decide +kernel) (by decide +kernel), lw_gin 18 (by decide +kernel) (by decide +kernel)⟩
theorem okX8_mixBlocks : OkV KX8_mixBlocks 2 := ⟨rfl, ⟨lw_gin 600 (by decide +kernel) (by decide +kernel), lw_gin 76 (by decide +kernel) (by decide +kernel), by decide +kernel⟩, lw_gin 599 (by decide +kernel) (by decide +kernel), lw_gin 20 (by decide +kernel) (by decide +kernel)⟩
theorem okX8_mixLooks : OkV KX8_mixLooks 2 := ⟨rfl, ⟨lw_gin 632 (by decide +kernel) (by decide +kernel), lw_gin 76 (by decide +kernel) (by decide +kernel), by decide +kernel⟩, lw_gin 631 (by decide +kernel) (by decide +kernel), lw_gin 21 (by decide +kernel) (by decide +kernel)⟩
theorem okX8_mixBuffer : OkV KX8_mixBuffer 1 := ⟨rfl, ⟨lw_gin 733 (by decide +kernel) (by decide +kernel), lw_gin 76 (by decide +kernel) (by decide +kernel), by decide +kernel⟩, lw_gin 732 (by decide +kernel) (by decide +kernel), lw_gin 23 (by decide +kernel) (by decide +kernel)⟩
theorem okX8_bitsOf : OkS KX8_bitsOf 1 := ⟨rfl, ⟨lw_gin 726 (by decide +kernel) (by decide +kernel), lw_gin 76 (by decide +kernel) (by decide +kernel), by decide +kernel⟩, lw_gin 725 (by decide +kernel) (by decide +kernel)⟩
theorem okX8_gapBytes : OkS KX8_gapBytes 1 := ⟨rfl, ⟨lw_gin 402 (by decide +kernel) (by decide +kernel), lw_gin 76 (by decide +kernel) (by decide +kernel), by decide +kernel⟩, lw_gin 401 (by decide +kernel) (by decide +kernel)⟩
theorem okX9_init : OkI KX9_init 0 := ⟨rfl, rfl, ⟨lw_gin 953 (by decide +kernel) (by decide +kernel), lw_gin 85 (by decide +kernel) (by decide +kernel), by decide +kernel⟩, lw_gin 952 (by decide +kernel) (by decide +kernel), rfl⟩
theorem okX9_thrown : OkV KX9_thrown 0 := ⟨rfl, ⟨lw_gin 1013 (by decide +kernel) (by decide +kernel), lw_gin 85 (by decide +kernel) (by decide +kernel), by decide +kernel⟩, lw_gin 1011 (by decide +kernel) (by decide +kernel), lw_gin 1012 (by decide +kernel) (by decide +kernel)⟩
theorem okX9_within : OkS KX9_within 3 := ⟨rfl, ⟨lw_gin 1023 (by decide +kernel) (by decide +kernel), lw_gin 85 (by decide +kernel) (by decide +kernel), by decide +kernel⟩, lw_gin 1022 (by decide +kernel) (by decide +kernel)⟩
theorem okX9_save : OkV KX9_save 0 := ⟨rfl, ⟨lw_gin 1046 (by decide +kernel) (by decide +kernel), lw_gin 85 (by decide +kernel) (by decide +kernel), by decide +kernel⟩, lw_gin 1045 (by decide +kernel) (by decide +kernel), lw_gin 29 (by decide +kernel) (by decide +kernel)⟩
theorem okX9_isSet : OkS KX9_isSet 1 := ⟨rfl, ⟨lw_gin 1020 (by decide +kernel) (by decide +kernel), lw_gin 85 (by decide +kernel) (by decide +kernel), by decide +kernel⟩, lw_gin 1019 (by decide +kernel) (by decide +kernel)⟩
theorem okX9_isNumber : OkS KX9_isNumber 1 := ⟨rfl, ⟨lw_gin 1026 (by decide +kernel) (by decide +kernel), lw_gin 85 (by decide +kernel) (by decide +kernel), by decide +kernel⟩, lw_gin 1025 (by decide +kernel) (by decide +kernel)⟩
theorem okX9_many : OkV KX9_many 1 := ⟨rfl, ⟨lw_gin 1038 (by decide +kernel) (by decide +kernel), lw_gin 85 (by decide +kernel) (by decide +kernel), by decide +kernel⟩, lw_gin 1037 (by decide +kernel) (by decide +kernel), lw_gin 27 (by decide +kernel) (by decide +kernel)⟩
theorem okX9_at : OkV KX9_at 2 := ⟨rfl, ⟨lw_gin 1042 (by decide +kernel) (by decide +kernel), lw_gin 85 (by decide +kernel) (by decide +kernel), by decide +kernel⟩, lw_gin 1041 (by decide +kernel) (by decide +kernel), lw_gin 28 (by decide +kernel) (by decide +kernel)⟩
theorem okX9_lessThan : OkV KX9_lessThan 2 := ⟨rfl, ⟨lw_gin 1034 (by decide +kernel) (by decide +kernel), lw_gin 85 (by decide +kernel) (by decide +kernel), by decide +kernel⟩, lw_gin 1033 (by decide +kernel) (by decide +kernel), lw_gin 26 (by decide +kernel) (by decide +kernel)⟩
theorem okX9_isMember : OkV KX9_isMember 2 := ⟨rfl, ⟨lw_gin 1030 (by decide +kernel) (by decide +kernel), lw_gin 85 (by decide +kernel) (by decide +kernel), by decide +kernel⟩, lw_gin 1029 (by decide +kernel) (by decide +kernel), lw_gin 25 (by decide +kernel) (by decide +kernel)⟩
theorem okX9_takeRow : OkV KX9_takeRow 1 := ⟨rfl, ⟨lw_gin 1062 (by decide +kernel) (by decide +kernel), lw_gin 85 (by decide +kernel) (by decide +kernel), by decide +kernel⟩, lw_gin 1061 (by decide +kernel) (by decide +kernel), lw_gin 32 (by decide +kernel) (by decide +kernel)⟩
theorem okX9_layRow : OkV KX9_layRow 1 := ⟨rfl, ⟨lw_gin 1066 (by decide +kernel) (by decide +kernel), lw_gin 85 (by decide +kernel) (by decide +kernel), by decide +kernel⟩, lw_gin 1065 (by decide +kernel) (by decide +kernel), lw_gin 33 (by decide +kernel) (by decide +kernel)⟩
theorem okX9_layBlocks : OkV KX9_layBlocks 2 := ⟨rfl, ⟨lw_gin 1190 (by decide +kernel) (by decide +kernel), lw_gin 85 (by decide +kernel) (by decide +kernel), by decide +kernel⟩, lw_gin 1189 (by decide +kernel) (by decide +kernel), lw_gin 47 (by decide +kernel) (by decide +kernel)⟩
theorem okX9_blocksOf : OkV KX9_blocksOf 1 := ⟨rfl, ⟨lw_gin 1186 (by decide +kernel) (by decide +kernel), lw_gin 85 (by decide +kernel) (by decide +kernel), by decide +kernel⟩, lw_gin 1185 (by decide +kernel) (by decide +kernel), lw_gin 46 (by decide +kernel) (by decide +kernel)⟩
theorem okX9_bytesOf : OkV KX9_bytesOf 1 := ⟨rfl, ⟨lw_gin 1194 (by decide +kernel) (by decide +kernel), lw_gin 85 (by decide +kernel) (by decide +kernel), by decide +kernel⟩, lw_gin 1193 (by decide +kernel) (by decide +kernel), lw_gin 48 (by decide +kernel) (by decide +kernel)⟩
theorem okX9_bytes : OkV KX9_bytes 0 := ⟨rfl, ⟨lw_gin 1222 (by decide +kernel) (by decide +kernel), lw_gin 85 (by decide +kernel) (by decide +kernel), by decide +kernel⟩, lw_gin 1221 (by decide +kernel) (by decide +kernel), lw_gin 54 (by decide +kernel) (by decide +kernel)⟩
theorem okX9_sizeBy : OkV KX9_sizeBy 3 := ⟨rfl, ⟨lw_gin 1218 (by decide +kernel) (by decide +kernel), lw_gin 85 (by decide +kernel) (by decide +kernel), by decide +kernel⟩, lw_gin 1217 (by decide +kernel) (by decide +kernel), lw_gin 53 (by decide +kernel) (by decide +kernel)⟩
theorem okX9_sizeOf : OkV KX9_sizeOf 1 := ⟨rfl, ⟨lw_gin 1214 (by decide +kernel) (by decide +kernel), lw_gin 85 (by decide +kernel) (by decide +kernel), by decide +kernel⟩, lw_gin 1213 (by decide +kernel) (by decide +kernel), lw_gin 52 (by decide +kernel) (by decide +kernel)⟩
theorem okX9_insert : OkV KX9_insert 2 := ⟨rfl, ⟨lw_gin 1050 (by decide +kernel) (by decide +kernel), lw_gin 85 (by decide +kernel) (by decide +kernel), by decide +kernel⟩, lw_gin 1049 (by decide +kernel) (by decide +kernel), lw_gin 30 (by decide +kernel) (by decide +kernel)⟩
theorem okX9_add : OkV KX9_add 2 := ⟨rfl, ⟨lw_gin 1017 (by decide +kernel) (by decide +kernel), lw_gin 85 (by decide +kernel) (by decide +kernel), by decide +kernel⟩, lw_gin 1015 (by decide +kernel) (by decide +kernel), lw_gin 1016 (by decide +kernel) (by decide +kernel)⟩
theorem okX9_takeAway : OkV KX9_takeAway 3 := ⟨rfl, ⟨lw_gin 1058 (by decide +kernel) (by decide +kernel), lw_gin 85 (by decide +kernel) (by decide +kernel), by decide +kernel⟩, lw_gin 1057 (by decide +kernel) (by decide +kernel), lw_gin 31 (by decide +kernel) (by decide +kernel)⟩
theorem okX9_remove : OkV KX9_remove 2 := ⟨rfl, ⟨lw_gin 1054 (by decide +kernel) (by decide +kernel), lw_gin 85 (by decide +kernel) (by decide +kernel), by decide +kernel⟩, lw_gin 1052 (by decide +kernel) (by decide +kernel), lw_gin 1053 (by decide +kernel) (by decide +kernel)⟩
theorem okX9_removeRange : OkV KX9_removeRange 3 := ⟨rfl, ⟨lw_gin 1070 (by decide +kernel) (by decide +kernel), lw_gin 85 (by decide +kernel) (by decide +kernel), by decide +kernel⟩, lw_gin 1068 (by decide +kernel) (by decide +kernel), lw_gin 1069 (by decide +kernel) (by decide +kernel)⟩
theorem okX9_leastOf : OkV KX9_leastOf 1 := ⟨rfl, ⟨lw_gin 1082 (by decide +kernel) (by decide +kernel), lw_gin 85 (by decide +kernel) (by decide +kernel), by decide +kernel⟩, lw_gin 1081 (by decide +kernel) (by decide +kernel), lw_gin 35 (by decide +kernel) (by decide +kernel)⟩
theorem okX9_greatestOf : OkV KX9_greatestOf 1 := ⟨rfl, ⟨lw_gin 1086 (by decide +kernel) (by decide +kernel), lw_gin 85 (by decide +kernel) (by decide +kernel), by decide +kernel⟩, lw_gin 1085 (by decide +kernel) (by decide +kernel), lw_gin 36 (by decide +kernel) (by decide +kernel)⟩
theorem okX9_canShift : OkV KX9_canShift 2 := ⟨rfl, ⟨lw_gin 1078 (by decide +kernel) (by decide +kernel), lw_gin 85 (by decide +kernel) (by decide +kernel), by decide +kernel⟩, lw_gin 1077 (by decide +kernel) (by decide +kernel), lw_gin 34 (by decide +kernel) (by decide +kernel)⟩
theorem okX9_shift : OkV KX9_shift 2 := ⟨rfl, ⟨lw_gin 1074 (by decide +kernel) (by decide +kernel), lw_gin 85 (by decide +kernel) (by decide +kernel), by decide +kernel⟩, lw_gin 1072 (by decide +kernel) (by decide +kernel), lw_gin 1073 (by decide +kernel) (by decide +kernel)⟩
theorem okX9_belongs : OkS KX9_belongs 3 := ⟨rfl, ⟨lw_gin 1097 (by decide +kernel) (by decide +kernel), lw_gin 85 (by decide +kernel) (by decide +kernel), by decide +kernel⟩, lw_gin 1096 (by decide +kernel) (by decide +kernel)⟩
theorem okX9_layCombined : OkV KX9_layCombined 3 := ⟨rfl, ⟨lw_gin 1094 (by decide +kernel) (by decide +kernel), lw_gin 85 (by decide +kernel) (by decide +kernel), by decide +kernel⟩, lw_gin 1093 (by decide +kernel) (by decide +kernel), lw_gin 37 (by decide +kernel) (by decide +kernel)⟩
theorem okX9_combine : OkV KX9_combine 4 := ⟨rfl, ⟨lw_gin 1090 (by decide +kernel) (by decide +kernel), lw_gin 85 (by decide +kernel) (by decide +kernel), by decide +kernel⟩, lw_gin 1088 (by decide +kernel) (by decide +kernel), lw_gin 1089 (by decide +kernel) (by decide +kernel)⟩
theorem okX9_isMost : OkS KX9_isMost 1 := ⟨rfl, ⟨lw_gin 1104 (by decide +kernel) (by decide +kernel), lw_gin 85 (by decide +kernel) (by decide +kernel), by decide +kernel⟩, lw_gin 1103 (by decide +kernel) (by decide +kernel)⟩
theorem okX9_isWidth : OkS KX9_isWidth 1 := ⟨rfl, ⟨lw_gin 1107 (by decide +kernel) (by decide +kernel), lw_gin 85 (by decide +kernel) (by decide +kernel), by decide +kernel⟩, lw_gin 1106 (by decide +kernel) (by decide +kernel)⟩
theorem okX9_set : OkV KX9_set 2 := ⟨rfl, ⟨lw_gin 1101 (by decide +kernel) (by decide +kernel), lw_gin 85 (by decide +kernel) (by decide +kernel), by decide +kernel⟩, lw_gin 1099 (by decide +kernel) (by decide +kernel), lw_gin 1100 (by decide +kernel) (by decide +kernel)⟩
theorem okX9_append : OkV KX9_append 1 := ⟨rfl, ⟨lw_gin 1111 (by decide +kernel) (by decide +kernel), lw_gin 85 (by decide +kernel) (by decide +kernel), by decide +kernel⟩, lw_gin 1109 (by decide +kernel) (by decide +kernel), lw_gin 1110 (by decide +kernel) (by decide +kernel)⟩
theorem okX9_clearBuffer : OkV KX9_clearBuffer 0 := ⟨rfl, ⟨lw_gin 1115 (by decide +kernel) (by decide +kernel), lw_gin 85 (by decide +kernel) (by decide +kernel), by decide +kernel⟩, lw_gin 1113 (by decide +kernel) (by decide +kernel), lw_gin 1114 (by decide +kernel) (by decide +kernel)⟩
theorem okX9_greatestFrom : OkS KX9_greatestFrom 1 := ⟨rfl, ⟨lw_gin 1142 (by decide +kernel) (by decide +kernel), lw_gin 85 (by decide +kernel) (by decide +kernel), by decide +kernel⟩, lw_gin 1141 (by decide +kernel) (by decide +kernel)⟩
theorem okX9_takesDigit : OkV KX9_takesDigit 1 := ⟨rfl, ⟨lw_gin 1139 (by decide +kernel) (by decide +kernel), lw_gin 85 (by decide +kernel) (by decide +kernel), by decide +kernel⟩, lw_gin 1138 (by decide +kernel) (by decide +kernel), lw_gin 42 (by decide +kernel) (by decide +kernel)⟩
theorem okX9_isEnded : OkV KX9_isEnded 0 := ⟨rfl, ⟨lw_gin 1131 (by decide +kernel) (by decide +kernel), lw_gin 85 (by decide +kernel) (by decide +kernel), by decide +kernel⟩, lw_gin 1130 (by decide +kernel) (by decide +kernel), lw_gin 40 (by decide +kernel) (by decide +kernel)⟩
theorem okX9_endNumber : OkV KX9_endNumber 0 := ⟨rfl, ⟨lw_gin 1135 (by decide +kernel) (by decide +kernel), lw_gin 85 (by decide +kernel) (by decide +kernel), by decide +kernel⟩, lw_gin 1134 (by decide +kernel) (by decide +kernel), lw_gin 41 (by decide +kernel) (by decide +kernel)⟩
theorem okX9_takes : OkV KX9_takes 1 := ⟨rfl, ⟨lw_gin 1127 (by decide +kernel) (by decide +kernel), lw_gin 85 (by decide +kernel) (by decide +kernel), by decide +kernel⟩, lw_gin 1126 (by decide +kernel) (by decide +kernel), lw_gin 39 (by decide +kernel) (by decide +kernel)⟩
theorem okX9_rightUpTo : OkV KX9_rightUpTo 0 := ⟨rfl, ⟨lw_gin 1123 (by decide +kernel) (by decide +kernel), lw_gin 85 (by decide +kernel) (by decide +kernel), by decide +kernel⟩, lw_gin 1122 (by decide +kernel) (by decide +kernel), lw_gin 38 (by decide +kernel) (by decide +kernel)⟩
theorem okX9_firstError : OkV KX9_firstError 0 := ⟨rfl, ⟨lw_gin 1119 (by decide +kernel) (by decide +kernel), lw_gin 85 (by decide +kernel) (by decide +kernel), by decide +kernel⟩, lw_gin 1117 (by decide +kernel) (by decide +kernel), lw_gin 1118 (by decide +kernel) (by decide +kernel)⟩
theorem okX9_toldMany : OkV KX9_toldMany 0 := ⟨rfl, ⟨lw_gin 1150 (by decide +kernel) (by decide +kernel), lw_gin 85 (by decide +kernel) (by decide +kernel), by decide +kernel⟩, lw_gin 1149 (by decide +kernel) (by decide +kernel), lw_gin 43 (by decide +kernel) (by decide +kernel)⟩
theorem okX9_read : OkV KX9_read 1 := ⟨rfl, ⟨lw_gin 1146 (by decide +kernel) (by decide +kernel), lw_gin 85 (by decide +kernel) (by decide +kernel), by decide +kernel⟩, lw_gin 1144 (by decide +kernel) (by decide +kernel), lw_gin 1145 (by decide +kernel) (by decide +kernel)⟩
theorem okX9_undo : OkV KX9_undo 0 := ⟨rfl, ⟨lw_gin 1154 (by decide +kernel) (by decide +kernel), lw_gin 85 (by decide +kernel) (by decide +kernel), by decide +kernel⟩, lw_gin 1152 (by decide +kernel) (by decide +kernel), lw_gin 1153 (by decide +kernel) (by decide +kernel)⟩
theorem okX9_has : OkV KX9_has 2 := ⟨rfl, ⟨lw_gin 1158 (by decide +kernel) (by decide +kernel), lw_gin 85 (by decide +kernel) (by decide +kernel), by decide +kernel⟩, lw_gin 1156 (by decide +kernel) (by decide +kernel), lw_gin 1157 (by decide +kernel) (by decide +kernel)⟩
theorem okX9_member : OkV KX9_member 2 := ⟨rfl, ⟨lw_gin 1162 (by decide +kernel) (by decide +kernel), lw_gin 85 (by decide +kernel) (by decide +kernel), by decide +kernel⟩, lw_gin 1160 (by decide +kernel) (by decide +kernel), lw_gin 1161 (by decide +kernel) (by decide +kernel)⟩
theorem okX9_less : OkV KX9_less 2 := ⟨rfl, ⟨lw_gin 1166 (by decide +kernel) (by decide +kernel), lw_gin 85 (by decide +kernel) (by decide +kernel), by decide +kernel⟩, lw_gin 1164 (by decide +kernel) (by decide +kernel), lw_gin 1165 (by decide +kernel) (by decide +kernel)⟩
theorem okX9_nearestTo : OkV KX9_nearestTo 2 := ⟨rfl, ⟨lw_gin 1174 (by decide +kernel) (by decide +kernel), lw_gin 85 (by decide +kernel) (by decide +kernel), by decide +kernel⟩, lw_gin 1173 (by decide +kernel) (by decide +kernel), lw_gin 44 (by decide +kernel) (by decide +kernel)⟩
theorem okX9_nearest : OkV KX9_nearest 2 := ⟨rfl, ⟨lw_gin 1170 (by decide +kernel) (by decide +kernel), lw_gin 85 (by decide +kernel) (by decide +kernel), by decide +kernel⟩, lw_gin 1168 (by decide +kernel) (by decide +kernel), lw_gin 1169 (by decide +kernel) (by decide +kernel)⟩
theorem okX9_greatestGap : OkV KX9_greatestGap 1 := ⟨rfl, ⟨lw_gin 1198 (by decide +kernel) (by decide +kernel), lw_gin 85 (by decide +kernel) (by decide +kernel), by decide +kernel⟩, lw_gin 1197 (by decide +kernel) (by decide +kernel), lw_gin 49 (by decide +kernel) (by decide +kernel)⟩
theorem okX9_blockNow : OkV KX9_blockNow 3 := ⟨rfl, ⟨lw_gin 1182 (by decide +kernel) (by decide +kernel), lw_gin 85 (by decide +kernel) (by decide +kernel), by decide +kernel⟩, lw_gin 1181 (by decide +kernel) (by decide +kernel), lw_gin 45 (by decide +kernel) (by decide +kernel)⟩
theorem okX9_block : OkV KX9_block 3 := ⟨rfl, ⟨lw_gin 1178 (by decide +kernel) (by decide +kernel), lw_gin 85 (by decide +kernel) (by decide +kernel), by decide +kernel⟩, lw_gin 1176 (by decide +kernel) (by decide +kernel), lw_gin 1177 (by decide +kernel) (by decide +kernel)⟩
theorem okX9_longestRun : OkV KX9_longestRun 1 := ⟨rfl, ⟨lw_gin 1226 (by decide +kernel) (by decide +kernel), lw_gin 85 (by decide +kernel) (by decide +kernel), by decide +kernel⟩, lw_gin 1225 (by decide +kernel) (by decide +kernel), lw_gin 55 (by decide +kernel) (by decide +kernel)⟩
theorem okX9_wideGaps : OkV KX9_wideGaps 1 := ⟨rfl, ⟨lw_gin 1230 (by decide +kernel) (by decide +kernel), lw_gin 85 (by decide +kernel) (by decide +kernel), by decide +kernel⟩, lw_gin 1229 (by decide +kernel) (by decide +kernel), lw_gin 56 (by decide +kernel) (by decide +kernel)⟩
theorem okX9_blockCount : OkV KX9_blockCount 1 := ⟨rfl, ⟨lw_gin 1210 (by decide +kernel) (by decide +kernel), lw_gin 85 (by decide +kernel) (by decide +kernel), by decide +kernel⟩, lw_gin 1209 (by decide +kernel) (by decide +kernel), lw_gin 51 (by decide +kernel) (by decide +kernel)⟩
theorem okX9_setNow : OkV KX9_setNow 2 := ⟨rfl, ⟨lw_gin 1206 (by decide +kernel) (by decide +kernel), lw_gin 85 (by decide +kernel) (by decide +kernel), by decide +kernel⟩, lw_gin 1205 (by decide +kernel) (by decide +kernel), lw_gin 50 (by decide +kernel) (by decide +kernel)⟩
theorem okX9_of : OkV KX9_of 2 := ⟨rfl, ⟨lw_gin 1202 (by decide +kernel) (by decide +kernel), lw_gin 85 (by decide +kernel) (by decide +kernel), by decide +kernel⟩, lw_gin 1200 (by decide +kernel) (by decide +kernel), lw_gin 1201 (by decide +kernel) (by decide +kernel)⟩
theorem okX9_leap : OkV KX9_leap 3 := ⟨rfl, ⟨lw_gin 1246 (by decide +kernel) (by decide +kernel), lw_gin 85 (by decide +kernel) (by decide +kernel), by decide +kernel⟩, lw_gin 1245 (by decide +kernel) (by decide +kernel), lw_gin 59 (by decide +kernel) (by decide +kernel)⟩
theorem okX9_blockWith : OkV KX9_blockWith 2 := ⟨rfl, ⟨lw_gin 1250 (by decide +kernel) (by decide +kernel), lw_gin 85 (by decide +kernel) (by decide +kernel), by decide +kernel⟩, lw_gin 1249 (by decide +kernel) (by decide +kernel), lw_gin 60 (by decide +kernel) (by decide +kernel)⟩
theorem okX9_goThrough : OkV KX9_goThrough 2 := ⟨rfl, ⟨lw_gin 1242 (by decide +kernel) (by decide +kernel), lw_gin 85 (by decide +kernel) (by decide +kernel), by decide +kernel⟩, lw_gin 1241 (by decide +kernel) (by decide +kernel), lw_gin 58 (by decide +kernel) (by decide +kernel)⟩
theorem okX9_leapsNow : OkV KX9_leapsNow 3 := ⟨rfl, ⟨lw_gin 1238 (by decide +kernel) (by decide +kernel), lw_gin 85 (by decide +kernel) (by decide +kernel), by decide +kernel⟩, lw_gin 1237 (by decide +kernel) (by decide +kernel), lw_gin 57 (by decide +kernel) (by decide +kernel)⟩
theorem okX9_leaps : OkV KX9_leaps 3 := ⟨rfl, ⟨lw_gin 1234 (by decide +kernel) (by decide +kernel), lw_gin 85 (by decide +kernel) (by decide +kernel), by decide +kernel⟩, lw_gin 1232 (by decide +kernel) (by decide +kernel), lw_gin 1233 (by decide +kernel) (by decide +kernel)⟩
theorem okX9_setsWith : OkV KX9_setsWith 2 := ⟨rfl, ⟨lw_gin 1270 (by decide +kernel) (by decide +kernel), lw_gin 85 (by decide +kernel) (by decide +kernel), by decide +kernel⟩, lw_gin 1269 (by decide +kernel) (by decide +kernel), lw_gin 64 (by decide +kernel) (by decide +kernel)⟩
theorem okX9_membersOfAll : OkV KX9_membersOfAll 1 := ⟨rfl, ⟨lw_gin 1266 (by decide +kernel) (by decide +kernel), lw_gin 85 (by decide +kernel) (by decide +kernel), by decide +kernel⟩, lw_gin 1265 (by decide +kernel) (by decide +kernel), lw_gin 63 (by decide +kernel) (by decide +kernel)⟩
theorem okX9_sumOf : OkV KX9_sumOf 1 := ⟨rfl, ⟨lw_gin 1262 (by decide +kernel) (by decide +kernel), lw_gin 85 (by decide +kernel) (by decide +kernel), by decide +kernel⟩, lw_gin 1261 (by decide +kernel) (by decide +kernel), lw_gin 62 (by decide +kernel) (by decide +kernel)⟩
theorem okX9_areAlike : OkV KX9_areAlike 2 := ⟨rfl, ⟨lw_gin 1278 (by decide +kernel) (by decide +kernel), lw_gin 85 (by decide +kernel) (by decide +kernel), by decide +kernel⟩, lw_gin 1277 (by decide +kernel) (by decide +kernel), lw_gin 66 (by decide +kernel) (by decide +kernel)⟩
theorem okX9_alikePairs : OkV KX9_alikePairs 0 := ⟨rfl, ⟨lw_gin 1274 (by decide +kernel) (by decide +kernel), lw_gin 85 (by decide +kernel) (by decide +kernel), by decide +kernel⟩, lw_gin 1273 (by decide +kernel) (by decide +kernel), lw_gin 65 (by decide +kernel) (by decide +kernel)⟩
theorem okX9_counted : OkV KX9_counted 1 := ⟨rfl, ⟨lw_gin 1258 (by decide +kernel) (by decide +kernel), lw_gin 85 (by decide +kernel) (by decide +kernel), by decide +kernel⟩, lw_gin 1257 (by decide +kernel) (by decide +kernel), lw_gin 61 (by decide +kernel) (by decide +kernel)⟩
theorem okX9_count : OkV KX9_count 1 := ⟨rfl, ⟨lw_gin 1254 (by decide +kernel) (by decide +kernel), lw_gin 85 (by decide +kernel) (by decide +kernel), by decide +kernel⟩, lw_gin 1252 (by decide +kernel) (by decide +kernel), lw_gin 1253 (by decide +kernel) (by decide +kernel)⟩
theorem okX9_setting : OkV KX9_setting 1 := ⟨rfl, ⟨lw_gin 1282 (by decide +kernel) (by decide +kernel), lw_gin 85 (by decide +kernel) (by decide +kernel), by decide +kernel⟩, lw_gin 1280 (by decide +kernel) (by decide +kernel), lw_gin 1281 (by decide +kernel) (by decide +kernel)⟩
theorem okX9_ifSet : OkV KX9_ifSet 3 := ⟨rfl, ⟨lw_gin 1286 (by decide +kernel) (by decide +kernel), lw_gin 85 (by decide +kernel) (by decide +kernel), by decide +kernel⟩, lw_gin 1284 (by decide +kernel) (by decide +kernel), lw_gin 1285 (by decide +kernel) (by decide +kernel)⟩
theorem okX9_addedThen : OkV KX9_addedThen 2 := ⟨rfl, ⟨lw_gin 1294 (by decide +kernel) (by decide +kernel), lw_gin 85 (by decide +kernel) (by decide +kernel), by decide +kernel⟩, lw_gin 1293 (by decide +kernel) (by decide +kernel), lw_gin 67 (by decide +kernel) (by decide +kernel)⟩
theorem okX9_ifAdded : OkV KX9_ifAdded 2 := ⟨rfl, ⟨lw_gin 1290 (by decide +kernel) (by decide +kernel), lw_gin 85 (by decide +kernel) (by decide +kernel), by decide +kernel⟩, lw_gin 1288 (by decide +kernel) (by decide +kernel), lw_gin 1289 (by decide +kernel) (by decide +kernel)⟩
theorem okX9_sizeWithout : OkV KX9_sizeWithout 2 := ⟨rfl, ⟨lw_gin 1306 (by decide +kernel) (by decide +kernel), lw_gin 85 (by decide +kernel) (by decide +kernel), by decide +kernel⟩, lw_gin 1305 (by decide +kernel) (by decide +kernel), lw_gin 69 (by decide +kernel) (by decide +kernel)⟩
theorem okX9_dearestNow : OkV KX9_dearestNow 2 := ⟨rfl, ⟨lw_gin 1302 (by decide +kernel) (by decide +kernel), lw_gin 85 (by decide +kernel) (by decide +kernel), by decide +kernel⟩, lw_gin 1301 (by decide +kernel) (by decide +kernel), lw_gin 68 (by decide +kernel) (by decide +kernel)⟩
theorem okX9_dearest : OkV KX9_dearest 2 := ⟨rfl, ⟨lw_gin 1298 (by decide +kernel) (by decide +kernel), lw_gin 85 (by decide +kernel) (by decide +kernel), by decide +kernel⟩, lw_gin 1296 (by decide +kernel) (by decide +kernel), lw_gin 1297 (by decide +kernel) (by decide +kernel)⟩
theorem okX9_sizesBy : OkV KX9_sizesBy 1 := ⟨rfl, ⟨lw_gin 1318 (by decide +kernel) (by decide +kernel), lw_gin 85 (by decide +kernel) (by decide +kernel), by decide +kernel⟩, lw_gin 1317 (by decide +kernel) (by decide +kernel), lw_gin 71 (by decide +kernel) (by decide +kernel)⟩
theorem okX9_bestNow : OkV KX9_bestNow 0 := ⟨rfl, ⟨lw_gin 1314 (by decide +kernel) (by decide +kernel), lw_gin 85 (by decide +kernel) (by decide +kernel), by decide +kernel⟩, lw_gin 1313 (by decide +kernel) (by decide +kernel), lw_gin 70 (by decide +kernel) (by decide +kernel)⟩
theorem okX9_bestWidth : OkV KX9_bestWidth 0 := ⟨rfl, ⟨lw_gin 1310 (by decide +kernel) (by decide +kernel), lw_gin 85 (by decide +kernel) (by decide +kernel), by decide +kernel⟩, lw_gin 1308 (by decide +kernel) (by decide +kernel), lw_gin 1309 (by decide +kernel) (by decide +kernel)⟩
theorem okX9_small : OkV KX9_small 0 := ⟨rfl, ⟨lw_gin 1326 (by decide +kernel) (by decide +kernel), lw_gin 85 (by decide +kernel) (by decide +kernel), by decide +kernel⟩, lw_gin 1325 (by decide +kernel) (by decide +kernel), lw_gin 72 (by decide +kernel) (by decide +kernel)⟩
theorem okX9_smallness : OkV KX9_smallness 0 := ⟨rfl, ⟨lw_gin 1322 (by decide +kernel) (by decide +kernel), lw_gin 85 (by decide +kernel) (by decide +kernel), by decide +kernel⟩, lw_gin 1320 (by decide +kernel) (by decide +kernel), lw_gin 1321 (by decide +kernel) (by decide +kernel)⟩
theorem okX9_mix : OkV KX9_mix 1 := ⟨rfl, ⟨lw_gin 1335 (by decide +kernel) (by decide +kernel), lw_gin 85 (by decide +kernel) (by decide +kernel), by decide +kernel⟩, lw_gin 1334 (by decide +kernel) (by decide +kernel), lw_gin 73 (by decide +kernel) (by decide +kernel)⟩
theorem okX9_mixSet : OkV KX9_mixSet 1 := ⟨rfl, ⟨lw_gin 1340 (by decide +kernel) (by decide +kernel), lw_gin 85 (by decide +kernel) (by decide +kernel), by decide +kernel⟩, lw_gin 1339 (by decide +kernel) (by decide +kernel), lw_gin 74 (by decide +kernel) (by decide +kernel)⟩
theorem okX9_digest : OkV KX9_digest 0 := ⟨rfl, ⟨lw_gin 1330 (by decide +kernel) (by decide +kernel), lw_gin 85 (by decide +kernel) (by decide +kernel), by decide +kernel⟩, lw_gin 1328 (by decide +kernel) (by decide +kernel), lw_gin 1329 (by decide +kernel) (by decide +kernel)⟩
theorem okL_add : OkH KL_add 4 := ⟨rfl, ⟨lw_gin 737 (by decide +kernel) (by decide +kernel), lw_gin 75 (by decide +kernel) (by decide +kernel), by decide +kernel⟩, lw_gin 736 (by decide +kernel) (by decide +kernel)⟩
theorem okL_remove : OkH KL_remove 4 := ⟨rfl, ⟨lw_gin 786 (by decide +kernel) (by decide +kernel), lw_gin 75 (by decide +kernel) (by decide +kernel), by decide +kernel⟩, lw_gin 785 (by decide +kernel) (by decide +kernel)⟩
theorem okL_removeRange : OkH KL_removeRange 5 := ⟨rfl, ⟨lw_gin 793 (by decide +kernel) (by decide +kernel), lw_gin 75 (by decide +kernel) (by decide +kernel), by decide +kernel⟩, lw_gin 792 (by decide +kernel) (by decide +kernel)⟩
theorem okL_shift : OkH KL_shift 4 := ⟨rfl, ⟨lw_gin 800 (by decide +kernel) (by decide +kernel), lw_gin 75 (by decide +kernel) (by decide +kernel), by decide +kernel⟩, lw_gin 799 (by decide +kernel) (by decide +kernel)⟩
theorem okL_combine : OkH KL_combine 6 := ⟨rfl, ⟨lw_gin 812 (by decide +kernel) (by decide +kernel), lw_gin 75 (by decide +kernel) (by decide +kernel), by decide +kernel⟩, lw_gin 811 (by decide +kernel) (by decide +kernel)⟩
theorem okL_set : OkH KL_set 4 := ⟨rfl, ⟨lw_gin 822 (by decide +kernel) (by decide +kernel), lw_gin 75 (by decide +kernel) (by decide +kernel), by decide +kernel⟩, lw_gin 821 (by decide +kernel) (by decide +kernel)⟩
theorem okL_append : OkH KL_append 3 := ⟨rfl, ⟨lw_gin 840 (by decide +kernel) (by decide +kernel), lw_gin 75 (by decide +kernel) (by decide +kernel), by decide +kernel⟩, lw_gin 839 (by decide +kernel) (by decide +kernel)⟩
theorem okL_read : OkH KL_read 3 := ⟨rfl, ⟨lw_gin 851 (by decide +kernel) (by decide +kernel), lw_gin 75 (by decide +kernel) (by decide +kernel), by decide +kernel⟩, lw_gin 850 (by decide +kernel) (by decide +kernel)⟩
theorem okL_undo : OkH KL_undo 2 := ⟨rfl, ⟨lw_gin 873 (by decide +kernel) (by decide +kernel), lw_gin 75 (by decide +kernel) (by decide +kernel), by decide +kernel⟩, lw_gin 872 (by decide +kernel) (by decide +kernel)⟩
theorem okL_has : OkH KL_has 4 := ⟨rfl, ⟨lw_gin 884 (by decide +kernel) (by decide +kernel), lw_gin 75 (by decide +kernel) (by decide +kernel), by decide +kernel⟩, lw_gin 883 (by decide +kernel) (by decide +kernel)⟩
theorem okL_member : OkH KL_member 4 := ⟨rfl, ⟨lw_gin 891 (by decide +kernel) (by decide +kernel), lw_gin 75 (by decide +kernel) (by decide +kernel), by decide +kernel⟩, lw_gin 890 (by decide +kernel) (by decide +kernel)⟩
theorem okL_less : OkH KL_less 4 := ⟨rfl, ⟨lw_gin 898 (by decide +kernel) (by decide +kernel), lw_gin 75 (by decide +kernel) (by decide +kernel), by decide +kernel⟩, lw_gin 897 (by decide +kernel) (by decide +kernel)⟩
theorem okL_nearest : OkH KL_nearest 4 := ⟨rfl, ⟨lw_gin 906 (by decide +kernel) (by decide +kernel), lw_gin 75 (by decide +kernel) (by decide +kernel), by decide +kernel⟩, lw_gin 905 (by decide +kernel) (by decide +kernel)⟩
theorem okL_block : OkH KL_block 5 := ⟨rfl, ⟨lw_gin 910 (by decide +kernel) (by decide +kernel), lw_gin 75 (by decide +kernel) (by decide +kernel), by decide +kernel⟩, lw_gin 909 (by decide +kernel) (by decide +kernel)⟩
theorem okL_of : OkH KL_of 4 := ⟨rfl, ⟨lw_gin 914 (by decide +kernel) (by decide +kernel), lw_gin 75 (by decide +kernel) (by decide +kernel), by decide +kernel⟩, lw_gin 913 (by decide +kernel) (by decide +kernel)⟩
theorem okL_leaps : OkH KL_leaps 5 := ⟨rfl, ⟨lw_gin 918 (by decide +kernel) (by decide +kernel), lw_gin 75 (by decide +kernel) (by decide +kernel), by decide +kernel⟩, lw_gin 917 (by decide +kernel) (by decide +kernel)⟩
theorem okL_count : OkH KL_count 3 := ⟨rfl, ⟨lw_gin 925 (by decide +kernel) (by decide +kernel), lw_gin 75 (by decide +kernel) (by decide +kernel), by decide +kernel⟩, lw_gin 924 (by decide +kernel) (by decide +kernel)⟩
theorem okL_setting : OkH KL_setting 3 := ⟨rfl, ⟨lw_gin 929 (by decide +kernel) (by decide +kernel), lw_gin 75 (by decide +kernel) (by decide +kernel), by decide +kernel⟩, lw_gin 928 (by decide +kernel) (by decide +kernel)⟩
theorem okL_ifSet : OkH KL_ifSet 5 := ⟨rfl, ⟨lw_gin 936 (by decide +kernel) (by decide +kernel), lw_gin 75 (by decide +kernel) (by decide +kernel), by decide +kernel⟩, lw_gin 935 (by decide +kernel) (by decide +kernel)⟩
theorem okL_ifAdded : OkH KL_ifAdded 4 := ⟨rfl, ⟨lw_gin 943 (by decide +kernel) (by decide +kernel), lw_gin 75 (by decide +kernel) (by decide +kernel), by decide +kernel⟩, lw_gin 942 (by decide +kernel) (by decide +kernel)⟩
theorem okL_dearest : OkH KL_dearest 4 := ⟨rfl, ⟨lw_gin 947 (by decide +kernel) (by decide +kernel), lw_gin 75 (by decide +kernel) (by decide +kernel), by decide +kernel⟩, lw_gin 946 (by decide +kernel) (by decide +kernel)⟩
theorem okM_max : OkS KM_max 2 := ⟨rfl, ⟨lw_gin 583 (by decide +kernel) (by decide +kernel), lw_gin 92 (by decide +kernel) (by decide +kernel), by decide +kernel⟩, lw_gin 582 (by decide +kernel) (by decide +kernel)⟩
theorem okM_min : OkS KM_min 2 := ⟨rfl, ⟨lw_gin 643 (by decide +kernel) (by decide +kernel), lw_gin 92 (by decide +kernel) (by decide +kernel), by decide +kernel⟩, lw_gin 642 (by decide +kernel) (by decide +kernel)⟩
theorem okD_d2l : OkS KD_d2l 1 := ⟨rfl, ⟨lw_gin 1343 (by decide +kernel) (by decide +kernel), lw_gin 93 (by decide +kernel) (by decide +kernel), by decide +kernel⟩, lw_gin 1342 (by decide +kernel) (by decide +kernel)⟩
theorem okD_isNaN : OkS KD_isNaN 1 := ⟨rfl, ⟨lw_gin 1346 (by decide +kernel) (by decide +kernel), lw_gin 93 (by decide +kernel) (by decide +kernel), by decide +kernel⟩, lw_gin 1345 (by decide +kernel) (by decide +kernel)⟩
theorem clX0 : Cl 0 RX0 TX0 3 tyX0 := by
  refine ⟨rfl, ?_, tyX0_ok, nmX0⟩
  show ∀ w ∈ [u_lay RX0 TX0 0, u_lay RX0 TX0 1, u_lay RX0 TX0 2], w ∈ lw_g
  exact List.forall_mem_cons.mpr ⟨lw_gin 215 (by decide +kernel) (by decide +kernel), List.forall_mem_cons.mpr ⟨lw_gin 217 (by decide +kernel) (by decide +kernel), List.forall_mem_cons.mpr ⟨lw_gin 219 (by decide +kernel) (by decide +kernel), fun _ h => absurd h List.not_mem_nil⟩⟩⟩
theorem inX0 : Cond.instantiable RX0 3 ∈ lw_g := lw_gin 205 (by decide +kernel) (by decide +kernel)
theorem iniX0 : Cond.initialized RX0 ∈ lw_g := lw_gin 82 (by decide +kernel) (by decide +kernel)
theorem clX1 : Cl 1 RX1 TX1 2 tyX1 := by
  refine ⟨rfl, ?_, tyX1_ok, nmX1⟩
  show ∀ w ∈ [u_lay RX1 TX1 0, u_lay RX1 TX1 1], w ∈ lw_g
  exact List.forall_mem_cons.mpr ⟨lw_gin 160 (by decide +kernel) (by decide +kernel), List.forall_mem_cons.mpr ⟨lw_gin 162 (by decide +kernel) (by decide +kernel), fun _ h => absurd h List.not_mem_nil⟩⟩
theorem inX1 : Cond.instantiable RX1 2 ∈ lw_g := lw_gin 153 (by decide +kernel) (by decide +kernel)
theorem iniX1 : Cond.initialized RX1 ∈ lw_g := lw_gin 80 (by decide +kernel) (by decide +kernel)
theorem clX2 : Cl 2 RX2 TX2 3 tyX2 := by
  refine ⟨rfl, ?_, tyX2_ok, nmX2⟩
  show ∀ w ∈ [u_lay RX2 TX2 0, u_lay RX2 TX2 1, u_lay RX2 TX2 2], w ∈ lw_g
  exact List.forall_mem_cons.mpr ⟨lw_gin 145 (by decide +kernel) (by decide +kernel), List.forall_mem_cons.mpr ⟨lw_gin 147 (by decide +kernel) (by decide +kernel), List.forall_mem_cons.mpr ⟨lw_gin 149 (by decide +kernel) (by decide +kernel), fun _ h => absurd h List.not_mem_nil⟩⟩⟩
theorem inX2 : Cond.instantiable RX2 3 ∈ lw_g := lw_gin 134 (by decide +kernel) (by decide +kernel)
theorem iniX2 : Cond.initialized RX2 ∈ lw_g := lw_gin 79 (by decide +kernel) (by decide +kernel)
theorem clX3 : Cl 3 RX3 TX3 5 tyX3 := by
  refine ⟨rfl, ?_, tyX3_ok, nmX3⟩
  show ∀ w ∈ [u_lay RX3 TX3 0, u_lay RX3 TX3 1, u_lay RX3 TX3 2, u_lay RX3 TX3 3, u_lay RX3 TX3 4], w ∈ lw_g
  exact List.forall_mem_cons.mpr ⟨lw_gin 243 (by decide +kernel) (by decide +kernel), List.forall_mem_cons.mpr ⟨lw_gin 245 (by decide +kernel) (by decide +kernel), List.forall_mem_cons.mpr ⟨lw_gin 247 (by decide +kernel) (by decide +kernel), List.forall_mem_cons.mpr ⟨lw_gin 249 (by decide +kernel) (by decide +kernel), List.forall_mem_cons.mpr ⟨lw_gin 251 (by decide +kernel) (by decide +kernel), fun _ h => absurd h List.not_mem_nil⟩⟩⟩⟩⟩
theorem inX3 : Cond.instantiable RX3 5 ∈ lw_g := lw_gin 229 (by decide +kernel) (by decide +kernel)
theorem iniX3 : Cond.initialized RX3 ∈ lw_g := lw_gin 84 (by decide +kernel) (by decide +kernel)
theorem clX4 : Cl 4 RX4 TX4 3 tyX4 := by
  refine ⟨rfl, ?_, tyX4_ok, nmX4⟩
  show ∀ w ∈ [u_lay RX4 TX4 0, u_lay RX4 TX4 1, u_lay RX4 TX4 2], w ∈ lw_g
  exact List.forall_mem_cons.mpr ⟨lw_gin 257 (by decide +kernel) (by decide +kernel), List.forall_mem_cons.mpr ⟨lw_gin 259 (by decide +kernel) (by decide +kernel), List.forall_mem_cons.mpr ⟨lw_gin 261 (by decide +kernel) (by decide +kernel), fun _ h => absurd h List.not_mem_nil⟩⟩⟩
theorem inX4 : Cond.instantiable RX4 3 ∈ lw_g := lw_gin 223 (by decide +kernel) (by decide +kernel)
theorem iniX4 : Cond.initialized RX4 ∈ lw_g := lw_gin 83 (by decide +kernel) (by decide +kernel)
theorem clX5 : Cl 5 RX5 TX5 2 tyX5 := by
  refine ⟨rfl, ?_, tyX5_ok, nmX5⟩
  show ∀ w ∈ [u_lay RX5 TX5 0, u_lay RX5 TX5 1], w ∈ lw_g
  exact List.forall_mem_cons.mpr ⟨lw_gin 117 (by decide +kernel) (by decide +kernel), List.forall_mem_cons.mpr ⟨lw_gin 119 (by decide +kernel) (by decide +kernel), fun _ h => absurd h List.not_mem_nil⟩⟩
theorem inX5 : Cond.instantiable RX5 2 ∈ lw_g := lw_gin 110 (by decide +kernel) (by decide +kernel)
theorem iniX5 : Cond.initialized RX5 ∈ lw_g := lw_gin 78 (by decide +kernel) (by decide +kernel)
theorem clX6 : Cl 6 RX6 TX6 8 tyX6 := by
  refine ⟨rfl, ?_, tyX6_ok, nmX6⟩
  show ∀ w ∈ [u_lay RX6 TX6 0, u_lay RX6 TX6 1, u_lay RX6 TX6 2, u_lay RX6 TX6 3, u_lay RX6 TX6 4, u_lay RX6 TX6 5, u_lay RX6 TX6 6, u_lay RX6 TX6 7], w ∈ lw_g
  exact List.forall_mem_cons.mpr ⟨lw_gin 187 (by decide +kernel) (by decide +kernel), List.forall_mem_cons.mpr ⟨lw_gin 189 (by decide +kernel) (by decide +kernel), List.forall_mem_cons.mpr ⟨lw_gin 191 (by decide +kernel) (by decide +kernel), List.forall_mem_cons.mpr ⟨lw_gin 193 (by decide +kernel) (by decide +kernel), List.forall_mem_cons.mpr ⟨lw_gin 195 (by decide +kernel) (by decide +kernel), List.forall_mem_cons.mpr ⟨lw_gin 197 (by decide +kernel) (by decide +kernel), List.forall_mem_cons.mpr ⟨lw_gin 199 (by decide +kernel) (by decide +kernel), List.forall_mem_cons.mpr ⟨lw_gin 201 (by decide +kernel) (by decide +kernel), fun _ h => absurd h List.not_mem_nil⟩⟩⟩⟩⟩⟩⟩⟩
theorem inX6 : Cond.instantiable RX6 8 ∈ lw_g := lw_gin 166 (by decide +kernel) (by decide +kernel)
theorem iniX6 : Cond.initialized RX6 ∈ lw_g := lw_gin 81 (by decide +kernel) (by decide +kernel)
theorem clX7 : Cl 7 RX7 TX7 3 tyX7 := by
  refine ⟨rfl, ?_, tyX7_ok, nmX7⟩
  show ∀ w ∈ [u_lay RX7 TX7 0, u_lay RX7 TX7 1, u_lay RX7 TX7 2], w ∈ lw_g
  exact List.forall_mem_cons.mpr ⟨lw_gin 126 (by decide +kernel) (by decide +kernel), List.forall_mem_cons.mpr ⟨lw_gin 128 (by decide +kernel) (by decide +kernel), List.forall_mem_cons.mpr ⟨lw_gin 130 (by decide +kernel) (by decide +kernel), fun _ h => absurd h List.not_mem_nil⟩⟩⟩
theorem inX7 : Cond.instantiable RX7 3 ∈ lw_g := lw_gin 103 (by decide +kernel) (by decide +kernel)
theorem iniX7 : Cond.initialized RX7 ∈ lw_g := lw_gin 77 (by decide +kernel) (by decide +kernel)
theorem clX8 : Cl 8 RX8 TX8 8 tyX8 := by
  refine ⟨rfl, ?_, tyX8_ok, nmX8⟩
  show ∀ w ∈ [u_lay RX8 TX8 0, u_lay RX8 TX8 1, u_lay RX8 TX8 2, u_lay RX8 TX8 3, u_lay RX8 TX8 4, u_lay RX8 TX8 5, u_lay RX8 TX8 6, u_lay RX8 TX8 7], w ∈ lw_g
  exact List.forall_mem_cons.mpr ⟨lw_gin 274 (by decide +kernel) (by decide +kernel), List.forall_mem_cons.mpr ⟨lw_gin 276 (by decide +kernel) (by decide +kernel), List.forall_mem_cons.mpr ⟨lw_gin 278 (by decide +kernel) (by decide +kernel), List.forall_mem_cons.mpr ⟨lw_gin 280 (by decide +kernel) (by decide +kernel), List.forall_mem_cons.mpr ⟨lw_gin 282 (by decide +kernel) (by decide +kernel), List.forall_mem_cons.mpr ⟨lw_gin 284 (by decide +kernel) (by decide +kernel), List.forall_mem_cons.mpr ⟨lw_gin 286 (by decide +kernel) (by decide +kernel), List.forall_mem_cons.mpr ⟨lw_gin 288 (by decide +kernel) (by decide +kernel), fun _ h => absurd h List.not_mem_nil⟩⟩⟩⟩⟩⟩⟩⟩
theorem inX8 : Cond.instantiable RX8 8 ∈ lw_g := lw_gin 95 (by decide +kernel) (by decide +kernel)
theorem iniX8 : Cond.initialized RX8 ∈ lw_g := lw_gin 76 (by decide +kernel) (by decide +kernel)
theorem clX9 : Cl 9 RX9 TX9 18 tyX9 := by
  refine ⟨rfl, ?_, tyX9_ok, nmX9⟩
  show ∀ w ∈ [u_lay RX9 TX9 0, u_lay RX9 TX9 1, u_lay RX9 TX9 2, u_lay RX9 TX9 3, u_lay RX9 TX9 4, u_lay RX9 TX9 5, u_lay RX9 TX9 6, u_lay RX9 TX9 7, u_lay RX9 TX9 8, u_lay RX9 TX9 9, u_lay RX9 TX9 10, u_lay RX9 TX9 11, u_lay RX9 TX9 12, u_lay RX9 TX9 13, u_lay RX9 TX9 14, u_lay RX9 TX9 15, u_lay RX9 TX9 16, u_lay RX9 TX9 17], w ∈ lw_g
  exact List.forall_mem_cons.mpr ⟨lw_gin 973 (by decide +kernel) (by decide +kernel), List.forall_mem_cons.mpr ⟨lw_gin 975 (by decide +kernel) (by decide +kernel), List.forall_mem_cons.mpr ⟨lw_gin 977 (by decide +kernel) (by decide +kernel), List.forall_mem_cons.mpr ⟨lw_gin 979 (by decide +kernel) (by decide +kernel), List.forall_mem_cons.mpr ⟨lw_gin 981 (by decide +kernel) (by decide +kernel), List.forall_mem_cons.mpr ⟨lw_gin 983 (by decide +kernel) (by decide +kernel), List.forall_mem_cons.mpr ⟨lw_gin 985 (by decide +kernel) (by decide +kernel), List.forall_mem_cons.mpr ⟨lw_gin 987 (by decide +kernel) (by decide +kernel), List.forall_mem_cons.mpr ⟨lw_gin 989 (by decide +kernel) (by decide +kernel), List.forall_mem_cons.mpr ⟨lw_gin 991 (by decide +kernel) (by decide +kernel), List.forall_mem_cons.mpr ⟨lw_gin 993 (by decide +kernel) (by decide +kernel), List.forall_mem_cons.mpr ⟨lw_gin 995 (by decide +kernel) (by decide +kernel), List.forall_mem_cons.mpr ⟨lw_gin 997 (by decide +kernel) (by decide +kernel), List.forall_mem_cons.mpr ⟨lw_gin 999 (by decide +kernel) (by decide +kernel), List.forall_mem_cons.mpr ⟨lw_gin 1001 (by decide +kernel) (by decide +kernel), List.forall_mem_cons.mpr ⟨lw_gin 1003 (by decide +kernel) (by decide +kernel), List.forall_mem_cons.mpr ⟨lw_gin 1005 (by decide +kernel) (by decide +kernel), List.forall_mem_cons.mpr ⟨lw_gin 1007 (by decide +kernel) (by decide +kernel), fun _ h => absurd h List.not_mem_nil⟩⟩⟩⟩⟩⟩⟩⟩⟩⟩⟩⟩⟩⟩⟩⟩⟩⟩
theorem inX9 : Cond.instantiable RX9 18 ∈ lw_g := lw_gin 950 (by decide +kernel) (by decide +kernel)
theorem iniX9 : Cond.initialized RX9 ∈ lw_g := lw_gin 85 (by decide +kernel) (by decide +kernel)
theorem fl_X5_9 : Cond.fieldLink "GapSets$Members" 9 "GapSets$Members" "numbers" "[I" ∈ lw_g := lw_gin 115 (by decide +kernel) (by decide +kernel)
theorem fl_X5_15 : Cond.fieldLink "GapSets$Members" 15 "GapSets$Members" "amount" "I" ∈ lw_g := lw_gin 116 (by decide +kernel) (by decide +kernel)
theorem fl_X7_11 : Cond.fieldLink "GapSets$State" 11 "GapSets$State" "sets" "[LGapSets$Members;" ∈ lw_g := lw_gin 123 (by decide +kernel) (by decide +kernel)
theorem fl_X7_20 : Cond.fieldLink "GapSets$State" 20 "GapSets$State" "noSet" "LGapSets$Members;" ∈ lw_g := lw_gin 124 (by decide +kernel) (by decide +kernel)
theorem fl_X7_24 : Cond.fieldLink "GapSets$State" 24 "GapSets$State" "settings" "[I" ∈ lw_g := lw_gin 125 (by decide +kernel) (by decide +kernel)
theorem fl_X2_11 : Cond.fieldLink "GapSets$History" 11 "GapSets$History" "ring" "[LGapSets$State;" ∈ lw_g := lw_gin 142 (by decide +kernel) (by decide +kernel)
theorem fl_X2_18 : Cond.fieldLink "GapSets$History" 18 "GapSets$History" "next" "I" ∈ lw_g := lw_gin 143 (by decide +kernel) (by decide +kernel)
theorem fl_X2_22 : Cond.fieldLink "GapSets$History" 22 "GapSets$History" "amount" "I" ∈ lw_g := lw_gin 144 (by decide +kernel) (by decide +kernel)
theorem fl_X1_9 : Cond.fieldLink "GapSets$Buffer" 9 "GapSets$Buffer" "codes" "[I" ∈ lw_g := lw_gin 158 (by decide +kernel) (by decide +kernel)
theorem fl_X1_15 : Cond.fieldLink "GapSets$Buffer" 15 "GapSets$Buffer" "length" "I" ∈ lw_g := lw_gin 159 (by decide +kernel) (by decide +kernel)
theorem fl_X6_9 : Cond.fieldLink "GapSets$Parser" 9 "GapSets$Parser" "firsts" "[I" ∈ lw_g := lw_gin 179 (by decide +kernel) (by decide +kernel)
theorem fl_X6_15 : Cond.fieldLink "GapSets$Parser" 15 "GapSets$Parser" "lasts" "[I" ∈ lw_g := lw_gin 180 (by decide +kernel) (by decide +kernel)
theorem fl_X6_46 : Cond.fieldLink "GapSets$Parser" 46 "GapSets$Parser" "parts" "I" ∈ lw_g := lw_gin 181 (by decide +kernel) (by decide +kernel)
theorem fl_X6_59 : Cond.fieldLink "GapSets$Parser" 59 "GapSets$Parser" "isRange" "Z" ∈ lw_g := lw_gin 182 (by decide +kernel) (by decide +kernel)
theorem fl_X6_63 : Cond.fieldLink "GapSets$Parser" 63 "GapSets$Parser" "first" "I" ∈ lw_g := lw_gin 183 (by decide +kernel) (by decide +kernel)
theorem fl_X6_69 : Cond.fieldLink "GapSets$Parser" 69 "GapSets$Parser" "least" "I" ∈ lw_g := lw_gin 184 (by decide +kernel) (by decide +kernel)
theorem fl_X6_72 : Cond.fieldLink "GapSets$Parser" 72 "GapSets$Parser" "value" "I" ∈ lw_g := lw_gin 185 (by decide +kernel) (by decide +kernel)
theorem fl_X6_75 : Cond.fieldLink "GapSets$Parser" 75 "GapSets$Parser" "digits" "I" ∈ lw_g := lw_gin 186 (by decide +kernel) (by decide +kernel)
theorem fl_X0_9 : Cond.fieldLink "GapSets$Blocks" 9 "GapSets$Blocks" "starts" "[I" ∈ lw_g := lw_gin 212 (by decide +kernel) (by decide +kernel)
theorem fl_X0_15 : Cond.fieldLink "GapSets$Blocks" 15 "GapSets$Blocks" "amount" "I" ∈ lw_g := lw_gin 213 (by decide +kernel) (by decide +kernel)
theorem fl_X0_24 : Cond.fieldLink "GapSets$Blocks" 24 "GapSets$Blocks" "members" "LGapSets$Members;" ∈ lw_g := lw_gin 214 (by decide +kernel) (by decide +kernel)
theorem fl_X3_10 : Cond.fieldLink "GapSets$Leaper" 10 "GapSets$Leaper" "blocks" "LGapSets$Blocks;" ∈ lw_g := lw_gin 238 (by decide +kernel) (by decide +kernel)
theorem fl_X3_21 : Cond.fieldLink "GapSets$Leaper" 21 "GapSets$Leaper" "members" "LGapSets$Members;" ∈ lw_g := lw_gin 239 (by decide +kernel) (by decide +kernel)
theorem fl_X3_25 : Cond.fieldLink "GapSets$Leaper" 25 "GapSets$Leaper" "place" "I" ∈ lw_g := lw_gin 240 (by decide +kernel) (by decide +kernel)
theorem fl_X3_29 : Cond.fieldLink "GapSets$Leaper" 29 "GapSets$Leaper" "leaps" "I" ∈ lw_g := lw_gin 241 (by decide +kernel) (by decide +kernel)
theorem fl_X3_32 : Cond.fieldLink "GapSets$Leaper" 32 "GapSets$Leaper" "looks" "I" ∈ lw_g := lw_gin 242 (by decide +kernel) (by decide +kernel)
theorem fl_X4_12 : Cond.fieldLink "GapSets$Meeting" 12 "GapSets$Meeting" "first" "LGapSets$Leaper;" ∈ lw_g := lw_gin 254 (by decide +kernel) (by decide +kernel)
theorem fl_X4_18 : Cond.fieldLink "GapSets$Meeting" 18 "GapSets$Meeting" "second" "LGapSets$Leaper;" ∈ lw_g := lw_gin 255 (by decide +kernel) (by decide +kernel)
theorem fl_X4_21 : Cond.fieldLink "GapSets$Meeting" 21 "GapSets$Meeting" "common" "I" ∈ lw_g := lw_gin 256 (by decide +kernel) (by decide +kernel)
theorem fl_X8_10 : Cond.fieldLink "GapSets" 10 "GapSets" "now" "LGapSets$State;" ∈ lw_g := lw_gin 266 (by decide +kernel) (by decide +kernel)
theorem fl_X8_19 : Cond.fieldLink "GapSets" 19 "GapSets" "history" "LGapSets$History;" ∈ lw_g := lw_gin 267 (by decide +kernel) (by decide +kernel)
theorem fl_X8_26 : Cond.fieldLink "GapSets" 26 "GapSets" "buffer" "LGapSets$Buffer;" ∈ lw_g := lw_gin 268 (by decide +kernel) (by decide +kernel)
theorem fl_X8_33 : Cond.fieldLink "GapSets" 33 "GapSets" "parser" "LGapSets$Parser;" ∈ lw_g := lw_gin 269 (by decide +kernel) (by decide +kernel)
theorem fl_X8_40 : Cond.fieldLink "GapSets" 40 "GapSets" "blocks" "LGapSets$Blocks;" ∈ lw_g := lw_gin 270 (by decide +kernel) (by decide +kernel)
theorem fl_X8_47 : Cond.fieldLink "GapSets" 47 "GapSets" "meeting" "LGapSets$Meeting;" ∈ lw_g := lw_gin 271 (by decide +kernel) (by decide +kernel)
theorem fl_X8_56 : Cond.fieldLink "GapSets" 56 "GapSets" "trial" "LGapSets$Members;" ∈ lw_g := lw_gin 272 (by decide +kernel) (by decide +kernel)
theorem fl_X8_60 : Cond.fieldLink "GapSets" 60 "GapSets" "widths" "LGapSets$Members;" ∈ lw_g := lw_gin 273 (by decide +kernel) (by decide +kernel)
theorem fl_X9_7 : Cond.fieldLink "GapSetsModel" 7 "GapSetsModel" "z" "[I" ∈ lw_g := lw_gin 955 (by decide +kernel) (by decide +kernel)
theorem fl_X9_38 : Cond.fieldLink "GapSetsModel" 38 "GapSetsModel" "states" "I" ∈ lw_g := lw_gin 956 (by decide +kernel) (by decide +kernel)
theorem fl_X9_13 : Cond.fieldLink "GapSetsModel" 13 "GapSetsModel" "history" "[I" ∈ lw_g := lw_gin 957 (by decide +kernel) (by decide +kernel)
theorem fl_X9_127 : Cond.fieldLink "GapSetsModel" 127 "GapSetsModel" "length" "I" ∈ lw_g := lw_gin 958 (by decide +kernel) (by decide +kernel)
theorem fl_X9_16 : Cond.fieldLink "GapSetsModel" 16 "GapSetsModel" "text" "[I" ∈ lw_g := lw_gin 959 (by decide +kernel) (by decide +kernel)
theorem fl_X9_34 : Cond.fieldLink "GapSetsModel" 34 "GapSetsModel" "thrown" "I" ∈ lw_g := lw_gin 960 (by decide +kernel) (by decide +kernel)
theorem fl_X9_19 : Cond.fieldLink "GapSetsModel" 19 "GapSetsModel" "row" "[I" ∈ lw_g := lw_gin 961 (by decide +kernel) (by decide +kernel)
theorem fl_X9_56 : Cond.fieldLink "GapSetsModel" 56 "GapSetsModel" "rowMany" "I" ∈ lw_g := lw_gin 962 (by decide +kernel) (by decide +kernel)
theorem fl_X9_22 : Cond.fieldLink "GapSetsModel" 22 "GapSetsModel" "starts" "[I" ∈ lw_g := lw_gin 963 (by decide +kernel) (by decide +kernel)
theorem fl_X9_59 : Cond.fieldLink "GapSetsModel" 59 "GapSetsModel" "blocks" "I" ∈ lw_g := lw_gin 964 (by decide +kernel) (by decide +kernel)
theorem fl_X9_25 : Cond.fieldLink "GapSetsModel" 25 "GapSetsModel" "parts" "[I" ∈ lw_g := lw_gin 965 (by decide +kernel) (by decide +kernel)
theorem fl_X9_139 : Cond.fieldLink "GapSetsModel" 139 "GapSetsModel" "read" "I" ∈ lw_g := lw_gin 966 (by decide +kernel) (by decide +kernel)
theorem fl_X9_130 : Cond.fieldLink "GapSetsModel" 130 "GapSetsModel" "number" "I" ∈ lw_g := lw_gin 967 (by decide +kernel) (by decide +kernel)
theorem fl_X9_136 : Cond.fieldLink "GapSetsModel" 136 "GapSetsModel" "bound" "I" ∈ lw_g := lw_gin 968 (by decide +kernel) (by decide +kernel)
theorem fl_X9_142 : Cond.fieldLink "GapSetsModel" 142 "GapSetsModel" "isSecond" "Z" ∈ lw_g := lw_gin 969 (by decide +kernel) (by decide +kernel)
theorem fl_X9_28 : Cond.fieldLink "GapSetsModel" 28 "GapSetsModel" "blockAt" "[I" ∈ lw_g := lw_gin 970 (by decide +kernel) (by decide +kernel)
theorem fl_X9_31 : Cond.fieldLink "GapSetsModel" 31 "GapSetsModel" "told" "[I" ∈ lw_g := lw_gin 971 (by decide +kernel) (by decide +kernel)
theorem fl_X9_244 : Cond.fieldLink "GapSetsModel" 244 "GapSetsModel" "hash" "J" ∈ lw_g := lw_gin 972 (by decide +kernel) (by decide +kernel)
theorem ml_L_83 : Cond.methodLink "GapSetsLaw" 83 (kY KX8_init) ∈ lw_g := lw_gin 96 (by decide +kernel) (by decide +kernel)
theorem ml_X8_1 : Cond.methodLink "GapSets" 1 ⟨"java/lang/Object", "<init>", "()V"⟩ ∈ lw_g := lw_gin 99 (by decide +kernel) (by decide +kernel)
theorem ml_X8_9 : Cond.methodLink "GapSets" 9 (kY KX7_init) ∈ lw_g := lw_gin 104 (by decide +kernel) (by decide +kernel)
theorem ml_X7_3 : Cond.methodLink "GapSets$State" 3 ⟨"java/lang/Object", "<init>", "()V"⟩ ∈ lw_g := lw_gin 107 (by decide +kernel) (by decide +kernel)
theorem ml_X7_17 : Cond.methodLink "GapSets$State" 17 (kY KX5_init) ∈ lw_g := lw_gin 111 (by decide +kernel) (by decide +kernel)
theorem ml_X5_3 : Cond.methodLink "GapSets$Members" 3 ⟨"java/lang/Object", "<init>", "()V"⟩ ∈ lw_g := lw_gin 114 (by decide +kernel) (by decide +kernel)
theorem ml_X8_18 : Cond.methodLink "GapSets" 18 (kY KX2_init) ∈ lw_g := lw_gin 135 (by decide +kernel) (by decide +kernel)
theorem ml_X2_3 : Cond.methodLink "GapSets$History" 3 ⟨"java/lang/Object", "<init>", "()V"⟩ ∈ lw_g := lw_gin 138 (by decide +kernel) (by decide +kernel)
theorem ml_X2_17 : Cond.methodLink "GapSets$History" 17 (kY KX7_init) ∈ lw_g := lw_gin 141 (by decide +kernel) (by decide +kernel)
theorem ml_X8_25 : Cond.methodLink "GapSets" 25 (kY KX1_init) ∈ lw_g := lw_gin 154 (by decide +kernel) (by decide +kernel)
theorem ml_X1_3 : Cond.methodLink "GapSets$Buffer" 3 ⟨"java/lang/Object", "<init>", "()V"⟩ ∈ lw_g := lw_gin 157 (by decide +kernel) (by decide +kernel)
theorem ml_X8_32 : Cond.methodLink "GapSets" 32 (kY KX6_init) ∈ lw_g := lw_gin 167 (by decide +kernel) (by decide +kernel)
theorem ml_X6_3 : Cond.methodLink "GapSets$Parser" 3 ⟨"java/lang/Object", "<init>", "()V"⟩ ∈ lw_g := lw_gin 170 (by decide +kernel) (by decide +kernel)
theorem ml_X6_18 : Cond.methodLink "GapSets$Parser" 18 (kY KX6_restart) ∈ lw_g := lw_gin 171 (by decide +kernel) (by decide +kernel)
theorem ml_X6_66 : Cond.methodLink "GapSets$Parser" 66 (kY KX6_beginNumber) ∈ lw_g := lw_gin 175 (by decide +kernel) (by decide +kernel)
theorem ml_X8_39 : Cond.methodLink "GapSets" 39 (kY KX0_init) ∈ lw_g := lw_gin 206 (by decide +kernel) (by decide +kernel)
theorem ml_X0_3 : Cond.methodLink "GapSets$Blocks" 3 ⟨"java/lang/Object", "<init>", "()V"⟩ ∈ lw_g := lw_gin 209 (by decide +kernel) (by decide +kernel)
theorem ml_X0_21 : Cond.methodLink "GapSets$Blocks" 21 (kY KX5_init) ∈ lw_g := lw_gin 211 (by decide +kernel) (by decide +kernel)
theorem ml_X8_46 : Cond.methodLink "GapSets" 46 (kY KX4_init) ∈ lw_g := lw_gin 224 (by decide +kernel) (by decide +kernel)
theorem ml_X4_3 : Cond.methodLink "GapSets$Meeting" 3 ⟨"java/lang/Object", "<init>", "()V"⟩ ∈ lw_g := lw_gin 227 (by decide +kernel) (by decide +kernel)
theorem ml_X4_11 : Cond.methodLink "GapSets$Meeting" 11 (kY KX3_init) ∈ lw_g := lw_gin 230 (by decide +kernel) (by decide +kernel)
theorem ml_X3_1 : Cond.methodLink "GapSets$Leaper" 1 ⟨"java/lang/Object", "<init>", "()V"⟩ ∈ lw_g := lw_gin 233 (by decide +kernel) (by decide +kernel)
theorem ml_X3_9 : Cond.methodLink "GapSets$Leaper" 9 (kY KX0_init) ∈ lw_g := lw_gin 235 (by decide +kernel) (by decide +kernel)
theorem ml_X3_18 : Cond.methodLink "GapSets$Leaper" 18 (kY KX5_init) ∈ lw_g := lw_gin 237 (by decide +kernel) (by decide +kernel)
theorem ml_X8_53 : Cond.methodLink "GapSets" 53 (kY KX5_init) ∈ lw_g := lw_gin 265 (by decide +kernel) (by decide +kernel)
theorem ml_L_117 : Cond.methodLink "GapSetsLaw" 117 (kY KX8_clearBuffer) ∈ lw_g := lw_gin 291 (by decide +kernel) (by decide +kernel)
theorem ml_X8_137 : Cond.methodLink "GapSets" 137 (kY KX1_length) ∈ lw_g := lw_gin 295 (by decide +kernel) (by decide +kernel)
theorem ml_X8_141 : Cond.methodLink "GapSets" 141 (kY KX1_empty) ∈ lw_g := lw_gin 299 (by decide +kernel) (by decide +kernel)
theorem ml_L_121 : Cond.methodLink "GapSetsLaw" 121 (kY KX8_firstError) ∈ lw_g := lw_gin 303 (by decide +kernel) (by decide +kernel)
theorem ml_X8_144 : Cond.methodLink "GapSets" 144 (kY KX6_parse) ∈ lw_g := lw_gin 307 (by decide +kernel) (by decide +kernel)
theorem ml_X6_21 : Cond.methodLink "GapSets$Parser" 21 (kY KX1_length) ∈ lw_g := lw_gin 311 (by decide +kernel) (by decide +kernel)
theorem ml_X6_27 : Cond.methodLink "GapSets$Parser" 27 (kY KX1_at) ∈ lw_g := lw_gin 312 (by decide +kernel) (by decide +kernel)
theorem ml_X6_31 : Cond.methodLink "GapSets$Parser" 31 (kY KX6_takes) ∈ lw_g := lw_gin 316 (by decide +kernel) (by decide +kernel)
theorem ml_X6_78 : Cond.methodLink "GapSets$Parser" 78 (kY KX6_takesComma) ∈ lw_g := lw_gin 320 (by decide +kernel) (by decide +kernel)
theorem ml_X6_39 : Cond.methodLink "GapSets$Parser" 39 (kY KX6_isWhole) ∈ lw_g := lw_gin 324 (by decide +kernel) (by decide +kernel)
theorem ml_X6_43 : Cond.methodLink "GapSets$Parser" 43 (kY KX6_closePart) ∈ lw_g := lw_gin 328 (by decide +kernel) (by decide +kernel)
theorem ml_X6_81 : Cond.methodLink "GapSets$Parser" 81 (kY KX6_takesDash) ∈ lw_g := lw_gin 332 (by decide +kernel) (by decide +kernel)
theorem ml_X6_84 : Cond.methodLink "GapSets$Parser" 84 (kY KX6_takesDigit) ∈ lw_g := lw_gin 336 (by decide +kernel) (by decide +kernel)
theorem ml_X6_87 : Cond.methodLink "GapSets$Parser" 87 (kY KX6_greatestFrom) ∈ lw_g := lw_gin 340 (by decide +kernel) (by decide +kernel)
theorem ml_L_168 : Cond.methodLink "GapSetsLaw" 168 (kY KX8_bestWidth) ∈ lw_g := lw_gin 343 (by decide +kernel) (by decide +kernel)
theorem ml_X8_229 : Cond.methodLink "GapSets" 229 (kY KX8_gatherWidths) ∈ lw_g := lw_gin 347 (by decide +kernel) (by decide +kernel)
theorem ml_X8_285 : Cond.methodLink "GapSets" 285 (kY KX5_empty) ∈ lw_g := lw_gin 351 (by decide +kernel) (by decide +kernel)
theorem ml_X8_89 : Cond.methodLink "GapSets" 89 (kY KX5_put) ∈ lw_g := lw_gin 355 (by decide +kernel) (by decide +kernel)
theorem ml_X5_51 : Cond.methodLink "GapSets$Members" 51 (kY KX5_holds) ∈ lw_g := lw_gin 359 (by decide +kernel) (by decide +kernel)
theorem ml_X5_23 : Cond.methodLink "GapSets$Members" 23 (kY KX5_placeOf) ∈ lw_g := lw_gin 363 (by decide +kernel) (by decide +kernel)
theorem ml_X5_19 : Cond.methodLink "GapSets$Members" 19 (kY KX5_at) ∈ lw_g := lw_gin 367 (by decide +kernel) (by decide +kernel)
theorem ml_X8_69 : Cond.methodLink "GapSets" 69 (kY KX7_members) ∈ lw_g := lw_gin 371 (by decide +kernel) (by decide +kernel)
theorem ml_X8_77 : Cond.methodLink "GapSets" 77 (kY KX5_amount) ∈ lw_g := lw_gin 375 (by decide +kernel) (by decide +kernel)
theorem ml_X8_293 : Cond.methodLink "GapSets" 293 (kY KX5_gapAhead) ∈ lw_g := lw_gin 379 (by decide +kernel) (by decide +kernel)
theorem ml_X8_217 : Cond.methodLink "GapSets" 217 (kY KX8_allSizes) ∈ lw_g := lw_gin 383 (by decide +kernel) (by decide +kernel)
theorem ml_X8_129 : Cond.methodLink "GapSets" 129 (kY KX7_valueOf) ∈ lw_g := lw_gin 387 (by decide +kernel) (by decide +kernel)
theorem ml_X8_226 : Cond.methodLink "GapSets" 226 (kY KX5_bytes) ∈ lw_g := lw_gin 391 (by decide +kernel) (by decide +kernel)
theorem ml_X5_44 : Cond.methodLink "GapSets$Members" 44 (kY KX5_beginsBlock) ∈ lw_g := lw_gin 395 (by decide +kernel) (by decide +kernel)
theorem ml_X5_33 : Cond.methodLink "GapSets$Members" 33 (kY KX5_gapAhead) ∈ lw_g := lw_gin 399 (by decide +kernel) (by decide +kernel)
theorem ml_X8_160 : Cond.methodLink "GapSets" 160 (kY KX5_at) ∈ lw_g := lw_gin 403 (by decide +kernel) (by decide +kernel)
theorem ml_L_172 : Cond.methodLink "GapSetsLaw" 172 (kY KX8_smallness) ∈ lw_g := lw_gin 404 (by decide +kernel) (by decide +kernel)
theorem ml_X8_208 : Cond.methodLink "GapSets" 208 (kY KX8_allMembers) ∈ lw_g := lw_gin 408 (by decide +kernel) (by decide +kernel)
theorem ml_L_177 : Cond.methodLink "GapSetsLaw" 177 (kY KX8_digest) ∈ lw_g := lw_gin 412 (by decide +kernel) (by decide +kernel)
theorem ml_X8_234 : Cond.methodLink "GapSets" 234 (kY KX8_count) ∈ lw_g := lw_gin 417 (by decide +kernel) (by decide +kernel)
theorem ml_X8_96 : Cond.methodLink "GapSets" 96 (kY KX8_requireArgument) ∈ lw_g := lw_gin 421 (by decide +kernel) (by decide +kernel)
theorem ml_X8_279 : Cond.methodLink "GapSets" 279 ⟨"java/lang/IllegalArgumentException", "<init>", "(Ljava/lang/String;)V"⟩ ∈ lw_g := lw_gin 466 (by decide +kernel) (by decide +kernel)
theorem ml_X8_211 : Cond.methodLink "GapSets" 211 (kY KX8_unlikeMembers) ∈ lw_g := lw_gin 492 (by decide +kernel) (by decide +kernel)
theorem ml_X8_286 : Cond.methodLink "GapSets" 286 (kY KX8_holdersAhead) ∈ lw_g := lw_gin 496 (by decide +kernel) (by decide +kernel)
theorem ml_X8_73 : Cond.methodLink "GapSets" 73 (kY KX5_holds) ∈ lw_g := lw_gin 500 (by decide +kernel) (by decide +kernel)
theorem ml_X8_214 : Cond.methodLink "GapSets" 214 (kY KX8_membersOfAllFour) ∈ lw_g := lw_gin 501 (by decide +kernel) (by decide +kernel)
theorem ml_X8_220 : Cond.methodLink "GapSets" 220 (kY KX8_allBlocks) ∈ lw_g := lw_gin 505 (by decide +kernel) (by decide +kernel)
theorem ml_X8_169 : Cond.methodLink "GapSets" 169 (kY KX0_cut) ∈ lw_g := lw_gin 509 (by decide +kernel) (by decide +kernel)
theorem ml_X0_28 : Cond.methodLink "GapSets$Blocks" 28 (kY KX7_members) ∈ lw_g := lw_gin 513 (by decide +kernel) (by decide +kernel)
theorem ml_X0_33 : Cond.methodLink "GapSets$Blocks" 33 (kY KX7_valueOf) ∈ lw_g := lw_gin 514 (by decide +kernel) (by decide +kernel)
theorem ml_X0_37 : Cond.methodLink "GapSets$Blocks" 37 (kY KX5_amount) ∈ lw_g := lw_gin 515 (by decide +kernel) (by decide +kernel)
theorem ml_X0_40 : Cond.methodLink "GapSets$Blocks" 40 (kY KX5_beginsBlock) ∈ lw_g := lw_gin 516 (by decide +kernel) (by decide +kernel)
theorem ml_X0_44 : Cond.methodLink "GapSets$Blocks" 44 (kY KX0_putStart) ∈ lw_g := lw_gin 517 (by decide +kernel) (by decide +kernel)
theorem ml_X8_223 : Cond.methodLink "GapSets" 223 (kY KX8_pairsAlike) ∈ lw_g := lw_gin 521 (by decide +kernel) (by decide +kernel)
theorem ml_X8_289 : Cond.methodLink "GapSets" 289 (kY KX5_isLike) ∈ lw_g := lw_gin 525 (by decide +kernel) (by decide +kernel)
theorem ml_X5_42 : Cond.methodLink "GapSets$Members" 42 (kY KX5_amount) ∈ lw_g := lw_gin 529 (by decide +kernel) (by decide +kernel)
theorem ml_X8_156 : Cond.methodLink "GapSets" 156 (kY KX2_amount) ∈ lw_g := lw_gin 530 (by decide +kernel) (by decide +kernel)
theorem ml_X8_237 : Cond.methodLink "GapSets" 237 (kY KX8_mix) ∈ lw_g := lw_gin 534 (by decide +kernel) (by decide +kernel)
theorem ml_X8_241 : Cond.methodLink "GapSets" 241 (kY KX8_mixMembers) ∈ lw_g := lw_gin 538 (by decide +kernel) (by decide +kernel)
theorem ml_X8_298 : Cond.methodLink "GapSets" 298 (kY KX8_of) ∈ lw_g := lw_gin 542 (by decide +kernel) (by decide +kernel)
theorem ml_X8_63 : Cond.methodLink "GapSets" 63 (kY KX8_requireSet) ∈ lw_g := lw_gin 546 (by decide +kernel) (by decide +kernel)
theorem ml_X8_270 : Cond.methodLink "GapSets" 270 ⟨"java/lang/IndexOutOfBoundsException", "<init>", "(Ljava/lang/String;)V"⟩ ∈ lw_g := lw_gin 559 (by decide +kernel) (by decide +kernel)
theorem ml_X8_191 : Cond.methodLink "GapSets" 191 (kY KX8_sizeOf) ∈ lw_g := lw_gin 565 (by decide +kernel) (by decide +kernel)
theorem ml_X8_103 : Cond.methodLink "GapSets" 103 (kY KX5_least) ∈ lw_g := lw_gin 569 (by decide +kernel) (by decide +kernel)
theorem ml_X8_106 : Cond.methodLink "GapSets" 106 (kY KX5_greatest) ∈ lw_g := lw_gin 573 (by decide +kernel) (by decide +kernel)
theorem ml_X8_195 : Cond.methodLink "GapSets" 195 (kY KX5_longestRow) ∈ lw_g := lw_gin 577 (by decide +kernel) (by decide +kernel)
theorem ml_X5_36 : Cond.methodLink "GapSets$Members" 36 (kY KM_max) ∈ lw_g := lw_gin 581 (by decide +kernel) (by decide +kernel)
theorem ml_X8_198 : Cond.methodLink "GapSets" 198 (kY KX0_wideGaps) ∈ lw_g := lw_gin 584 (by decide +kernel) (by decide +kernel)
theorem ml_X0_48 : Cond.methodLink "GapSets$Blocks" 48 (kY KX0_start) ∈ lw_g := lw_gin 588 (by decide +kernel) (by decide +kernel)
theorem ml_X0_54 : Cond.methodLink "GapSets$Blocks" 54 (kY KX0_end) ∈ lw_g := lw_gin 592 (by decide +kernel) (by decide +kernel)
theorem ml_X0_57 : Cond.methodLink "GapSets$Blocks" 57 (kY KX5_gapAhead) ∈ lw_g := lw_gin 596 (by decide +kernel) (by decide +kernel)
theorem ml_X8_245 : Cond.methodLink "GapSets" 245 (kY KX8_mixBlocks) ∈ lw_g := lw_gin 597 (by decide +kernel) (by decide +kernel)
theorem ml_X8_301 : Cond.methodLink "GapSets" 301 (kY KX8_block) ∈ lw_g := lw_gin 601 (by decide +kernel) (by decide +kernel)
theorem ml_X8_173 : Cond.methodLink "GapSets" 173 (kY KX0_base) ∈ lw_g := lw_gin 605 (by decide +kernel) (by decide +kernel)
theorem ml_X0_51 : Cond.methodLink "GapSets$Blocks" 51 (kY KX5_at) ∈ lw_g := lw_gin 609 (by decide +kernel) (by decide +kernel)
theorem ml_X8_176 : Cond.methodLink "GapSets" 176 (kY KX0_membersIn) ∈ lw_g := lw_gin 610 (by decide +kernel) (by decide +kernel)
theorem ml_X8_179 : Cond.methodLink "GapSets" 179 (kY KX0_greatestIn) ∈ lw_g := lw_gin 614 (by decide +kernel) (by decide +kernel)
theorem ml_X8_182 : Cond.methodLink "GapSets" 182 (kY KX0_bytesOf) ∈ lw_g := lw_gin 618 (by decide +kernel) (by decide +kernel)
theorem ml_X8_185 : Cond.methodLink "GapSets" 185 (kY KX0_greatestGapIn) ∈ lw_g := lw_gin 623 (by decide +kernel) (by decide +kernel)
theorem ml_X0_63 : Cond.methodLink "GapSets$Blocks" 63 (kY KM_max) ∈ lw_g := lw_gin 627 (by decide +kernel) (by decide +kernel)
theorem ml_X8_188 : Cond.methodLink "GapSets" 188 (kY KX0_start) ∈ lw_g := lw_gin 628 (by decide +kernel) (by decide +kernel)
theorem ml_X8_248 : Cond.methodLink "GapSets" 248 (kY KX8_mixLooks) ∈ lw_g := lw_gin 629 (by decide +kernel) (by decide +kernel)
theorem ml_X8_305 : Cond.methodLink "GapSets" 305 (kY KX8_dearest) ∈ lw_g := lw_gin 633 (by decide +kernel) (by decide +kernel)
theorem ml_X8_116 : Cond.methodLink "GapSets" 116 (kY KX5_copyFrom) ∈ lw_g := lw_gin 637 (by decide +kernel) (by decide +kernel)
theorem ml_X5_55 : Cond.methodLink "GapSets$Members" 55 (kY KM_min) ∈ lw_g := lw_gin 641 (by decide +kernel) (by decide +kernel)
theorem ml_X8_92 : Cond.methodLink "GapSets" 92 (kY KX5_cutOut) ∈ lw_g := lw_gin 644 (by decide +kernel) (by decide +kernel)
theorem ml_X8_308 : Cond.methodLink "GapSets" 308 (kY KX8_ifAdded) ∈ lw_g := lw_gin 648 (by decide +kernel) (by decide +kernel)
theorem ml_X8_66 : Cond.methodLink "GapSets" 66 (kY KX8_requireNumber) ∈ lw_g := lw_gin 652 (by decide +kernel) (by decide +kernel)
theorem ml_X8_311 : Cond.methodLink "GapSets" 311 (kY KX8_nearest) ∈ lw_g := lw_gin 655 (by decide +kernel) (by decide +kernel)
theorem ml_X8_166 : Cond.methodLink "GapSets" 166 (kY KX5_nearestTo) ∈ lw_g := lw_gin 659 (by decide +kernel) (by decide +kernel)
theorem ml_X5_26 : Cond.methodLink "GapSets$Members" 26 (kY KX5_least) ∈ lw_g := lw_gin 663 (by decide +kernel) (by decide +kernel)
theorem ml_X5_30 : Cond.methodLink "GapSets$Members" 30 (kY KX5_greatest) ∈ lw_g := lw_gin 664 (by decide +kernel) (by decide +kernel)
theorem ml_X8_201 : Cond.methodLink "GapSets" 201 (kY KX4_run) ∈ lw_g := lw_gin 665 (by decide +kernel) (by decide +kernel)
theorem ml_X4_25 : Cond.methodLink "GapSets$Meeting" 25 (kY KX3_begin) ∈ lw_g := lw_gin 669 (by decide +kernel) (by decide +kernel)
theorem ml_X3_35 : Cond.methodLink "GapSets$Leaper" 35 (kY KX7_members) ∈ lw_g := lw_gin 673 (by decide +kernel) (by decide +kernel)
theorem ml_X3_40 : Cond.methodLink "GapSets$Leaper" 40 (kY KX0_cut) ∈ lw_g := lw_gin 674 (by decide +kernel) (by decide +kernel)
theorem ml_X4_29 : Cond.methodLink "GapSets$Meeting" 29 (kY KX7_members) ∈ lw_g := lw_gin 675 (by decide +kernel) (by decide +kernel)
theorem ml_X4_35 : Cond.methodLink "GapSets$Meeting" 35 (kY KX5_amount) ∈ lw_g := lw_gin 676 (by decide +kernel) (by decide +kernel)
theorem ml_X4_41 : Cond.methodLink "GapSets$Meeting" 41 (kY KX3_reached) ∈ lw_g := lw_gin 677 (by decide +kernel) (by decide +kernel)
theorem ml_X3_44 : Cond.methodLink "GapSets$Leaper" 44 (kY KX5_at) ∈ lw_g := lw_gin 681 (by decide +kernel) (by decide +kernel)
theorem ml_X4_44 : Cond.methodLink "GapSets$Meeting" 44 (kY KX3_leapsTo) ∈ lw_g := lw_gin 682 (by decide +kernel) (by decide +kernel)
theorem ml_X3_52 : Cond.methodLink "GapSets$Leaper" 52 (kY KX5_isEmpty) ∈ lw_g := lw_gin 686 (by decide +kernel) (by decide +kernel)
theorem ml_X3_56 : Cond.methodLink "GapSets$Leaper" 56 (kY KX3_lookForBlock) ∈ lw_g := lw_gin 690 (by decide +kernel) (by decide +kernel)
theorem ml_X3_66 : Cond.methodLink "GapSets$Leaper" 66 (kY KX0_blockAt) ∈ lw_g := lw_gin 694 (by decide +kernel) (by decide +kernel)
theorem ml_X3_65 : Cond.methodLink "GapSets$Leaper" 65 (kY KX0_amount) ∈ lw_g := lw_gin 698 (by decide +kernel) (by decide +kernel)
theorem ml_X3_69 : Cond.methodLink "GapSets$Leaper" 69 (kY KX0_base) ∈ lw_g := lw_gin 702 (by decide +kernel) (by decide +kernel)
theorem ml_X3_59 : Cond.methodLink "GapSets$Leaper" 59 (kY KX0_start) ∈ lw_g := lw_gin 703 (by decide +kernel) (by decide +kernel)
theorem ml_X3_62 : Cond.methodLink "GapSets$Leaper" 62 (kY KX0_end) ∈ lw_g := lw_gin 704 (by decide +kernel) (by decide +kernel)
theorem ml_X4_48 : Cond.methodLink "GapSets$Meeting" 48 (kY KX3_steps) ∈ lw_g := lw_gin 705 (by decide +kernel) (by decide +kernel)
theorem ml_X3_48 : Cond.methodLink "GapSets$Leaper" 48 (kY KX5_amount) ∈ lw_g := lw_gin 709 (by decide +kernel) (by decide +kernel)
theorem ml_X8_205 : Cond.methodLink "GapSets" 205 (kY KX4_result) ∈ lw_g := lw_gin 710 (by decide +kernel) (by decide +kernel)
theorem ml_X4_52 : Cond.methodLink "GapSets$Meeting" 52 (kY KX3_allLeaps) ∈ lw_g := lw_gin 714 (by decide +kernel) (by decide +kernel)
theorem ml_X4_55 : Cond.methodLink "GapSets$Meeting" 55 (kY KX3_allLooks) ∈ lw_g := lw_gin 718 (by decide +kernel) (by decide +kernel)
theorem ml_X8_251 : Cond.methodLink "GapSets" 251 (kY KX8_bestWidth) ∈ lw_g := lw_gin 722 (by decide +kernel) (by decide +kernel)
theorem ml_X8_254 : Cond.methodLink "GapSets" 254 (kY KX8_smallness) ∈ lw_g := lw_gin 723 (by decide +kernel) (by decide +kernel)
theorem ml_X8_258 : Cond.methodLink "GapSets" 258 (kY KX8_bitsOf) ∈ lw_g := lw_gin 724 (by decide +kernel) (by decide +kernel)
theorem ml_X8_262 : Cond.methodLink "GapSets" 262 (kY KX8_mixBuffer) ∈ lw_g := lw_gin 730 (by decide +kernel) (by decide +kernel)
theorem ml_X8_314 : Cond.methodLink "GapSets" 314 (kY KX1_at) ∈ lw_g := lw_gin 734 (by decide +kernel) (by decide +kernel)
theorem ml_L_87 : Cond.methodLink "GapSetsLaw" 87 (kY KL_add) ∈ lw_g := lw_gin 735 (by decide +kernel) (by decide +kernel)
theorem ml_L_7 : Cond.methodLink "GapSetsLaw" 7 (kY KX8_add) ∈ lw_g := lw_gin 741 (by decide +kernel) (by decide +kernel)
theorem ml_X8_81 : Cond.methodLink "GapSets" 81 (kY KX8_requireState) ∈ lw_g := lw_gin 745 (by decide +kernel) (by decide +kernel)
theorem ml_X8_284 : Cond.methodLink "GapSets" 284 ⟨"java/lang/IllegalStateException", "<init>", "(Ljava/lang/String;)V"⟩ ∈ lw_g := lw_gin 758 (by decide +kernel) (by decide +kernel)
theorem ml_X8_85 : Cond.methodLink "GapSets" 85 (kY KX2_save) ∈ lw_g := lw_gin 764 (by decide +kernel) (by decide +kernel)
theorem ml_X2_25 : Cond.methodLink "GapSets$History" 25 (kY KX2_slotAt) ∈ lw_g := lw_gin 768 (by decide +kernel) (by decide +kernel)
theorem ml_X2_29 : Cond.methodLink "GapSets$History" 29 (kY KX7_copyFrom) ∈ lw_g := lw_gin 772 (by decide +kernel) (by decide +kernel)
theorem ml_X7_28 : Cond.methodLink "GapSets$State" 28 (kY KX7_members) ∈ lw_g := lw_gin 776 (by decide +kernel) (by decide +kernel)
theorem ml_X7_32 : Cond.methodLink "GapSets$State" 32 (kY KX5_copyFrom) ∈ lw_g := lw_gin 777 (by decide +kernel) (by decide +kernel)
theorem ml_X7_36 : Cond.methodLink "GapSets$State" 36 (kY KX7_valueOf) ∈ lw_g := lw_gin 778 (by decide +kernel) (by decide +kernel)
theorem ml_X7_40 : Cond.methodLink "GapSets$State" 40 (kY KX7_change) ∈ lw_g := lw_gin 779 (by decide +kernel) (by decide +kernel)
theorem ml_X2_33 : Cond.methodLink "GapSets$History" 33 (kY KM_min) ∈ lw_g := lw_gin 783 (by decide +kernel) (by decide +kernel)
theorem ml_L_96 : Cond.methodLink "GapSetsLaw" 96 (kY KL_remove) ∈ lw_g := lw_gin 784 (by decide +kernel) (by decide +kernel)
theorem ml_L_19 : Cond.methodLink "GapSetsLaw" 19 (kY KX8_remove) ∈ lw_g := lw_gin 787 (by decide +kernel) (by decide +kernel)
theorem ml_L_99 : Cond.methodLink "GapSetsLaw" 99 (kY KL_removeRange) ∈ lw_g := lw_gin 791 (by decide +kernel) (by decide +kernel)
theorem ml_L_22 : Cond.methodLink "GapSetsLaw" 22 (kY KX8_removeRange) ∈ lw_g := lw_gin 794 (by decide +kernel) (by decide +kernel)
theorem ml_L_103 : Cond.methodLink "GapSetsLaw" 103 (kY KL_shift) ∈ lw_g := lw_gin 798 (by decide +kernel) (by decide +kernel)
theorem ml_L_26 : Cond.methodLink "GapSetsLaw" 26 (kY KX8_shift) ∈ lw_g := lw_gin 801 (by decide +kernel) (by decide +kernel)
theorem ml_X8_99 : Cond.methodLink "GapSets" 99 (kY KX5_isEmpty) ∈ lw_g := lw_gin 805 (by decide +kernel) (by decide +kernel)
theorem ml_X8_109 : Cond.methodLink "GapSets" 109 (kY KX5_moveBy) ∈ lw_g := lw_gin 806 (by decide +kernel) (by decide +kernel)
theorem ml_L_106 : Cond.methodLink "GapSetsLaw" 106 (kY KL_combine) ∈ lw_g := lw_gin 810 (by decide +kernel) (by decide +kernel)
theorem ml_L_29 : Cond.methodLink "GapSetsLaw" 29 (kY KX8_combine) ∈ lw_g := lw_gin 813 (by decide +kernel) (by decide +kernel)
theorem ml_X8_112 : Cond.methodLink "GapSets" 112 (kY KX8_joinInto) ∈ lw_g := lw_gin 817 (by decide +kernel) (by decide +kernel)
theorem ml_L_110 : Cond.methodLink "GapSetsLaw" 110 (kY KL_set) ∈ lw_g := lw_gin 820 (by decide +kernel) (by decide +kernel)
theorem ml_L_33 : Cond.methodLink "GapSetsLaw" 33 (kY KX8_set) ∈ lw_g := lw_gin 823 (by decide +kernel) (by decide +kernel)
theorem ml_X8_120 : Cond.methodLink "GapSets" 120 (kY KX8_requireSetting) ∈ lw_g := lw_gin 827 (by decide +kernel) (by decide +kernel)
theorem ml_X8_123 : Cond.methodLink "GapSets" 123 (kY KX8_isMost) ∈ lw_g := lw_gin 831 (by decide +kernel) (by decide +kernel)
theorem ml_X8_126 : Cond.methodLink "GapSets" 126 (kY KX8_isWidth) ∈ lw_g := lw_gin 834 (by decide +kernel) (by decide +kernel)
theorem ml_X8_133 : Cond.methodLink "GapSets" 133 (kY KX7_change) ∈ lw_g := lw_gin 837 (by decide +kernel) (by decide +kernel)
theorem ml_L_113 : Cond.methodLink "GapSetsLaw" 113 (kY KL_append) ∈ lw_g := lw_gin 838 (by decide +kernel) (by decide +kernel)
theorem ml_L_36 : Cond.methodLink "GapSetsLaw" 36 (kY KX8_append) ∈ lw_g := lw_gin 841 (by decide +kernel) (by decide +kernel)
theorem ml_X8_140 : Cond.methodLink "GapSets" 140 (kY KX1_put) ∈ lw_g := lw_gin 845 (by decide +kernel) (by decide +kernel)
theorem ml_L_125 : Cond.methodLink "GapSetsLaw" 125 (kY KL_read) ∈ lw_g := lw_gin 849 (by decide +kernel) (by decide +kernel)
theorem ml_L_40 : Cond.methodLink "GapSetsLaw" 40 (kY KX8_read) ∈ lw_g := lw_gin 852 (by decide +kernel) (by decide +kernel)
theorem ml_X8_148 : Cond.methodLink "GapSets" 148 (kY KX6_parsesWhole) ∈ lw_g := lw_gin 856 (by decide +kernel) (by decide +kernel)
theorem ml_X6_35 : Cond.methodLink "GapSets$Parser" 35 (kY KX6_parse) ∈ lw_g := lw_gin 860 (by decide +kernel) (by decide +kernel)
theorem ml_X8_152 : Cond.methodLink "GapSets" 152 (kY KX6_amount) ∈ lw_g := lw_gin 861 (by decide +kernel) (by decide +kernel)
theorem ml_X8_153 : Cond.methodLink "GapSets" 153 (kY KX6_fill) ∈ lw_g := lw_gin 865 (by decide +kernel) (by decide +kernel)
theorem ml_X6_50 : Cond.methodLink "GapSets$Parser" 50 (kY KX5_empty) ∈ lw_g := lw_gin 869 (by decide +kernel) (by decide +kernel)
theorem ml_X6_55 : Cond.methodLink "GapSets$Parser" 55 (kY KX5_put) ∈ lw_g := lw_gin 870 (by decide +kernel) (by decide +kernel)
theorem ml_L_128 : Cond.methodLink "GapSetsLaw" 128 (kY KL_undo) ∈ lw_g := lw_gin 871 (by decide +kernel) (by decide +kernel)
theorem ml_L_43 : Cond.methodLink "GapSetsLaw" 43 (kY KX8_undo) ∈ lw_g := lw_gin 874 (by decide +kernel) (by decide +kernel)
theorem ml_X8_157 : Cond.methodLink "GapSets" 157 (kY KX2_restore) ∈ lw_g := lw_gin 878 (by decide +kernel) (by decide +kernel)
theorem ml_L_132 : Cond.methodLink "GapSetsLaw" 132 (kY KL_has) ∈ lw_g := lw_gin 882 (by decide +kernel) (by decide +kernel)
theorem ml_L_47 : Cond.methodLink "GapSetsLaw" 47 (kY KX8_has) ∈ lw_g := lw_gin 885 (by decide +kernel) (by decide +kernel)
theorem ml_L_135 : Cond.methodLink "GapSetsLaw" 135 (kY KL_member) ∈ lw_g := lw_gin 889 (by decide +kernel) (by decide +kernel)
theorem ml_L_50 : Cond.methodLink "GapSetsLaw" 50 (kY KX8_member) ∈ lw_g := lw_gin 892 (by decide +kernel) (by decide +kernel)
theorem ml_L_138 : Cond.methodLink "GapSetsLaw" 138 (kY KL_less) ∈ lw_g := lw_gin 896 (by decide +kernel) (by decide +kernel)
theorem ml_L_53 : Cond.methodLink "GapSetsLaw" 53 (kY KX8_less) ∈ lw_g := lw_gin 899 (by decide +kernel) (by decide +kernel)
theorem ml_X8_163 : Cond.methodLink "GapSets" 163 (kY KX5_placeOf) ∈ lw_g := lw_gin 903 (by decide +kernel) (by decide +kernel)
theorem ml_L_141 : Cond.methodLink "GapSetsLaw" 141 (kY KL_nearest) ∈ lw_g := lw_gin 904 (by decide +kernel) (by decide +kernel)
theorem ml_L_56 : Cond.methodLink "GapSetsLaw" 56 (kY KX8_nearest) ∈ lw_g := lw_gin 907 (by decide +kernel) (by decide +kernel)
theorem ml_L_144 : Cond.methodLink "GapSetsLaw" 144 (kY KL_block) ∈ lw_g := lw_gin 908 (by decide +kernel) (by decide +kernel)
theorem ml_L_59 : Cond.methodLink "GapSetsLaw" 59 (kY KX8_block) ∈ lw_g := lw_gin 911 (by decide +kernel) (by decide +kernel)
theorem ml_L_147 : Cond.methodLink "GapSetsLaw" 147 (kY KL_of) ∈ lw_g := lw_gin 912 (by decide +kernel) (by decide +kernel)
theorem ml_L_62 : Cond.methodLink "GapSetsLaw" 62 (kY KX8_of) ∈ lw_g := lw_gin 915 (by decide +kernel) (by decide +kernel)
theorem ml_L_150 : Cond.methodLink "GapSetsLaw" 150 (kY KL_leaps) ∈ lw_g := lw_gin 916 (by decide +kernel) (by decide +kernel)
theorem ml_L_65 : Cond.methodLink "GapSetsLaw" 65 (kY KX8_leaps) ∈ lw_g := lw_gin 919 (by decide +kernel) (by decide +kernel)
theorem ml_L_153 : Cond.methodLink "GapSetsLaw" 153 (kY KL_count) ∈ lw_g := lw_gin 923 (by decide +kernel) (by decide +kernel)
theorem ml_L_68 : Cond.methodLink "GapSetsLaw" 68 (kY KX8_count) ∈ lw_g := lw_gin 926 (by decide +kernel) (by decide +kernel)
theorem ml_L_156 : Cond.methodLink "GapSetsLaw" 156 (kY KL_setting) ∈ lw_g := lw_gin 927 (by decide +kernel) (by decide +kernel)
theorem ml_L_71 : Cond.methodLink "GapSetsLaw" 71 (kY KX8_setting) ∈ lw_g := lw_gin 930 (by decide +kernel) (by decide +kernel)
theorem ml_L_159 : Cond.methodLink "GapSetsLaw" 159 (kY KL_ifSet) ∈ lw_g := lw_gin 934 (by decide +kernel) (by decide +kernel)
theorem ml_L_74 : Cond.methodLink "GapSetsLaw" 74 (kY KX8_ifSet) ∈ lw_g := lw_gin 937 (by decide +kernel) (by decide +kernel)
theorem ml_L_162 : Cond.methodLink "GapSetsLaw" 162 (kY KL_ifAdded) ∈ lw_g := lw_gin 941 (by decide +kernel) (by decide +kernel)
theorem ml_L_77 : Cond.methodLink "GapSetsLaw" 77 (kY KX8_ifAdded) ∈ lw_g := lw_gin 944 (by decide +kernel) (by decide +kernel)
theorem ml_L_165 : Cond.methodLink "GapSetsLaw" 165 (kY KL_dearest) ∈ lw_g := lw_gin 945 (by decide +kernel) (by decide +kernel)
theorem ml_L_80 : Cond.methodLink "GapSetsLaw" 80 (kY KX8_dearest) ∈ lw_g := lw_gin 948 (by decide +kernel) (by decide +kernel)
theorem ml_L_86 : Cond.methodLink "GapSetsLaw" 86 (kY KX9_init) ∈ lw_g := lw_gin 951 (by decide +kernel) (by decide +kernel)
theorem ml_X9_1 : Cond.methodLink "GapSetsModel" 1 ⟨"java/lang/Object", "<init>", "()V"⟩ ∈ lw_g := lw_gin 954 (by decide +kernel) (by decide +kernel)
theorem ml_L_93 : Cond.methodLink "GapSetsLaw" 93 (kY KX9_thrown) ∈ lw_g := lw_gin 1010 (by decide +kernel) (by decide +kernel)
theorem ml_L_92 : Cond.methodLink "GapSetsLaw" 92 (kY KX9_add) ∈ lw_g := lw_gin 1014 (by decide +kernel) (by decide +kernel)
theorem ml_X9_81 : Cond.methodLink "GapSetsModel" 81 (kY KX9_isSet) ∈ lw_g := lw_gin 1018 (by decide +kernel) (by decide +kernel)
theorem ml_X9_41 : Cond.methodLink "GapSetsModel" 41 (kY KX9_within) ∈ lw_g := lw_gin 1021 (by decide +kernel) (by decide +kernel)
theorem ml_X9_85 : Cond.methodLink "GapSetsModel" 85 (kY KX9_isNumber) ∈ lw_g := lw_gin 1024 (by decide +kernel) (by decide +kernel)
theorem ml_X9_88 : Cond.methodLink "GapSetsModel" 88 (kY KX9_isMember) ∈ lw_g := lw_gin 1027 (by decide +kernel) (by decide +kernel)
theorem ml_X9_53 : Cond.methodLink "GapSetsModel" 53 (kY KX9_lessThan) ∈ lw_g := lw_gin 1031 (by decide +kernel) (by decide +kernel)
theorem ml_X9_45 : Cond.methodLink "GapSetsModel" 45 (kY KX9_many) ∈ lw_g := lw_gin 1035 (by decide +kernel) (by decide +kernel)
theorem ml_X9_49 : Cond.methodLink "GapSetsModel" 49 (kY KX9_at) ∈ lw_g := lw_gin 1039 (by decide +kernel) (by decide +kernel)
theorem ml_X9_92 : Cond.methodLink "GapSetsModel" 92 (kY KX9_save) ∈ lw_g := lw_gin 1043 (by decide +kernel) (by decide +kernel)
theorem ml_X9_95 : Cond.methodLink "GapSetsModel" 95 (kY KX9_insert) ∈ lw_g := lw_gin 1047 (by decide +kernel) (by decide +kernel)
theorem ml_L_98 : Cond.methodLink "GapSetsLaw" 98 (kY KX9_remove) ∈ lw_g := lw_gin 1051 (by decide +kernel) (by decide +kernel)
theorem ml_X9_101 : Cond.methodLink "GapSetsModel" 101 (kY KX9_takeAway) ∈ lw_g := lw_gin 1055 (by decide +kernel) (by decide +kernel)
theorem ml_X9_62 : Cond.methodLink "GapSetsModel" 62 (kY KX9_takeRow) ∈ lw_g := lw_gin 1059 (by decide +kernel) (by decide +kernel)
theorem ml_X9_98 : Cond.methodLink "GapSetsModel" 98 (kY KX9_layRow) ∈ lw_g := lw_gin 1063 (by decide +kernel) (by decide +kernel)
theorem ml_L_102 : Cond.methodLink "GapSetsLaw" 102 (kY KX9_removeRange) ∈ lw_g := lw_gin 1067 (by decide +kernel) (by decide +kernel)
theorem ml_L_105 : Cond.methodLink "GapSetsLaw" 105 (kY KX9_shift) ∈ lw_g := lw_gin 1071 (by decide +kernel) (by decide +kernel)
theorem ml_X9_110 : Cond.methodLink "GapSetsModel" 110 (kY KX9_canShift) ∈ lw_g := lw_gin 1075 (by decide +kernel) (by decide +kernel)
theorem ml_X9_104 : Cond.methodLink "GapSetsModel" 104 (kY KX9_leastOf) ∈ lw_g := lw_gin 1079 (by decide +kernel) (by decide +kernel)
theorem ml_X9_107 : Cond.methodLink "GapSetsModel" 107 (kY KX9_greatestOf) ∈ lw_g := lw_gin 1083 (by decide +kernel) (by decide +kernel)
theorem ml_L_109 : Cond.methodLink "GapSetsLaw" 109 (kY KX9_combine) ∈ lw_g := lw_gin 1087 (by decide +kernel) (by decide +kernel)
theorem ml_X9_117 : Cond.methodLink "GapSetsModel" 117 (kY KX9_layCombined) ∈ lw_g := lw_gin 1091 (by decide +kernel) (by decide +kernel)
theorem ml_X9_113 : Cond.methodLink "GapSetsModel" 113 (kY KX9_belongs) ∈ lw_g := lw_gin 1095 (by decide +kernel) (by decide +kernel)
theorem ml_L_112 : Cond.methodLink "GapSetsLaw" 112 (kY KX9_set) ∈ lw_g := lw_gin 1098 (by decide +kernel) (by decide +kernel)
theorem ml_X9_121 : Cond.methodLink "GapSetsModel" 121 (kY KX9_isMost) ∈ lw_g := lw_gin 1102 (by decide +kernel) (by decide +kernel)
theorem ml_X9_124 : Cond.methodLink "GapSetsModel" 124 (kY KX9_isWidth) ∈ lw_g := lw_gin 1105 (by decide +kernel) (by decide +kernel)
theorem ml_L_116 : Cond.methodLink "GapSetsLaw" 116 (kY KX9_append) ∈ lw_g := lw_gin 1108 (by decide +kernel) (by decide +kernel)
theorem ml_L_120 : Cond.methodLink "GapSetsLaw" 120 (kY KX9_clearBuffer) ∈ lw_g := lw_gin 1112 (by decide +kernel) (by decide +kernel)
theorem ml_L_124 : Cond.methodLink "GapSetsLaw" 124 (kY KX9_firstError) ∈ lw_g := lw_gin 1116 (by decide +kernel) (by decide +kernel)
theorem ml_X9_159 : Cond.methodLink "GapSetsModel" 159 (kY KX9_rightUpTo) ∈ lw_g := lw_gin 1120 (by decide +kernel) (by decide +kernel)
theorem ml_X9_156 : Cond.methodLink "GapSetsModel" 156 (kY KX9_takes) ∈ lw_g := lw_gin 1124 (by decide +kernel) (by decide +kernel)
theorem ml_X9_146 : Cond.methodLink "GapSetsModel" 146 (kY KX9_isEnded) ∈ lw_g := lw_gin 1128 (by decide +kernel) (by decide +kernel)
theorem ml_X9_150 : Cond.methodLink "GapSetsModel" 150 (kY KX9_endNumber) ∈ lw_g := lw_gin 1132 (by decide +kernel) (by decide +kernel)
theorem ml_X9_153 : Cond.methodLink "GapSetsModel" 153 (kY KX9_takesDigit) ∈ lw_g := lw_gin 1136 (by decide +kernel) (by decide +kernel)
theorem ml_X9_133 : Cond.methodLink "GapSetsModel" 133 (kY KX9_greatestFrom) ∈ lw_g := lw_gin 1140 (by decide +kernel) (by decide +kernel)
theorem ml_L_127 : Cond.methodLink "GapSetsLaw" 127 (kY KX9_read) ∈ lw_g := lw_gin 1143 (by decide +kernel) (by decide +kernel)
theorem ml_X9_162 : Cond.methodLink "GapSetsModel" 162 (kY KX9_toldMany) ∈ lw_g := lw_gin 1147 (by decide +kernel) (by decide +kernel)
theorem ml_L_131 : Cond.methodLink "GapSetsLaw" 131 (kY KX9_undo) ∈ lw_g := lw_gin 1151 (by decide +kernel) (by decide +kernel)
theorem ml_L_134 : Cond.methodLink "GapSetsLaw" 134 (kY KX9_has) ∈ lw_g := lw_gin 1155 (by decide +kernel) (by decide +kernel)
theorem ml_L_137 : Cond.methodLink "GapSetsLaw" 137 (kY KX9_member) ∈ lw_g := lw_gin 1159 (by decide +kernel) (by decide +kernel)
theorem ml_L_140 : Cond.methodLink "GapSetsLaw" 140 (kY KX9_less) ∈ lw_g := lw_gin 1163 (by decide +kernel) (by decide +kernel)
theorem ml_L_143 : Cond.methodLink "GapSetsLaw" 143 (kY KX9_nearest) ∈ lw_g := lw_gin 1167 (by decide +kernel) (by decide +kernel)
theorem ml_X9_165 : Cond.methodLink "GapSetsModel" 165 (kY KX9_nearestTo) ∈ lw_g := lw_gin 1171 (by decide +kernel) (by decide +kernel)
theorem ml_L_146 : Cond.methodLink "GapSetsLaw" 146 (kY KX9_block) ∈ lw_g := lw_gin 1175 (by decide +kernel) (by decide +kernel)
theorem ml_X9_174 : Cond.methodLink "GapSetsModel" 174 (kY KX9_blockNow) ∈ lw_g := lw_gin 1179 (by decide +kernel) (by decide +kernel)
theorem ml_X9_168 : Cond.methodLink "GapSetsModel" 168 (kY KX9_blocksOf) ∈ lw_g := lw_gin 1183 (by decide +kernel) (by decide +kernel)
theorem ml_X9_66 : Cond.methodLink "GapSetsModel" 66 (kY KX9_layBlocks) ∈ lw_g := lw_gin 1187 (by decide +kernel) (by decide +kernel)
theorem ml_X9_70 : Cond.methodLink "GapSetsModel" 70 (kY KX9_bytesOf) ∈ lw_g := lw_gin 1191 (by decide +kernel) (by decide +kernel)
theorem ml_X9_171 : Cond.methodLink "GapSetsModel" 171 (kY KX9_greatestGap) ∈ lw_g := lw_gin 1195 (by decide +kernel) (by decide +kernel)
theorem ml_L_149 : Cond.methodLink "GapSetsLaw" 149 (kY KX9_of) ∈ lw_g := lw_gin 1199 (by decide +kernel) (by decide +kernel)
theorem ml_X9_189 : Cond.methodLink "GapSetsModel" 189 (kY KX9_setNow) ∈ lw_g := lw_gin 1203 (by decide +kernel) (by decide +kernel)
theorem ml_X9_177 : Cond.methodLink "GapSetsModel" 177 (kY KX9_blockCount) ∈ lw_g := lw_gin 1207 (by decide +kernel) (by decide +kernel)
theorem ml_X9_180 : Cond.methodLink "GapSetsModel" 180 (kY KX9_sizeOf) ∈ lw_g := lw_gin 1211 (by decide +kernel) (by decide +kernel)
theorem ml_X9_77 : Cond.methodLink "GapSetsModel" 77 (kY KX9_sizeBy) ∈ lw_g := lw_gin 1215 (by decide +kernel) (by decide +kernel)
theorem ml_X9_73 : Cond.methodLink "GapSetsModel" 73 (kY KX9_bytes) ∈ lw_g := lw_gin 1219 (by decide +kernel) (by decide +kernel)
theorem ml_X9_183 : Cond.methodLink "GapSetsModel" 183 (kY KX9_longestRun) ∈ lw_g := lw_gin 1223 (by decide +kernel) (by decide +kernel)
theorem ml_X9_186 : Cond.methodLink "GapSetsModel" 186 (kY KX9_wideGaps) ∈ lw_g := lw_gin 1227 (by decide +kernel) (by decide +kernel)
theorem ml_L_152 : Cond.methodLink "GapSetsLaw" 152 (kY KX9_leaps) ∈ lw_g := lw_gin 1231 (by decide +kernel) (by decide +kernel)
theorem ml_X9_201 : Cond.methodLink "GapSetsModel" 201 (kY KX9_leapsNow) ∈ lw_g := lw_gin 1235 (by decide +kernel) (by decide +kernel)
theorem ml_X9_198 : Cond.methodLink "GapSetsModel" 198 (kY KX9_goThrough) ∈ lw_g := lw_gin 1239 (by decide +kernel) (by decide +kernel)
theorem ml_X9_192 : Cond.methodLink "GapSetsModel" 192 (kY KX9_leap) ∈ lw_g := lw_gin 1243 (by decide +kernel) (by decide +kernel)
theorem ml_X9_195 : Cond.methodLink "GapSetsModel" 195 (kY KX9_blockWith) ∈ lw_g := lw_gin 1247 (by decide +kernel) (by decide +kernel)
theorem ml_L_155 : Cond.methodLink "GapSetsLaw" 155 (kY KX9_count) ∈ lw_g := lw_gin 1251 (by decide +kernel) (by decide +kernel)
theorem ml_X9_220 : Cond.methodLink "GapSetsModel" 220 (kY KX9_counted) ∈ lw_g := lw_gin 1255 (by decide +kernel) (by decide +kernel)
theorem ml_X9_210 : Cond.methodLink "GapSetsModel" 210 (kY KX9_sumOf) ∈ lw_g := lw_gin 1259 (by decide +kernel) (by decide +kernel)
theorem ml_X9_213 : Cond.methodLink "GapSetsModel" 213 (kY KX9_membersOfAll) ∈ lw_g := lw_gin 1263 (by decide +kernel) (by decide +kernel)
theorem ml_X9_204 : Cond.methodLink "GapSetsModel" 204 (kY KX9_setsWith) ∈ lw_g := lw_gin 1267 (by decide +kernel) (by decide +kernel)
theorem ml_X9_217 : Cond.methodLink "GapSetsModel" 217 (kY KX9_alikePairs) ∈ lw_g := lw_gin 1271 (by decide +kernel) (by decide +kernel)
theorem ml_X9_207 : Cond.methodLink "GapSetsModel" 207 (kY KX9_areAlike) ∈ lw_g := lw_gin 1275 (by decide +kernel) (by decide +kernel)
theorem ml_L_158 : Cond.methodLink "GapSetsLaw" 158 (kY KX9_setting) ∈ lw_g := lw_gin 1279 (by decide +kernel) (by decide +kernel)
theorem ml_L_161 : Cond.methodLink "GapSetsLaw" 161 (kY KX9_ifSet) ∈ lw_g := lw_gin 1283 (by decide +kernel) (by decide +kernel)
theorem ml_L_164 : Cond.methodLink "GapSetsLaw" 164 (kY KX9_ifAdded) ∈ lw_g := lw_gin 1287 (by decide +kernel) (by decide +kernel)
theorem ml_X9_223 : Cond.methodLink "GapSetsModel" 223 (kY KX9_addedThen) ∈ lw_g := lw_gin 1291 (by decide +kernel) (by decide +kernel)
theorem ml_L_167 : Cond.methodLink "GapSetsLaw" 167 (kY KX9_dearest) ∈ lw_g := lw_gin 1295 (by decide +kernel) (by decide +kernel)
theorem ml_X9_229 : Cond.methodLink "GapSetsModel" 229 (kY KX9_dearestNow) ∈ lw_g := lw_gin 1299 (by decide +kernel) (by decide +kernel)
theorem ml_X9_226 : Cond.methodLink "GapSetsModel" 226 (kY KX9_sizeWithout) ∈ lw_g := lw_gin 1303 (by decide +kernel) (by decide +kernel)
theorem ml_L_171 : Cond.methodLink "GapSetsLaw" 171 (kY KX9_bestWidth) ∈ lw_g := lw_gin 1307 (by decide +kernel) (by decide +kernel)
theorem ml_X9_235 : Cond.methodLink "GapSetsModel" 235 (kY KX9_bestNow) ∈ lw_g := lw_gin 1311 (by decide +kernel) (by decide +kernel)
theorem ml_X9_232 : Cond.methodLink "GapSetsModel" 232 (kY KX9_sizesBy) ∈ lw_g := lw_gin 1315 (by decide +kernel) (by decide +kernel)
theorem ml_L_176 : Cond.methodLink "GapSetsLaw" 176 (kY KX9_smallness) ∈ lw_g := lw_gin 1319 (by decide +kernel) (by decide +kernel)
theorem ml_X9_238 : Cond.methodLink "GapSetsModel" 238 (kY KX9_small) ∈ lw_g := lw_gin 1323 (by decide +kernel) (by decide +kernel)
theorem ml_L_181 : Cond.methodLink "GapSetsLaw" 181 (kY KX9_digest) ∈ lw_g := lw_gin 1327 (by decide +kernel) (by decide +kernel)
theorem ml_X9_248 : Cond.methodLink "GapSetsModel" 248 (kY KX9_mix) ∈ lw_g := lw_gin 1332 (by decide +kernel) (by decide +kernel)
theorem ml_X9_254 : Cond.methodLink "GapSetsModel" 254 (kY KX9_mixSet) ∈ lw_g := lw_gin 1337 (by decide +kernel) (by decide +kernel)
theorem ml_X9_257 : Cond.methodLink "GapSetsModel" 257 (kY KD_d2l) ∈ lw_g := lw_gin 1341 (by decide +kernel) (by decide +kernel)
theorem ml_D_122 : Cond.methodLink "java/lang/Double" 122 (kY KD_isNaN) ∈ lw_g := lw_gin 1344 (by decide +kernel) (by decide +kernel)
theorem ml_D_134 : Cond.methodLink "java/lang/Double" 134 ⟨"java/lang/Double", "doubleToRawLongBits", "(D)J"⟩ ∈ lw_g := lw_gin 1347 (by decide +kernel) (by decide +kernel)
theorem nl_X5_48 : ∀ (B : Nat) (s : State), Zt B s → va_Nw (.methodLinkNest "GapSets$Members" 48 (kY KX8_gapBytes) "GapSets") s := fun _ _ h => h.2.2.2.2.1
theorem nl_X0_60 : ∀ (B : Nat) (s : State), Zt B s → va_Nw (.methodLinkNest "GapSets$Blocks" 60 (kY KX8_gapBytes) "GapSets") s := fun _ _ h => h.2.2.2.2.2
theorem cn_L_8 : Cond.classLink "GapSetsLaw" 8 "GapSets" ∈ lw_g := lw_gin 94 (by decide +kernel) (by decide +kernel)
theorem cn_X8_7 : Cond.classLink "GapSets" 7 "GapSets$State" ∈ lw_g := lw_gin 102 (by decide +kernel) (by decide +kernel)
theorem cn_X7_9 : Cond.classLink "GapSets$State" 9 "GapSets$Members" ∈ lw_g := lw_gin 108 (by decide +kernel) (by decide +kernel)
theorem cn_X8_16 : Cond.classLink "GapSets" 16 "GapSets$History" ∈ lw_g := lw_gin 133 (by decide +kernel) (by decide +kernel)
theorem cn_X2_9 : Cond.classLink "GapSets$History" 9 "GapSets$State" ∈ lw_g := lw_gin 139 (by decide +kernel) (by decide +kernel)
theorem cn_X8_23 : Cond.classLink "GapSets" 23 "GapSets$Buffer" ∈ lw_g := lw_gin 152 (by decide +kernel) (by decide +kernel)
theorem cn_X8_30 : Cond.classLink "GapSets" 30 "GapSets$Parser" ∈ lw_g := lw_gin 165 (by decide +kernel) (by decide +kernel)
theorem cn_X8_37 : Cond.classLink "GapSets" 37 "GapSets$Blocks" ∈ lw_g := lw_gin 204 (by decide +kernel) (by decide +kernel)
theorem cn_X0_19 : Cond.classLink "GapSets$Blocks" 19 "GapSets$Members" ∈ lw_g := lw_gin 210 (by decide +kernel) (by decide +kernel)
theorem cn_X8_44 : Cond.classLink "GapSets" 44 "GapSets$Meeting" ∈ lw_g := lw_gin 222 (by decide +kernel) (by decide +kernel)
theorem cn_X4_9 : Cond.classLink "GapSets$Meeting" 9 "GapSets$Leaper" ∈ lw_g := lw_gin 228 (by decide +kernel) (by decide +kernel)
theorem cn_X3_7 : Cond.classLink "GapSets$Leaper" 7 "GapSets$Blocks" ∈ lw_g := lw_gin 234 (by decide +kernel) (by decide +kernel)
theorem cn_X3_16 : Cond.classLink "GapSets$Leaper" 16 "GapSets$Members" ∈ lw_g := lw_gin 236 (by decide +kernel) (by decide +kernel)
theorem cn_X8_51 : Cond.classLink "GapSets" 51 "GapSets$Members" ∈ lw_g := lw_gin 264 (by decide +kernel) (by decide +kernel)
theorem cn_X8_275 : Cond.classLink "GapSets" 275 "java/lang/IllegalArgumentException" ∈ lw_g := lw_gin 424 (by decide +kernel) (by decide +kernel)
theorem cn_X8_266 : Cond.classLink "GapSets" 266 "java/lang/IndexOutOfBoundsException" ∈ lw_g := lw_gin 549 (by decide +kernel) (by decide +kernel)
theorem cn_L_13 : Cond.classLink "GapSetsLaw" 13 "java/lang/IndexOutOfBoundsException" ∈ lw_g := lw_gin 738 (by decide +kernel) (by decide +kernel)
theorem cn_L_15 : Cond.classLink "GapSetsLaw" 15 "java/lang/IllegalArgumentException" ∈ lw_g := lw_gin 739 (by decide +kernel) (by decide +kernel)
theorem cn_L_17 : Cond.classLink "GapSetsLaw" 17 "java/lang/IllegalStateException" ∈ lw_g := lw_gin 740 (by decide +kernel) (by decide +kernel)
theorem cn_X8_280 : Cond.classLink "GapSets" 280 "java/lang/IllegalStateException" ∈ lw_g := lw_gin 748 (by decide +kernel) (by decide +kernel)
theorem cn_L_84 : Cond.classLink "GapSetsLaw" 84 "GapSetsModel" ∈ lw_g := lw_gin 949 (by decide +kernel) (by decide +kernel)
theorem kl_X8_232 : Cond.constantLong "GapSets" 232 2617 ∈ lw_g := lw_gin 416 (by decide +kernel) (by decide +kernel)
theorem kl_X8_296 : Cond.constantLong "GapSets" 296 31 ∈ lw_g := lw_gin 537 (by decide +kernel) (by decide +kernel)
theorem kl_X8_315 : Cond.constantLong "GapSets" 315 1023 ∈ lw_g := lw_gin 727 (by decide +kernel) (by decide +kernel)
theorem kl_X9_252 : Cond.constantLong "GapSetsModel" 252 2617 ∈ lw_g := lw_gin 1331 (by decide +kernel) (by decide +kernel)
theorem kl_X9_242 : Cond.constantLong "GapSetsModel" 242 31 ∈ lw_g := lw_gin 1336 (by decide +kernel) (by decide +kernel)
theorem kl_D_137 : Cond.constantLong "java/lang/Double" 137 9221120237041090560 ∈ lw_g := lw_gin 1350 (by decide +kernel) (by decide +kernel)
theorem kd_X8_317 : Cond.constantDouble "GapSets" 317 4611686018427387904 ∈ lw_g := lw_gin 728 (by decide +kernel) (by decide +kernel)
theorem kd_X8_319 : Cond.constantDouble "GapSets" 319 4841369599423283200 ∈ lw_g := lw_gin 729 (by decide +kernel) (by decide +kernel)
theorem ac_int : Cond.arrayClass .int ∈ lw_g := lw_gin 122 (by decide +kernel) (by decide +kernel)
theorem ac_long : Cond.arrayClass .long ∈ lw_g := lw_gin 1351 (by decide +kernel) (by decide +kernel)
theorem ov_Members : ∀ (B : Nat) (s : State), Zt B s → va_AO "GapSets$Members" s := fun _ _ h => h.2.2.1
theorem ov_State : ∀ (B : Nat) (s : State), Zt B s → va_AO "GapSets$State" s := fun _ _ h => h.2.2.2.1
theorem oi_inst : Cond.instanceMethod objectInit ∈ lw_g := lw_gin 100 (by decide +kernel) (by decide +kernel)
theorem oi_code : Cond.code objectInit ⟨#[0xb1]⟩ 1 none ∈ lw_g := lw_gin 101 (by decide +kernel) (by decide +kernel)
end
section
/-! decode rows -/
theorem dX0_init_0 : Dc KX0_init 0 (.aload_n 0) 1 := by decide +kernel
theorem dX0_init_1 : Dc KX0_init 1 (.invokespecial 3) 3 := by decide +kernel
theorem dX0_init_4 : Dc KX0_init 4 (.aload_n 0) 1 := by decide +kernel
theorem dX0_init_5 : Dc KX0_init 5 (.bipush 61) 2 := by decide +kernel
theorem dX0_init_7 : Dc KX0_init 7 (.newarray .int) 2 := by decide +kernel
theorem dX0_init_9 : Dc KX0_init 9 (.putfield 9) 3 := by decide +kernel
theorem dX0_init_12 : Dc KX0_init 12 (.aload_n 0) 1 := by decide +kernel
theorem dX0_init_13 : Dc KX0_init 13 (.iconst 0) 1 := by decide +kernel
theorem dX0_init_14 : Dc KX0_init 14 (.putfield 15) 3 := by decide +kernel
theorem dX0_init_17 : Dc KX0_init 17 (.aload_n 0) 1 := by decide +kernel
theorem dX0_init_18 : Dc KX0_init 18 (.new 19) 3 := by decide +kernel
theorem dX0_init_21 : Dc KX0_init 21 (.dup) 1 := by decide +kernel
theorem dX0_init_22 : Dc KX0_init 22 (.iconst 0) 1 := by decide +kernel
theorem dX0_init_23 : Dc KX0_init 23 (.invokespecial 21) 3 := by decide +kernel
theorem dX0_init_26 : Dc KX0_init 26 (.putfield 24) 3 := by decide +kernel
theorem dX0_init_29 : Dc KX0_init 29 (.return_) 1 := by decide +kernel
theorem dX0_cut_0 : Dc KX0_cut 0 (.aload_n 0) 1 := by decide +kernel
theorem dX0_cut_1 : Dc KX0_cut 1 (.aload_n 1) 1 := by decide +kernel
theorem dX0_cut_2 : Dc KX0_cut 2 (.iload_n 2) 1 := by decide +kernel
theorem dX0_cut_3 : Dc KX0_cut 3 (.invokevirtual 28) 3 := by decide +kernel
theorem dX0_cut_6 : Dc KX0_cut 6 (.putfield 24) 3 := by decide +kernel
theorem dX0_cut_9 : Dc KX0_cut 9 (.aload_n 1) 1 := by decide +kernel
theorem dX0_cut_10 : Dc KX0_cut 10 (.iconst 0) 1 := by decide +kernel
theorem dX0_cut_11 : Dc KX0_cut 11 (.invokevirtual 33) 3 := by decide +kernel
theorem dX0_cut_14 : Dc KX0_cut 14 (.istore_n 3) 1 := by decide +kernel
theorem dX0_cut_15 : Dc KX0_cut 15 (.aload_n 1) 1 := by decide +kernel
theorem dX0_cut_16 : Dc KX0_cut 16 (.iconst 1) 1 := by decide +kernel
theorem dX0_cut_17 : Dc KX0_cut 17 (.invokevirtual 33) 3 := by decide +kernel
theorem dX0_cut_20 : Dc KX0_cut 20 (.istore 4) 2 := by decide +kernel
theorem dX0_cut_22 : Dc KX0_cut 22 (.iconst 0) 1 := by decide +kernel
theorem dX0_cut_23 : Dc KX0_cut 23 (.istore 5) 2 := by decide +kernel
theorem dX0_cut_25 : Dc KX0_cut 25 (.iconst 0) 1 := by decide +kernel
theorem dX0_cut_26 : Dc KX0_cut 26 (.istore 6) 2 := by decide +kernel
theorem dX0_cut_28 : Dc KX0_cut 28 (.iconst 0) 1 := by decide +kernel
theorem dX0_cut_29 : Dc KX0_cut 29 (.istore 7) 2 := by decide +kernel
theorem dX0_cut_31 : Dc KX0_cut 31 (.iload 7) 2 := by decide +kernel
theorem dX0_cut_33 : Dc KX0_cut 33 (.aload_n 0) 1 := by decide +kernel
theorem dX0_cut_34 : Dc KX0_cut 34 (.getfield 24) 3 := by decide +kernel
theorem dX0_cut_37 : Dc KX0_cut 37 (.invokevirtual 37) 3 := by decide +kernel
theorem dX0_cut_40 : Dc KX0_cut 40 (.if_icmp .ge 46) 3 := by decide +kernel
theorem dX0_cut_43 : Dc KX0_cut 43 (.aload_n 0) 1 := by decide +kernel
theorem dX0_cut_44 : Dc KX0_cut 44 (.getfield 24) 3 := by decide +kernel
theorem dX0_cut_47 : Dc KX0_cut 47 (.iload 7) 2 := by decide +kernel
theorem dX0_cut_49 : Dc KX0_cut 49 (.iload 6) 2 := by decide +kernel
theorem dX0_cut_51 : Dc KX0_cut 51 (.iload_n 3) 1 := by decide +kernel
theorem dX0_cut_52 : Dc KX0_cut 52 (.iload 4) 2 := by decide +kernel
theorem dX0_cut_54 : Dc KX0_cut 54 (.invokevirtual 40) 3 := by decide +kernel
theorem dX0_cut_57 : Dc KX0_cut 57 (.ifCond .eq 20) 3 := by decide +kernel
theorem dX0_cut_60 : Dc KX0_cut 60 (.aload_n 0) 1 := by decide +kernel
theorem dX0_cut_61 : Dc KX0_cut 61 (.iload 5) 2 := by decide +kernel
theorem dX0_cut_63 : Dc KX0_cut 63 (.iload 7) 2 := by decide +kernel
theorem dX0_cut_65 : Dc KX0_cut 65 (.invokevirtual 44) 3 := by decide +kernel
theorem dX0_cut_68 : Dc KX0_cut 68 (.iinc 5 1) 3 := by decide +kernel
theorem dX0_cut_71 : Dc KX0_cut 71 (.iconst 1) 1 := by decide +kernel
theorem dX0_cut_72 : Dc KX0_cut 72 (.istore 6) 2 := by decide +kernel
theorem dX0_cut_74 : Dc KX0_cut 74 (.goto 6) 3 := by decide +kernel
theorem dX0_cut_77 : Dc KX0_cut 77 (.iinc 6 1) 3 := by decide +kernel
theorem dX0_cut_80 : Dc KX0_cut 80 (.iinc 7 1) 3 := by decide +kernel
theorem dX0_cut_83 : Dc KX0_cut 83 (.goto (-52)) 3 := by decide +kernel
theorem dX0_cut_86 : Dc KX0_cut 86 (.aload_n 0) 1 := by decide +kernel
theorem dX0_cut_87 : Dc KX0_cut 87 (.iload 5) 2 := by decide +kernel
theorem dX0_cut_89 : Dc KX0_cut 89 (.aload_n 0) 1 := by decide +kernel
theorem dX0_cut_90 : Dc KX0_cut 90 (.getfield 24) 3 := by decide +kernel
theorem dX0_cut_93 : Dc KX0_cut 93 (.invokevirtual 37) 3 := by decide +kernel
theorem dX0_cut_96 : Dc KX0_cut 96 (.invokevirtual 44) 3 := by decide +kernel
theorem dX0_cut_99 : Dc KX0_cut 99 (.aload_n 0) 1 := by decide +kernel
theorem dX0_cut_100 : Dc KX0_cut 100 (.iload 5) 2 := by decide +kernel
theorem dX0_cut_102 : Dc KX0_cut 102 (.putfield 15) 3 := by decide +kernel
theorem dX0_cut_105 : Dc KX0_cut 105 (.aload_n 0) 1 := by decide +kernel
theorem dX0_cut_106 : Dc KX0_cut 106 (.getfield 15) 3 := by decide +kernel
theorem dX0_cut_109 : Dc KX0_cut 109 (.ireturn) 1 := by decide +kernel
theorem dX0_amount_0 : Dc KX0_amount 0 (.aload_n 0) 1 := by decide +kernel
theorem dX0_amount_1 : Dc KX0_amount 1 (.getfield 15) 3 := by decide +kernel
theorem dX0_amount_4 : Dc KX0_amount 4 (.ireturn) 1 := by decide +kernel
theorem dX0_putStart_0 : Dc KX0_putStart 0 (.iload_n 1) 1 := by decide +kernel
theorem dX0_putStart_1 : Dc KX0_putStart 1 (.ifCond .lt 19) 3 := by decide +kernel
theorem dX0_putStart_4 : Dc KX0_putStart 4 (.iload_n 1) 1 := by decide +kernel
theorem dX0_putStart_5 : Dc KX0_putStart 5 (.aload_n 0) 1 := by decide +kernel
theorem dX0_putStart_6 : Dc KX0_putStart 6 (.getfield 9) 3 := by decide +kernel
theorem dX0_putStart_9 : Dc KX0_putStart 9 (.arraylength) 1 := by decide +kernel
theorem dX0_putStart_10 : Dc KX0_putStart 10 (.if_icmp .ge 10) 3 := by decide +kernel
theorem dX0_putStart_13 : Dc KX0_putStart 13 (.aload_n 0) 1 := by decide +kernel
theorem dX0_putStart_14 : Dc KX0_putStart 14 (.getfield 9) 3 := by decide +kernel
theorem dX0_putStart_17 : Dc KX0_putStart 17 (.iload_n 1) 1 := by decide +kernel
theorem dX0_putStart_18 : Dc KX0_putStart 18 (.iload_n 2) 1 := by decide +kernel
theorem dX0_putStart_19 : Dc KX0_putStart 19 (.iastore) 1 := by decide +kernel
theorem dX0_putStart_20 : Dc KX0_putStart 20 (.return_) 1 := by decide +kernel
theorem dX0_start_0 : Dc KX0_start 0 (.iload_n 1) 1 := by decide +kernel
theorem dX0_start_1 : Dc KX0_start 1 (.ifCond .lt 29) 3 := by decide +kernel
theorem dX0_start_4 : Dc KX0_start 4 (.iload_n 1) 1 := by decide +kernel
theorem dX0_start_5 : Dc KX0_start 5 (.aload_n 0) 1 := by decide +kernel
theorem dX0_start_6 : Dc KX0_start 6 (.getfield 15) 3 := by decide +kernel
theorem dX0_start_9 : Dc KX0_start 9 (.if_icmp .gt 21) 3 := by decide +kernel
theorem dX0_start_12 : Dc KX0_start 12 (.iload_n 1) 1 := by decide +kernel
theorem dX0_start_13 : Dc KX0_start 13 (.aload_n 0) 1 := by decide +kernel
theorem dX0_start_14 : Dc KX0_start 14 (.getfield 9) 3 := by decide +kernel
theorem dX0_start_17 : Dc KX0_start 17 (.arraylength) 1 := by decide +kernel
theorem dX0_start_18 : Dc KX0_start 18 (.if_icmp .ge 12) 3 := by decide +kernel
theorem dX0_start_21 : Dc KX0_start 21 (.aload_n 0) 1 := by decide +kernel
theorem dX0_start_22 : Dc KX0_start 22 (.getfield 9) 3 := by decide +kernel
theorem dX0_start_25 : Dc KX0_start 25 (.iload_n 1) 1 := by decide +kernel
theorem dX0_start_26 : Dc KX0_start 26 (.iaload) 1 := by decide +kernel
theorem dX0_start_27 : Dc KX0_start 27 (.goto 4) 3 := by decide +kernel
theorem dX0_start_30 : Dc KX0_start 30 (.iconst (-1)) 1 := by decide +kernel
theorem dX0_start_31 : Dc KX0_start 31 (.ireturn) 1 := by decide +kernel
theorem dX0_end_0 : Dc KX0_end 0 (.aload_n 0) 1 := by decide +kernel
theorem dX0_end_1 : Dc KX0_end 1 (.iload_n 1) 1 := by decide +kernel
theorem dX0_end_2 : Dc KX0_end 2 (.iconst 1) 1 := by decide +kernel
theorem dX0_end_3 : Dc KX0_end 3 (.iadd) 1 := by decide +kernel
theorem dX0_end_4 : Dc KX0_end 4 (.invokevirtual 48) 3 := by decide +kernel
theorem dX0_end_7 : Dc KX0_end 7 (.ireturn) 1 := by decide +kernel
theorem dX0_base_0 : Dc KX0_base 0 (.aload_n 0) 1 := by decide +kernel
theorem dX0_base_1 : Dc KX0_base 1 (.getfield 24) 3 := by decide +kernel
theorem dX0_base_4 : Dc KX0_base 4 (.aload_n 0) 1 := by decide +kernel
theorem dX0_base_5 : Dc KX0_base 5 (.iload_n 1) 1 := by decide +kernel
theorem dX0_base_6 : Dc KX0_base 6 (.invokevirtual 48) 3 := by decide +kernel
theorem dX0_base_9 : Dc KX0_base 9 (.invokevirtual 51) 3 := by decide +kernel
theorem dX0_base_12 : Dc KX0_base 12 (.ireturn) 1 := by decide +kernel
theorem dX0_membersIn_0 : Dc KX0_membersIn 0 (.aload_n 0) 1 := by decide +kernel
theorem dX0_membersIn_1 : Dc KX0_membersIn 1 (.iload_n 1) 1 := by decide +kernel
theorem dX0_membersIn_2 : Dc KX0_membersIn 2 (.invokevirtual 54) 3 := by decide +kernel
theorem dX0_membersIn_5 : Dc KX0_membersIn 5 (.aload_n 0) 1 := by decide +kernel
theorem dX0_membersIn_6 : Dc KX0_membersIn 6 (.iload_n 1) 1 := by decide +kernel
theorem dX0_membersIn_7 : Dc KX0_membersIn 7 (.invokevirtual 48) 3 := by decide +kernel
theorem dX0_membersIn_10 : Dc KX0_membersIn 10 (.isub) 1 := by decide +kernel
theorem dX0_membersIn_11 : Dc KX0_membersIn 11 (.ireturn) 1 := by decide +kernel
theorem dX0_greatestIn_0 : Dc KX0_greatestIn 0 (.aload_n 0) 1 := by decide +kernel
theorem dX0_greatestIn_1 : Dc KX0_greatestIn 1 (.getfield 24) 3 := by decide +kernel
theorem dX0_greatestIn_4 : Dc KX0_greatestIn 4 (.aload_n 0) 1 := by decide +kernel
theorem dX0_greatestIn_5 : Dc KX0_greatestIn 5 (.iload_n 1) 1 := by decide +kernel
theorem dX0_greatestIn_6 : Dc KX0_greatestIn 6 (.invokevirtual 54) 3 := by decide +kernel
theorem dX0_greatestIn_9 : Dc KX0_greatestIn 9 (.iconst 1) 1 := by decide +kernel
theorem dX0_greatestIn_10 : Dc KX0_greatestIn 10 (.isub) 1 := by decide +kernel
theorem dX0_greatestIn_11 : Dc KX0_greatestIn 11 (.invokevirtual 51) 3 := by decide +kernel
theorem dX0_greatestIn_14 : Dc KX0_greatestIn 14 (.ireturn) 1 := by decide +kernel
theorem dX0_bytesOf_0 : Dc KX0_bytesOf 0 (.iconst 3) 1 := by decide +kernel
theorem dX0_bytesOf_1 : Dc KX0_bytesOf 1 (.istore_n 2) 1 := by decide +kernel
theorem dX0_bytesOf_2 : Dc KX0_bytesOf 2 (.aload_n 0) 1 := by decide +kernel
theorem dX0_bytesOf_3 : Dc KX0_bytesOf 3 (.iload_n 1) 1 := by decide +kernel
theorem dX0_bytesOf_4 : Dc KX0_bytesOf 4 (.invokevirtual 48) 3 := by decide +kernel
theorem dX0_bytesOf_7 : Dc KX0_bytesOf 7 (.iconst 1) 1 := by decide +kernel
theorem dX0_bytesOf_8 : Dc KX0_bytesOf 8 (.iadd) 1 := by decide +kernel
theorem dX0_bytesOf_9 : Dc KX0_bytesOf 9 (.istore_n 3) 1 := by decide +kernel
theorem dX0_bytesOf_10 : Dc KX0_bytesOf 10 (.iload_n 3) 1 := by decide +kernel
theorem dX0_bytesOf_11 : Dc KX0_bytesOf 11 (.aload_n 0) 1 := by decide +kernel
theorem dX0_bytesOf_12 : Dc KX0_bytesOf 12 (.iload_n 1) 1 := by decide +kernel
theorem dX0_bytesOf_13 : Dc KX0_bytesOf 13 (.invokevirtual 54) 3 := by decide +kernel
theorem dX0_bytesOf_16 : Dc KX0_bytesOf 16 (.if_icmp .ge 23) 3 := by decide +kernel
theorem dX0_bytesOf_19 : Dc KX0_bytesOf 19 (.iload_n 2) 1 := by decide +kernel
theorem dX0_bytesOf_20 : Dc KX0_bytesOf 20 (.aload_n 0) 1 := by decide +kernel
theorem dX0_bytesOf_21 : Dc KX0_bytesOf 21 (.getfield 24) 3 := by decide +kernel
theorem dX0_bytesOf_24 : Dc KX0_bytesOf 24 (.iload_n 3) 1 := by decide +kernel
theorem dX0_bytesOf_25 : Dc KX0_bytesOf 25 (.invokevirtual 57) 3 := by decide +kernel
theorem dX0_bytesOf_28 : Dc KX0_bytesOf 28 (.invokestatic 60) 3 := by decide +kernel
theorem dX0_bytesOf_31 : Dc KX0_bytesOf 31 (.iadd) 1 := by decide +kernel
theorem dX0_bytesOf_32 : Dc KX0_bytesOf 32 (.istore_n 2) 1 := by decide +kernel
theorem dX0_bytesOf_33 : Dc KX0_bytesOf 33 (.iinc 3 1) 3 := by decide +kernel
theorem dX0_bytesOf_36 : Dc KX0_bytesOf 36 (.goto (-26)) 3 := by decide +kernel
theorem dX0_bytesOf_39 : Dc KX0_bytesOf 39 (.iload_n 2) 1 := by decide +kernel
theorem dX0_bytesOf_40 : Dc KX0_bytesOf 40 (.ireturn) 1 := by decide +kernel
theorem dX0_greatestGapIn_0 : Dc KX0_greatestGapIn 0 (.iconst 0) 1 := by decide +kernel
theorem dX0_greatestGapIn_1 : Dc KX0_greatestGapIn 1 (.istore_n 2) 1 := by decide +kernel
theorem dX0_greatestGapIn_2 : Dc KX0_greatestGapIn 2 (.aload_n 0) 1 := by decide +kernel
theorem dX0_greatestGapIn_3 : Dc KX0_greatestGapIn 3 (.iload_n 1) 1 := by decide +kernel
theorem dX0_greatestGapIn_4 : Dc KX0_greatestGapIn 4 (.invokevirtual 48) 3 := by decide +kernel
theorem dX0_greatestGapIn_7 : Dc KX0_greatestGapIn 7 (.iconst 1) 1 := by decide +kernel
theorem dX0_greatestGapIn_8 : Dc KX0_greatestGapIn 8 (.iadd) 1 := by decide +kernel
theorem dX0_greatestGapIn_9 : Dc KX0_greatestGapIn 9 (.istore_n 3) 1 := by decide +kernel
theorem dX0_greatestGapIn_10 : Dc KX0_greatestGapIn 10 (.iload_n 3) 1 := by decide +kernel
theorem dX0_greatestGapIn_11 : Dc KX0_greatestGapIn 11 (.aload_n 0) 1 := by decide +kernel
theorem dX0_greatestGapIn_12 : Dc KX0_greatestGapIn 12 (.iload_n 1) 1 := by decide +kernel
theorem dX0_greatestGapIn_13 : Dc KX0_greatestGapIn 13 (.invokevirtual 54) 3 := by decide +kernel
theorem dX0_greatestGapIn_16 : Dc KX0_greatestGapIn 16 (.if_icmp .ge 22) 3 := by decide +kernel
theorem dX0_greatestGapIn_19 : Dc KX0_greatestGapIn 19 (.iload_n 2) 1 := by decide +kernel
theorem dX0_greatestGapIn_20 : Dc KX0_greatestGapIn 20 (.aload_n 0) 1 := by decide +kernel
theorem dX0_greatestGapIn_21 : Dc KX0_greatestGapIn 21 (.getfield 24) 3 := by decide +kernel
theorem dX0_greatestGapIn_24 : Dc KX0_greatestGapIn 24 (.iload_n 3) 1 := by decide +kernel
theorem dX0_greatestGapIn_25 : Dc KX0_greatestGapIn 25 (.invokevirtual 57) 3 := by decide +kernel
theorem dX0_greatestGapIn_28 : Dc KX0_greatestGapIn 28 (.invokestatic 63) 3 := by decide +kernel
theorem dX0_greatestGapIn_31 : Dc KX0_greatestGapIn 31 (.istore_n 2) 1 := by decide +kernel
theorem dX0_greatestGapIn_32 : Dc KX0_greatestGapIn 32 (.iinc 3 1) 3 := by decide +kernel
theorem dX0_greatestGapIn_35 : Dc KX0_greatestGapIn 35 (.goto (-25)) 3 := by decide +kernel
theorem dX0_greatestGapIn_38 : Dc KX0_greatestGapIn 38 (.iload_n 2) 1 := by decide +kernel
theorem dX0_greatestGapIn_39 : Dc KX0_greatestGapIn 39 (.ireturn) 1 := by decide +kernel
theorem dX0_wideGaps_0 : Dc KX0_wideGaps 0 (.iconst 0) 1 := by decide +kernel
theorem dX0_wideGaps_1 : Dc KX0_wideGaps 1 (.istore_n 1) 1 := by decide +kernel
theorem dX0_wideGaps_2 : Dc KX0_wideGaps 2 (.iconst 0) 1 := by decide +kernel
theorem dX0_wideGaps_3 : Dc KX0_wideGaps 3 (.istore_n 2) 1 := by decide +kernel
theorem dX0_wideGaps_4 : Dc KX0_wideGaps 4 (.iload_n 2) 1 := by decide +kernel
theorem dX0_wideGaps_5 : Dc KX0_wideGaps 5 (.aload_n 0) 1 := by decide +kernel
theorem dX0_wideGaps_6 : Dc KX0_wideGaps 6 (.getfield 15) 3 := by decide +kernel
theorem dX0_wideGaps_9 : Dc KX0_wideGaps 9 (.if_icmp .ge 54) 3 := by decide +kernel
theorem dX0_wideGaps_12 : Dc KX0_wideGaps 12 (.aload_n 0) 1 := by decide +kernel
theorem dX0_wideGaps_13 : Dc KX0_wideGaps 13 (.iload_n 2) 1 := by decide +kernel
theorem dX0_wideGaps_14 : Dc KX0_wideGaps 14 (.invokevirtual 48) 3 := by decide +kernel
theorem dX0_wideGaps_17 : Dc KX0_wideGaps 17 (.iconst 1) 1 := by decide +kernel
theorem dX0_wideGaps_18 : Dc KX0_wideGaps 18 (.iadd) 1 := by decide +kernel
theorem dX0_wideGaps_19 : Dc KX0_wideGaps 19 (.istore_n 3) 1 := by decide +kernel
theorem dX0_wideGaps_20 : Dc KX0_wideGaps 20 (.iload_n 3) 1 := by decide +kernel
theorem dX0_wideGaps_21 : Dc KX0_wideGaps 21 (.aload_n 0) 1 := by decide +kernel
theorem dX0_wideGaps_22 : Dc KX0_wideGaps 22 (.iload_n 2) 1 := by decide +kernel
theorem dX0_wideGaps_23 : Dc KX0_wideGaps 23 (.invokevirtual 54) 3 := by decide +kernel
theorem dX0_wideGaps_26 : Dc KX0_wideGaps 26 (.if_icmp .ge 31) 3 := by decide +kernel
theorem dX0_wideGaps_29 : Dc KX0_wideGaps 29 (.iload_n 1) 1 := by decide +kernel
theorem dX0_wideGaps_30 : Dc KX0_wideGaps 30 (.aload_n 0) 1 := by decide +kernel
theorem dX0_wideGaps_31 : Dc KX0_wideGaps 31 (.getfield 24) 3 := by decide +kernel
theorem dX0_wideGaps_34 : Dc KX0_wideGaps 34 (.iload_n 3) 1 := by decide +kernel
theorem dX0_wideGaps_35 : Dc KX0_wideGaps 35 (.invokevirtual 57) 3 := by decide +kernel
theorem dX0_wideGaps_38 : Dc KX0_wideGaps 38 (.sipush 128) 3 := by decide +kernel
theorem dX0_wideGaps_41 : Dc KX0_wideGaps 41 (.if_icmp .lt 7) 3 := by decide +kernel
theorem dX0_wideGaps_44 : Dc KX0_wideGaps 44 (.iconst 1) 1 := by decide +kernel
theorem dX0_wideGaps_45 : Dc KX0_wideGaps 45 (.goto 4) 3 := by decide +kernel
theorem dX0_wideGaps_48 : Dc KX0_wideGaps 48 (.iconst 0) 1 := by decide +kernel
theorem dX0_wideGaps_49 : Dc KX0_wideGaps 49 (.iadd) 1 := by decide +kernel
theorem dX0_wideGaps_50 : Dc KX0_wideGaps 50 (.istore_n 1) 1 := by decide +kernel
theorem dX0_wideGaps_51 : Dc KX0_wideGaps 51 (.iinc 3 1) 3 := by decide +kernel
theorem dX0_wideGaps_54 : Dc KX0_wideGaps 54 (.goto (-34)) 3 := by decide +kernel
theorem dX0_wideGaps_57 : Dc KX0_wideGaps 57 (.iinc 2 1) 3 := by decide +kernel
theorem dX0_wideGaps_60 : Dc KX0_wideGaps 60 (.goto (-56)) 3 := by decide +kernel
theorem dX0_wideGaps_63 : Dc KX0_wideGaps 63 (.iload_n 1) 1 := by decide +kernel
theorem dX0_wideGaps_64 : Dc KX0_wideGaps 64 (.ireturn) 1 := by decide +kernel
theorem dX0_blockAt_0 : Dc KX0_blockAt 0 (.iconst 0) 1 := by decide +kernel
theorem dX0_blockAt_1 : Dc KX0_blockAt 1 (.istore_n 2) 1 := by decide +kernel
theorem dX0_blockAt_2 : Dc KX0_blockAt 2 (.iconst 1) 1 := by decide +kernel
theorem dX0_blockAt_3 : Dc KX0_blockAt 3 (.istore_n 3) 1 := by decide +kernel
theorem dX0_blockAt_4 : Dc KX0_blockAt 4 (.iload_n 3) 1 := by decide +kernel
theorem dX0_blockAt_5 : Dc KX0_blockAt 5 (.aload_n 0) 1 := by decide +kernel
theorem dX0_blockAt_6 : Dc KX0_blockAt 6 (.getfield 15) 3 := by decide +kernel
theorem dX0_blockAt_9 : Dc KX0_blockAt 9 (.if_icmp .ge 20) 3 := by decide +kernel
theorem dX0_blockAt_12 : Dc KX0_blockAt 12 (.aload_n 0) 1 := by decide +kernel
theorem dX0_blockAt_13 : Dc KX0_blockAt 13 (.iload_n 3) 1 := by decide +kernel
theorem dX0_blockAt_14 : Dc KX0_blockAt 14 (.invokevirtual 48) 3 := by decide +kernel
theorem dX0_blockAt_17 : Dc KX0_blockAt 17 (.iload_n 1) 1 := by decide +kernel
theorem dX0_blockAt_18 : Dc KX0_blockAt 18 (.if_icmp .gt 11) 3 := by decide +kernel
theorem dX0_blockAt_21 : Dc KX0_blockAt 21 (.iload_n 3) 1 := by decide +kernel
theorem dX0_blockAt_22 : Dc KX0_blockAt 22 (.istore_n 2) 1 := by decide +kernel
theorem dX0_blockAt_23 : Dc KX0_blockAt 23 (.iinc 3 1) 3 := by decide +kernel
theorem dX0_blockAt_26 : Dc KX0_blockAt 26 (.goto (-22)) 3 := by decide +kernel
theorem dX0_blockAt_29 : Dc KX0_blockAt 29 (.iload_n 2) 1 := by decide +kernel
theorem dX0_blockAt_30 : Dc KX0_blockAt 30 (.ireturn) 1 := by decide +kernel
theorem dX1_init_0 : Dc KX1_init 0 (.aload_n 0) 1 := by decide +kernel
theorem dX1_init_1 : Dc KX1_init 1 (.invokespecial 3) 3 := by decide +kernel
theorem dX1_init_4 : Dc KX1_init 4 (.aload_n 0) 1 := by decide +kernel
theorem dX1_init_5 : Dc KX1_init 5 (.bipush 60) 2 := by decide +kernel
theorem dX1_init_7 : Dc KX1_init 7 (.newarray .int) 2 := by decide +kernel
theorem dX1_init_9 : Dc KX1_init 9 (.putfield 9) 3 := by decide +kernel
theorem dX1_init_12 : Dc KX1_init 12 (.aload_n 0) 1 := by decide +kernel
theorem dX1_init_13 : Dc KX1_init 13 (.iconst 0) 1 := by decide +kernel
theorem dX1_init_14 : Dc KX1_init 14 (.putfield 15) 3 := by decide +kernel
theorem dX1_init_17 : Dc KX1_init 17 (.return_) 1 := by decide +kernel
theorem dX1_length_0 : Dc KX1_length 0 (.aload_n 0) 1 := by decide +kernel
theorem dX1_length_1 : Dc KX1_length 1 (.getfield 15) 3 := by decide +kernel
theorem dX1_length_4 : Dc KX1_length 4 (.ireturn) 1 := by decide +kernel
theorem dX1_at_0 : Dc KX1_at 0 (.iload_n 1) 1 := by decide +kernel
theorem dX1_at_1 : Dc KX1_at 1 (.ifCond .lt 29) 3 := by decide +kernel
theorem dX1_at_4 : Dc KX1_at 4 (.iload_n 1) 1 := by decide +kernel
theorem dX1_at_5 : Dc KX1_at 5 (.aload_n 0) 1 := by decide +kernel
theorem dX1_at_6 : Dc KX1_at 6 (.getfield 15) 3 := by decide +kernel
theorem dX1_at_9 : Dc KX1_at 9 (.if_icmp .ge 21) 3 := by decide +kernel
theorem dX1_at_12 : Dc KX1_at 12 (.iload_n 1) 1 := by decide +kernel
theorem dX1_at_13 : Dc KX1_at 13 (.aload_n 0) 1 := by decide +kernel
theorem dX1_at_14 : Dc KX1_at 14 (.getfield 9) 3 := by decide +kernel
theorem dX1_at_17 : Dc KX1_at 17 (.arraylength) 1 := by decide +kernel
theorem dX1_at_18 : Dc KX1_at 18 (.if_icmp .ge 12) 3 := by decide +kernel
theorem dX1_at_21 : Dc KX1_at 21 (.aload_n 0) 1 := by decide +kernel
theorem dX1_at_22 : Dc KX1_at 22 (.getfield 9) 3 := by decide +kernel
theorem dX1_at_25 : Dc KX1_at 25 (.iload_n 1) 1 := by decide +kernel
theorem dX1_at_26 : Dc KX1_at 26 (.iaload) 1 := by decide +kernel
theorem dX1_at_27 : Dc KX1_at 27 (.goto 4) 3 := by decide +kernel
theorem dX1_at_30 : Dc KX1_at 30 (.iconst (-1)) 1 := by decide +kernel
theorem dX1_at_31 : Dc KX1_at 31 (.ireturn) 1 := by decide +kernel
theorem dX1_put_0 : Dc KX1_put 0 (.aload_n 0) 1 := by decide +kernel
theorem dX1_put_1 : Dc KX1_put 1 (.getfield 15) 3 := by decide +kernel
theorem dX1_put_4 : Dc KX1_put 4 (.ifCond .lt 35) 3 := by decide +kernel
theorem dX1_put_7 : Dc KX1_put 7 (.aload_n 0) 1 := by decide +kernel
theorem dX1_put_8 : Dc KX1_put 8 (.getfield 15) 3 := by decide +kernel
theorem dX1_put_11 : Dc KX1_put 11 (.aload_n 0) 1 := by decide +kernel
theorem dX1_put_12 : Dc KX1_put 12 (.getfield 9) 3 := by decide +kernel
theorem dX1_put_15 : Dc KX1_put 15 (.arraylength) 1 := by decide +kernel
theorem dX1_put_16 : Dc KX1_put 16 (.if_icmp .ge 23) 3 := by decide +kernel
theorem dX1_put_19 : Dc KX1_put 19 (.aload_n 0) 1 := by decide +kernel
theorem dX1_put_20 : Dc KX1_put 20 (.getfield 9) 3 := by decide +kernel
theorem dX1_put_23 : Dc KX1_put 23 (.aload_n 0) 1 := by decide +kernel
theorem dX1_put_24 : Dc KX1_put 24 (.getfield 15) 3 := by decide +kernel
theorem dX1_put_27 : Dc KX1_put 27 (.iload_n 1) 1 := by decide +kernel
theorem dX1_put_28 : Dc KX1_put 28 (.iastore) 1 := by decide +kernel
theorem dX1_put_29 : Dc KX1_put 29 (.aload_n 0) 1 := by decide +kernel
theorem dX1_put_30 : Dc KX1_put 30 (.dup) 1 := by decide +kernel
theorem dX1_put_31 : Dc KX1_put 31 (.getfield 15) 3 := by decide +kernel
theorem dX1_put_34 : Dc KX1_put 34 (.iconst 1) 1 := by decide +kernel
theorem dX1_put_35 : Dc KX1_put 35 (.iadd) 1 := by decide +kernel
theorem dX1_put_36 : Dc KX1_put 36 (.putfield 15) 3 := by decide +kernel
theorem dX1_put_39 : Dc KX1_put 39 (.return_) 1 := by decide +kernel
theorem dX1_empty_0 : Dc KX1_empty 0 (.aload_n 0) 1 := by decide +kernel
theorem dX1_empty_1 : Dc KX1_empty 1 (.iconst 0) 1 := by decide +kernel
theorem dX1_empty_2 : Dc KX1_empty 2 (.putfield 15) 3 := by decide +kernel
theorem dX1_empty_5 : Dc KX1_empty 5 (.return_) 1 := by decide +kernel
theorem dX2_init_0 : Dc KX2_init 0 (.aload_n 0) 1 := by decide +kernel
theorem dX2_init_1 : Dc KX2_init 1 (.invokespecial 3) 3 := by decide +kernel
theorem dX2_init_4 : Dc KX2_init 4 (.aload_n 0) 1 := by decide +kernel
theorem dX2_init_5 : Dc KX2_init 5 (.bipush 6) 2 := by decide +kernel
theorem dX2_init_7 : Dc KX2_init 7 (.anewarray 9) 3 := by decide +kernel
theorem dX2_init_10 : Dc KX2_init 10 (.putfield 11) 3 := by decide +kernel
theorem dX2_init_13 : Dc KX2_init 13 (.iconst 0) 1 := by decide +kernel
theorem dX2_init_14 : Dc KX2_init 14 (.istore_n 1) 1 := by decide +kernel
theorem dX2_init_15 : Dc KX2_init 15 (.iload_n 1) 1 := by decide +kernel
theorem dX2_init_16 : Dc KX2_init 16 (.bipush 6) 2 := by decide +kernel
theorem dX2_init_18 : Dc KX2_init 18 (.if_icmp .ge 22) 3 := by decide +kernel
theorem dX2_init_21 : Dc KX2_init 21 (.aload_n 0) 1 := by decide +kernel
theorem dX2_init_22 : Dc KX2_init 22 (.getfield 11) 3 := by decide +kernel
theorem dX2_init_25 : Dc KX2_init 25 (.iload_n 1) 1 := by decide +kernel
theorem dX2_init_26 : Dc KX2_init 26 (.new 9) 3 := by decide +kernel
theorem dX2_init_29 : Dc KX2_init 29 (.dup) 1 := by decide +kernel
theorem dX2_init_30 : Dc KX2_init 30 (.invokespecial 17) 3 := by decide +kernel
theorem dX2_init_33 : Dc KX2_init 33 (.aastore) 1 := by decide +kernel
theorem dX2_init_34 : Dc KX2_init 34 (.iinc 1 1) 3 := by decide +kernel
theorem dX2_init_37 : Dc KX2_init 37 (.goto (-22)) 3 := by decide +kernel
theorem dX2_init_40 : Dc KX2_init 40 (.aload_n 0) 1 := by decide +kernel
theorem dX2_init_41 : Dc KX2_init 41 (.iconst 0) 1 := by decide +kernel
theorem dX2_init_42 : Dc KX2_init 42 (.putfield 18) 3 := by decide +kernel
theorem dX2_init_45 : Dc KX2_init 45 (.aload_n 0) 1 := by decide +kernel
theorem dX2_init_46 : Dc KX2_init 46 (.iconst 0) 1 := by decide +kernel
theorem dX2_init_47 : Dc KX2_init 47 (.putfield 22) 3 := by decide +kernel
theorem dX2_init_50 : Dc KX2_init 50 (.return_) 1 := by decide +kernel
theorem dX2_amount_0 : Dc KX2_amount 0 (.aload_n 0) 1 := by decide +kernel
theorem dX2_amount_1 : Dc KX2_amount 1 (.getfield 22) 3 := by decide +kernel
theorem dX2_amount_4 : Dc KX2_amount 4 (.ireturn) 1 := by decide +kernel
theorem dX2_save_0 : Dc KX2_save 0 (.aload_n 0) 1 := by decide +kernel
theorem dX2_save_1 : Dc KX2_save 1 (.aload_n 0) 1 := by decide +kernel
theorem dX2_save_2 : Dc KX2_save 2 (.getfield 18) 3 := by decide +kernel
theorem dX2_save_5 : Dc KX2_save 5 (.invokevirtual 25) 3 := by decide +kernel
theorem dX2_save_8 : Dc KX2_save 8 (.astore_n 2) 1 := by decide +kernel
theorem dX2_save_9 : Dc KX2_save 9 (.aload_n 2) 1 := by decide +kernel
theorem dX2_save_10 : Dc KX2_save 10 (.ifnull 36) 3 := by decide +kernel
theorem dX2_save_13 : Dc KX2_save 13 (.aload_n 2) 1 := by decide +kernel
theorem dX2_save_14 : Dc KX2_save 14 (.aload_n 1) 1 := by decide +kernel
theorem dX2_save_15 : Dc KX2_save 15 (.invokevirtual 29) 3 := by decide +kernel
theorem dX2_save_18 : Dc KX2_save 18 (.aload_n 0) 1 := by decide +kernel
theorem dX2_save_19 : Dc KX2_save 19 (.aload_n 0) 1 := by decide +kernel
theorem dX2_save_20 : Dc KX2_save 20 (.getfield 18) 3 := by decide +kernel
theorem dX2_save_23 : Dc KX2_save 23 (.iconst 1) 1 := by decide +kernel
theorem dX2_save_24 : Dc KX2_save 24 (.iadd) 1 := by decide +kernel
theorem dX2_save_25 : Dc KX2_save 25 (.bipush 6) 2 := by decide +kernel
theorem dX2_save_27 : Dc KX2_save 27 (.irem) 1 := by decide +kernel
theorem dX2_save_28 : Dc KX2_save 28 (.putfield 18) 3 := by decide +kernel
theorem dX2_save_31 : Dc KX2_save 31 (.aload_n 0) 1 := by decide +kernel
theorem dX2_save_32 : Dc KX2_save 32 (.aload_n 0) 1 := by decide +kernel
theorem dX2_save_33 : Dc KX2_save 33 (.getfield 22) 3 := by decide +kernel
theorem dX2_save_36 : Dc KX2_save 36 (.iconst 1) 1 := by decide +kernel
theorem dX2_save_37 : Dc KX2_save 37 (.iadd) 1 := by decide +kernel
theorem dX2_save_38 : Dc KX2_save 38 (.bipush 6) 2 := by decide +kernel
theorem dX2_save_40 : Dc KX2_save 40 (.invokestatic 33) 3 := by decide +kernel
theorem dX2_save_43 : Dc KX2_save 43 (.putfield 22) 3 := by decide +kernel
theorem dX2_save_46 : Dc KX2_save 46 (.return_) 1 := by decide +kernel
theorem dX2_restore_0 : Dc KX2_restore 0 (.aload_n 0) 1 := by decide +kernel
theorem dX2_restore_1 : Dc KX2_restore 1 (.getfield 18) 3 := by decide +kernel
theorem dX2_restore_4 : Dc KX2_restore 4 (.bipush 6) 2 := by decide +kernel
theorem dX2_restore_6 : Dc KX2_restore 6 (.iadd) 1 := by decide +kernel
theorem dX2_restore_7 : Dc KX2_restore 7 (.iconst 1) 1 := by decide +kernel
theorem dX2_restore_8 : Dc KX2_restore 8 (.isub) 1 := by decide +kernel
theorem dX2_restore_9 : Dc KX2_restore 9 (.bipush 6) 2 := by decide +kernel
theorem dX2_restore_11 : Dc KX2_restore 11 (.irem) 1 := by decide +kernel
theorem dX2_restore_12 : Dc KX2_restore 12 (.istore_n 2) 1 := by decide +kernel
theorem dX2_restore_13 : Dc KX2_restore 13 (.aload_n 0) 1 := by decide +kernel
theorem dX2_restore_14 : Dc KX2_restore 14 (.iload_n 2) 1 := by decide +kernel
theorem dX2_restore_15 : Dc KX2_restore 15 (.invokevirtual 25) 3 := by decide +kernel
theorem dX2_restore_18 : Dc KX2_restore 18 (.astore_n 3) 1 := by decide +kernel
theorem dX2_restore_19 : Dc KX2_restore 19 (.aload_n 3) 1 := by decide +kernel
theorem dX2_restore_20 : Dc KX2_restore 20 (.ifnull 30) 3 := by decide +kernel
theorem dX2_restore_23 : Dc KX2_restore 23 (.aload_n 0) 1 := by decide +kernel
theorem dX2_restore_24 : Dc KX2_restore 24 (.getfield 22) 3 := by decide +kernel
theorem dX2_restore_27 : Dc KX2_restore 27 (.ifCond .le 23) 3 := by decide +kernel
theorem dX2_restore_30 : Dc KX2_restore 30 (.aload_n 1) 1 := by decide +kernel
theorem dX2_restore_31 : Dc KX2_restore 31 (.aload_n 3) 1 := by decide +kernel
theorem dX2_restore_32 : Dc KX2_restore 32 (.invokevirtual 29) 3 := by decide +kernel
theorem dX2_restore_35 : Dc KX2_restore 35 (.aload_n 0) 1 := by decide +kernel
theorem dX2_restore_36 : Dc KX2_restore 36 (.iload_n 2) 1 := by decide +kernel
theorem dX2_restore_37 : Dc KX2_restore 37 (.putfield 18) 3 := by decide +kernel
theorem dX2_restore_40 : Dc KX2_restore 40 (.aload_n 0) 1 := by decide +kernel
theorem dX2_restore_41 : Dc KX2_restore 41 (.dup) 1 := by decide +kernel
theorem dX2_restore_42 : Dc KX2_restore 42 (.getfield 22) 3 := by decide +kernel
theorem dX2_restore_45 : Dc KX2_restore 45 (.iconst 1) 1 := by decide +kernel
theorem dX2_restore_46 : Dc KX2_restore 46 (.isub) 1 := by decide +kernel
theorem dX2_restore_47 : Dc KX2_restore 47 (.putfield 22) 3 := by decide +kernel
theorem dX2_restore_50 : Dc KX2_restore 50 (.return_) 1 := by decide +kernel
theorem dX2_slotAt_0 : Dc KX2_slotAt 0 (.iload_n 1) 1 := by decide +kernel
theorem dX2_slotAt_1 : Dc KX2_slotAt 1 (.ifCond .lt 21) 3 := by decide +kernel
theorem dX2_slotAt_4 : Dc KX2_slotAt 4 (.iload_n 1) 1 := by decide +kernel
theorem dX2_slotAt_5 : Dc KX2_slotAt 5 (.aload_n 0) 1 := by decide +kernel
theorem dX2_slotAt_6 : Dc KX2_slotAt 6 (.getfield 11) 3 := by decide +kernel
theorem dX2_slotAt_9 : Dc KX2_slotAt 9 (.arraylength) 1 := by decide +kernel
theorem dX2_slotAt_10 : Dc KX2_slotAt 10 (.if_icmp .ge 12) 3 := by decide +kernel
theorem dX2_slotAt_13 : Dc KX2_slotAt 13 (.aload_n 0) 1 := by decide +kernel
theorem dX2_slotAt_14 : Dc KX2_slotAt 14 (.getfield 11) 3 := by decide +kernel
theorem dX2_slotAt_17 : Dc KX2_slotAt 17 (.iload_n 1) 1 := by decide +kernel
theorem dX2_slotAt_18 : Dc KX2_slotAt 18 (.aaload) 1 := by decide +kernel
theorem dX2_slotAt_19 : Dc KX2_slotAt 19 (.goto 4) 3 := by decide +kernel
theorem dX2_slotAt_22 : Dc KX2_slotAt 22 (.aconst_null) 1 := by decide +kernel
theorem dX2_slotAt_23 : Dc KX2_slotAt 23 (.areturn) 1 := by decide +kernel
theorem dX3_init_0 : Dc KX3_init 0 (.aload_n 0) 1 := by decide +kernel
theorem dX3_init_1 : Dc KX3_init 1 (.invokespecial 1) 3 := by decide +kernel
theorem dX3_init_4 : Dc KX3_init 4 (.aload_n 0) 1 := by decide +kernel
theorem dX3_init_5 : Dc KX3_init 5 (.new 7) 3 := by decide +kernel
theorem dX3_init_8 : Dc KX3_init 8 (.dup) 1 := by decide +kernel
theorem dX3_init_9 : Dc KX3_init 9 (.invokespecial 9) 3 := by decide +kernel
theorem dX3_init_12 : Dc KX3_init 12 (.putfield 10) 3 := by decide +kernel
theorem dX3_init_15 : Dc KX3_init 15 (.aload_n 0) 1 := by decide +kernel
theorem dX3_init_16 : Dc KX3_init 16 (.new 16) 3 := by decide +kernel
theorem dX3_init_19 : Dc KX3_init 19 (.dup) 1 := by decide +kernel
theorem dX3_init_20 : Dc KX3_init 20 (.iconst 0) 1 := by decide +kernel
theorem dX3_init_21 : Dc KX3_init 21 (.invokespecial 18) 3 := by decide +kernel
theorem dX3_init_24 : Dc KX3_init 24 (.putfield 21) 3 := by decide +kernel
theorem dX3_init_27 : Dc KX3_init 27 (.aload_n 0) 1 := by decide +kernel
theorem dX3_init_28 : Dc KX3_init 28 (.iconst 0) 1 := by decide +kernel
theorem dX3_init_29 : Dc KX3_init 29 (.putfield 25) 3 := by decide +kernel
theorem dX3_init_32 : Dc KX3_init 32 (.aload_n 0) 1 := by decide +kernel
theorem dX3_init_33 : Dc KX3_init 33 (.iconst 0) 1 := by decide +kernel
theorem dX3_init_34 : Dc KX3_init 34 (.putfield 29) 3 := by decide +kernel
theorem dX3_init_37 : Dc KX3_init 37 (.aload_n 0) 1 := by decide +kernel
theorem dX3_init_38 : Dc KX3_init 38 (.iconst 0) 1 := by decide +kernel
theorem dX3_init_39 : Dc KX3_init 39 (.putfield 32) 3 := by decide +kernel
theorem dX3_init_42 : Dc KX3_init 42 (.return_) 1 := by decide +kernel
theorem dX3_begin_0 : Dc KX3_begin 0 (.aload_n 0) 1 := by decide +kernel
theorem dX3_begin_1 : Dc KX3_begin 1 (.aload_n 1) 1 := by decide +kernel
theorem dX3_begin_2 : Dc KX3_begin 2 (.iload_n 2) 1 := by decide +kernel
theorem dX3_begin_3 : Dc KX3_begin 3 (.invokevirtual 35) 3 := by decide +kernel
theorem dX3_begin_6 : Dc KX3_begin 6 (.putfield 21) 3 := by decide +kernel
theorem dX3_begin_9 : Dc KX3_begin 9 (.aload_n 0) 1 := by decide +kernel
theorem dX3_begin_10 : Dc KX3_begin 10 (.getfield 10) 3 := by decide +kernel
theorem dX3_begin_13 : Dc KX3_begin 13 (.aload_n 1) 1 := by decide +kernel
theorem dX3_begin_14 : Dc KX3_begin 14 (.iload_n 2) 1 := by decide +kernel
theorem dX3_begin_15 : Dc KX3_begin 15 (.invokevirtual 40) 3 := by decide +kernel
theorem dX3_begin_18 : Dc KX3_begin 18 (.pop) 1 := by decide +kernel
theorem dX3_begin_19 : Dc KX3_begin 19 (.aload_n 0) 1 := by decide +kernel
theorem dX3_begin_20 : Dc KX3_begin 20 (.iconst 0) 1 := by decide +kernel
theorem dX3_begin_21 : Dc KX3_begin 21 (.putfield 25) 3 := by decide +kernel
theorem dX3_begin_24 : Dc KX3_begin 24 (.aload_n 0) 1 := by decide +kernel
theorem dX3_begin_25 : Dc KX3_begin 25 (.iconst 0) 1 := by decide +kernel
theorem dX3_begin_26 : Dc KX3_begin 26 (.putfield 29) 3 := by decide +kernel
theorem dX3_begin_29 : Dc KX3_begin 29 (.aload_n 0) 1 := by decide +kernel
theorem dX3_begin_30 : Dc KX3_begin 30 (.iconst 0) 1 := by decide +kernel
theorem dX3_begin_31 : Dc KX3_begin 31 (.putfield 32) 3 := by decide +kernel
theorem dX3_begin_34 : Dc KX3_begin 34 (.return_) 1 := by decide +kernel
theorem dX3_reached_0 : Dc KX3_reached 0 (.aload_n 0) 1 := by decide +kernel
theorem dX3_reached_1 : Dc KX3_reached 1 (.getfield 21) 3 := by decide +kernel
theorem dX3_reached_4 : Dc KX3_reached 4 (.aload_n 0) 1 := by decide +kernel
theorem dX3_reached_5 : Dc KX3_reached 5 (.getfield 25) 3 := by decide +kernel
theorem dX3_reached_8 : Dc KX3_reached 8 (.invokevirtual 44) 3 := by decide +kernel
theorem dX3_reached_11 : Dc KX3_reached 11 (.ireturn) 1 := by decide +kernel
theorem dX3_allLeaps_0 : Dc KX3_allLeaps 0 (.aload_n 0) 1 := by decide +kernel
theorem dX3_allLeaps_1 : Dc KX3_allLeaps 1 (.getfield 29) 3 := by decide +kernel
theorem dX3_allLeaps_4 : Dc KX3_allLeaps 4 (.ireturn) 1 := by decide +kernel
theorem dX3_allLooks_0 : Dc KX3_allLooks 0 (.aload_n 0) 1 := by decide +kernel
theorem dX3_allLooks_1 : Dc KX3_allLooks 1 (.getfield 32) 3 := by decide +kernel
theorem dX3_allLooks_4 : Dc KX3_allLooks 4 (.ireturn) 1 := by decide +kernel
theorem dX3_steps_0 : Dc KX3_steps 0 (.aload_n 0) 1 := by decide +kernel
theorem dX3_steps_1 : Dc KX3_steps 1 (.dup) 1 := by decide +kernel
theorem dX3_steps_2 : Dc KX3_steps 2 (.getfield 25) 3 := by decide +kernel
theorem dX3_steps_5 : Dc KX3_steps 5 (.iconst 1) 1 := by decide +kernel
theorem dX3_steps_6 : Dc KX3_steps 6 (.iadd) 1 := by decide +kernel
theorem dX3_steps_7 : Dc KX3_steps 7 (.putfield 25) 3 := by decide +kernel
theorem dX3_steps_10 : Dc KX3_steps 10 (.aload_n 0) 1 := by decide +kernel
theorem dX3_steps_11 : Dc KX3_steps 11 (.getfield 25) 3 := by decide +kernel
theorem dX3_steps_14 : Dc KX3_steps 14 (.aload_n 0) 1 := by decide +kernel
theorem dX3_steps_15 : Dc KX3_steps 15 (.getfield 21) 3 := by decide +kernel
theorem dX3_steps_18 : Dc KX3_steps 18 (.invokevirtual 48) 3 := by decide +kernel
theorem dX3_steps_21 : Dc KX3_steps 21 (.if_icmp .ge 7) 3 := by decide +kernel
theorem dX3_steps_24 : Dc KX3_steps 24 (.iconst 1) 1 := by decide +kernel
theorem dX3_steps_25 : Dc KX3_steps 25 (.goto 4) 3 := by decide +kernel
theorem dX3_steps_28 : Dc KX3_steps 28 (.iconst 0) 1 := by decide +kernel
theorem dX3_steps_29 : Dc KX3_steps 29 (.ireturn) 1 := by decide +kernel
theorem dX3_leapsTo_0 : Dc KX3_leapsTo 0 (.aload_n 0) 1 := by decide +kernel
theorem dX3_leapsTo_1 : Dc KX3_leapsTo 1 (.dup) 1 := by decide +kernel
theorem dX3_leapsTo_2 : Dc KX3_leapsTo 2 (.getfield 29) 3 := by decide +kernel
theorem dX3_leapsTo_5 : Dc KX3_leapsTo 5 (.iconst 1) 1 := by decide +kernel
theorem dX3_leapsTo_6 : Dc KX3_leapsTo 6 (.iadd) 1 := by decide +kernel
theorem dX3_leapsTo_7 : Dc KX3_leapsTo 7 (.putfield 29) 3 := by decide +kernel
theorem dX3_leapsTo_10 : Dc KX3_leapsTo 10 (.aload_n 0) 1 := by decide +kernel
theorem dX3_leapsTo_11 : Dc KX3_leapsTo 11 (.getfield 21) 3 := by decide +kernel
theorem dX3_leapsTo_14 : Dc KX3_leapsTo 14 (.invokevirtual 52) 3 := by decide +kernel
theorem dX3_leapsTo_17 : Dc KX3_leapsTo 17 (.ifCond .eq 5) 3 := by decide +kernel
theorem dX3_leapsTo_20 : Dc KX3_leapsTo 20 (.iconst 0) 1 := by decide +kernel
theorem dX3_leapsTo_21 : Dc KX3_leapsTo 21 (.ireturn) 1 := by decide +kernel
theorem dX3_leapsTo_22 : Dc KX3_leapsTo 22 (.aload_n 0) 1 := by decide +kernel
theorem dX3_leapsTo_23 : Dc KX3_leapsTo 23 (.iload_n 1) 1 := by decide +kernel
theorem dX3_leapsTo_24 : Dc KX3_leapsTo 24 (.invokevirtual 56) 3 := by decide +kernel
theorem dX3_leapsTo_27 : Dc KX3_leapsTo 27 (.istore_n 2) 1 := by decide +kernel
theorem dX3_leapsTo_28 : Dc KX3_leapsTo 28 (.aload_n 0) 1 := by decide +kernel
theorem dX3_leapsTo_29 : Dc KX3_leapsTo 29 (.getfield 10) 3 := by decide +kernel
theorem dX3_leapsTo_32 : Dc KX3_leapsTo 32 (.iload_n 2) 1 := by decide +kernel
theorem dX3_leapsTo_33 : Dc KX3_leapsTo 33 (.invokevirtual 59) 3 := by decide +kernel
theorem dX3_leapsTo_36 : Dc KX3_leapsTo 36 (.istore_n 3) 1 := by decide +kernel
theorem dX3_leapsTo_37 : Dc KX3_leapsTo 37 (.iload_n 3) 1 := by decide +kernel
theorem dX3_leapsTo_38 : Dc KX3_leapsTo 38 (.aload_n 0) 1 := by decide +kernel
theorem dX3_leapsTo_39 : Dc KX3_leapsTo 39 (.getfield 10) 3 := by decide +kernel
theorem dX3_leapsTo_42 : Dc KX3_leapsTo 42 (.iload_n 2) 1 := by decide +kernel
theorem dX3_leapsTo_43 : Dc KX3_leapsTo 43 (.invokevirtual 62) 3 := by decide +kernel
theorem dX3_leapsTo_46 : Dc KX3_leapsTo 46 (.if_icmp .ge 38) 3 := by decide +kernel
theorem dX3_leapsTo_49 : Dc KX3_leapsTo 49 (.aload_n 0) 1 := by decide +kernel
theorem dX3_leapsTo_50 : Dc KX3_leapsTo 50 (.dup) 1 := by decide +kernel
theorem dX3_leapsTo_51 : Dc KX3_leapsTo 51 (.getfield 32) 3 := by decide +kernel
theorem dX3_leapsTo_54 : Dc KX3_leapsTo 54 (.iconst 1) 1 := by decide +kernel
theorem dX3_leapsTo_55 : Dc KX3_leapsTo 55 (.iadd) 1 := by decide +kernel
theorem dX3_leapsTo_56 : Dc KX3_leapsTo 56 (.putfield 32) 3 := by decide +kernel
theorem dX3_leapsTo_59 : Dc KX3_leapsTo 59 (.aload_n 0) 1 := by decide +kernel
theorem dX3_leapsTo_60 : Dc KX3_leapsTo 60 (.getfield 21) 3 := by decide +kernel
theorem dX3_leapsTo_63 : Dc KX3_leapsTo 63 (.iload_n 3) 1 := by decide +kernel
theorem dX3_leapsTo_64 : Dc KX3_leapsTo 64 (.invokevirtual 44) 3 := by decide +kernel
theorem dX3_leapsTo_67 : Dc KX3_leapsTo 67 (.iload_n 1) 1 := by decide +kernel
theorem dX3_leapsTo_68 : Dc KX3_leapsTo 68 (.if_icmp .lt 10) 3 := by decide +kernel
theorem dX3_leapsTo_71 : Dc KX3_leapsTo 71 (.aload_n 0) 1 := by decide +kernel
theorem dX3_leapsTo_72 : Dc KX3_leapsTo 72 (.iload_n 3) 1 := by decide +kernel
theorem dX3_leapsTo_73 : Dc KX3_leapsTo 73 (.putfield 25) 3 := by decide +kernel
theorem dX3_leapsTo_76 : Dc KX3_leapsTo 76 (.iconst 1) 1 := by decide +kernel
theorem dX3_leapsTo_77 : Dc KX3_leapsTo 77 (.ireturn) 1 := by decide +kernel
theorem dX3_leapsTo_78 : Dc KX3_leapsTo 78 (.iinc 3 1) 3 := by decide +kernel
theorem dX3_leapsTo_81 : Dc KX3_leapsTo 81 (.goto (-44)) 3 := by decide +kernel
theorem dX3_leapsTo_84 : Dc KX3_leapsTo 84 (.iload_n 2) 1 := by decide +kernel
theorem dX3_leapsTo_85 : Dc KX3_leapsTo 85 (.iconst 1) 1 := by decide +kernel
theorem dX3_leapsTo_86 : Dc KX3_leapsTo 86 (.iadd) 1 := by decide +kernel
theorem dX3_leapsTo_87 : Dc KX3_leapsTo 87 (.aload_n 0) 1 := by decide +kernel
theorem dX3_leapsTo_88 : Dc KX3_leapsTo 88 (.getfield 10) 3 := by decide +kernel
theorem dX3_leapsTo_91 : Dc KX3_leapsTo 91 (.invokevirtual 65) 3 := by decide +kernel
theorem dX3_leapsTo_94 : Dc KX3_leapsTo 94 (.if_icmp .lt 5) 3 := by decide +kernel
theorem dX3_leapsTo_97 : Dc KX3_leapsTo 97 (.iconst 0) 1 := by decide +kernel
theorem dX3_leapsTo_98 : Dc KX3_leapsTo 98 (.ireturn) 1 := by decide +kernel
theorem dX3_leapsTo_99 : Dc KX3_leapsTo 99 (.aload_n 0) 1 := by decide +kernel
theorem dX3_leapsTo_100 : Dc KX3_leapsTo 100 (.dup) 1 := by decide +kernel
theorem dX3_leapsTo_101 : Dc KX3_leapsTo 101 (.getfield 32) 3 := by decide +kernel
theorem dX3_leapsTo_104 : Dc KX3_leapsTo 104 (.iconst 1) 1 := by decide +kernel
theorem dX3_leapsTo_105 : Dc KX3_leapsTo 105 (.iadd) 1 := by decide +kernel
theorem dX3_leapsTo_106 : Dc KX3_leapsTo 106 (.putfield 32) 3 := by decide +kernel
theorem dX3_leapsTo_109 : Dc KX3_leapsTo 109 (.aload_n 0) 1 := by decide +kernel
theorem dX3_leapsTo_110 : Dc KX3_leapsTo 110 (.aload_n 0) 1 := by decide +kernel
theorem dX3_leapsTo_111 : Dc KX3_leapsTo 111 (.getfield 10) 3 := by decide +kernel
theorem dX3_leapsTo_114 : Dc KX3_leapsTo 114 (.iload_n 2) 1 := by decide +kernel
theorem dX3_leapsTo_115 : Dc KX3_leapsTo 115 (.iconst 1) 1 := by decide +kernel
theorem dX3_leapsTo_116 : Dc KX3_leapsTo 116 (.iadd) 1 := by decide +kernel
theorem dX3_leapsTo_117 : Dc KX3_leapsTo 117 (.invokevirtual 59) 3 := by decide +kernel
theorem dX3_leapsTo_120 : Dc KX3_leapsTo 120 (.putfield 25) 3 := by decide +kernel
theorem dX3_leapsTo_123 : Dc KX3_leapsTo 123 (.iconst 1) 1 := by decide +kernel
theorem dX3_leapsTo_124 : Dc KX3_leapsTo 124 (.ireturn) 1 := by decide +kernel
theorem dX3_lookForBlock_0 : Dc KX3_lookForBlock 0 (.aload_n 0) 1 := by decide +kernel
theorem dX3_lookForBlock_1 : Dc KX3_lookForBlock 1 (.getfield 10) 3 := by decide +kernel
theorem dX3_lookForBlock_4 : Dc KX3_lookForBlock 4 (.aload_n 0) 1 := by decide +kernel
theorem dX3_lookForBlock_5 : Dc KX3_lookForBlock 5 (.getfield 25) 3 := by decide +kernel
theorem dX3_lookForBlock_8 : Dc KX3_lookForBlock 8 (.invokevirtual 66) 3 := by decide +kernel
theorem dX3_lookForBlock_11 : Dc KX3_lookForBlock 11 (.istore_n 2) 1 := by decide +kernel
theorem dX3_lookForBlock_12 : Dc KX3_lookForBlock 12 (.iload_n 2) 1 := by decide +kernel
theorem dX3_lookForBlock_13 : Dc KX3_lookForBlock 13 (.iconst 1) 1 := by decide +kernel
theorem dX3_lookForBlock_14 : Dc KX3_lookForBlock 14 (.iadd) 1 := by decide +kernel
theorem dX3_lookForBlock_15 : Dc KX3_lookForBlock 15 (.istore_n 3) 1 := by decide +kernel
theorem dX3_lookForBlock_16 : Dc KX3_lookForBlock 16 (.iload_n 3) 1 := by decide +kernel
theorem dX3_lookForBlock_17 : Dc KX3_lookForBlock 17 (.aload_n 0) 1 := by decide +kernel
theorem dX3_lookForBlock_18 : Dc KX3_lookForBlock 18 (.getfield 10) 3 := by decide +kernel
theorem dX3_lookForBlock_21 : Dc KX3_lookForBlock 21 (.invokevirtual 65) 3 := by decide +kernel
theorem dX3_lookForBlock_24 : Dc KX3_lookForBlock 24 (.if_icmp .ge 35) 3 := by decide +kernel
theorem dX3_lookForBlock_27 : Dc KX3_lookForBlock 27 (.aload_n 0) 1 := by decide +kernel
theorem dX3_lookForBlock_28 : Dc KX3_lookForBlock 28 (.dup) 1 := by decide +kernel
theorem dX3_lookForBlock_29 : Dc KX3_lookForBlock 29 (.getfield 32) 3 := by decide +kernel
theorem dX3_lookForBlock_32 : Dc KX3_lookForBlock 32 (.iconst 1) 1 := by decide +kernel
theorem dX3_lookForBlock_33 : Dc KX3_lookForBlock 33 (.iadd) 1 := by decide +kernel
theorem dX3_lookForBlock_34 : Dc KX3_lookForBlock 34 (.putfield 32) 3 := by decide +kernel
theorem dX3_lookForBlock_37 : Dc KX3_lookForBlock 37 (.aload_n 0) 1 := by decide +kernel
theorem dX3_lookForBlock_38 : Dc KX3_lookForBlock 38 (.getfield 10) 3 := by decide +kernel
theorem dX3_lookForBlock_41 : Dc KX3_lookForBlock 41 (.iload_n 3) 1 := by decide +kernel
theorem dX3_lookForBlock_42 : Dc KX3_lookForBlock 42 (.invokevirtual 69) 3 := by decide +kernel
theorem dX3_lookForBlock_45 : Dc KX3_lookForBlock 45 (.iload_n 1) 1 := by decide +kernel
theorem dX3_lookForBlock_46 : Dc KX3_lookForBlock 46 (.if_icmp .le 5) 3 := by decide +kernel
theorem dX3_lookForBlock_49 : Dc KX3_lookForBlock 49 (.iload_n 2) 1 := by decide +kernel
theorem dX3_lookForBlock_50 : Dc KX3_lookForBlock 50 (.ireturn) 1 := by decide +kernel
theorem dX3_lookForBlock_51 : Dc KX3_lookForBlock 51 (.iload_n 3) 1 := by decide +kernel
theorem dX3_lookForBlock_52 : Dc KX3_lookForBlock 52 (.istore_n 2) 1 := by decide +kernel
theorem dX3_lookForBlock_53 : Dc KX3_lookForBlock 53 (.iinc 3 1) 3 := by decide +kernel
theorem dX3_lookForBlock_56 : Dc KX3_lookForBlock 56 (.goto (-40)) 3 := by decide +kernel
theorem dX3_lookForBlock_59 : Dc KX3_lookForBlock 59 (.iload_n 2) 1 := by decide +kernel
theorem dX3_lookForBlock_60 : Dc KX3_lookForBlock 60 (.ireturn) 1 := by decide +kernel
theorem dX4_init_0 : Dc KX4_init 0 (.aload_n 0) 1 := by decide +kernel
theorem dX4_init_1 : Dc KX4_init 1 (.invokespecial 3) 3 := by decide +kernel
theorem dX4_init_4 : Dc KX4_init 4 (.aload_n 0) 1 := by decide +kernel
theorem dX4_init_5 : Dc KX4_init 5 (.new 9) 3 := by decide +kernel
theorem dX4_init_8 : Dc KX4_init 8 (.dup) 1 := by decide +kernel
theorem dX4_init_9 : Dc KX4_init 9 (.invokespecial 11) 3 := by decide +kernel
theorem dX4_init_12 : Dc KX4_init 12 (.putfield 12) 3 := by decide +kernel
theorem dX4_init_15 : Dc KX4_init 15 (.aload_n 0) 1 := by decide +kernel
theorem dX4_init_16 : Dc KX4_init 16 (.new 9) 3 := by decide +kernel
theorem dX4_init_19 : Dc KX4_init 19 (.dup) 1 := by decide +kernel
theorem dX4_init_20 : Dc KX4_init 20 (.invokespecial 11) 3 := by decide +kernel
theorem dX4_init_23 : Dc KX4_init 23 (.putfield 18) 3 := by decide +kernel
theorem dX4_init_26 : Dc KX4_init 26 (.aload_n 0) 1 := by decide +kernel
theorem dX4_init_27 : Dc KX4_init 27 (.iconst 0) 1 := by decide +kernel
theorem dX4_init_28 : Dc KX4_init 28 (.putfield 21) 3 := by decide +kernel
theorem dX4_init_31 : Dc KX4_init 31 (.return_) 1 := by decide +kernel
theorem dX4_run_0 : Dc KX4_run 0 (.aload_n 0) 1 := by decide +kernel
theorem dX4_run_1 : Dc KX4_run 1 (.getfield 12) 3 := by decide +kernel
theorem dX4_run_4 : Dc KX4_run 4 (.aload_n 1) 1 := by decide +kernel
theorem dX4_run_5 : Dc KX4_run 5 (.iload_n 2) 1 := by decide +kernel
theorem dX4_run_6 : Dc KX4_run 6 (.invokevirtual 25) 3 := by decide +kernel
theorem dX4_run_9 : Dc KX4_run 9 (.aload_n 0) 1 := by decide +kernel
theorem dX4_run_10 : Dc KX4_run 10 (.getfield 18) 3 := by decide +kernel
theorem dX4_run_13 : Dc KX4_run 13 (.aload_n 1) 1 := by decide +kernel
theorem dX4_run_14 : Dc KX4_run 14 (.iload_n 3) 1 := by decide +kernel
theorem dX4_run_15 : Dc KX4_run 15 (.invokevirtual 25) 3 := by decide +kernel
theorem dX4_run_18 : Dc KX4_run 18 (.aload_n 0) 1 := by decide +kernel
theorem dX4_run_19 : Dc KX4_run 19 (.iconst 0) 1 := by decide +kernel
theorem dX4_run_20 : Dc KX4_run 20 (.putfield 21) 3 := by decide +kernel
theorem dX4_run_23 : Dc KX4_run 23 (.aload_n 1) 1 := by decide +kernel
theorem dX4_run_24 : Dc KX4_run 24 (.iload_n 2) 1 := by decide +kernel
theorem dX4_run_25 : Dc KX4_run 25 (.invokevirtual 29) 3 := by decide +kernel
theorem dX4_run_28 : Dc KX4_run 28 (.invokevirtual 35) 3 := by decide +kernel
theorem dX4_run_31 : Dc KX4_run 31 (.istore 4) 2 := by decide +kernel
theorem dX4_run_33 : Dc KX4_run 33 (.iconst 1) 1 := by decide +kernel
theorem dX4_run_34 : Dc KX4_run 34 (.istore 5) 2 := by decide +kernel
theorem dX4_run_36 : Dc KX4_run 36 (.iconst 0) 1 := by decide +kernel
theorem dX4_run_37 : Dc KX4_run 37 (.istore 6) 2 := by decide +kernel
theorem dX4_run_39 : Dc KX4_run 39 (.iload 5) 2 := by decide +kernel
theorem dX4_run_41 : Dc KX4_run 41 (.ifCond .eq 93) 3 := by decide +kernel
theorem dX4_run_44 : Dc KX4_run 44 (.iload 6) 2 := by decide +kernel
theorem dX4_run_46 : Dc KX4_run 46 (.iload 4) 2 := by decide +kernel
theorem dX4_run_48 : Dc KX4_run 48 (.if_icmp .ge 86) 3 := by decide +kernel
theorem dX4_run_51 : Dc KX4_run 51 (.aload_n 0) 1 := by decide +kernel
theorem dX4_run_52 : Dc KX4_run 52 (.getfield 12) 3 := by decide +kernel
theorem dX4_run_55 : Dc KX4_run 55 (.invokevirtual 41) 3 := by decide +kernel
theorem dX4_run_58 : Dc KX4_run 58 (.istore 7) 2 := by decide +kernel
theorem dX4_run_60 : Dc KX4_run 60 (.aload_n 0) 1 := by decide +kernel
theorem dX4_run_61 : Dc KX4_run 61 (.getfield 18) 3 := by decide +kernel
theorem dX4_run_64 : Dc KX4_run 64 (.iload 7) 2 := by decide +kernel
theorem dX4_run_66 : Dc KX4_run 66 (.invokevirtual 44) 3 := by decide +kernel
theorem dX4_run_69 : Dc KX4_run 69 (.ifCond .ne 9) 3 := by decide +kernel
theorem dX4_run_72 : Dc KX4_run 72 (.iconst 0) 1 := by decide +kernel
theorem dX4_run_73 : Dc KX4_run 73 (.istore 5) 2 := by decide +kernel
theorem dX4_run_75 : Dc KX4_run 75 (.goto 53) 3 := by decide +kernel
theorem dX4_run_78 : Dc KX4_run 78 (.aload_n 0) 1 := by decide +kernel
theorem dX4_run_79 : Dc KX4_run 79 (.getfield 18) 3 := by decide +kernel
theorem dX4_run_82 : Dc KX4_run 82 (.invokevirtual 41) 3 := by decide +kernel
theorem dX4_run_85 : Dc KX4_run 85 (.iload 7) 2 := by decide +kernel
theorem dX4_run_87 : Dc KX4_run 87 (.if_icmp .ne 25) 3 := by decide +kernel
theorem dX4_run_90 : Dc KX4_run 90 (.aload_n 0) 1 := by decide +kernel
theorem dX4_run_91 : Dc KX4_run 91 (.dup) 1 := by decide +kernel
theorem dX4_run_92 : Dc KX4_run 92 (.getfield 21) 3 := by decide +kernel
theorem dX4_run_95 : Dc KX4_run 95 (.iconst 1) 1 := by decide +kernel
theorem dX4_run_96 : Dc KX4_run 96 (.iadd) 1 := by decide +kernel
theorem dX4_run_97 : Dc KX4_run 97 (.putfield 21) 3 := by decide +kernel
theorem dX4_run_100 : Dc KX4_run 100 (.aload_n 0) 1 := by decide +kernel
theorem dX4_run_101 : Dc KX4_run 101 (.getfield 12) 3 := by decide +kernel
theorem dX4_run_104 : Dc KX4_run 104 (.invokevirtual 48) 3 := by decide +kernel
theorem dX4_run_107 : Dc KX4_run 107 (.istore 5) 2 := by decide +kernel
theorem dX4_run_109 : Dc KX4_run 109 (.goto 19) 3 := by decide +kernel
theorem dX4_run_112 : Dc KX4_run 112 (.aload_n 0) 1 := by decide +kernel
theorem dX4_run_113 : Dc KX4_run 113 (.getfield 12) 3 := by decide +kernel
theorem dX4_run_116 : Dc KX4_run 116 (.aload_n 0) 1 := by decide +kernel
theorem dX4_run_117 : Dc KX4_run 117 (.getfield 18) 3 := by decide +kernel
theorem dX4_run_120 : Dc KX4_run 120 (.invokevirtual 41) 3 := by decide +kernel
theorem dX4_run_123 : Dc KX4_run 123 (.invokevirtual 44) 3 := by decide +kernel
theorem dX4_run_126 : Dc KX4_run 126 (.istore 5) 2 := by decide +kernel
theorem dX4_run_128 : Dc KX4_run 128 (.iinc 6 1) 3 := by decide +kernel
theorem dX4_run_131 : Dc KX4_run 131 (.goto (-92)) 3 := by decide +kernel
theorem dX4_run_134 : Dc KX4_run 134 (.return_) 1 := by decide +kernel
theorem dX4_result_0 : Dc KX4_result 0 (.iload_n 1) 1 := by decide +kernel
theorem dX4_result_1 : Dc KX4_result 1 (.tableswitch 48 0 2 #[27, 32, 40]) 27 := by decide +kernel
theorem dX4_result_28 : Dc KX4_result 28 (.aload_n 0) 1 := by decide +kernel
theorem dX4_result_29 : Dc KX4_result 29 (.getfield 21) 3 := by decide +kernel
theorem dX4_result_32 : Dc KX4_result 32 (.ireturn) 1 := by decide +kernel
theorem dX4_result_33 : Dc KX4_result 33 (.aload_n 0) 1 := by decide +kernel
theorem dX4_result_34 : Dc KX4_result 34 (.getfield 12) 3 := by decide +kernel
theorem dX4_result_37 : Dc KX4_result 37 (.invokevirtual 52) 3 := by decide +kernel
theorem dX4_result_40 : Dc KX4_result 40 (.ireturn) 1 := by decide +kernel
theorem dX4_result_41 : Dc KX4_result 41 (.aload_n 0) 1 := by decide +kernel
theorem dX4_result_42 : Dc KX4_result 42 (.getfield 18) 3 := by decide +kernel
theorem dX4_result_45 : Dc KX4_result 45 (.invokevirtual 52) 3 := by decide +kernel
theorem dX4_result_48 : Dc KX4_result 48 (.ireturn) 1 := by decide +kernel
theorem dX4_result_49 : Dc KX4_result 49 (.aload_n 0) 1 := by decide +kernel
theorem dX4_result_50 : Dc KX4_result 50 (.getfield 12) 3 := by decide +kernel
theorem dX4_result_53 : Dc KX4_result 53 (.invokevirtual 55) 3 := by decide +kernel
theorem dX4_result_56 : Dc KX4_result 56 (.aload_n 0) 1 := by decide +kernel
theorem dX4_result_57 : Dc KX4_result 57 (.getfield 18) 3 := by decide +kernel
theorem dX4_result_60 : Dc KX4_result 60 (.invokevirtual 55) 3 := by decide +kernel
theorem dX4_result_63 : Dc KX4_result 63 (.iadd) 1 := by decide +kernel
theorem dX4_result_64 : Dc KX4_result 64 (.ireturn) 1 := by decide +kernel
theorem dX5_init_0 : Dc KX5_init 0 (.aload_n 0) 1 := by decide +kernel
theorem dX5_init_1 : Dc KX5_init 1 (.invokespecial 3) 3 := by decide +kernel
theorem dX5_init_4 : Dc KX5_init 4 (.aload_n 0) 1 := by decide +kernel
theorem dX5_init_5 : Dc KX5_init 5 (.iload_n 1) 1 := by decide +kernel
theorem dX5_init_6 : Dc KX5_init 6 (.ifCond .le 7) 3 := by decide +kernel
theorem dX5_init_9 : Dc KX5_init 9 (.iload_n 1) 1 := by decide +kernel
theorem dX5_init_10 : Dc KX5_init 10 (.goto 4) 3 := by decide +kernel
theorem dX5_init_13 : Dc KX5_init 13 (.iconst 0) 1 := by decide +kernel
theorem dX5_init_14 : Dc KX5_init 14 (.newarray .int) 2 := by decide +kernel
theorem dX5_init_16 : Dc KX5_init 16 (.putfield 9) 3 := by decide +kernel
theorem dX5_init_19 : Dc KX5_init 19 (.aload_n 0) 1 := by decide +kernel
theorem dX5_init_20 : Dc KX5_init 20 (.iconst 0) 1 := by decide +kernel
theorem dX5_init_21 : Dc KX5_init 21 (.putfield 15) 3 := by decide +kernel
theorem dX5_init_24 : Dc KX5_init 24 (.return_) 1 := by decide +kernel
theorem dX5_amount_0 : Dc KX5_amount 0 (.aload_n 0) 1 := by decide +kernel
theorem dX5_amount_1 : Dc KX5_amount 1 (.getfield 15) 3 := by decide +kernel
theorem dX5_amount_4 : Dc KX5_amount 4 (.ireturn) 1 := by decide +kernel
theorem dX5_isEmpty_0 : Dc KX5_isEmpty 0 (.aload_n 0) 1 := by decide +kernel
theorem dX5_isEmpty_1 : Dc KX5_isEmpty 1 (.getfield 15) 3 := by decide +kernel
theorem dX5_isEmpty_4 : Dc KX5_isEmpty 4 (.ifCond .ne 7) 3 := by decide +kernel
theorem dX5_isEmpty_7 : Dc KX5_isEmpty 7 (.iconst 1) 1 := by decide +kernel
theorem dX5_isEmpty_8 : Dc KX5_isEmpty 8 (.goto 4) 3 := by decide +kernel
theorem dX5_isEmpty_11 : Dc KX5_isEmpty 11 (.iconst 0) 1 := by decide +kernel
theorem dX5_isEmpty_12 : Dc KX5_isEmpty 12 (.ireturn) 1 := by decide +kernel
theorem dX5_at_0 : Dc KX5_at 0 (.iload_n 1) 1 := by decide +kernel
theorem dX5_at_1 : Dc KX5_at 1 (.ifCond .lt 29) 3 := by decide +kernel
theorem dX5_at_4 : Dc KX5_at 4 (.iload_n 1) 1 := by decide +kernel
theorem dX5_at_5 : Dc KX5_at 5 (.aload_n 0) 1 := by decide +kernel
theorem dX5_at_6 : Dc KX5_at 6 (.getfield 15) 3 := by decide +kernel
theorem dX5_at_9 : Dc KX5_at 9 (.if_icmp .ge 21) 3 := by decide +kernel
theorem dX5_at_12 : Dc KX5_at 12 (.iload_n 1) 1 := by decide +kernel
theorem dX5_at_13 : Dc KX5_at 13 (.aload_n 0) 1 := by decide +kernel
theorem dX5_at_14 : Dc KX5_at 14 (.getfield 9) 3 := by decide +kernel
theorem dX5_at_17 : Dc KX5_at 17 (.arraylength) 1 := by decide +kernel
theorem dX5_at_18 : Dc KX5_at 18 (.if_icmp .ge 12) 3 := by decide +kernel
theorem dX5_at_21 : Dc KX5_at 21 (.aload_n 0) 1 := by decide +kernel
theorem dX5_at_22 : Dc KX5_at 22 (.getfield 9) 3 := by decide +kernel
theorem dX5_at_25 : Dc KX5_at 25 (.iload_n 1) 1 := by decide +kernel
theorem dX5_at_26 : Dc KX5_at 26 (.iaload) 1 := by decide +kernel
theorem dX5_at_27 : Dc KX5_at 27 (.goto 4) 3 := by decide +kernel
theorem dX5_at_30 : Dc KX5_at 30 (.iconst (-1)) 1 := by decide +kernel
theorem dX5_at_31 : Dc KX5_at 31 (.ireturn) 1 := by decide +kernel
theorem dX5_least_0 : Dc KX5_least 0 (.aload_n 0) 1 := by decide +kernel
theorem dX5_least_1 : Dc KX5_least 1 (.iconst 0) 1 := by decide +kernel
theorem dX5_least_2 : Dc KX5_least 2 (.invokevirtual 19) 3 := by decide +kernel
theorem dX5_least_5 : Dc KX5_least 5 (.ireturn) 1 := by decide +kernel
theorem dX5_greatest_0 : Dc KX5_greatest 0 (.aload_n 0) 1 := by decide +kernel
theorem dX5_greatest_1 : Dc KX5_greatest 1 (.aload_n 0) 1 := by decide +kernel
theorem dX5_greatest_2 : Dc KX5_greatest 2 (.getfield 15) 3 := by decide +kernel
theorem dX5_greatest_5 : Dc KX5_greatest 5 (.iconst 1) 1 := by decide +kernel
theorem dX5_greatest_6 : Dc KX5_greatest 6 (.isub) 1 := by decide +kernel
theorem dX5_greatest_7 : Dc KX5_greatest 7 (.invokevirtual 19) 3 := by decide +kernel
theorem dX5_greatest_10 : Dc KX5_greatest 10 (.ireturn) 1 := by decide +kernel
theorem dX5_gapAhead_0 : Dc KX5_gapAhead 0 (.iload_n 1) 1 := by decide +kernel
theorem dX5_gapAhead_1 : Dc KX5_gapAhead 1 (.ifCond .le 24) 3 := by decide +kernel
theorem dX5_gapAhead_4 : Dc KX5_gapAhead 4 (.iload_n 1) 1 := by decide +kernel
theorem dX5_gapAhead_5 : Dc KX5_gapAhead 5 (.aload_n 0) 1 := by decide +kernel
theorem dX5_gapAhead_6 : Dc KX5_gapAhead 6 (.getfield 15) 3 := by decide +kernel
theorem dX5_gapAhead_9 : Dc KX5_gapAhead 9 (.if_icmp .ge 16) 3 := by decide +kernel
theorem dX5_gapAhead_12 : Dc KX5_gapAhead 12 (.iload_n 1) 1 := by decide +kernel
theorem dX5_gapAhead_13 : Dc KX5_gapAhead 13 (.aload_n 0) 1 := by decide +kernel
theorem dX5_gapAhead_14 : Dc KX5_gapAhead 14 (.getfield 9) 3 := by decide +kernel
theorem dX5_gapAhead_17 : Dc KX5_gapAhead 17 (.arraylength) 1 := by decide +kernel
theorem dX5_gapAhead_18 : Dc KX5_gapAhead 18 (.if_icmp .ge 7) 3 := by decide +kernel
theorem dX5_gapAhead_21 : Dc KX5_gapAhead 21 (.iconst 1) 1 := by decide +kernel
theorem dX5_gapAhead_22 : Dc KX5_gapAhead 22 (.goto 4) 3 := by decide +kernel
theorem dX5_gapAhead_25 : Dc KX5_gapAhead 25 (.iconst 0) 1 := by decide +kernel
theorem dX5_gapAhead_26 : Dc KX5_gapAhead 26 (.istore_n 2) 1 := by decide +kernel
theorem dX5_gapAhead_27 : Dc KX5_gapAhead 27 (.iload_n 2) 1 := by decide +kernel
theorem dX5_gapAhead_28 : Dc KX5_gapAhead 28 (.ifCond .eq 21) 3 := by decide +kernel
theorem dX5_gapAhead_31 : Dc KX5_gapAhead 31 (.aload_n 0) 1 := by decide +kernel
theorem dX5_gapAhead_32 : Dc KX5_gapAhead 32 (.getfield 9) 3 := by decide +kernel
theorem dX5_gapAhead_35 : Dc KX5_gapAhead 35 (.iload_n 1) 1 := by decide +kernel
theorem dX5_gapAhead_36 : Dc KX5_gapAhead 36 (.iaload) 1 := by decide +kernel
theorem dX5_gapAhead_37 : Dc KX5_gapAhead 37 (.aload_n 0) 1 := by decide +kernel
theorem dX5_gapAhead_38 : Dc KX5_gapAhead 38 (.getfield 9) 3 := by decide +kernel
theorem dX5_gapAhead_41 : Dc KX5_gapAhead 41 (.iload_n 1) 1 := by decide +kernel
theorem dX5_gapAhead_42 : Dc KX5_gapAhead 42 (.iconst 1) 1 := by decide +kernel
theorem dX5_gapAhead_43 : Dc KX5_gapAhead 43 (.isub) 1 := by decide +kernel
theorem dX5_gapAhead_44 : Dc KX5_gapAhead 44 (.iaload) 1 := by decide +kernel
theorem dX5_gapAhead_45 : Dc KX5_gapAhead 45 (.isub) 1 := by decide +kernel
theorem dX5_gapAhead_46 : Dc KX5_gapAhead 46 (.goto 4) 3 := by decide +kernel
theorem dX5_gapAhead_49 : Dc KX5_gapAhead 49 (.iconst 0) 1 := by decide +kernel
theorem dX5_gapAhead_50 : Dc KX5_gapAhead 50 (.ireturn) 1 := by decide +kernel
theorem dX5_placeOf_0 : Dc KX5_placeOf 0 (.iconst 0) 1 := by decide +kernel
theorem dX5_placeOf_1 : Dc KX5_placeOf 1 (.istore_n 2) 1 := by decide +kernel
theorem dX5_placeOf_2 : Dc KX5_placeOf 2 (.iload_n 2) 1 := by decide +kernel
theorem dX5_placeOf_3 : Dc KX5_placeOf 3 (.aload_n 0) 1 := by decide +kernel
theorem dX5_placeOf_4 : Dc KX5_placeOf 4 (.getfield 15) 3 := by decide +kernel
theorem dX5_placeOf_7 : Dc KX5_placeOf 7 (.if_icmp .ge 20) 3 := by decide +kernel
theorem dX5_placeOf_10 : Dc KX5_placeOf 10 (.aload_n 0) 1 := by decide +kernel
theorem dX5_placeOf_11 : Dc KX5_placeOf 11 (.iload_n 2) 1 := by decide +kernel
theorem dX5_placeOf_12 : Dc KX5_placeOf 12 (.invokevirtual 19) 3 := by decide +kernel
theorem dX5_placeOf_15 : Dc KX5_placeOf 15 (.iload_n 1) 1 := by decide +kernel
theorem dX5_placeOf_16 : Dc KX5_placeOf 16 (.if_icmp .lt 5) 3 := by decide +kernel
theorem dX5_placeOf_19 : Dc KX5_placeOf 19 (.iload_n 2) 1 := by decide +kernel
theorem dX5_placeOf_20 : Dc KX5_placeOf 20 (.ireturn) 1 := by decide +kernel
theorem dX5_placeOf_21 : Dc KX5_placeOf 21 (.iinc 2 1) 3 := by decide +kernel
theorem dX5_placeOf_24 : Dc KX5_placeOf 24 (.goto (-22)) 3 := by decide +kernel
theorem dX5_placeOf_27 : Dc KX5_placeOf 27 (.aload_n 0) 1 := by decide +kernel
theorem dX5_placeOf_28 : Dc KX5_placeOf 28 (.getfield 15) 3 := by decide +kernel
theorem dX5_placeOf_31 : Dc KX5_placeOf 31 (.ireturn) 1 := by decide +kernel
theorem dX5_holds_0 : Dc KX5_holds 0 (.aload_n 0) 1 := by decide +kernel
theorem dX5_holds_1 : Dc KX5_holds 1 (.iload_n 1) 1 := by decide +kernel
theorem dX5_holds_2 : Dc KX5_holds 2 (.invokevirtual 23) 3 := by decide +kernel
theorem dX5_holds_5 : Dc KX5_holds 5 (.istore_n 2) 1 := by decide +kernel
theorem dX5_holds_6 : Dc KX5_holds 6 (.iload_n 2) 1 := by decide +kernel
theorem dX5_holds_7 : Dc KX5_holds 7 (.aload_n 0) 1 := by decide +kernel
theorem dX5_holds_8 : Dc KX5_holds 8 (.getfield 15) 3 := by decide +kernel
theorem dX5_holds_11 : Dc KX5_holds 11 (.if_icmp .ge 16) 3 := by decide +kernel
theorem dX5_holds_14 : Dc KX5_holds 14 (.aload_n 0) 1 := by decide +kernel
theorem dX5_holds_15 : Dc KX5_holds 15 (.iload_n 2) 1 := by decide +kernel
theorem dX5_holds_16 : Dc KX5_holds 16 (.invokevirtual 19) 3 := by decide +kernel
theorem dX5_holds_19 : Dc KX5_holds 19 (.iload_n 1) 1 := by decide +kernel
theorem dX5_holds_20 : Dc KX5_holds 20 (.if_icmp .ne 7) 3 := by decide +kernel
theorem dX5_holds_23 : Dc KX5_holds 23 (.iconst 1) 1 := by decide +kernel
theorem dX5_holds_24 : Dc KX5_holds 24 (.goto 4) 3 := by decide +kernel
theorem dX5_holds_27 : Dc KX5_holds 27 (.iconst 0) 1 := by decide +kernel
theorem dX5_holds_28 : Dc KX5_holds 28 (.ireturn) 1 := by decide +kernel
theorem dX5_nearestTo_0 : Dc KX5_nearestTo 0 (.aload_n 0) 1 := by decide +kernel
theorem dX5_nearestTo_1 : Dc KX5_nearestTo 1 (.iload_n 1) 1 := by decide +kernel
theorem dX5_nearestTo_2 : Dc KX5_nearestTo 2 (.invokevirtual 23) 3 := by decide +kernel
theorem dX5_nearestTo_5 : Dc KX5_nearestTo 5 (.istore_n 2) 1 := by decide +kernel
theorem dX5_nearestTo_6 : Dc KX5_nearestTo 6 (.iload_n 2) 1 := by decide +kernel
theorem dX5_nearestTo_7 : Dc KX5_nearestTo 7 (.ifCond .ne 8) 3 := by decide +kernel
theorem dX5_nearestTo_10 : Dc KX5_nearestTo 10 (.aload_n 0) 1 := by decide +kernel
theorem dX5_nearestTo_11 : Dc KX5_nearestTo 11 (.invokevirtual 26) 3 := by decide +kernel
theorem dX5_nearestTo_14 : Dc KX5_nearestTo 14 (.ireturn) 1 := by decide +kernel
theorem dX5_nearestTo_15 : Dc KX5_nearestTo 15 (.iload_n 2) 1 := by decide +kernel
theorem dX5_nearestTo_16 : Dc KX5_nearestTo 16 (.aload_n 0) 1 := by decide +kernel
theorem dX5_nearestTo_17 : Dc KX5_nearestTo 17 (.getfield 15) 3 := by decide +kernel
theorem dX5_nearestTo_20 : Dc KX5_nearestTo 20 (.if_icmp .lt 8) 3 := by decide +kernel
theorem dX5_nearestTo_23 : Dc KX5_nearestTo 23 (.aload_n 0) 1 := by decide +kernel
theorem dX5_nearestTo_24 : Dc KX5_nearestTo 24 (.invokevirtual 30) 3 := by decide +kernel
theorem dX5_nearestTo_27 : Dc KX5_nearestTo 27 (.ireturn) 1 := by decide +kernel
theorem dX5_nearestTo_28 : Dc KX5_nearestTo 28 (.aload_n 0) 1 := by decide +kernel
theorem dX5_nearestTo_29 : Dc KX5_nearestTo 29 (.iload_n 2) 1 := by decide +kernel
theorem dX5_nearestTo_30 : Dc KX5_nearestTo 30 (.iconst 1) 1 := by decide +kernel
theorem dX5_nearestTo_31 : Dc KX5_nearestTo 31 (.isub) 1 := by decide +kernel
theorem dX5_nearestTo_32 : Dc KX5_nearestTo 32 (.invokevirtual 19) 3 := by decide +kernel
theorem dX5_nearestTo_35 : Dc KX5_nearestTo 35 (.istore_n 3) 1 := by decide +kernel
theorem dX5_nearestTo_36 : Dc KX5_nearestTo 36 (.aload_n 0) 1 := by decide +kernel
theorem dX5_nearestTo_37 : Dc KX5_nearestTo 37 (.iload_n 2) 1 := by decide +kernel
theorem dX5_nearestTo_38 : Dc KX5_nearestTo 38 (.invokevirtual 19) 3 := by decide +kernel
theorem dX5_nearestTo_41 : Dc KX5_nearestTo 41 (.istore 4) 2 := by decide +kernel
theorem dX5_nearestTo_43 : Dc KX5_nearestTo 43 (.iload_n 1) 1 := by decide +kernel
theorem dX5_nearestTo_44 : Dc KX5_nearestTo 44 (.iload_n 3) 1 := by decide +kernel
theorem dX5_nearestTo_45 : Dc KX5_nearestTo 45 (.isub) 1 := by decide +kernel
theorem dX5_nearestTo_46 : Dc KX5_nearestTo 46 (.iload 4) 2 := by decide +kernel
theorem dX5_nearestTo_48 : Dc KX5_nearestTo 48 (.iload_n 1) 1 := by decide +kernel
theorem dX5_nearestTo_49 : Dc KX5_nearestTo 49 (.isub) 1 := by decide +kernel
theorem dX5_nearestTo_50 : Dc KX5_nearestTo 50 (.if_icmp .gt 7) 3 := by decide +kernel
theorem dX5_nearestTo_53 : Dc KX5_nearestTo 53 (.iload_n 3) 1 := by decide +kernel
theorem dX5_nearestTo_54 : Dc KX5_nearestTo 54 (.goto 5) 3 := by decide +kernel
theorem dX5_nearestTo_57 : Dc KX5_nearestTo 57 (.iload 4) 2 := by decide +kernel
theorem dX5_nearestTo_59 : Dc KX5_nearestTo 59 (.ireturn) 1 := by decide +kernel
theorem dX5_longestRow_0 : Dc KX5_longestRow 0 (.iconst 0) 1 := by decide +kernel
theorem dX5_longestRow_1 : Dc KX5_longestRow 1 (.istore_n 1) 1 := by decide +kernel
theorem dX5_longestRow_2 : Dc KX5_longestRow 2 (.iconst 0) 1 := by decide +kernel
theorem dX5_longestRow_3 : Dc KX5_longestRow 3 (.istore_n 2) 1 := by decide +kernel
theorem dX5_longestRow_4 : Dc KX5_longestRow 4 (.iconst 0) 1 := by decide +kernel
theorem dX5_longestRow_5 : Dc KX5_longestRow 5 (.istore_n 3) 1 := by decide +kernel
theorem dX5_longestRow_6 : Dc KX5_longestRow 6 (.iload_n 3) 1 := by decide +kernel
theorem dX5_longestRow_7 : Dc KX5_longestRow 7 (.aload_n 0) 1 := by decide +kernel
theorem dX5_longestRow_8 : Dc KX5_longestRow 8 (.getfield 15) 3 := by decide +kernel
theorem dX5_longestRow_11 : Dc KX5_longestRow 11 (.if_icmp .ge 36) 3 := by decide +kernel
theorem dX5_longestRow_14 : Dc KX5_longestRow 14 (.iload_n 3) 1 := by decide +kernel
theorem dX5_longestRow_15 : Dc KX5_longestRow 15 (.ifCond .le 18) 3 := by decide +kernel
theorem dX5_longestRow_18 : Dc KX5_longestRow 18 (.aload_n 0) 1 := by decide +kernel
theorem dX5_longestRow_19 : Dc KX5_longestRow 19 (.iload_n 3) 1 := by decide +kernel
theorem dX5_longestRow_20 : Dc KX5_longestRow 20 (.invokevirtual 33) 3 := by decide +kernel
theorem dX5_longestRow_23 : Dc KX5_longestRow 23 (.iconst 1) 1 := by decide +kernel
theorem dX5_longestRow_24 : Dc KX5_longestRow 24 (.if_icmp .ne 9) 3 := by decide +kernel
theorem dX5_longestRow_27 : Dc KX5_longestRow 27 (.iload_n 2) 1 := by decide +kernel
theorem dX5_longestRow_28 : Dc KX5_longestRow 28 (.iconst 1) 1 := by decide +kernel
theorem dX5_longestRow_29 : Dc KX5_longestRow 29 (.iadd) 1 := by decide +kernel
theorem dX5_longestRow_30 : Dc KX5_longestRow 30 (.goto 4) 3 := by decide +kernel
theorem dX5_longestRow_33 : Dc KX5_longestRow 33 (.iconst 1) 1 := by decide +kernel
theorem dX5_longestRow_34 : Dc KX5_longestRow 34 (.istore_n 2) 1 := by decide +kernel
theorem dX5_longestRow_35 : Dc KX5_longestRow 35 (.iload_n 1) 1 := by decide +kernel
theorem dX5_longestRow_36 : Dc KX5_longestRow 36 (.iload_n 2) 1 := by decide +kernel
theorem dX5_longestRow_37 : Dc KX5_longestRow 37 (.invokestatic 36) 3 := by decide +kernel
theorem dX5_longestRow_40 : Dc KX5_longestRow 40 (.istore_n 1) 1 := by decide +kernel
theorem dX5_longestRow_41 : Dc KX5_longestRow 41 (.iinc 3 1) 3 := by decide +kernel
theorem dX5_longestRow_44 : Dc KX5_longestRow 44 (.goto (-38)) 3 := by decide +kernel
theorem dX5_longestRow_47 : Dc KX5_longestRow 47 (.iload_n 1) 1 := by decide +kernel
theorem dX5_longestRow_48 : Dc KX5_longestRow 48 (.ireturn) 1 := by decide +kernel
theorem dX5_isLike_0 : Dc KX5_isLike 0 (.aload_n 0) 1 := by decide +kernel
theorem dX5_isLike_1 : Dc KX5_isLike 1 (.getfield 15) 3 := by decide +kernel
theorem dX5_isLike_4 : Dc KX5_isLike 4 (.aload_n 1) 1 := by decide +kernel
theorem dX5_isLike_5 : Dc KX5_isLike 5 (.invokevirtual 42) 3 := by decide +kernel
theorem dX5_isLike_8 : Dc KX5_isLike 8 (.if_icmp .eq 5) 3 := by decide +kernel
theorem dX5_isLike_11 : Dc KX5_isLike 11 (.iconst 0) 1 := by decide +kernel
theorem dX5_isLike_12 : Dc KX5_isLike 12 (.ireturn) 1 := by decide +kernel
theorem dX5_isLike_13 : Dc KX5_isLike 13 (.iconst 0) 1 := by decide +kernel
theorem dX5_isLike_14 : Dc KX5_isLike 14 (.istore_n 2) 1 := by decide +kernel
theorem dX5_isLike_15 : Dc KX5_isLike 15 (.iload_n 2) 1 := by decide +kernel
theorem dX5_isLike_16 : Dc KX5_isLike 16 (.aload_n 0) 1 := by decide +kernel
theorem dX5_isLike_17 : Dc KX5_isLike 17 (.getfield 15) 3 := by decide +kernel
theorem dX5_isLike_20 : Dc KX5_isLike 20 (.if_icmp .ge 24) 3 := by decide +kernel
theorem dX5_isLike_23 : Dc KX5_isLike 23 (.aload_n 0) 1 := by decide +kernel
theorem dX5_isLike_24 : Dc KX5_isLike 24 (.iload_n 2) 1 := by decide +kernel
theorem dX5_isLike_25 : Dc KX5_isLike 25 (.invokevirtual 19) 3 := by decide +kernel
theorem dX5_isLike_28 : Dc KX5_isLike 28 (.aload_n 1) 1 := by decide +kernel
theorem dX5_isLike_29 : Dc KX5_isLike 29 (.iload_n 2) 1 := by decide +kernel
theorem dX5_isLike_30 : Dc KX5_isLike 30 (.invokevirtual 19) 3 := by decide +kernel
theorem dX5_isLike_33 : Dc KX5_isLike 33 (.if_icmp .eq 5) 3 := by decide +kernel
theorem dX5_isLike_36 : Dc KX5_isLike 36 (.iconst 0) 1 := by decide +kernel
theorem dX5_isLike_37 : Dc KX5_isLike 37 (.ireturn) 1 := by decide +kernel
theorem dX5_isLike_38 : Dc KX5_isLike 38 (.iinc 2 1) 3 := by decide +kernel
theorem dX5_isLike_41 : Dc KX5_isLike 41 (.goto (-26)) 3 := by decide +kernel
theorem dX5_isLike_44 : Dc KX5_isLike 44 (.iconst 1) 1 := by decide +kernel
theorem dX5_isLike_45 : Dc KX5_isLike 45 (.ireturn) 1 := by decide +kernel
theorem dX5_beginsBlock_0 : Dc KX5_beginsBlock 0 (.iload_n 1) 1 := by decide +kernel
theorem dX5_beginsBlock_1 : Dc KX5_beginsBlock 1 (.ifCond .eq 18) 3 := by decide +kernel
theorem dX5_beginsBlock_4 : Dc KX5_beginsBlock 4 (.iload_n 2) 1 := by decide +kernel
theorem dX5_beginsBlock_5 : Dc KX5_beginsBlock 5 (.iload_n 3) 1 := by decide +kernel
theorem dX5_beginsBlock_6 : Dc KX5_beginsBlock 6 (.if_icmp .ge 13) 3 := by decide +kernel
theorem dX5_beginsBlock_9 : Dc KX5_beginsBlock 9 (.aload_n 0) 1 := by decide +kernel
theorem dX5_beginsBlock_10 : Dc KX5_beginsBlock 10 (.iload_n 1) 1 := by decide +kernel
theorem dX5_beginsBlock_11 : Dc KX5_beginsBlock 11 (.invokevirtual 33) 3 := by decide +kernel
theorem dX5_beginsBlock_14 : Dc KX5_beginsBlock 14 (.iload 4) 2 := by decide +kernel
theorem dX5_beginsBlock_16 : Dc KX5_beginsBlock 16 (.if_icmp .le 7) 3 := by decide +kernel
theorem dX5_beginsBlock_19 : Dc KX5_beginsBlock 19 (.iconst 1) 1 := by decide +kernel
theorem dX5_beginsBlock_20 : Dc KX5_beginsBlock 20 (.goto 4) 3 := by decide +kernel
theorem dX5_beginsBlock_23 : Dc KX5_beginsBlock 23 (.iconst 0) 1 := by decide +kernel
theorem dX5_beginsBlock_24 : Dc KX5_beginsBlock 24 (.ireturn) 1 := by decide +kernel
theorem dX5_bytes_0 : Dc KX5_bytes 0 (.iconst 0) 1 := by decide +kernel
theorem dX5_bytes_1 : Dc KX5_bytes 1 (.istore_n 3) 1 := by decide +kernel
theorem dX5_bytes_2 : Dc KX5_bytes 2 (.iconst 0) 1 := by decide +kernel
theorem dX5_bytes_3 : Dc KX5_bytes 3 (.istore 4) 2 := by decide +kernel
theorem dX5_bytes_5 : Dc KX5_bytes 5 (.iconst 0) 1 := by decide +kernel
theorem dX5_bytes_6 : Dc KX5_bytes 6 (.istore 5) 2 := by decide +kernel
theorem dX5_bytes_8 : Dc KX5_bytes 8 (.iload 5) 2 := by decide +kernel
theorem dX5_bytes_10 : Dc KX5_bytes 10 (.aload_n 0) 1 := by decide +kernel
theorem dX5_bytes_11 : Dc KX5_bytes 11 (.getfield 15) 3 := by decide +kernel
theorem dX5_bytes_14 : Dc KX5_bytes 14 (.if_icmp .ge 46) 3 := by decide +kernel
theorem dX5_bytes_17 : Dc KX5_bytes 17 (.aload_n 0) 1 := by decide +kernel
theorem dX5_bytes_18 : Dc KX5_bytes 18 (.iload 5) 2 := by decide +kernel
theorem dX5_bytes_20 : Dc KX5_bytes 20 (.iload 4) 2 := by decide +kernel
theorem dX5_bytes_22 : Dc KX5_bytes 22 (.iload_n 1) 1 := by decide +kernel
theorem dX5_bytes_23 : Dc KX5_bytes 23 (.iload_n 2) 1 := by decide +kernel
theorem dX5_bytes_24 : Dc KX5_bytes 24 (.invokevirtual 44) 3 := by decide +kernel
theorem dX5_bytes_27 : Dc KX5_bytes 27 (.ifCond .eq 12) 3 := by decide +kernel
theorem dX5_bytes_30 : Dc KX5_bytes 30 (.iinc 3 3) 3 := by decide +kernel
theorem dX5_bytes_33 : Dc KX5_bytes 33 (.iconst 1) 1 := by decide +kernel
theorem dX5_bytes_34 : Dc KX5_bytes 34 (.istore 4) 2 := by decide +kernel
theorem dX5_bytes_36 : Dc KX5_bytes 36 (.goto 18) 3 := by decide +kernel
theorem dX5_bytes_39 : Dc KX5_bytes 39 (.iload_n 3) 1 := by decide +kernel
theorem dX5_bytes_40 : Dc KX5_bytes 40 (.aload_n 0) 1 := by decide +kernel
theorem dX5_bytes_41 : Dc KX5_bytes 41 (.iload 5) 2 := by decide +kernel
theorem dX5_bytes_43 : Dc KX5_bytes 43 (.invokevirtual 33) 3 := by decide +kernel
theorem dX5_bytes_46 : Dc KX5_bytes 46 (.invokestatic 48) 3 := by decide +kernel
theorem dX5_bytes_49 : Dc KX5_bytes 49 (.iadd) 1 := by decide +kernel
theorem dX5_bytes_50 : Dc KX5_bytes 50 (.istore_n 3) 1 := by decide +kernel
theorem dX5_bytes_51 : Dc KX5_bytes 51 (.iinc 4 1) 3 := by decide +kernel
theorem dX5_bytes_54 : Dc KX5_bytes 54 (.iinc 5 1) 3 := by decide +kernel
theorem dX5_bytes_57 : Dc KX5_bytes 57 (.goto (-49)) 3 := by decide +kernel
theorem dX5_bytes_60 : Dc KX5_bytes 60 (.iload_n 3) 1 := by decide +kernel
theorem dX5_bytes_61 : Dc KX5_bytes 61 (.ireturn) 1 := by decide +kernel
theorem dX5_empty_0 : Dc KX5_empty 0 (.aload_n 0) 1 := by decide +kernel
theorem dX5_empty_1 : Dc KX5_empty 1 (.iconst 0) 1 := by decide +kernel
theorem dX5_empty_2 : Dc KX5_empty 2 (.putfield 15) 3 := by decide +kernel
theorem dX5_empty_5 : Dc KX5_empty 5 (.return_) 1 := by decide +kernel
theorem dX5_put_0 : Dc KX5_put 0 (.aload_n 0) 1 := by decide +kernel
theorem dX5_put_1 : Dc KX5_put 1 (.iload_n 1) 1 := by decide +kernel
theorem dX5_put_2 : Dc KX5_put 2 (.invokevirtual 51) 3 := by decide +kernel
theorem dX5_put_5 : Dc KX5_put 5 (.ifCond .ne 15) 3 := by decide +kernel
theorem dX5_put_8 : Dc KX5_put 8 (.aload_n 0) 1 := by decide +kernel
theorem dX5_put_9 : Dc KX5_put 9 (.getfield 15) 3 := by decide +kernel
theorem dX5_put_12 : Dc KX5_put 12 (.aload_n 0) 1 := by decide +kernel
theorem dX5_put_13 : Dc KX5_put 13 (.getfield 9) 3 := by decide +kernel
theorem dX5_put_16 : Dc KX5_put 16 (.arraylength) 1 := by decide +kernel
theorem dX5_put_17 : Dc KX5_put 17 (.if_icmp .lt 4) 3 := by decide +kernel
theorem dX5_put_20 : Dc KX5_put 20 (.return_) 1 := by decide +kernel
theorem dX5_put_21 : Dc KX5_put 21 (.aload_n 0) 1 := by decide +kernel
theorem dX5_put_22 : Dc KX5_put 22 (.iload_n 1) 1 := by decide +kernel
theorem dX5_put_23 : Dc KX5_put 23 (.invokevirtual 23) 3 := by decide +kernel
theorem dX5_put_26 : Dc KX5_put 26 (.istore_n 2) 1 := by decide +kernel
theorem dX5_put_27 : Dc KX5_put 27 (.aload_n 0) 1 := by decide +kernel
theorem dX5_put_28 : Dc KX5_put 28 (.getfield 15) 3 := by decide +kernel
theorem dX5_put_31 : Dc KX5_put 31 (.istore_n 3) 1 := by decide +kernel
theorem dX5_put_32 : Dc KX5_put 32 (.iload_n 3) 1 := by decide +kernel
theorem dX5_put_33 : Dc KX5_put 33 (.iload_n 2) 1 := by decide +kernel
theorem dX5_put_34 : Dc KX5_put 34 (.if_icmp .le 23) 3 := by decide +kernel
theorem dX5_put_37 : Dc KX5_put 37 (.aload_n 0) 1 := by decide +kernel
theorem dX5_put_38 : Dc KX5_put 38 (.getfield 9) 3 := by decide +kernel
theorem dX5_put_41 : Dc KX5_put 41 (.iload_n 3) 1 := by decide +kernel
theorem dX5_put_42 : Dc KX5_put 42 (.aload_n 0) 1 := by decide +kernel
theorem dX5_put_43 : Dc KX5_put 43 (.getfield 9) 3 := by decide +kernel
theorem dX5_put_46 : Dc KX5_put 46 (.iload_n 3) 1 := by decide +kernel
theorem dX5_put_47 : Dc KX5_put 47 (.iconst 1) 1 := by decide +kernel
theorem dX5_put_48 : Dc KX5_put 48 (.isub) 1 := by decide +kernel
theorem dX5_put_49 : Dc KX5_put 49 (.iaload) 1 := by decide +kernel
theorem dX5_put_50 : Dc KX5_put 50 (.iastore) 1 := by decide +kernel
theorem dX5_put_51 : Dc KX5_put 51 (.iinc 3 (-1)) 3 := by decide +kernel
theorem dX5_put_54 : Dc KX5_put 54 (.goto (-22)) 3 := by decide +kernel
theorem dX5_put_57 : Dc KX5_put 57 (.aload_n 0) 1 := by decide +kernel
theorem dX5_put_58 : Dc KX5_put 58 (.getfield 9) 3 := by decide +kernel
theorem dX5_put_61 : Dc KX5_put 61 (.iload_n 2) 1 := by decide +kernel
theorem dX5_put_62 : Dc KX5_put 62 (.iload_n 1) 1 := by decide +kernel
theorem dX5_put_63 : Dc KX5_put 63 (.iastore) 1 := by decide +kernel
theorem dX5_put_64 : Dc KX5_put 64 (.aload_n 0) 1 := by decide +kernel
theorem dX5_put_65 : Dc KX5_put 65 (.dup) 1 := by decide +kernel
theorem dX5_put_66 : Dc KX5_put 66 (.getfield 15) 3 := by decide +kernel
theorem dX5_put_69 : Dc KX5_put 69 (.iconst 1) 1 := by decide +kernel
theorem dX5_put_70 : Dc KX5_put 70 (.iadd) 1 := by decide +kernel
theorem dX5_put_71 : Dc KX5_put 71 (.putfield 15) 3 := by decide +kernel
theorem dX5_put_74 : Dc KX5_put 74 (.return_) 1 := by decide +kernel
theorem dX5_cutOut_0 : Dc KX5_cutOut 0 (.iconst 0) 1 := by decide +kernel
theorem dX5_cutOut_1 : Dc KX5_cutOut 1 (.istore_n 3) 1 := by decide +kernel
theorem dX5_cutOut_2 : Dc KX5_cutOut 2 (.iconst 0) 1 := by decide +kernel
theorem dX5_cutOut_3 : Dc KX5_cutOut 3 (.istore 4) 2 := by decide +kernel
theorem dX5_cutOut_5 : Dc KX5_cutOut 5 (.iload 4) 2 := by decide +kernel
theorem dX5_cutOut_7 : Dc KX5_cutOut 7 (.aload_n 0) 1 := by decide +kernel
theorem dX5_cutOut_8 : Dc KX5_cutOut 8 (.getfield 15) 3 := by decide +kernel
theorem dX5_cutOut_11 : Dc KX5_cutOut 11 (.if_icmp .ge 51) 3 := by decide +kernel
theorem dX5_cutOut_14 : Dc KX5_cutOut 14 (.iload 4) 2 := by decide +kernel
theorem dX5_cutOut_16 : Dc KX5_cutOut 16 (.aload_n 0) 1 := by decide +kernel
theorem dX5_cutOut_17 : Dc KX5_cutOut 17 (.getfield 9) 3 := by decide +kernel
theorem dX5_cutOut_20 : Dc KX5_cutOut 20 (.arraylength) 1 := by decide +kernel
theorem dX5_cutOut_21 : Dc KX5_cutOut 21 (.if_icmp .ge 41) 3 := by decide +kernel
theorem dX5_cutOut_24 : Dc KX5_cutOut 24 (.aload_n 0) 1 := by decide +kernel
theorem dX5_cutOut_25 : Dc KX5_cutOut 25 (.getfield 9) 3 := by decide +kernel
theorem dX5_cutOut_28 : Dc KX5_cutOut 28 (.iload 4) 2 := by decide +kernel
theorem dX5_cutOut_30 : Dc KX5_cutOut 30 (.iaload) 1 := by decide +kernel
theorem dX5_cutOut_31 : Dc KX5_cutOut 31 (.istore 5) 2 := by decide +kernel
theorem dX5_cutOut_33 : Dc KX5_cutOut 33 (.iload 5) 2 := by decide +kernel
theorem dX5_cutOut_35 : Dc KX5_cutOut 35 (.iload_n 1) 1 := by decide +kernel
theorem dX5_cutOut_36 : Dc KX5_cutOut 36 (.if_icmp .lt 9) 3 := by decide +kernel
theorem dX5_cutOut_39 : Dc KX5_cutOut 39 (.iload 5) 2 := by decide +kernel
theorem dX5_cutOut_41 : Dc KX5_cutOut 41 (.iload_n 2) 1 := by decide +kernel
theorem dX5_cutOut_42 : Dc KX5_cutOut 42 (.if_icmp .le 14) 3 := by decide +kernel
theorem dX5_cutOut_45 : Dc KX5_cutOut 45 (.aload_n 0) 1 := by decide +kernel
theorem dX5_cutOut_46 : Dc KX5_cutOut 46 (.getfield 9) 3 := by decide +kernel
theorem dX5_cutOut_49 : Dc KX5_cutOut 49 (.iload_n 3) 1 := by decide +kernel
theorem dX5_cutOut_50 : Dc KX5_cutOut 50 (.iload 5) 2 := by decide +kernel
theorem dX5_cutOut_52 : Dc KX5_cutOut 52 (.iastore) 1 := by decide +kernel
theorem dX5_cutOut_53 : Dc KX5_cutOut 53 (.iinc 3 1) 3 := by decide +kernel
theorem dX5_cutOut_56 : Dc KX5_cutOut 56 (.iinc 4 1) 3 := by decide +kernel
theorem dX5_cutOut_59 : Dc KX5_cutOut 59 (.goto (-54)) 3 := by decide +kernel
theorem dX5_cutOut_62 : Dc KX5_cutOut 62 (.aload_n 0) 1 := by decide +kernel
theorem dX5_cutOut_63 : Dc KX5_cutOut 63 (.getfield 15) 3 := by decide +kernel
theorem dX5_cutOut_66 : Dc KX5_cutOut 66 (.iload_n 3) 1 := by decide +kernel
theorem dX5_cutOut_67 : Dc KX5_cutOut 67 (.isub) 1 := by decide +kernel
theorem dX5_cutOut_68 : Dc KX5_cutOut 68 (.istore 4) 2 := by decide +kernel
theorem dX5_cutOut_70 : Dc KX5_cutOut 70 (.aload_n 0) 1 := by decide +kernel
theorem dX5_cutOut_71 : Dc KX5_cutOut 71 (.iload_n 3) 1 := by decide +kernel
theorem dX5_cutOut_72 : Dc KX5_cutOut 72 (.putfield 15) 3 := by decide +kernel
theorem dX5_cutOut_75 : Dc KX5_cutOut 75 (.iload 4) 2 := by decide +kernel
theorem dX5_cutOut_77 : Dc KX5_cutOut 77 (.ireturn) 1 := by decide +kernel
theorem dX5_moveBy_0 : Dc KX5_moveBy 0 (.iconst 0) 1 := by decide +kernel
theorem dX5_moveBy_1 : Dc KX5_moveBy 1 (.istore_n 2) 1 := by decide +kernel
theorem dX5_moveBy_2 : Dc KX5_moveBy 2 (.iload_n 2) 1 := by decide +kernel
theorem dX5_moveBy_3 : Dc KX5_moveBy 3 (.aload_n 0) 1 := by decide +kernel
theorem dX5_moveBy_4 : Dc KX5_moveBy 4 (.getfield 15) 3 := by decide +kernel
theorem dX5_moveBy_7 : Dc KX5_moveBy 7 (.if_icmp .ge 28) 3 := by decide +kernel
theorem dX5_moveBy_10 : Dc KX5_moveBy 10 (.iload_n 2) 1 := by decide +kernel
theorem dX5_moveBy_11 : Dc KX5_moveBy 11 (.aload_n 0) 1 := by decide +kernel
theorem dX5_moveBy_12 : Dc KX5_moveBy 12 (.getfield 9) 3 := by decide +kernel
theorem dX5_moveBy_15 : Dc KX5_moveBy 15 (.arraylength) 1 := by decide +kernel
theorem dX5_moveBy_16 : Dc KX5_moveBy 16 (.if_icmp .ge 19) 3 := by decide +kernel
theorem dX5_moveBy_19 : Dc KX5_moveBy 19 (.aload_n 0) 1 := by decide +kernel
theorem dX5_moveBy_20 : Dc KX5_moveBy 20 (.getfield 9) 3 := by decide +kernel
theorem dX5_moveBy_23 : Dc KX5_moveBy 23 (.iload_n 2) 1 := by decide +kernel
theorem dX5_moveBy_24 : Dc KX5_moveBy 24 (.dup2) 1 := by decide +kernel
theorem dX5_moveBy_25 : Dc KX5_moveBy 25 (.iaload) 1 := by decide +kernel
theorem dX5_moveBy_26 : Dc KX5_moveBy 26 (.iload_n 1) 1 := by decide +kernel
theorem dX5_moveBy_27 : Dc KX5_moveBy 27 (.iadd) 1 := by decide +kernel
theorem dX5_moveBy_28 : Dc KX5_moveBy 28 (.iastore) 1 := by decide +kernel
theorem dX5_moveBy_29 : Dc KX5_moveBy 29 (.iinc 2 1) 3 := by decide +kernel
theorem dX5_moveBy_32 : Dc KX5_moveBy 32 (.goto (-30)) 3 := by decide +kernel
theorem dX5_moveBy_35 : Dc KX5_moveBy 35 (.return_) 1 := by decide +kernel
theorem dX5_copyFrom_0 : Dc KX5_copyFrom 0 (.aload_n 0) 1 := by decide +kernel
theorem dX5_copyFrom_1 : Dc KX5_copyFrom 1 (.aload_n 1) 1 := by decide +kernel
theorem dX5_copyFrom_2 : Dc KX5_copyFrom 2 (.invokevirtual 42) 3 := by decide +kernel
theorem dX5_copyFrom_5 : Dc KX5_copyFrom 5 (.aload_n 0) 1 := by decide +kernel
theorem dX5_copyFrom_6 : Dc KX5_copyFrom 6 (.getfield 9) 3 := by decide +kernel
theorem dX5_copyFrom_9 : Dc KX5_copyFrom 9 (.arraylength) 1 := by decide +kernel
theorem dX5_copyFrom_10 : Dc KX5_copyFrom 10 (.invokestatic 55) 3 := by decide +kernel
theorem dX5_copyFrom_13 : Dc KX5_copyFrom 13 (.putfield 15) 3 := by decide +kernel
theorem dX5_copyFrom_16 : Dc KX5_copyFrom 16 (.iconst 0) 1 := by decide +kernel
theorem dX5_copyFrom_17 : Dc KX5_copyFrom 17 (.istore_n 2) 1 := by decide +kernel
theorem dX5_copyFrom_18 : Dc KX5_copyFrom 18 (.iload_n 2) 1 := by decide +kernel
theorem dX5_copyFrom_19 : Dc KX5_copyFrom 19 (.aload_n 0) 1 := by decide +kernel
theorem dX5_copyFrom_20 : Dc KX5_copyFrom 20 (.getfield 15) 3 := by decide +kernel
theorem dX5_copyFrom_23 : Dc KX5_copyFrom 23 (.if_icmp .ge 29) 3 := by decide +kernel
theorem dX5_copyFrom_26 : Dc KX5_copyFrom 26 (.iload_n 2) 1 := by decide +kernel
theorem dX5_copyFrom_27 : Dc KX5_copyFrom 27 (.aload_n 0) 1 := by decide +kernel
theorem dX5_copyFrom_28 : Dc KX5_copyFrom 28 (.getfield 9) 3 := by decide +kernel
theorem dX5_copyFrom_31 : Dc KX5_copyFrom 31 (.arraylength) 1 := by decide +kernel
theorem dX5_copyFrom_32 : Dc KX5_copyFrom 32 (.if_icmp .ge 20) 3 := by decide +kernel
theorem dX5_copyFrom_35 : Dc KX5_copyFrom 35 (.aload_n 0) 1 := by decide +kernel
theorem dX5_copyFrom_36 : Dc KX5_copyFrom 36 (.getfield 9) 3 := by decide +kernel
theorem dX5_copyFrom_39 : Dc KX5_copyFrom 39 (.iload_n 2) 1 := by decide +kernel
theorem dX5_copyFrom_40 : Dc KX5_copyFrom 40 (.aload_n 1) 1 := by decide +kernel
theorem dX5_copyFrom_41 : Dc KX5_copyFrom 41 (.iload_n 2) 1 := by decide +kernel
theorem dX5_copyFrom_42 : Dc KX5_copyFrom 42 (.invokevirtual 19) 3 := by decide +kernel
theorem dX5_copyFrom_45 : Dc KX5_copyFrom 45 (.iastore) 1 := by decide +kernel
theorem dX5_copyFrom_46 : Dc KX5_copyFrom 46 (.iinc 2 1) 3 := by decide +kernel
theorem dX5_copyFrom_49 : Dc KX5_copyFrom 49 (.goto (-31)) 3 := by decide +kernel
theorem dX5_copyFrom_52 : Dc KX5_copyFrom 52 (.return_) 1 := by decide +kernel
theorem dX6_init_0 : Dc KX6_init 0 (.aload_n 0) 1 := by decide +kernel
theorem dX6_init_1 : Dc KX6_init 1 (.invokespecial 3) 3 := by decide +kernel
theorem dX6_init_4 : Dc KX6_init 4 (.aload_n 0) 1 := by decide +kernel
theorem dX6_init_5 : Dc KX6_init 5 (.bipush 60) 2 := by decide +kernel
theorem dX6_init_7 : Dc KX6_init 7 (.newarray .int) 2 := by decide +kernel
theorem dX6_init_9 : Dc KX6_init 9 (.putfield 9) 3 := by decide +kernel
theorem dX6_init_12 : Dc KX6_init 12 (.aload_n 0) 1 := by decide +kernel
theorem dX6_init_13 : Dc KX6_init 13 (.bipush 60) 2 := by decide +kernel
theorem dX6_init_15 : Dc KX6_init 15 (.newarray .int) 2 := by decide +kernel
theorem dX6_init_17 : Dc KX6_init 17 (.putfield 15) 3 := by decide +kernel
theorem dX6_init_20 : Dc KX6_init 20 (.aload_n 0) 1 := by decide +kernel
theorem dX6_init_21 : Dc KX6_init 21 (.invokevirtual 18) 3 := by decide +kernel
theorem dX6_init_24 : Dc KX6_init 24 (.return_) 1 := by decide +kernel
theorem dX6_parse_0 : Dc KX6_parse 0 (.aload_n 0) 1 := by decide +kernel
theorem dX6_parse_1 : Dc KX6_parse 1 (.invokevirtual 18) 3 := by decide +kernel
theorem dX6_parse_4 : Dc KX6_parse 4 (.iconst 0) 1 := by decide +kernel
theorem dX6_parse_5 : Dc KX6_parse 5 (.istore_n 2) 1 := by decide +kernel
theorem dX6_parse_6 : Dc KX6_parse 6 (.iload_n 2) 1 := by decide +kernel
theorem dX6_parse_7 : Dc KX6_parse 7 (.aload_n 1) 1 := by decide +kernel
theorem dX6_parse_8 : Dc KX6_parse 8 (.invokevirtual 21) 3 := by decide +kernel
theorem dX6_parse_11 : Dc KX6_parse 11 (.if_icmp .ge 23) 3 := by decide +kernel
theorem dX6_parse_14 : Dc KX6_parse 14 (.aload_n 0) 1 := by decide +kernel
theorem dX6_parse_15 : Dc KX6_parse 15 (.aload_n 1) 1 := by decide +kernel
theorem dX6_parse_16 : Dc KX6_parse 16 (.iload_n 2) 1 := by decide +kernel
theorem dX6_parse_17 : Dc KX6_parse 17 (.invokevirtual 27) 3 := by decide +kernel
theorem dX6_parse_20 : Dc KX6_parse 20 (.invokevirtual 31) 3 := by decide +kernel
theorem dX6_parse_23 : Dc KX6_parse 23 (.ifCond .ne 5) 3 := by decide +kernel
theorem dX6_parse_26 : Dc KX6_parse 26 (.iload_n 2) 1 := by decide +kernel
theorem dX6_parse_27 : Dc KX6_parse 27 (.ireturn) 1 := by decide +kernel
theorem dX6_parse_28 : Dc KX6_parse 28 (.iinc 2 1) 3 := by decide +kernel
theorem dX6_parse_31 : Dc KX6_parse 31 (.goto (-25)) 3 := by decide +kernel
theorem dX6_parse_34 : Dc KX6_parse 34 (.aload_n 1) 1 := by decide +kernel
theorem dX6_parse_35 : Dc KX6_parse 35 (.invokevirtual 21) 3 := by decide +kernel
theorem dX6_parse_38 : Dc KX6_parse 38 (.ireturn) 1 := by decide +kernel
theorem dX6_parsesWhole_0 : Dc KX6_parsesWhole 0 (.aload_n 0) 1 := by decide +kernel
theorem dX6_parsesWhole_1 : Dc KX6_parsesWhole 1 (.aload_n 1) 1 := by decide +kernel
theorem dX6_parsesWhole_2 : Dc KX6_parsesWhole 2 (.invokevirtual 35) 3 := by decide +kernel
theorem dX6_parsesWhole_5 : Dc KX6_parsesWhole 5 (.aload_n 1) 1 := by decide +kernel
theorem dX6_parsesWhole_6 : Dc KX6_parsesWhole 6 (.invokevirtual 21) 3 := by decide +kernel
theorem dX6_parsesWhole_9 : Dc KX6_parsesWhole 9 (.if_icmp .lt 10) 3 := by decide +kernel
theorem dX6_parsesWhole_12 : Dc KX6_parsesWhole 12 (.aload_n 0) 1 := by decide +kernel
theorem dX6_parsesWhole_13 : Dc KX6_parsesWhole 13 (.invokevirtual 39) 3 := by decide +kernel
theorem dX6_parsesWhole_16 : Dc KX6_parsesWhole 16 (.ifCond .ne 5) 3 := by decide +kernel
theorem dX6_parsesWhole_19 : Dc KX6_parsesWhole 19 (.iconst 0) 1 := by decide +kernel
theorem dX6_parsesWhole_20 : Dc KX6_parsesWhole 20 (.ireturn) 1 := by decide +kernel
theorem dX6_parsesWhole_21 : Dc KX6_parsesWhole 21 (.aload_n 0) 1 := by decide +kernel
theorem dX6_parsesWhole_22 : Dc KX6_parsesWhole 22 (.invokevirtual 43) 3 := by decide +kernel
theorem dX6_parsesWhole_25 : Dc KX6_parsesWhole 25 (.iconst 1) 1 := by decide +kernel
theorem dX6_parsesWhole_26 : Dc KX6_parsesWhole 26 (.ireturn) 1 := by decide +kernel
theorem dX6_amount_0 : Dc KX6_amount 0 (.iconst 0) 1 := by decide +kernel
theorem dX6_amount_1 : Dc KX6_amount 1 (.istore_n 1) 1 := by decide +kernel
theorem dX6_amount_2 : Dc KX6_amount 2 (.iconst 0) 1 := by decide +kernel
theorem dX6_amount_3 : Dc KX6_amount 3 (.istore_n 2) 1 := by decide +kernel
theorem dX6_amount_4 : Dc KX6_amount 4 (.iload_n 2) 1 := by decide +kernel
theorem dX6_amount_5 : Dc KX6_amount 5 (.aload_n 0) 1 := by decide +kernel
theorem dX6_amount_6 : Dc KX6_amount 6 (.getfield 46) 3 := by decide +kernel
theorem dX6_amount_9 : Dc KX6_amount 9 (.if_icmp .ge 45) 3 := by decide +kernel
theorem dX6_amount_12 : Dc KX6_amount 12 (.iload_n 2) 1 := by decide +kernel
theorem dX6_amount_13 : Dc KX6_amount 13 (.aload_n 0) 1 := by decide +kernel
theorem dX6_amount_14 : Dc KX6_amount 14 (.getfield 9) 3 := by decide +kernel
theorem dX6_amount_17 : Dc KX6_amount 17 (.arraylength) 1 := by decide +kernel
theorem dX6_amount_18 : Dc KX6_amount 18 (.if_icmp .ge 36) 3 := by decide +kernel
theorem dX6_amount_21 : Dc KX6_amount 21 (.iload_n 2) 1 := by decide +kernel
theorem dX6_amount_22 : Dc KX6_amount 22 (.aload_n 0) 1 := by decide +kernel
theorem dX6_amount_23 : Dc KX6_amount 23 (.getfield 15) 3 := by decide +kernel
theorem dX6_amount_26 : Dc KX6_amount 26 (.arraylength) 1 := by decide +kernel
theorem dX6_amount_27 : Dc KX6_amount 27 (.if_icmp .ge 27) 3 := by decide +kernel
theorem dX6_amount_30 : Dc KX6_amount 30 (.iload_n 1) 1 := by decide +kernel
theorem dX6_amount_31 : Dc KX6_amount 31 (.aload_n 0) 1 := by decide +kernel
theorem dX6_amount_32 : Dc KX6_amount 32 (.getfield 15) 3 := by decide +kernel
theorem dX6_amount_35 : Dc KX6_amount 35 (.iload_n 2) 1 := by decide +kernel
theorem dX6_amount_36 : Dc KX6_amount 36 (.iaload) 1 := by decide +kernel
theorem dX6_amount_37 : Dc KX6_amount 37 (.aload_n 0) 1 := by decide +kernel
theorem dX6_amount_38 : Dc KX6_amount 38 (.getfield 9) 3 := by decide +kernel
theorem dX6_amount_41 : Dc KX6_amount 41 (.iload_n 2) 1 := by decide +kernel
theorem dX6_amount_42 : Dc KX6_amount 42 (.iaload) 1 := by decide +kernel
theorem dX6_amount_43 : Dc KX6_amount 43 (.isub) 1 := by decide +kernel
theorem dX6_amount_44 : Dc KX6_amount 44 (.iconst 1) 1 := by decide +kernel
theorem dX6_amount_45 : Dc KX6_amount 45 (.iadd) 1 := by decide +kernel
theorem dX6_amount_46 : Dc KX6_amount 46 (.iadd) 1 := by decide +kernel
theorem dX6_amount_47 : Dc KX6_amount 47 (.istore_n 1) 1 := by decide +kernel
theorem dX6_amount_48 : Dc KX6_amount 48 (.iinc 2 1) 3 := by decide +kernel
theorem dX6_amount_51 : Dc KX6_amount 51 (.goto (-47)) 3 := by decide +kernel
theorem dX6_amount_54 : Dc KX6_amount 54 (.iload_n 1) 1 := by decide +kernel
theorem dX6_amount_55 : Dc KX6_amount 55 (.ireturn) 1 := by decide +kernel
theorem dX6_fill_0 : Dc KX6_fill 0 (.aload_n 1) 1 := by decide +kernel
theorem dX6_fill_1 : Dc KX6_fill 1 (.invokevirtual 50) 3 := by decide +kernel
theorem dX6_fill_4 : Dc KX6_fill 4 (.iconst 0) 1 := by decide +kernel
theorem dX6_fill_5 : Dc KX6_fill 5 (.istore_n 2) 1 := by decide +kernel
theorem dX6_fill_6 : Dc KX6_fill 6 (.iload_n 2) 1 := by decide +kernel
theorem dX6_fill_7 : Dc KX6_fill 7 (.aload_n 0) 1 := by decide +kernel
theorem dX6_fill_8 : Dc KX6_fill 8 (.getfield 46) 3 := by decide +kernel
theorem dX6_fill_11 : Dc KX6_fill 11 (.if_icmp .ge 55) 3 := by decide +kernel
theorem dX6_fill_14 : Dc KX6_fill 14 (.iload_n 2) 1 := by decide +kernel
theorem dX6_fill_15 : Dc KX6_fill 15 (.aload_n 0) 1 := by decide +kernel
theorem dX6_fill_16 : Dc KX6_fill 16 (.getfield 9) 3 := by decide +kernel
theorem dX6_fill_19 : Dc KX6_fill 19 (.arraylength) 1 := by decide +kernel
theorem dX6_fill_20 : Dc KX6_fill 20 (.if_icmp .ge 46) 3 := by decide +kernel
theorem dX6_fill_23 : Dc KX6_fill 23 (.iload_n 2) 1 := by decide +kernel
theorem dX6_fill_24 : Dc KX6_fill 24 (.aload_n 0) 1 := by decide +kernel
theorem dX6_fill_25 : Dc KX6_fill 25 (.getfield 15) 3 := by decide +kernel
theorem dX6_fill_28 : Dc KX6_fill 28 (.arraylength) 1 := by decide +kernel
theorem dX6_fill_29 : Dc KX6_fill 29 (.if_icmp .ge 37) 3 := by decide +kernel
theorem dX6_fill_32 : Dc KX6_fill 32 (.aload_n 0) 1 := by decide +kernel
theorem dX6_fill_33 : Dc KX6_fill 33 (.getfield 9) 3 := by decide +kernel
theorem dX6_fill_36 : Dc KX6_fill 36 (.iload_n 2) 1 := by decide +kernel
theorem dX6_fill_37 : Dc KX6_fill 37 (.iaload) 1 := by decide +kernel
theorem dX6_fill_38 : Dc KX6_fill 38 (.istore_n 3) 1 := by decide +kernel
theorem dX6_fill_39 : Dc KX6_fill 39 (.iload_n 3) 1 := by decide +kernel
theorem dX6_fill_40 : Dc KX6_fill 40 (.aload_n 0) 1 := by decide +kernel
theorem dX6_fill_41 : Dc KX6_fill 41 (.getfield 15) 3 := by decide +kernel
theorem dX6_fill_44 : Dc KX6_fill 44 (.iload_n 2) 1 := by decide +kernel
theorem dX6_fill_45 : Dc KX6_fill 45 (.iaload) 1 := by decide +kernel
theorem dX6_fill_46 : Dc KX6_fill 46 (.if_icmp .gt 14) 3 := by decide +kernel
theorem dX6_fill_49 : Dc KX6_fill 49 (.aload_n 1) 1 := by decide +kernel
theorem dX6_fill_50 : Dc KX6_fill 50 (.iload_n 3) 1 := by decide +kernel
theorem dX6_fill_51 : Dc KX6_fill 51 (.invokevirtual 55) 3 := by decide +kernel
theorem dX6_fill_54 : Dc KX6_fill 54 (.iinc 3 1) 3 := by decide +kernel
theorem dX6_fill_57 : Dc KX6_fill 57 (.goto (-18)) 3 := by decide +kernel
theorem dX6_fill_60 : Dc KX6_fill 60 (.iinc 2 1) 3 := by decide +kernel
theorem dX6_fill_63 : Dc KX6_fill 63 (.goto (-57)) 3 := by decide +kernel
theorem dX6_fill_66 : Dc KX6_fill 66 (.return_) 1 := by decide +kernel
theorem dX6_restart_0 : Dc KX6_restart 0 (.aload_n 0) 1 := by decide +kernel
theorem dX6_restart_1 : Dc KX6_restart 1 (.iconst 0) 1 := by decide +kernel
theorem dX6_restart_2 : Dc KX6_restart 2 (.putfield 46) 3 := by decide +kernel
theorem dX6_restart_5 : Dc KX6_restart 5 (.aload_n 0) 1 := by decide +kernel
theorem dX6_restart_6 : Dc KX6_restart 6 (.iconst 0) 1 := by decide +kernel
theorem dX6_restart_7 : Dc KX6_restart 7 (.putfield 59) 3 := by decide +kernel
theorem dX6_restart_10 : Dc KX6_restart 10 (.aload_n 0) 1 := by decide +kernel
theorem dX6_restart_11 : Dc KX6_restart 11 (.iconst 0) 1 := by decide +kernel
theorem dX6_restart_12 : Dc KX6_restart 12 (.putfield 63) 3 := by decide +kernel
theorem dX6_restart_15 : Dc KX6_restart 15 (.aload_n 0) 1 := by decide +kernel
theorem dX6_restart_16 : Dc KX6_restart 16 (.iconst 0) 1 := by decide +kernel
theorem dX6_restart_17 : Dc KX6_restart 17 (.invokevirtual 66) 3 := by decide +kernel
theorem dX6_restart_20 : Dc KX6_restart 20 (.return_) 1 := by decide +kernel
theorem dX6_beginNumber_0 : Dc KX6_beginNumber 0 (.aload_n 0) 1 := by decide +kernel
theorem dX6_beginNumber_1 : Dc KX6_beginNumber 1 (.iload_n 1) 1 := by decide +kernel
theorem dX6_beginNumber_2 : Dc KX6_beginNumber 2 (.putfield 69) 3 := by decide +kernel
theorem dX6_beginNumber_5 : Dc KX6_beginNumber 5 (.aload_n 0) 1 := by decide +kernel
theorem dX6_beginNumber_6 : Dc KX6_beginNumber 6 (.iconst 0) 1 := by decide +kernel
theorem dX6_beginNumber_7 : Dc KX6_beginNumber 7 (.putfield 72) 3 := by decide +kernel
theorem dX6_beginNumber_10 : Dc KX6_beginNumber 10 (.aload_n 0) 1 := by decide +kernel
theorem dX6_beginNumber_11 : Dc KX6_beginNumber 11 (.iconst 0) 1 := by decide +kernel
theorem dX6_beginNumber_12 : Dc KX6_beginNumber 12 (.putfield 75) 3 := by decide +kernel
theorem dX6_beginNumber_15 : Dc KX6_beginNumber 15 (.return_) 1 := by decide +kernel
theorem dX6_takes_0 : Dc KX6_takes 0 (.iload_n 1) 1 := by decide +kernel
theorem dX6_takes_1 : Dc KX6_takes 1 (.bipush 44) 2 := by decide +kernel
theorem dX6_takes_3 : Dc KX6_takes 3 (.if_icmp .ne 8) 3 := by decide +kernel
theorem dX6_takes_6 : Dc KX6_takes 6 (.aload_n 0) 1 := by decide +kernel
theorem dX6_takes_7 : Dc KX6_takes 7 (.invokevirtual 78) 3 := by decide +kernel
theorem dX6_takes_10 : Dc KX6_takes 10 (.ireturn) 1 := by decide +kernel
theorem dX6_takes_11 : Dc KX6_takes 11 (.iload_n 1) 1 := by decide +kernel
theorem dX6_takes_12 : Dc KX6_takes 12 (.bipush 45) 2 := by decide +kernel
theorem dX6_takes_14 : Dc KX6_takes 14 (.if_icmp .ne 8) 3 := by decide +kernel
theorem dX6_takes_17 : Dc KX6_takes 17 (.aload_n 0) 1 := by decide +kernel
theorem dX6_takes_18 : Dc KX6_takes 18 (.invokevirtual 81) 3 := by decide +kernel
theorem dX6_takes_21 : Dc KX6_takes 21 (.ireturn) 1 := by decide +kernel
theorem dX6_takes_22 : Dc KX6_takes 22 (.iload_n 1) 1 := by decide +kernel
theorem dX6_takes_23 : Dc KX6_takes 23 (.bipush 48) 2 := by decide +kernel
theorem dX6_takes_25 : Dc KX6_takes 25 (.if_icmp .lt 24) 3 := by decide +kernel
theorem dX6_takes_28 : Dc KX6_takes 28 (.iload_n 1) 1 := by decide +kernel
theorem dX6_takes_29 : Dc KX6_takes 29 (.bipush 57) 2 := by decide +kernel
theorem dX6_takes_31 : Dc KX6_takes 31 (.if_icmp .gt 18) 3 := by decide +kernel
theorem dX6_takes_34 : Dc KX6_takes 34 (.aload_n 0) 1 := by decide +kernel
theorem dX6_takes_35 : Dc KX6_takes 35 (.iload_n 1) 1 := by decide +kernel
theorem dX6_takes_36 : Dc KX6_takes 36 (.bipush 48) 2 := by decide +kernel
theorem dX6_takes_38 : Dc KX6_takes 38 (.isub) 1 := by decide +kernel
theorem dX6_takes_39 : Dc KX6_takes 39 (.invokevirtual 84) 3 := by decide +kernel
theorem dX6_takes_42 : Dc KX6_takes 42 (.ifCond .eq 7) 3 := by decide +kernel
theorem dX6_takes_45 : Dc KX6_takes 45 (.iconst 1) 1 := by decide +kernel
theorem dX6_takes_46 : Dc KX6_takes 46 (.goto 4) 3 := by decide +kernel
theorem dX6_takes_49 : Dc KX6_takes 49 (.iconst 0) 1 := by decide +kernel
theorem dX6_takes_50 : Dc KX6_takes 50 (.ireturn) 1 := by decide +kernel
theorem dX6_takesComma_0 : Dc KX6_takesComma 0 (.aload_n 0) 1 := by decide +kernel
theorem dX6_takesComma_1 : Dc KX6_takesComma 1 (.invokevirtual 39) 3 := by decide +kernel
theorem dX6_takesComma_4 : Dc KX6_takesComma 4 (.ifCond .eq 13) 3 := by decide +kernel
theorem dX6_takesComma_7 : Dc KX6_takesComma 7 (.aload_n 0) 1 := by decide +kernel
theorem dX6_takesComma_8 : Dc KX6_takesComma 8 (.getfield 72) 3 := by decide +kernel
theorem dX6_takesComma_11 : Dc KX6_takesComma 11 (.sipush 9999) 3 := by decide +kernel
theorem dX6_takesComma_14 : Dc KX6_takesComma 14 (.if_icmp .lt 5) 3 := by decide +kernel
theorem dX6_takesComma_17 : Dc KX6_takesComma 17 (.iconst 0) 1 := by decide +kernel
theorem dX6_takesComma_18 : Dc KX6_takesComma 18 (.ireturn) 1 := by decide +kernel
theorem dX6_takesComma_19 : Dc KX6_takesComma 19 (.aload_n 0) 1 := by decide +kernel
theorem dX6_takesComma_20 : Dc KX6_takesComma 20 (.invokevirtual 43) 3 := by decide +kernel
theorem dX6_takesComma_23 : Dc KX6_takesComma 23 (.aload_n 0) 1 := by decide +kernel
theorem dX6_takesComma_24 : Dc KX6_takesComma 24 (.iconst 0) 1 := by decide +kernel
theorem dX6_takesComma_25 : Dc KX6_takesComma 25 (.putfield 59) 3 := by decide +kernel
theorem dX6_takesComma_28 : Dc KX6_takesComma 28 (.aload_n 0) 1 := by decide +kernel
theorem dX6_takesComma_29 : Dc KX6_takesComma 29 (.aload_n 0) 1 := by decide +kernel
theorem dX6_takesComma_30 : Dc KX6_takesComma 30 (.getfield 72) 3 := by decide +kernel
theorem dX6_takesComma_33 : Dc KX6_takesComma 33 (.iconst 1) 1 := by decide +kernel
theorem dX6_takesComma_34 : Dc KX6_takesComma 34 (.iadd) 1 := by decide +kernel
theorem dX6_takesComma_35 : Dc KX6_takesComma 35 (.invokevirtual 66) 3 := by decide +kernel
theorem dX6_takesComma_38 : Dc KX6_takesComma 38 (.iconst 1) 1 := by decide +kernel
theorem dX6_takesComma_39 : Dc KX6_takesComma 39 (.ireturn) 1 := by decide +kernel
theorem dX6_takesDash_0 : Dc KX6_takesDash 0 (.aload_n 0) 1 := by decide +kernel
theorem dX6_takesDash_1 : Dc KX6_takesDash 1 (.invokevirtual 39) 3 := by decide +kernel
theorem dX6_takesDash_4 : Dc KX6_takesDash 4 (.ifCond .eq 10) 3 := by decide +kernel
theorem dX6_takesDash_7 : Dc KX6_takesDash 7 (.aload_n 0) 1 := by decide +kernel
theorem dX6_takesDash_8 : Dc KX6_takesDash 8 (.getfield 59) 3 := by decide +kernel
theorem dX6_takesDash_11 : Dc KX6_takesDash 11 (.ifCond .eq 5) 3 := by decide +kernel
theorem dX6_takesDash_14 : Dc KX6_takesDash 14 (.iconst 0) 1 := by decide +kernel
theorem dX6_takesDash_15 : Dc KX6_takesDash 15 (.ireturn) 1 := by decide +kernel
theorem dX6_takesDash_16 : Dc KX6_takesDash 16 (.aload_n 0) 1 := by decide +kernel
theorem dX6_takesDash_17 : Dc KX6_takesDash 17 (.aload_n 0) 1 := by decide +kernel
theorem dX6_takesDash_18 : Dc KX6_takesDash 18 (.getfield 72) 3 := by decide +kernel
theorem dX6_takesDash_21 : Dc KX6_takesDash 21 (.putfield 63) 3 := by decide +kernel
theorem dX6_takesDash_24 : Dc KX6_takesDash 24 (.aload_n 0) 1 := by decide +kernel
theorem dX6_takesDash_25 : Dc KX6_takesDash 25 (.iconst 1) 1 := by decide +kernel
theorem dX6_takesDash_26 : Dc KX6_takesDash 26 (.putfield 59) 3 := by decide +kernel
theorem dX6_takesDash_29 : Dc KX6_takesDash 29 (.aload_n 0) 1 := by decide +kernel
theorem dX6_takesDash_30 : Dc KX6_takesDash 30 (.aload_n 0) 1 := by decide +kernel
theorem dX6_takesDash_31 : Dc KX6_takesDash 31 (.getfield 72) 3 := by decide +kernel
theorem dX6_takesDash_34 : Dc KX6_takesDash 34 (.invokevirtual 66) 3 := by decide +kernel
theorem dX6_takesDash_37 : Dc KX6_takesDash 37 (.iconst 1) 1 := by decide +kernel
theorem dX6_takesDash_38 : Dc KX6_takesDash 38 (.ireturn) 1 := by decide +kernel
theorem dX6_takesDigit_0 : Dc KX6_takesDigit 0 (.aload_n 0) 1 := by decide +kernel
theorem dX6_takesDigit_1 : Dc KX6_takesDigit 1 (.getfield 75) 3 := by decide +kernel
theorem dX6_takesDigit_4 : Dc KX6_takesDigit 4 (.ifCond .le 14) 3 := by decide +kernel
theorem dX6_takesDigit_7 : Dc KX6_takesDigit 7 (.aload_n 0) 1 := by decide +kernel
theorem dX6_takesDigit_8 : Dc KX6_takesDigit 8 (.getfield 72) 3 := by decide +kernel
theorem dX6_takesDigit_11 : Dc KX6_takesDigit 11 (.ifCond .ne 7) 3 := by decide +kernel
theorem dX6_takesDigit_14 : Dc KX6_takesDigit 14 (.iconst 1) 1 := by decide +kernel
theorem dX6_takesDigit_15 : Dc KX6_takesDigit 15 (.goto 4) 3 := by decide +kernel
theorem dX6_takesDigit_18 : Dc KX6_takesDigit 18 (.iconst 0) 1 := by decide +kernel
theorem dX6_takesDigit_19 : Dc KX6_takesDigit 19 (.istore_n 2) 1 := by decide +kernel
theorem dX6_takesDigit_20 : Dc KX6_takesDigit 20 (.iload_n 2) 1 := by decide +kernel
theorem dX6_takesDigit_21 : Dc KX6_takesDigit 21 (.ifCond .ne 11) 3 := by decide +kernel
theorem dX6_takesDigit_24 : Dc KX6_takesDigit 24 (.aload_n 0) 1 := by decide +kernel
theorem dX6_takesDigit_25 : Dc KX6_takesDigit 25 (.getfield 75) 3 := by decide +kernel
theorem dX6_takesDigit_28 : Dc KX6_takesDigit 28 (.iconst 4) 1 := by decide +kernel
theorem dX6_takesDigit_29 : Dc KX6_takesDigit 29 (.if_icmp .lt 5) 3 := by decide +kernel
theorem dX6_takesDigit_32 : Dc KX6_takesDigit 32 (.iconst 0) 1 := by decide +kernel
theorem dX6_takesDigit_33 : Dc KX6_takesDigit 33 (.ireturn) 1 := by decide +kernel
theorem dX6_takesDigit_34 : Dc KX6_takesDigit 34 (.bipush 10) 2 := by decide +kernel
theorem dX6_takesDigit_36 : Dc KX6_takesDigit 36 (.aload_n 0) 1 := by decide +kernel
theorem dX6_takesDigit_37 : Dc KX6_takesDigit 37 (.getfield 72) 3 := by decide +kernel
theorem dX6_takesDigit_40 : Dc KX6_takesDigit 40 (.imul) 1 := by decide +kernel
theorem dX6_takesDigit_41 : Dc KX6_takesDigit 41 (.iload_n 1) 1 := by decide +kernel
theorem dX6_takesDigit_42 : Dc KX6_takesDigit 42 (.iadd) 1 := by decide +kernel
theorem dX6_takesDigit_43 : Dc KX6_takesDigit 43 (.istore_n 3) 1 := by decide +kernel
theorem dX6_takesDigit_44 : Dc KX6_takesDigit 44 (.iload_n 3) 1 := by decide +kernel
theorem dX6_takesDigit_45 : Dc KX6_takesDigit 45 (.aload_n 0) 1 := by decide +kernel
theorem dX6_takesDigit_46 : Dc KX6_takesDigit 46 (.getfield 75) 3 := by decide +kernel
theorem dX6_takesDigit_49 : Dc KX6_takesDigit 49 (.iconst 1) 1 := by decide +kernel
theorem dX6_takesDigit_50 : Dc KX6_takesDigit 50 (.iadd) 1 := by decide +kernel
theorem dX6_takesDigit_51 : Dc KX6_takesDigit 51 (.invokestatic 87) 3 := by decide +kernel
theorem dX6_takesDigit_54 : Dc KX6_takesDigit 54 (.aload_n 0) 1 := by decide +kernel
theorem dX6_takesDigit_55 : Dc KX6_takesDigit 55 (.getfield 69) 3 := by decide +kernel
theorem dX6_takesDigit_58 : Dc KX6_takesDigit 58 (.if_icmp .ge 5) 3 := by decide +kernel
theorem dX6_takesDigit_61 : Dc KX6_takesDigit 61 (.iconst 0) 1 := by decide +kernel
theorem dX6_takesDigit_62 : Dc KX6_takesDigit 62 (.ireturn) 1 := by decide +kernel
theorem dX6_takesDigit_63 : Dc KX6_takesDigit 63 (.aload_n 0) 1 := by decide +kernel
theorem dX6_takesDigit_64 : Dc KX6_takesDigit 64 (.iload_n 3) 1 := by decide +kernel
theorem dX6_takesDigit_65 : Dc KX6_takesDigit 65 (.putfield 72) 3 := by decide +kernel
theorem dX6_takesDigit_68 : Dc KX6_takesDigit 68 (.aload_n 0) 1 := by decide +kernel
theorem dX6_takesDigit_69 : Dc KX6_takesDigit 69 (.dup) 1 := by decide +kernel
theorem dX6_takesDigit_70 : Dc KX6_takesDigit 70 (.getfield 75) 3 := by decide +kernel
theorem dX6_takesDigit_73 : Dc KX6_takesDigit 73 (.iconst 1) 1 := by decide +kernel
theorem dX6_takesDigit_74 : Dc KX6_takesDigit 74 (.iadd) 1 := by decide +kernel
theorem dX6_takesDigit_75 : Dc KX6_takesDigit 75 (.putfield 75) 3 := by decide +kernel
theorem dX6_takesDigit_78 : Dc KX6_takesDigit 78 (.iconst 1) 1 := by decide +kernel
theorem dX6_takesDigit_79 : Dc KX6_takesDigit 79 (.ireturn) 1 := by decide +kernel
theorem dX6_isWhole_0 : Dc KX6_isWhole 0 (.aload_n 0) 1 := by decide +kernel
theorem dX6_isWhole_1 : Dc KX6_isWhole 1 (.getfield 75) 3 := by decide +kernel
theorem dX6_isWhole_4 : Dc KX6_isWhole 4 (.ifCond .le 18) 3 := by decide +kernel
theorem dX6_isWhole_7 : Dc KX6_isWhole 7 (.aload_n 0) 1 := by decide +kernel
theorem dX6_isWhole_8 : Dc KX6_isWhole 8 (.getfield 72) 3 := by decide +kernel
theorem dX6_isWhole_11 : Dc KX6_isWhole 11 (.aload_n 0) 1 := by decide +kernel
theorem dX6_isWhole_12 : Dc KX6_isWhole 12 (.getfield 69) 3 := by decide +kernel
theorem dX6_isWhole_15 : Dc KX6_isWhole 15 (.if_icmp .lt 7) 3 := by decide +kernel
theorem dX6_isWhole_18 : Dc KX6_isWhole 18 (.iconst 1) 1 := by decide +kernel
theorem dX6_isWhole_19 : Dc KX6_isWhole 19 (.goto 4) 3 := by decide +kernel
theorem dX6_isWhole_22 : Dc KX6_isWhole 22 (.iconst 0) 1 := by decide +kernel
theorem dX6_isWhole_23 : Dc KX6_isWhole 23 (.ireturn) 1 := by decide +kernel
theorem dX6_closePart_0 : Dc KX6_closePart 0 (.aload_n 0) 1 := by decide +kernel
theorem dX6_closePart_1 : Dc KX6_closePart 1 (.getfield 46) 3 := by decide +kernel
theorem dX6_closePart_4 : Dc KX6_closePart 4 (.ifCond .lt 77) 3 := by decide +kernel
theorem dX6_closePart_7 : Dc KX6_closePart 7 (.aload_n 0) 1 := by decide +kernel
theorem dX6_closePart_8 : Dc KX6_closePart 8 (.getfield 46) 3 := by decide +kernel
theorem dX6_closePart_11 : Dc KX6_closePart 11 (.aload_n 0) 1 := by decide +kernel
theorem dX6_closePart_12 : Dc KX6_closePart 12 (.getfield 9) 3 := by decide +kernel
theorem dX6_closePart_15 : Dc KX6_closePart 15 (.arraylength) 1 := by decide +kernel
theorem dX6_closePart_16 : Dc KX6_closePart 16 (.if_icmp .ge 65) 3 := by decide +kernel
theorem dX6_closePart_19 : Dc KX6_closePart 19 (.aload_n 0) 1 := by decide +kernel
theorem dX6_closePart_20 : Dc KX6_closePart 20 (.getfield 46) 3 := by decide +kernel
theorem dX6_closePart_23 : Dc KX6_closePart 23 (.aload_n 0) 1 := by decide +kernel
theorem dX6_closePart_24 : Dc KX6_closePart 24 (.getfield 15) 3 := by decide +kernel
theorem dX6_closePart_27 : Dc KX6_closePart 27 (.arraylength) 1 := by decide +kernel
theorem dX6_closePart_28 : Dc KX6_closePart 28 (.if_icmp .ge 53) 3 := by decide +kernel
theorem dX6_closePart_31 : Dc KX6_closePart 31 (.aload_n 0) 1 := by decide +kernel
theorem dX6_closePart_32 : Dc KX6_closePart 32 (.getfield 9) 3 := by decide +kernel
theorem dX6_closePart_35 : Dc KX6_closePart 35 (.aload_n 0) 1 := by decide +kernel
theorem dX6_closePart_36 : Dc KX6_closePart 36 (.getfield 46) 3 := by decide +kernel
theorem dX6_closePart_39 : Dc KX6_closePart 39 (.aload_n 0) 1 := by decide +kernel
theorem dX6_closePart_40 : Dc KX6_closePart 40 (.getfield 59) 3 := by decide +kernel
theorem dX6_closePart_43 : Dc KX6_closePart 43 (.ifCond .eq 10) 3 := by decide +kernel
theorem dX6_closePart_46 : Dc KX6_closePart 46 (.aload_n 0) 1 := by decide +kernel
theorem dX6_closePart_47 : Dc KX6_closePart 47 (.getfield 63) 3 := by decide +kernel
theorem dX6_closePart_50 : Dc KX6_closePart 50 (.goto 7) 3 := by decide +kernel
theorem dX6_closePart_53 : Dc KX6_closePart 53 (.aload_n 0) 1 := by decide +kernel
theorem dX6_closePart_54 : Dc KX6_closePart 54 (.getfield 72) 3 := by decide +kernel
theorem dX6_closePart_57 : Dc KX6_closePart 57 (.iastore) 1 := by decide +kernel
theorem dX6_closePart_58 : Dc KX6_closePart 58 (.aload_n 0) 1 := by decide +kernel
theorem dX6_closePart_59 : Dc KX6_closePart 59 (.getfield 15) 3 := by decide +kernel
theorem dX6_closePart_62 : Dc KX6_closePart 62 (.aload_n 0) 1 := by decide +kernel
theorem dX6_closePart_63 : Dc KX6_closePart 63 (.getfield 46) 3 := by decide +kernel
theorem dX6_closePart_66 : Dc KX6_closePart 66 (.aload_n 0) 1 := by decide +kernel
theorem dX6_closePart_67 : Dc KX6_closePart 67 (.getfield 72) 3 := by decide +kernel
theorem dX6_closePart_70 : Dc KX6_closePart 70 (.iastore) 1 := by decide +kernel
theorem dX6_closePart_71 : Dc KX6_closePart 71 (.aload_n 0) 1 := by decide +kernel
theorem dX6_closePart_72 : Dc KX6_closePart 72 (.dup) 1 := by decide +kernel
theorem dX6_closePart_73 : Dc KX6_closePart 73 (.getfield 46) 3 := by decide +kernel
theorem dX6_closePart_76 : Dc KX6_closePart 76 (.iconst 1) 1 := by decide +kernel
theorem dX6_closePart_77 : Dc KX6_closePart 77 (.iadd) 1 := by decide +kernel
theorem dX6_closePart_78 : Dc KX6_closePart 78 (.putfield 46) 3 := by decide +kernel
theorem dX6_closePart_81 : Dc KX6_closePart 81 (.return_) 1 := by decide +kernel
theorem dX6_greatestFrom_0 : Dc KX6_greatestFrom 0 (.iload_n 0) 1 := by decide +kernel
theorem dX6_greatestFrom_1 : Dc KX6_greatestFrom 1 (.ifCond .ne 5) 3 := by decide +kernel
theorem dX6_greatestFrom_4 : Dc KX6_greatestFrom 4 (.iconst 0) 1 := by decide +kernel
theorem dX6_greatestFrom_5 : Dc KX6_greatestFrom 5 (.ireturn) 1 := by decide +kernel
theorem dX6_greatestFrom_6 : Dc KX6_greatestFrom 6 (.iload_n 0) 1 := by decide +kernel
theorem dX6_greatestFrom_7 : Dc KX6_greatestFrom 7 (.istore_n 2) 1 := by decide +kernel
theorem dX6_greatestFrom_8 : Dc KX6_greatestFrom 8 (.iload_n 1) 1 := by decide +kernel
theorem dX6_greatestFrom_9 : Dc KX6_greatestFrom 9 (.istore_n 3) 1 := by decide +kernel
theorem dX6_greatestFrom_10 : Dc KX6_greatestFrom 10 (.iload_n 3) 1 := by decide +kernel
theorem dX6_greatestFrom_11 : Dc KX6_greatestFrom 11 (.iconst 4) 1 := by decide +kernel
theorem dX6_greatestFrom_12 : Dc KX6_greatestFrom 12 (.if_icmp .ge 17) 3 := by decide +kernel
theorem dX6_greatestFrom_15 : Dc KX6_greatestFrom 15 (.bipush 10) 2 := by decide +kernel
theorem dX6_greatestFrom_17 : Dc KX6_greatestFrom 17 (.iload_n 2) 1 := by decide +kernel
theorem dX6_greatestFrom_18 : Dc KX6_greatestFrom 18 (.imul) 1 := by decide +kernel
theorem dX6_greatestFrom_19 : Dc KX6_greatestFrom 19 (.bipush 9) 2 := by decide +kernel
theorem dX6_greatestFrom_21 : Dc KX6_greatestFrom 21 (.iadd) 1 := by decide +kernel
theorem dX6_greatestFrom_22 : Dc KX6_greatestFrom 22 (.istore_n 2) 1 := by decide +kernel
theorem dX6_greatestFrom_23 : Dc KX6_greatestFrom 23 (.iinc 3 1) 3 := by decide +kernel
theorem dX6_greatestFrom_26 : Dc KX6_greatestFrom 26 (.goto (-16)) 3 := by decide +kernel
theorem dX6_greatestFrom_29 : Dc KX6_greatestFrom 29 (.iload_n 2) 1 := by decide +kernel
theorem dX6_greatestFrom_30 : Dc KX6_greatestFrom 30 (.ireturn) 1 := by decide +kernel
theorem dX7_init_0 : Dc KX7_init 0 (.aload_n 0) 1 := by decide +kernel
theorem dX7_init_1 : Dc KX7_init 1 (.invokespecial 3) 3 := by decide +kernel
theorem dX7_init_4 : Dc KX7_init 4 (.aload_n 0) 1 := by decide +kernel
theorem dX7_init_5 : Dc KX7_init 5 (.iconst 4) 1 := by decide +kernel
theorem dX7_init_6 : Dc KX7_init 6 (.anewarray 9) 3 := by decide +kernel
theorem dX7_init_9 : Dc KX7_init 9 (.putfield 11) 3 := by decide +kernel
theorem dX7_init_12 : Dc KX7_init 12 (.iconst 0) 1 := by decide +kernel
theorem dX7_init_13 : Dc KX7_init 13 (.istore_n 1) 1 := by decide +kernel
theorem dX7_init_14 : Dc KX7_init 14 (.iload_n 1) 1 := by decide +kernel
theorem dX7_init_15 : Dc KX7_init 15 (.iconst 4) 1 := by decide +kernel
theorem dX7_init_16 : Dc KX7_init 16 (.if_icmp .ge 24) 3 := by decide +kernel
theorem dX7_init_19 : Dc KX7_init 19 (.aload_n 0) 1 := by decide +kernel
theorem dX7_init_20 : Dc KX7_init 20 (.getfield 11) 3 := by decide +kernel
theorem dX7_init_23 : Dc KX7_init 23 (.iload_n 1) 1 := by decide +kernel
theorem dX7_init_24 : Dc KX7_init 24 (.new 9) 3 := by decide +kernel
theorem dX7_init_27 : Dc KX7_init 27 (.dup) 1 := by decide +kernel
theorem dX7_init_28 : Dc KX7_init 28 (.bipush 60) 2 := by decide +kernel
theorem dX7_init_30 : Dc KX7_init 30 (.invokespecial 17) 3 := by decide +kernel
theorem dX7_init_33 : Dc KX7_init 33 (.aastore) 1 := by decide +kernel
theorem dX7_init_34 : Dc KX7_init 34 (.iinc 1 1) 3 := by decide +kernel
theorem dX7_init_37 : Dc KX7_init 37 (.goto (-23)) 3 := by decide +kernel
theorem dX7_init_40 : Dc KX7_init 40 (.aload_n 0) 1 := by decide +kernel
theorem dX7_init_41 : Dc KX7_init 41 (.new 9) 3 := by decide +kernel
theorem dX7_init_44 : Dc KX7_init 44 (.dup) 1 := by decide +kernel
theorem dX7_init_45 : Dc KX7_init 45 (.iconst 0) 1 := by decide +kernel
theorem dX7_init_46 : Dc KX7_init 46 (.invokespecial 17) 3 := by decide +kernel
theorem dX7_init_49 : Dc KX7_init 49 (.putfield 20) 3 := by decide +kernel
theorem dX7_init_52 : Dc KX7_init 52 (.aload_n 0) 1 := by decide +kernel
theorem dX7_init_53 : Dc KX7_init 53 (.iconst 2) 1 := by decide +kernel
theorem dX7_init_54 : Dc KX7_init 54 (.newarray .int) 2 := by decide +kernel
theorem dX7_init_56 : Dc KX7_init 56 (.dup) 1 := by decide +kernel
theorem dX7_init_57 : Dc KX7_init 57 (.iconst 0) 1 := by decide +kernel
theorem dX7_init_58 : Dc KX7_init 58 (.bipush 8) 2 := by decide +kernel
theorem dX7_init_60 : Dc KX7_init 60 (.iastore) 1 := by decide +kernel
theorem dX7_init_61 : Dc KX7_init 61 (.dup) 1 := by decide +kernel
theorem dX7_init_62 : Dc KX7_init 62 (.iconst 1) 1 := by decide +kernel
theorem dX7_init_63 : Dc KX7_init 63 (.sipush 300) 3 := by decide +kernel
theorem dX7_init_66 : Dc KX7_init 66 (.iastore) 1 := by decide +kernel
theorem dX7_init_67 : Dc KX7_init 67 (.putfield 24) 3 := by decide +kernel
theorem dX7_init_70 : Dc KX7_init 70 (.return_) 1 := by decide +kernel
theorem dX7_members_0 : Dc KX7_members 0 (.iload_n 1) 1 := by decide +kernel
theorem dX7_members_1 : Dc KX7_members 1 (.ifCond .lt 21) 3 := by decide +kernel
theorem dX7_members_4 : Dc KX7_members 4 (.iload_n 1) 1 := by decide +kernel
theorem dX7_members_5 : Dc KX7_members 5 (.aload_n 0) 1 := by decide +kernel
theorem dX7_members_6 : Dc KX7_members 6 (.getfield 11) 3 := by decide +kernel
theorem dX7_members_9 : Dc KX7_members 9 (.arraylength) 1 := by decide +kernel
theorem dX7_members_10 : Dc KX7_members 10 (.if_icmp .ge 12) 3 := by decide +kernel
theorem dX7_members_13 : Dc KX7_members 13 (.aload_n 0) 1 := by decide +kernel
theorem dX7_members_14 : Dc KX7_members 14 (.getfield 11) 3 := by decide +kernel
theorem dX7_members_17 : Dc KX7_members 17 (.iload_n 1) 1 := by decide +kernel
theorem dX7_members_18 : Dc KX7_members 18 (.aaload) 1 := by decide +kernel
theorem dX7_members_19 : Dc KX7_members 19 (.goto 4) 3 := by decide +kernel
theorem dX7_members_22 : Dc KX7_members 22 (.aconst_null) 1 := by decide +kernel
theorem dX7_members_23 : Dc KX7_members 23 (.astore_n 2) 1 := by decide +kernel
theorem dX7_members_24 : Dc KX7_members 24 (.aload_n 2) 1 := by decide +kernel
theorem dX7_members_25 : Dc KX7_members 25 (.ifnonnull 10) 3 := by decide +kernel
theorem dX7_members_28 : Dc KX7_members 28 (.aload_n 0) 1 := by decide +kernel
theorem dX7_members_29 : Dc KX7_members 29 (.getfield 20) 3 := by decide +kernel
theorem dX7_members_32 : Dc KX7_members 32 (.goto 4) 3 := by decide +kernel
theorem dX7_members_35 : Dc KX7_members 35 (.aload_n 2) 1 := by decide +kernel
theorem dX7_members_36 : Dc KX7_members 36 (.areturn) 1 := by decide +kernel
theorem dX7_valueOf_0 : Dc KX7_valueOf 0 (.iload_n 1) 1 := by decide +kernel
theorem dX7_valueOf_1 : Dc KX7_valueOf 1 (.ifCond .lt 21) 3 := by decide +kernel
theorem dX7_valueOf_4 : Dc KX7_valueOf 4 (.iload_n 1) 1 := by decide +kernel
theorem dX7_valueOf_5 : Dc KX7_valueOf 5 (.aload_n 0) 1 := by decide +kernel
theorem dX7_valueOf_6 : Dc KX7_valueOf 6 (.getfield 24) 3 := by decide +kernel
theorem dX7_valueOf_9 : Dc KX7_valueOf 9 (.arraylength) 1 := by decide +kernel
theorem dX7_valueOf_10 : Dc KX7_valueOf 10 (.if_icmp .ge 12) 3 := by decide +kernel
theorem dX7_valueOf_13 : Dc KX7_valueOf 13 (.aload_n 0) 1 := by decide +kernel
theorem dX7_valueOf_14 : Dc KX7_valueOf 14 (.getfield 24) 3 := by decide +kernel
theorem dX7_valueOf_17 : Dc KX7_valueOf 17 (.iload_n 1) 1 := by decide +kernel
theorem dX7_valueOf_18 : Dc KX7_valueOf 18 (.iaload) 1 := by decide +kernel
theorem dX7_valueOf_19 : Dc KX7_valueOf 19 (.goto 4) 3 := by decide +kernel
theorem dX7_valueOf_22 : Dc KX7_valueOf 22 (.iconst (-1)) 1 := by decide +kernel
theorem dX7_valueOf_23 : Dc KX7_valueOf 23 (.ireturn) 1 := by decide +kernel
theorem dX7_change_0 : Dc KX7_change 0 (.iload_n 1) 1 := by decide +kernel
theorem dX7_change_1 : Dc KX7_change 1 (.ifCond .lt 19) 3 := by decide +kernel
theorem dX7_change_4 : Dc KX7_change 4 (.iload_n 1) 1 := by decide +kernel
theorem dX7_change_5 : Dc KX7_change 5 (.aload_n 0) 1 := by decide +kernel
theorem dX7_change_6 : Dc KX7_change 6 (.getfield 24) 3 := by decide +kernel
theorem dX7_change_9 : Dc KX7_change 9 (.arraylength) 1 := by decide +kernel
theorem dX7_change_10 : Dc KX7_change 10 (.if_icmp .ge 10) 3 := by decide +kernel
theorem dX7_change_13 : Dc KX7_change 13 (.aload_n 0) 1 := by decide +kernel
theorem dX7_change_14 : Dc KX7_change 14 (.getfield 24) 3 := by decide +kernel
theorem dX7_change_17 : Dc KX7_change 17 (.iload_n 1) 1 := by decide +kernel
theorem dX7_change_18 : Dc KX7_change 18 (.iload_n 2) 1 := by decide +kernel
theorem dX7_change_19 : Dc KX7_change 19 (.iastore) 1 := by decide +kernel
theorem dX7_change_20 : Dc KX7_change 20 (.return_) 1 := by decide +kernel
theorem dX7_copyFrom_0 : Dc KX7_copyFrom 0 (.iconst 0) 1 := by decide +kernel
theorem dX7_copyFrom_1 : Dc KX7_copyFrom 1 (.istore_n 2) 1 := by decide +kernel
theorem dX7_copyFrom_2 : Dc KX7_copyFrom 2 (.iload_n 2) 1 := by decide +kernel
theorem dX7_copyFrom_3 : Dc KX7_copyFrom 3 (.iconst 4) 1 := by decide +kernel
theorem dX7_copyFrom_4 : Dc KX7_copyFrom 4 (.if_icmp .ge 22) 3 := by decide +kernel
theorem dX7_copyFrom_7 : Dc KX7_copyFrom 7 (.aload_n 0) 1 := by decide +kernel
theorem dX7_copyFrom_8 : Dc KX7_copyFrom 8 (.iload_n 2) 1 := by decide +kernel
theorem dX7_copyFrom_9 : Dc KX7_copyFrom 9 (.invokevirtual 28) 3 := by decide +kernel
theorem dX7_copyFrom_12 : Dc KX7_copyFrom 12 (.aload_n 1) 1 := by decide +kernel
theorem dX7_copyFrom_13 : Dc KX7_copyFrom 13 (.iload_n 2) 1 := by decide +kernel
theorem dX7_copyFrom_14 : Dc KX7_copyFrom 14 (.invokevirtual 28) 3 := by decide +kernel
theorem dX7_copyFrom_17 : Dc KX7_copyFrom 17 (.invokevirtual 32) 3 := by decide +kernel
theorem dX7_copyFrom_20 : Dc KX7_copyFrom 20 (.iinc 2 1) 3 := by decide +kernel
theorem dX7_copyFrom_23 : Dc KX7_copyFrom 23 (.goto (-21)) 3 := by decide +kernel
theorem dX7_copyFrom_26 : Dc KX7_copyFrom 26 (.iconst 0) 1 := by decide +kernel
theorem dX7_copyFrom_27 : Dc KX7_copyFrom 27 (.istore_n 2) 1 := by decide +kernel
theorem dX7_copyFrom_28 : Dc KX7_copyFrom 28 (.iload_n 2) 1 := by decide +kernel
theorem dX7_copyFrom_29 : Dc KX7_copyFrom 29 (.iconst 2) 1 := by decide +kernel
theorem dX7_copyFrom_30 : Dc KX7_copyFrom 30 (.if_icmp .ge 19) 3 := by decide +kernel
theorem dX7_copyFrom_33 : Dc KX7_copyFrom 33 (.aload_n 0) 1 := by decide +kernel
theorem dX7_copyFrom_34 : Dc KX7_copyFrom 34 (.iload_n 2) 1 := by decide +kernel
theorem dX7_copyFrom_35 : Dc KX7_copyFrom 35 (.aload_n 1) 1 := by decide +kernel
theorem dX7_copyFrom_36 : Dc KX7_copyFrom 36 (.iload_n 2) 1 := by decide +kernel
theorem dX7_copyFrom_37 : Dc KX7_copyFrom 37 (.invokevirtual 36) 3 := by decide +kernel
theorem dX7_copyFrom_40 : Dc KX7_copyFrom 40 (.invokevirtual 40) 3 := by decide +kernel
theorem dX7_copyFrom_43 : Dc KX7_copyFrom 43 (.iinc 2 1) 3 := by decide +kernel
theorem dX7_copyFrom_46 : Dc KX7_copyFrom 46 (.goto (-18)) 3 := by decide +kernel
theorem dX7_copyFrom_49 : Dc KX7_copyFrom 49 (.return_) 1 := by decide +kernel
theorem dX8_init_0 : Dc KX8_init 0 (.aload_n 0) 1 := by decide +kernel
theorem dX8_init_1 : Dc KX8_init 1 (.invokespecial 1) 3 := by decide +kernel
theorem dX8_init_4 : Dc KX8_init 4 (.aload_n 0) 1 := by decide +kernel
theorem dX8_init_5 : Dc KX8_init 5 (.new 7) 3 := by decide +kernel
theorem dX8_init_8 : Dc KX8_init 8 (.dup) 1 := by decide +kernel
theorem dX8_init_9 : Dc KX8_init 9 (.invokespecial 9) 3 := by decide +kernel
theorem dX8_init_12 : Dc KX8_init 12 (.putfield 10) 3 := by decide +kernel
theorem dX8_init_15 : Dc KX8_init 15 (.aload_n 0) 1 := by decide +kernel
theorem dX8_init_16 : Dc KX8_init 16 (.new 16) 3 := by decide +kernel
theorem dX8_init_19 : Dc KX8_init 19 (.dup) 1 := by decide +kernel
theorem dX8_init_20 : Dc KX8_init 20 (.invokespecial 18) 3 := by decide +kernel
theorem dX8_init_23 : Dc KX8_init 23 (.putfield 19) 3 := by decide +kernel
theorem dX8_init_26 : Dc KX8_init 26 (.aload_n 0) 1 := by decide +kernel
theorem dX8_init_27 : Dc KX8_init 27 (.new 23) 3 := by decide +kernel
theorem dX8_init_30 : Dc KX8_init 30 (.dup) 1 := by decide +kernel
theorem dX8_init_31 : Dc KX8_init 31 (.invokespecial 25) 3 := by decide +kernel
theorem dX8_init_34 : Dc KX8_init 34 (.putfield 26) 3 := by decide +kernel
theorem dX8_init_37 : Dc KX8_init 37 (.aload_n 0) 1 := by decide +kernel
theorem dX8_init_38 : Dc KX8_init 38 (.new 30) 3 := by decide +kernel
theorem dX8_init_41 : Dc KX8_init 41 (.dup) 1 := by decide +kernel
theorem dX8_init_42 : Dc KX8_init 42 (.invokespecial 32) 3 := by decide +kernel
theorem dX8_init_45 : Dc KX8_init 45 (.putfield 33) 3 := by decide +kernel
theorem dX8_init_48 : Dc KX8_init 48 (.aload_n 0) 1 := by decide +kernel
theorem dX8_init_49 : Dc KX8_init 49 (.new 37) 3 := by decide +kernel
theorem dX8_init_52 : Dc KX8_init 52 (.dup) 1 := by decide +kernel
theorem dX8_init_53 : Dc KX8_init 53 (.invokespecial 39) 3 := by decide +kernel
theorem dX8_init_56 : Dc KX8_init 56 (.putfield 40) 3 := by decide +kernel
theorem dX8_init_59 : Dc KX8_init 59 (.aload_n 0) 1 := by decide +kernel
theorem dX8_init_60 : Dc KX8_init 60 (.new 44) 3 := by decide +kernel
theorem dX8_init_63 : Dc KX8_init 63 (.dup) 1 := by decide +kernel
theorem dX8_init_64 : Dc KX8_init 64 (.invokespecial 46) 3 := by decide +kernel
theorem dX8_init_67 : Dc KX8_init 67 (.putfield 47) 3 := by decide +kernel
theorem dX8_init_70 : Dc KX8_init 70 (.aload_n 0) 1 := by decide +kernel
theorem dX8_init_71 : Dc KX8_init 71 (.new 51) 3 := by decide +kernel
theorem dX8_init_74 : Dc KX8_init 74 (.dup) 1 := by decide +kernel
theorem dX8_init_75 : Dc KX8_init 75 (.bipush 120) 2 := by decide +kernel
theorem dX8_init_77 : Dc KX8_init 77 (.invokespecial 53) 3 := by decide +kernel
theorem dX8_init_80 : Dc KX8_init 80 (.putfield 56) 3 := by decide +kernel
theorem dX8_init_83 : Dc KX8_init 83 (.aload_n 0) 1 := by decide +kernel
theorem dX8_init_84 : Dc KX8_init 84 (.new 51) 3 := by decide +kernel
theorem dX8_init_87 : Dc KX8_init 87 (.dup) 1 := by decide +kernel
theorem dX8_init_88 : Dc KX8_init 88 (.sipush 241) 3 := by decide +kernel
theorem dX8_init_91 : Dc KX8_init 91 (.invokespecial 53) 3 := by decide +kernel
theorem dX8_init_94 : Dc KX8_init 94 (.putfield 60) 3 := by decide +kernel
theorem dX8_init_97 : Dc KX8_init 97 (.return_) 1 := by decide +kernel
theorem dX8_add_0 : Dc KX8_add 0 (.iload_n 1) 1 := by decide +kernel
theorem dX8_add_1 : Dc KX8_add 1 (.invokestatic 63) 3 := by decide +kernel
theorem dX8_add_4 : Dc KX8_add 4 (.iload_n 2) 1 := by decide +kernel
theorem dX8_add_5 : Dc KX8_add 5 (.invokestatic 66) 3 := by decide +kernel
theorem dX8_add_8 : Dc KX8_add 8 (.aload_n 0) 1 := by decide +kernel
theorem dX8_add_9 : Dc KX8_add 9 (.getfield 10) 3 := by decide +kernel
theorem dX8_add_12 : Dc KX8_add 12 (.iload_n 1) 1 := by decide +kernel
theorem dX8_add_13 : Dc KX8_add 13 (.invokevirtual 69) 3 := by decide +kernel
theorem dX8_add_16 : Dc KX8_add 16 (.astore_n 3) 1 := by decide +kernel
theorem dX8_add_17 : Dc KX8_add 17 (.aload_n 3) 1 := by decide +kernel
theorem dX8_add_18 : Dc KX8_add 18 (.iload_n 2) 1 := by decide +kernel
theorem dX8_add_19 : Dc KX8_add 19 (.invokevirtual 73) 3 := by decide +kernel
theorem dX8_add_22 : Dc KX8_add 22 (.ifCond .ne 7) 3 := by decide +kernel
theorem dX8_add_25 : Dc KX8_add 25 (.iconst 1) 1 := by decide +kernel
theorem dX8_add_26 : Dc KX8_add 26 (.goto 4) 3 := by decide +kernel
theorem dX8_add_29 : Dc KX8_add 29 (.iconst 0) 1 := by decide +kernel
theorem dX8_add_30 : Dc KX8_add 30 (.istore 4) 2 := by decide +kernel
theorem dX8_add_32 : Dc KX8_add 32 (.iload 4) 2 := by decide +kernel
theorem dX8_add_34 : Dc KX8_add 34 (.ifCond .eq 12) 3 := by decide +kernel
theorem dX8_add_37 : Dc KX8_add 37 (.aload_n 3) 1 := by decide +kernel
theorem dX8_add_38 : Dc KX8_add 38 (.invokevirtual 77) 3 := by decide +kernel
theorem dX8_add_41 : Dc KX8_add 41 (.bipush 60) 2 := by decide +kernel
theorem dX8_add_43 : Dc KX8_add 43 (.if_icmp .ge 7) 3 := by decide +kernel
theorem dX8_add_46 : Dc KX8_add 46 (.iconst 1) 1 := by decide +kernel
theorem dX8_add_47 : Dc KX8_add 47 (.goto 4) 3 := by decide +kernel
theorem dX8_add_50 : Dc KX8_add 50 (.iconst 0) 1 := by decide +kernel
theorem dX8_add_51 : Dc KX8_add 51 (.invokestatic 81) 3 := by decide +kernel
theorem dX8_add_54 : Dc KX8_add 54 (.aload_n 0) 1 := by decide +kernel
theorem dX8_add_55 : Dc KX8_add 55 (.getfield 19) 3 := by decide +kernel
theorem dX8_add_58 : Dc KX8_add 58 (.aload_n 0) 1 := by decide +kernel
theorem dX8_add_59 : Dc KX8_add 59 (.getfield 10) 3 := by decide +kernel
theorem dX8_add_62 : Dc KX8_add 62 (.invokevirtual 85) 3 := by decide +kernel
theorem dX8_add_65 : Dc KX8_add 65 (.aload_n 3) 1 := by decide +kernel
theorem dX8_add_66 : Dc KX8_add 66 (.iload_n 2) 1 := by decide +kernel
theorem dX8_add_67 : Dc KX8_add 67 (.invokevirtual 89) 3 := by decide +kernel
theorem dX8_add_70 : Dc KX8_add 70 (.iload 4) 2 := by decide +kernel
theorem dX8_add_72 : Dc KX8_add 72 (.ifCond .eq 7) 3 := by decide +kernel
theorem dX8_add_75 : Dc KX8_add 75 (.iconst 1) 1 := by decide +kernel
theorem dX8_add_76 : Dc KX8_add 76 (.goto 4) 3 := by decide +kernel
theorem dX8_add_79 : Dc KX8_add 79 (.iconst 0) 1 := by decide +kernel
theorem dX8_add_80 : Dc KX8_add 80 (.ireturn) 1 := by decide +kernel
theorem dX8_remove_0 : Dc KX8_remove 0 (.iload_n 1) 1 := by decide +kernel
theorem dX8_remove_1 : Dc KX8_remove 1 (.invokestatic 63) 3 := by decide +kernel
theorem dX8_remove_4 : Dc KX8_remove 4 (.iload_n 2) 1 := by decide +kernel
theorem dX8_remove_5 : Dc KX8_remove 5 (.invokestatic 66) 3 := by decide +kernel
theorem dX8_remove_8 : Dc KX8_remove 8 (.aload_n 0) 1 := by decide +kernel
theorem dX8_remove_9 : Dc KX8_remove 9 (.getfield 19) 3 := by decide +kernel
theorem dX8_remove_12 : Dc KX8_remove 12 (.aload_n 0) 1 := by decide +kernel
theorem dX8_remove_13 : Dc KX8_remove 13 (.getfield 10) 3 := by decide +kernel
theorem dX8_remove_16 : Dc KX8_remove 16 (.invokevirtual 85) 3 := by decide +kernel
theorem dX8_remove_19 : Dc KX8_remove 19 (.aload_n 0) 1 := by decide +kernel
theorem dX8_remove_20 : Dc KX8_remove 20 (.getfield 10) 3 := by decide +kernel
theorem dX8_remove_23 : Dc KX8_remove 23 (.iload_n 1) 1 := by decide +kernel
theorem dX8_remove_24 : Dc KX8_remove 24 (.invokevirtual 69) 3 := by decide +kernel
theorem dX8_remove_27 : Dc KX8_remove 27 (.iload_n 2) 1 := by decide +kernel
theorem dX8_remove_28 : Dc KX8_remove 28 (.iload_n 2) 1 := by decide +kernel
theorem dX8_remove_29 : Dc KX8_remove 29 (.invokevirtual 92) 3 := by decide +kernel
theorem dX8_remove_32 : Dc KX8_remove 32 (.ireturn) 1 := by decide +kernel
theorem dX8_removeRange_0 : Dc KX8_removeRange 0 (.iload_n 1) 1 := by decide +kernel
theorem dX8_removeRange_1 : Dc KX8_removeRange 1 (.invokestatic 63) 3 := by decide +kernel
theorem dX8_removeRange_4 : Dc KX8_removeRange 4 (.iload_n 2) 1 := by decide +kernel
theorem dX8_removeRange_5 : Dc KX8_removeRange 5 (.invokestatic 66) 3 := by decide +kernel
theorem dX8_removeRange_8 : Dc KX8_removeRange 8 (.iload_n 3) 1 := by decide +kernel
theorem dX8_removeRange_9 : Dc KX8_removeRange 9 (.invokestatic 66) 3 := by decide +kernel
theorem dX8_removeRange_12 : Dc KX8_removeRange 12 (.iload_n 2) 1 := by decide +kernel
theorem dX8_removeRange_13 : Dc KX8_removeRange 13 (.iload_n 3) 1 := by decide +kernel
theorem dX8_removeRange_14 : Dc KX8_removeRange 14 (.if_icmp .gt 7) 3 := by decide +kernel
theorem dX8_removeRange_17 : Dc KX8_removeRange 17 (.iconst 1) 1 := by decide +kernel
theorem dX8_removeRange_18 : Dc KX8_removeRange 18 (.goto 4) 3 := by decide +kernel
theorem dX8_removeRange_21 : Dc KX8_removeRange 21 (.iconst 0) 1 := by decide +kernel
theorem dX8_removeRange_22 : Dc KX8_removeRange 22 (.invokestatic 96) 3 := by decide +kernel
theorem dX8_removeRange_25 : Dc KX8_removeRange 25 (.aload_n 0) 1 := by decide +kernel
theorem dX8_removeRange_26 : Dc KX8_removeRange 26 (.getfield 19) 3 := by decide +kernel
theorem dX8_removeRange_29 : Dc KX8_removeRange 29 (.aload_n 0) 1 := by decide +kernel
theorem dX8_removeRange_30 : Dc KX8_removeRange 30 (.getfield 10) 3 := by decide +kernel
theorem dX8_removeRange_33 : Dc KX8_removeRange 33 (.invokevirtual 85) 3 := by decide +kernel
theorem dX8_removeRange_36 : Dc KX8_removeRange 36 (.aload_n 0) 1 := by decide +kernel
theorem dX8_removeRange_37 : Dc KX8_removeRange 37 (.getfield 10) 3 := by decide +kernel
theorem dX8_removeRange_40 : Dc KX8_removeRange 40 (.iload_n 1) 1 := by decide +kernel
theorem dX8_removeRange_41 : Dc KX8_removeRange 41 (.invokevirtual 69) 3 := by decide +kernel
theorem dX8_removeRange_44 : Dc KX8_removeRange 44 (.iload_n 2) 1 := by decide +kernel
theorem dX8_removeRange_45 : Dc KX8_removeRange 45 (.iload_n 3) 1 := by decide +kernel
theorem dX8_removeRange_46 : Dc KX8_removeRange 46 (.invokevirtual 92) 3 := by decide +kernel
theorem dX8_removeRange_49 : Dc KX8_removeRange 49 (.ireturn) 1 := by decide +kernel
theorem dX8_shift_0 : Dc KX8_shift 0 (.iload_n 1) 1 := by decide +kernel
theorem dX8_shift_1 : Dc KX8_shift 1 (.invokestatic 63) 3 := by decide +kernel
theorem dX8_shift_4 : Dc KX8_shift 4 (.iload_n 2) 1 := by decide +kernel
theorem dX8_shift_5 : Dc KX8_shift 5 (.sipush (-9999)) 3 := by decide +kernel
theorem dX8_shift_8 : Dc KX8_shift 8 (.if_icmp .lt 14) 3 := by decide +kernel
theorem dX8_shift_11 : Dc KX8_shift 11 (.iload_n 2) 1 := by decide +kernel
theorem dX8_shift_12 : Dc KX8_shift 12 (.sipush 9999) 3 := by decide +kernel
theorem dX8_shift_15 : Dc KX8_shift 15 (.if_icmp .gt 7) 3 := by decide +kernel
theorem dX8_shift_18 : Dc KX8_shift 18 (.iconst 1) 1 := by decide +kernel
theorem dX8_shift_19 : Dc KX8_shift 19 (.goto 4) 3 := by decide +kernel
theorem dX8_shift_22 : Dc KX8_shift 22 (.iconst 0) 1 := by decide +kernel
theorem dX8_shift_23 : Dc KX8_shift 23 (.invokestatic 96) 3 := by decide +kernel
theorem dX8_shift_26 : Dc KX8_shift 26 (.aload_n 0) 1 := by decide +kernel
theorem dX8_shift_27 : Dc KX8_shift 27 (.getfield 10) 3 := by decide +kernel
theorem dX8_shift_30 : Dc KX8_shift 30 (.iload_n 1) 1 := by decide +kernel
theorem dX8_shift_31 : Dc KX8_shift 31 (.invokevirtual 69) 3 := by decide +kernel
theorem dX8_shift_34 : Dc KX8_shift 34 (.astore_n 3) 1 := by decide +kernel
theorem dX8_shift_35 : Dc KX8_shift 35 (.aload_n 3) 1 := by decide +kernel
theorem dX8_shift_36 : Dc KX8_shift 36 (.invokevirtual 99) 3 := by decide +kernel
theorem dX8_shift_39 : Dc KX8_shift 39 (.ifCond .ne 24) 3 := by decide +kernel
theorem dX8_shift_42 : Dc KX8_shift 42 (.aload_n 3) 1 := by decide +kernel
theorem dX8_shift_43 : Dc KX8_shift 43 (.invokevirtual 103) 3 := by decide +kernel
theorem dX8_shift_46 : Dc KX8_shift 46 (.iload_n 2) 1 := by decide +kernel
theorem dX8_shift_47 : Dc KX8_shift 47 (.iadd) 1 := by decide +kernel
theorem dX8_shift_48 : Dc KX8_shift 48 (.ifCond .lt 19) 3 := by decide +kernel
theorem dX8_shift_51 : Dc KX8_shift 51 (.aload_n 3) 1 := by decide +kernel
theorem dX8_shift_52 : Dc KX8_shift 52 (.invokevirtual 106) 3 := by decide +kernel
theorem dX8_shift_55 : Dc KX8_shift 55 (.iload_n 2) 1 := by decide +kernel
theorem dX8_shift_56 : Dc KX8_shift 56 (.iadd) 1 := by decide +kernel
theorem dX8_shift_57 : Dc KX8_shift 57 (.sipush 9999) 3 := by decide +kernel
theorem dX8_shift_60 : Dc KX8_shift 60 (.if_icmp .gt 7) 3 := by decide +kernel
theorem dX8_shift_63 : Dc KX8_shift 63 (.iconst 1) 1 := by decide +kernel
theorem dX8_shift_64 : Dc KX8_shift 64 (.goto 4) 3 := by decide +kernel
theorem dX8_shift_67 : Dc KX8_shift 67 (.iconst 0) 1 := by decide +kernel
theorem dX8_shift_68 : Dc KX8_shift 68 (.invokestatic 81) 3 := by decide +kernel
theorem dX8_shift_71 : Dc KX8_shift 71 (.aload_n 0) 1 := by decide +kernel
theorem dX8_shift_72 : Dc KX8_shift 72 (.getfield 19) 3 := by decide +kernel
theorem dX8_shift_75 : Dc KX8_shift 75 (.aload_n 0) 1 := by decide +kernel
theorem dX8_shift_76 : Dc KX8_shift 76 (.getfield 10) 3 := by decide +kernel
theorem dX8_shift_79 : Dc KX8_shift 79 (.invokevirtual 85) 3 := by decide +kernel
theorem dX8_shift_82 : Dc KX8_shift 82 (.aload_n 3) 1 := by decide +kernel
theorem dX8_shift_83 : Dc KX8_shift 83 (.iload_n 2) 1 := by decide +kernel
theorem dX8_shift_84 : Dc KX8_shift 84 (.invokevirtual 109) 3 := by decide +kernel
theorem dX8_shift_87 : Dc KX8_shift 87 (.aload_n 3) 1 := by decide +kernel
theorem dX8_shift_88 : Dc KX8_shift 88 (.invokevirtual 103) 3 := by decide +kernel
theorem dX8_shift_91 : Dc KX8_shift 91 (.ireturn) 1 := by decide +kernel
theorem dX8_combine_0 : Dc KX8_combine 0 (.iload_n 1) 1 := by decide +kernel
theorem dX8_combine_1 : Dc KX8_combine 1 (.invokestatic 63) 3 := by decide +kernel
theorem dX8_combine_4 : Dc KX8_combine 4 (.iload_n 2) 1 := by decide +kernel
theorem dX8_combine_5 : Dc KX8_combine 5 (.invokestatic 63) 3 := by decide +kernel
theorem dX8_combine_8 : Dc KX8_combine 8 (.iload_n 3) 1 := by decide +kernel
theorem dX8_combine_9 : Dc KX8_combine 9 (.invokestatic 63) 3 := by decide +kernel
theorem dX8_combine_12 : Dc KX8_combine 12 (.iload 4) 2 := by decide +kernel
theorem dX8_combine_14 : Dc KX8_combine 14 (.ifCond .lt 13) 3 := by decide +kernel
theorem dX8_combine_17 : Dc KX8_combine 17 (.iload 4) 2 := by decide +kernel
theorem dX8_combine_19 : Dc KX8_combine 19 (.iconst 3) 1 := by decide +kernel
theorem dX8_combine_20 : Dc KX8_combine 20 (.if_icmp .gt 7) 3 := by decide +kernel
theorem dX8_combine_23 : Dc KX8_combine 23 (.iconst 1) 1 := by decide +kernel
theorem dX8_combine_24 : Dc KX8_combine 24 (.goto 4) 3 := by decide +kernel
theorem dX8_combine_27 : Dc KX8_combine 27 (.iconst 0) 1 := by decide +kernel
theorem dX8_combine_28 : Dc KX8_combine 28 (.invokestatic 96) 3 := by decide +kernel
theorem dX8_combine_31 : Dc KX8_combine 31 (.aload_n 0) 1 := by decide +kernel
theorem dX8_combine_32 : Dc KX8_combine 32 (.getfield 56) 3 := by decide +kernel
theorem dX8_combine_35 : Dc KX8_combine 35 (.aload_n 0) 1 := by decide +kernel
theorem dX8_combine_36 : Dc KX8_combine 36 (.getfield 10) 3 := by decide +kernel
theorem dX8_combine_39 : Dc KX8_combine 39 (.iload_n 2) 1 := by decide +kernel
theorem dX8_combine_40 : Dc KX8_combine 40 (.invokevirtual 69) 3 := by decide +kernel
theorem dX8_combine_43 : Dc KX8_combine 43 (.aload_n 0) 1 := by decide +kernel
theorem dX8_combine_44 : Dc KX8_combine 44 (.getfield 10) 3 := by decide +kernel
theorem dX8_combine_47 : Dc KX8_combine 47 (.iload_n 3) 1 := by decide +kernel
theorem dX8_combine_48 : Dc KX8_combine 48 (.invokevirtual 69) 3 := by decide +kernel
theorem dX8_combine_51 : Dc KX8_combine 51 (.iload 4) 2 := by decide +kernel
theorem dX8_combine_53 : Dc KX8_combine 53 (.invokestatic 112) 3 := by decide +kernel
theorem dX8_combine_56 : Dc KX8_combine 56 (.aload_n 0) 1 := by decide +kernel
theorem dX8_combine_57 : Dc KX8_combine 57 (.getfield 56) 3 := by decide +kernel
theorem dX8_combine_60 : Dc KX8_combine 60 (.invokevirtual 77) 3 := by decide +kernel
theorem dX8_combine_63 : Dc KX8_combine 63 (.bipush 60) 2 := by decide +kernel
theorem dX8_combine_65 : Dc KX8_combine 65 (.if_icmp .gt 7) 3 := by decide +kernel
theorem dX8_combine_68 : Dc KX8_combine 68 (.iconst 1) 1 := by decide +kernel
theorem dX8_combine_69 : Dc KX8_combine 69 (.goto 4) 3 := by decide +kernel
theorem dX8_combine_72 : Dc KX8_combine 72 (.iconst 0) 1 := by decide +kernel
theorem dX8_combine_73 : Dc KX8_combine 73 (.invokestatic 81) 3 := by decide +kernel
theorem dX8_combine_76 : Dc KX8_combine 76 (.aload_n 0) 1 := by decide +kernel
theorem dX8_combine_77 : Dc KX8_combine 77 (.getfield 19) 3 := by decide +kernel
theorem dX8_combine_80 : Dc KX8_combine 80 (.aload_n 0) 1 := by decide +kernel
theorem dX8_combine_81 : Dc KX8_combine 81 (.getfield 10) 3 := by decide +kernel
theorem dX8_combine_84 : Dc KX8_combine 84 (.invokevirtual 85) 3 := by decide +kernel
theorem dX8_combine_87 : Dc KX8_combine 87 (.aload_n 0) 1 := by decide +kernel
theorem dX8_combine_88 : Dc KX8_combine 88 (.getfield 10) 3 := by decide +kernel
theorem dX8_combine_91 : Dc KX8_combine 91 (.iload_n 1) 1 := by decide +kernel
theorem dX8_combine_92 : Dc KX8_combine 92 (.invokevirtual 69) 3 := by decide +kernel
theorem dX8_combine_95 : Dc KX8_combine 95 (.aload_n 0) 1 := by decide +kernel
theorem dX8_combine_96 : Dc KX8_combine 96 (.getfield 56) 3 := by decide +kernel
theorem dX8_combine_99 : Dc KX8_combine 99 (.invokevirtual 116) 3 := by decide +kernel
theorem dX8_combine_102 : Dc KX8_combine 102 (.aload_n 0) 1 := by decide +kernel
theorem dX8_combine_103 : Dc KX8_combine 103 (.getfield 56) 3 := by decide +kernel
theorem dX8_combine_106 : Dc KX8_combine 106 (.invokevirtual 77) 3 := by decide +kernel
theorem dX8_combine_109 : Dc KX8_combine 109 (.ireturn) 1 := by decide +kernel
theorem dX8_set_0 : Dc KX8_set 0 (.iload_n 1) 1 := by decide +kernel
theorem dX8_set_1 : Dc KX8_set 1 (.invokestatic 120) 3 := by decide +kernel
theorem dX8_set_4 : Dc KX8_set 4 (.iload_n 1) 1 := by decide +kernel
theorem dX8_set_5 : Dc KX8_set 5 (.ifCond .ne 10) 3 := by decide +kernel
theorem dX8_set_8 : Dc KX8_set 8 (.iload_n 2) 1 := by decide +kernel
theorem dX8_set_9 : Dc KX8_set 9 (.invokestatic 123) 3 := by decide +kernel
theorem dX8_set_12 : Dc KX8_set 12 (.goto 7) 3 := by decide +kernel
theorem dX8_set_15 : Dc KX8_set 15 (.iload_n 2) 1 := by decide +kernel
theorem dX8_set_16 : Dc KX8_set 16 (.invokestatic 126) 3 := by decide +kernel
theorem dX8_set_19 : Dc KX8_set 19 (.invokestatic 96) 3 := by decide +kernel
theorem dX8_set_22 : Dc KX8_set 22 (.aload_n 0) 1 := by decide +kernel
theorem dX8_set_23 : Dc KX8_set 23 (.getfield 19) 3 := by decide +kernel
theorem dX8_set_26 : Dc KX8_set 26 (.aload_n 0) 1 := by decide +kernel
theorem dX8_set_27 : Dc KX8_set 27 (.getfield 10) 3 := by decide +kernel
theorem dX8_set_30 : Dc KX8_set 30 (.invokevirtual 85) 3 := by decide +kernel
theorem dX8_set_33 : Dc KX8_set 33 (.aload_n 0) 1 := by decide +kernel
theorem dX8_set_34 : Dc KX8_set 34 (.getfield 10) 3 := by decide +kernel
theorem dX8_set_37 : Dc KX8_set 37 (.iload_n 1) 1 := by decide +kernel
theorem dX8_set_38 : Dc KX8_set 38 (.invokevirtual 129) 3 := by decide +kernel
theorem dX8_set_41 : Dc KX8_set 41 (.istore_n 3) 1 := by decide +kernel
theorem dX8_set_42 : Dc KX8_set 42 (.aload_n 0) 1 := by decide +kernel
theorem dX8_set_43 : Dc KX8_set 43 (.getfield 10) 3 := by decide +kernel
theorem dX8_set_46 : Dc KX8_set 46 (.iload_n 1) 1 := by decide +kernel
theorem dX8_set_47 : Dc KX8_set 47 (.iload_n 2) 1 := by decide +kernel
theorem dX8_set_48 : Dc KX8_set 48 (.invokevirtual 133) 3 := by decide +kernel
theorem dX8_set_51 : Dc KX8_set 51 (.iload_n 3) 1 := by decide +kernel
theorem dX8_set_52 : Dc KX8_set 52 (.ireturn) 1 := by decide +kernel
theorem dX8_append_0 : Dc KX8_append 0 (.iload_n 1) 1 := by decide +kernel
theorem dX8_append_1 : Dc KX8_append 1 (.bipush 33) 2 := by decide +kernel
theorem dX8_append_3 : Dc KX8_append 3 (.if_icmp .lt 13) 3 := by decide +kernel
theorem dX8_append_6 : Dc KX8_append 6 (.iload_n 1) 1 := by decide +kernel
theorem dX8_append_7 : Dc KX8_append 7 (.bipush 126) 2 := by decide +kernel
theorem dX8_append_9 : Dc KX8_append 9 (.if_icmp .gt 7) 3 := by decide +kernel
theorem dX8_append_12 : Dc KX8_append 12 (.iconst 1) 1 := by decide +kernel
theorem dX8_append_13 : Dc KX8_append 13 (.goto 4) 3 := by decide +kernel
theorem dX8_append_16 : Dc KX8_append 16 (.iconst 0) 1 := by decide +kernel
theorem dX8_append_17 : Dc KX8_append 17 (.invokestatic 96) 3 := by decide +kernel
theorem dX8_append_20 : Dc KX8_append 20 (.aload_n 0) 1 := by decide +kernel
theorem dX8_append_21 : Dc KX8_append 21 (.getfield 26) 3 := by decide +kernel
theorem dX8_append_24 : Dc KX8_append 24 (.invokevirtual 137) 3 := by decide +kernel
theorem dX8_append_27 : Dc KX8_append 27 (.bipush 60) 2 := by decide +kernel
theorem dX8_append_29 : Dc KX8_append 29 (.if_icmp .ge 7) 3 := by decide +kernel
theorem dX8_append_32 : Dc KX8_append 32 (.iconst 1) 1 := by decide +kernel
theorem dX8_append_33 : Dc KX8_append 33 (.goto 4) 3 := by decide +kernel
theorem dX8_append_36 : Dc KX8_append 36 (.iconst 0) 1 := by decide +kernel
theorem dX8_append_37 : Dc KX8_append 37 (.invokestatic 81) 3 := by decide +kernel
theorem dX8_append_40 : Dc KX8_append 40 (.aload_n 0) 1 := by decide +kernel
theorem dX8_append_41 : Dc KX8_append 41 (.getfield 26) 3 := by decide +kernel
theorem dX8_append_44 : Dc KX8_append 44 (.iload_n 1) 1 := by decide +kernel
theorem dX8_append_45 : Dc KX8_append 45 (.invokevirtual 140) 3 := by decide +kernel
theorem dX8_append_48 : Dc KX8_append 48 (.aload_n 0) 1 := by decide +kernel
theorem dX8_append_49 : Dc KX8_append 49 (.getfield 26) 3 := by decide +kernel
theorem dX8_append_52 : Dc KX8_append 52 (.invokevirtual 137) 3 := by decide +kernel
theorem dX8_append_55 : Dc KX8_append 55 (.ireturn) 1 := by decide +kernel
theorem dX8_clearBuffer_0 : Dc KX8_clearBuffer 0 (.aload_n 0) 1 := by decide +kernel
theorem dX8_clearBuffer_1 : Dc KX8_clearBuffer 1 (.getfield 26) 3 := by decide +kernel
theorem dX8_clearBuffer_4 : Dc KX8_clearBuffer 4 (.invokevirtual 137) 3 := by decide +kernel
theorem dX8_clearBuffer_7 : Dc KX8_clearBuffer 7 (.istore_n 1) 1 := by decide +kernel
theorem dX8_clearBuffer_8 : Dc KX8_clearBuffer 8 (.aload_n 0) 1 := by decide +kernel
theorem dX8_clearBuffer_9 : Dc KX8_clearBuffer 9 (.getfield 26) 3 := by decide +kernel
theorem dX8_clearBuffer_12 : Dc KX8_clearBuffer 12 (.invokevirtual 141) 3 := by decide +kernel
theorem dX8_clearBuffer_15 : Dc KX8_clearBuffer 15 (.iload_n 1) 1 := by decide +kernel
theorem dX8_clearBuffer_16 : Dc KX8_clearBuffer 16 (.ireturn) 1 := by decide +kernel
theorem dX8_firstError_0 : Dc KX8_firstError 0 (.aload_n 0) 1 := by decide +kernel
theorem dX8_firstError_1 : Dc KX8_firstError 1 (.getfield 33) 3 := by decide +kernel
theorem dX8_firstError_4 : Dc KX8_firstError 4 (.aload_n 0) 1 := by decide +kernel
theorem dX8_firstError_5 : Dc KX8_firstError 5 (.getfield 26) 3 := by decide +kernel
theorem dX8_firstError_8 : Dc KX8_firstError 8 (.invokevirtual 144) 3 := by decide +kernel
theorem dX8_firstError_11 : Dc KX8_firstError 11 (.ireturn) 1 := by decide +kernel
theorem dX8_read_0 : Dc KX8_read 0 (.iload_n 1) 1 := by decide +kernel
theorem dX8_read_1 : Dc KX8_read 1 (.invokestatic 63) 3 := by decide +kernel
theorem dX8_read_4 : Dc KX8_read 4 (.aload_n 0) 1 := by decide +kernel
theorem dX8_read_5 : Dc KX8_read 5 (.getfield 33) 3 := by decide +kernel
theorem dX8_read_8 : Dc KX8_read 8 (.aload_n 0) 1 := by decide +kernel
theorem dX8_read_9 : Dc KX8_read 9 (.getfield 26) 3 := by decide +kernel
theorem dX8_read_12 : Dc KX8_read 12 (.invokevirtual 148) 3 := by decide +kernel
theorem dX8_read_15 : Dc KX8_read 15 (.invokestatic 96) 3 := by decide +kernel
theorem dX8_read_18 : Dc KX8_read 18 (.aload_n 0) 1 := by decide +kernel
theorem dX8_read_19 : Dc KX8_read 19 (.getfield 33) 3 := by decide +kernel
theorem dX8_read_22 : Dc KX8_read 22 (.invokevirtual 152) 3 := by decide +kernel
theorem dX8_read_25 : Dc KX8_read 25 (.istore_n 2) 1 := by decide +kernel
theorem dX8_read_26 : Dc KX8_read 26 (.iload_n 2) 1 := by decide +kernel
theorem dX8_read_27 : Dc KX8_read 27 (.bipush 60) 2 := by decide +kernel
theorem dX8_read_29 : Dc KX8_read 29 (.if_icmp .gt 7) 3 := by decide +kernel
theorem dX8_read_32 : Dc KX8_read 32 (.iconst 1) 1 := by decide +kernel
theorem dX8_read_33 : Dc KX8_read 33 (.goto 4) 3 := by decide +kernel
theorem dX8_read_36 : Dc KX8_read 36 (.iconst 0) 1 := by decide +kernel
theorem dX8_read_37 : Dc KX8_read 37 (.invokestatic 81) 3 := by decide +kernel
theorem dX8_read_40 : Dc KX8_read 40 (.aload_n 0) 1 := by decide +kernel
theorem dX8_read_41 : Dc KX8_read 41 (.getfield 19) 3 := by decide +kernel
theorem dX8_read_44 : Dc KX8_read 44 (.aload_n 0) 1 := by decide +kernel
theorem dX8_read_45 : Dc KX8_read 45 (.getfield 10) 3 := by decide +kernel
theorem dX8_read_48 : Dc KX8_read 48 (.invokevirtual 85) 3 := by decide +kernel
theorem dX8_read_51 : Dc KX8_read 51 (.aload_n 0) 1 := by decide +kernel
theorem dX8_read_52 : Dc KX8_read 52 (.getfield 33) 3 := by decide +kernel
theorem dX8_read_55 : Dc KX8_read 55 (.aload_n 0) 1 := by decide +kernel
theorem dX8_read_56 : Dc KX8_read 56 (.getfield 10) 3 := by decide +kernel
theorem dX8_read_59 : Dc KX8_read 59 (.iload_n 1) 1 := by decide +kernel
theorem dX8_read_60 : Dc KX8_read 60 (.invokevirtual 69) 3 := by decide +kernel
theorem dX8_read_63 : Dc KX8_read 63 (.invokevirtual 153) 3 := by decide +kernel
theorem dX8_read_66 : Dc KX8_read 66 (.aload_n 0) 1 := by decide +kernel
theorem dX8_read_67 : Dc KX8_read 67 (.getfield 26) 3 := by decide +kernel
theorem dX8_read_70 : Dc KX8_read 70 (.invokevirtual 141) 3 := by decide +kernel
theorem dX8_read_73 : Dc KX8_read 73 (.iload_n 2) 1 := by decide +kernel
theorem dX8_read_74 : Dc KX8_read 74 (.ireturn) 1 := by decide +kernel
theorem dX8_undo_0 : Dc KX8_undo 0 (.aload_n 0) 1 := by decide +kernel
theorem dX8_undo_1 : Dc KX8_undo 1 (.getfield 19) 3 := by decide +kernel
theorem dX8_undo_4 : Dc KX8_undo 4 (.invokevirtual 156) 3 := by decide +kernel
theorem dX8_undo_7 : Dc KX8_undo 7 (.ifCond .le 7) 3 := by decide +kernel
theorem dX8_undo_10 : Dc KX8_undo 10 (.iconst 1) 1 := by decide +kernel
theorem dX8_undo_11 : Dc KX8_undo 11 (.goto 4) 3 := by decide +kernel
theorem dX8_undo_14 : Dc KX8_undo 14 (.iconst 0) 1 := by decide +kernel
theorem dX8_undo_15 : Dc KX8_undo 15 (.invokestatic 81) 3 := by decide +kernel
theorem dX8_undo_18 : Dc KX8_undo 18 (.aload_n 0) 1 := by decide +kernel
theorem dX8_undo_19 : Dc KX8_undo 19 (.getfield 19) 3 := by decide +kernel
theorem dX8_undo_22 : Dc KX8_undo 22 (.aload_n 0) 1 := by decide +kernel
theorem dX8_undo_23 : Dc KX8_undo 23 (.getfield 10) 3 := by decide +kernel
theorem dX8_undo_26 : Dc KX8_undo 26 (.invokevirtual 157) 3 := by decide +kernel
theorem dX8_undo_29 : Dc KX8_undo 29 (.aload_n 0) 1 := by decide +kernel
theorem dX8_undo_30 : Dc KX8_undo 30 (.getfield 19) 3 := by decide +kernel
theorem dX8_undo_33 : Dc KX8_undo 33 (.invokevirtual 156) 3 := by decide +kernel
theorem dX8_undo_36 : Dc KX8_undo 36 (.ireturn) 1 := by decide +kernel
theorem dX8_has_0 : Dc KX8_has 0 (.iload_n 1) 1 := by decide +kernel
theorem dX8_has_1 : Dc KX8_has 1 (.invokestatic 63) 3 := by decide +kernel
theorem dX8_has_4 : Dc KX8_has 4 (.iload_n 2) 1 := by decide +kernel
theorem dX8_has_5 : Dc KX8_has 5 (.invokestatic 66) 3 := by decide +kernel
theorem dX8_has_8 : Dc KX8_has 8 (.aload_n 0) 1 := by decide +kernel
theorem dX8_has_9 : Dc KX8_has 9 (.getfield 10) 3 := by decide +kernel
theorem dX8_has_12 : Dc KX8_has 12 (.iload_n 1) 1 := by decide +kernel
theorem dX8_has_13 : Dc KX8_has 13 (.invokevirtual 69) 3 := by decide +kernel
theorem dX8_has_16 : Dc KX8_has 16 (.iload_n 2) 1 := by decide +kernel
theorem dX8_has_17 : Dc KX8_has 17 (.invokevirtual 73) 3 := by decide +kernel
theorem dX8_has_20 : Dc KX8_has 20 (.ifCond .eq 7) 3 := by decide +kernel
theorem dX8_has_23 : Dc KX8_has 23 (.iconst 1) 1 := by decide +kernel
theorem dX8_has_24 : Dc KX8_has 24 (.goto 4) 3 := by decide +kernel
theorem dX8_has_27 : Dc KX8_has 27 (.iconst 0) 1 := by decide +kernel
theorem dX8_has_28 : Dc KX8_has 28 (.ireturn) 1 := by decide +kernel
theorem dX8_member_0 : Dc KX8_member 0 (.iload_n 1) 1 := by decide +kernel
theorem dX8_member_1 : Dc KX8_member 1 (.invokestatic 63) 3 := by decide +kernel
theorem dX8_member_4 : Dc KX8_member 4 (.iload_n 2) 1 := by decide +kernel
theorem dX8_member_5 : Dc KX8_member 5 (.ifCond .lt 7) 3 := by decide +kernel
theorem dX8_member_8 : Dc KX8_member 8 (.iconst 1) 1 := by decide +kernel
theorem dX8_member_9 : Dc KX8_member 9 (.goto 4) 3 := by decide +kernel
theorem dX8_member_12 : Dc KX8_member 12 (.iconst 0) 1 := by decide +kernel
theorem dX8_member_13 : Dc KX8_member 13 (.invokestatic 96) 3 := by decide +kernel
theorem dX8_member_16 : Dc KX8_member 16 (.aload_n 0) 1 := by decide +kernel
theorem dX8_member_17 : Dc KX8_member 17 (.getfield 10) 3 := by decide +kernel
theorem dX8_member_20 : Dc KX8_member 20 (.iload_n 1) 1 := by decide +kernel
theorem dX8_member_21 : Dc KX8_member 21 (.invokevirtual 69) 3 := by decide +kernel
theorem dX8_member_24 : Dc KX8_member 24 (.iload_n 2) 1 := by decide +kernel
theorem dX8_member_25 : Dc KX8_member 25 (.invokevirtual 160) 3 := by decide +kernel
theorem dX8_member_28 : Dc KX8_member 28 (.ireturn) 1 := by decide +kernel
theorem dX8_less_0 : Dc KX8_less 0 (.iload_n 1) 1 := by decide +kernel
theorem dX8_less_1 : Dc KX8_less 1 (.invokestatic 63) 3 := by decide +kernel
theorem dX8_less_4 : Dc KX8_less 4 (.iload_n 2) 1 := by decide +kernel
theorem dX8_less_5 : Dc KX8_less 5 (.invokestatic 66) 3 := by decide +kernel
theorem dX8_less_8 : Dc KX8_less 8 (.aload_n 0) 1 := by decide +kernel
theorem dX8_less_9 : Dc KX8_less 9 (.getfield 10) 3 := by decide +kernel
theorem dX8_less_12 : Dc KX8_less 12 (.iload_n 1) 1 := by decide +kernel
theorem dX8_less_13 : Dc KX8_less 13 (.invokevirtual 69) 3 := by decide +kernel
theorem dX8_less_16 : Dc KX8_less 16 (.iload_n 2) 1 := by decide +kernel
theorem dX8_less_17 : Dc KX8_less 17 (.invokevirtual 163) 3 := by decide +kernel
theorem dX8_less_20 : Dc KX8_less 20 (.ireturn) 1 := by decide +kernel
theorem dX8_nearest_0 : Dc KX8_nearest 0 (.iload_n 1) 1 := by decide +kernel
theorem dX8_nearest_1 : Dc KX8_nearest 1 (.invokestatic 63) 3 := by decide +kernel
theorem dX8_nearest_4 : Dc KX8_nearest 4 (.iload_n 2) 1 := by decide +kernel
theorem dX8_nearest_5 : Dc KX8_nearest 5 (.invokestatic 66) 3 := by decide +kernel
theorem dX8_nearest_8 : Dc KX8_nearest 8 (.aload_n 0) 1 := by decide +kernel
theorem dX8_nearest_9 : Dc KX8_nearest 9 (.getfield 10) 3 := by decide +kernel
theorem dX8_nearest_12 : Dc KX8_nearest 12 (.iload_n 1) 1 := by decide +kernel
theorem dX8_nearest_13 : Dc KX8_nearest 13 (.invokevirtual 69) 3 := by decide +kernel
theorem dX8_nearest_16 : Dc KX8_nearest 16 (.iload_n 2) 1 := by decide +kernel
theorem dX8_nearest_17 : Dc KX8_nearest 17 (.invokevirtual 166) 3 := by decide +kernel
theorem dX8_nearest_20 : Dc KX8_nearest 20 (.ireturn) 1 := by decide +kernel
theorem dX8_block_0 : Dc KX8_block 0 (.iload_n 1) 1 := by decide +kernel
theorem dX8_block_1 : Dc KX8_block 1 (.invokestatic 63) 3 := by decide +kernel
theorem dX8_block_4 : Dc KX8_block 4 (.iload_n 2) 1 := by decide +kernel
theorem dX8_block_5 : Dc KX8_block 5 (.ifCond .lt 16) 3 := by decide +kernel
theorem dX8_block_8 : Dc KX8_block 8 (.iload_n 3) 1 := by decide +kernel
theorem dX8_block_9 : Dc KX8_block 9 (.ifCond .lt 12) 3 := by decide +kernel
theorem dX8_block_12 : Dc KX8_block 12 (.iload_n 3) 1 := by decide +kernel
theorem dX8_block_13 : Dc KX8_block 13 (.iconst 5) 1 := by decide +kernel
theorem dX8_block_14 : Dc KX8_block 14 (.if_icmp .gt 7) 3 := by decide +kernel
theorem dX8_block_17 : Dc KX8_block 17 (.iconst 1) 1 := by decide +kernel
theorem dX8_block_18 : Dc KX8_block 18 (.goto 4) 3 := by decide +kernel
theorem dX8_block_21 : Dc KX8_block 21 (.iconst 0) 1 := by decide +kernel
theorem dX8_block_22 : Dc KX8_block 22 (.invokestatic 96) 3 := by decide +kernel
theorem dX8_block_25 : Dc KX8_block 25 (.iload_n 2) 1 := by decide +kernel
theorem dX8_block_26 : Dc KX8_block 26 (.aload_n 0) 1 := by decide +kernel
theorem dX8_block_27 : Dc KX8_block 27 (.getfield 40) 3 := by decide +kernel
theorem dX8_block_30 : Dc KX8_block 30 (.aload_n 0) 1 := by decide +kernel
theorem dX8_block_31 : Dc KX8_block 31 (.getfield 10) 3 := by decide +kernel
theorem dX8_block_34 : Dc KX8_block 34 (.iload_n 1) 1 := by decide +kernel
theorem dX8_block_35 : Dc KX8_block 35 (.invokevirtual 169) 3 := by decide +kernel
theorem dX8_block_38 : Dc KX8_block 38 (.if_icmp .lt 5) 3 := by decide +kernel
theorem dX8_block_41 : Dc KX8_block 41 (.iconst (-1)) 1 := by decide +kernel
theorem dX8_block_42 : Dc KX8_block 42 (.ireturn) 1 := by decide +kernel
theorem dX8_block_43 : Dc KX8_block 43 (.iload_n 3) 1 := by decide +kernel
theorem dX8_block_44 : Dc KX8_block 44 (.tableswitch 81 0 4 #[36, 45, 54, 63, 72]) 36 := by decide +kernel
theorem dX8_block_80 : Dc KX8_block 80 (.aload_n 0) 1 := by decide +kernel
theorem dX8_block_81 : Dc KX8_block 81 (.getfield 40) 3 := by decide +kernel
theorem dX8_block_84 : Dc KX8_block 84 (.iload_n 2) 1 := by decide +kernel
theorem dX8_block_85 : Dc KX8_block 85 (.invokevirtual 173) 3 := by decide +kernel
theorem dX8_block_88 : Dc KX8_block 88 (.ireturn) 1 := by decide +kernel
theorem dX8_block_89 : Dc KX8_block 89 (.aload_n 0) 1 := by decide +kernel
theorem dX8_block_90 : Dc KX8_block 90 (.getfield 40) 3 := by decide +kernel
theorem dX8_block_93 : Dc KX8_block 93 (.iload_n 2) 1 := by decide +kernel
theorem dX8_block_94 : Dc KX8_block 94 (.invokevirtual 176) 3 := by decide +kernel
theorem dX8_block_97 : Dc KX8_block 97 (.ireturn) 1 := by decide +kernel
theorem dX8_block_98 : Dc KX8_block 98 (.aload_n 0) 1 := by decide +kernel
theorem dX8_block_99 : Dc KX8_block 99 (.getfield 40) 3 := by decide +kernel
theorem dX8_block_102 : Dc KX8_block 102 (.iload_n 2) 1 := by decide +kernel
theorem dX8_block_103 : Dc KX8_block 103 (.invokevirtual 179) 3 := by decide +kernel
theorem dX8_block_106 : Dc KX8_block 106 (.ireturn) 1 := by decide +kernel
theorem dX8_block_107 : Dc KX8_block 107 (.aload_n 0) 1 := by decide +kernel
theorem dX8_block_108 : Dc KX8_block 108 (.getfield 40) 3 := by decide +kernel
theorem dX8_block_111 : Dc KX8_block 111 (.iload_n 2) 1 := by decide +kernel
theorem dX8_block_112 : Dc KX8_block 112 (.invokevirtual 182) 3 := by decide +kernel
theorem dX8_block_115 : Dc KX8_block 115 (.ireturn) 1 := by decide +kernel
theorem dX8_block_116 : Dc KX8_block 116 (.aload_n 0) 1 := by decide +kernel
theorem dX8_block_117 : Dc KX8_block 117 (.getfield 40) 3 := by decide +kernel
theorem dX8_block_120 : Dc KX8_block 120 (.iload_n 2) 1 := by decide +kernel
theorem dX8_block_121 : Dc KX8_block 121 (.invokevirtual 185) 3 := by decide +kernel
theorem dX8_block_124 : Dc KX8_block 124 (.ireturn) 1 := by decide +kernel
theorem dX8_block_125 : Dc KX8_block 125 (.aload_n 0) 1 := by decide +kernel
theorem dX8_block_126 : Dc KX8_block 126 (.getfield 40) 3 := by decide +kernel
theorem dX8_block_129 : Dc KX8_block 129 (.iload_n 2) 1 := by decide +kernel
theorem dX8_block_130 : Dc KX8_block 130 (.invokevirtual 188) 3 := by decide +kernel
theorem dX8_block_133 : Dc KX8_block 133 (.ireturn) 1 := by decide +kernel
theorem dX8_of_0 : Dc KX8_of 0 (.iload_n 1) 1 := by decide +kernel
theorem dX8_of_1 : Dc KX8_of 1 (.invokestatic 63) 3 := by decide +kernel
theorem dX8_of_4 : Dc KX8_of 4 (.iload_n 2) 1 := by decide +kernel
theorem dX8_of_5 : Dc KX8_of 5 (.ifCond .lt 13) 3 := by decide +kernel
theorem dX8_of_8 : Dc KX8_of 8 (.iload_n 2) 1 := by decide +kernel
theorem dX8_of_9 : Dc KX8_of 9 (.bipush 7) 2 := by decide +kernel
theorem dX8_of_11 : Dc KX8_of 11 (.if_icmp .gt 7) 3 := by decide +kernel
theorem dX8_of_14 : Dc KX8_of 14 (.iconst 1) 1 := by decide +kernel
theorem dX8_of_15 : Dc KX8_of 15 (.goto 4) 3 := by decide +kernel
theorem dX8_of_18 : Dc KX8_of 18 (.iconst 0) 1 := by decide +kernel
theorem dX8_of_19 : Dc KX8_of 19 (.invokestatic 96) 3 := by decide +kernel
theorem dX8_of_22 : Dc KX8_of 22 (.aload_n 0) 1 := by decide +kernel
theorem dX8_of_23 : Dc KX8_of 23 (.getfield 10) 3 := by decide +kernel
theorem dX8_of_26 : Dc KX8_of 26 (.iload_n 1) 1 := by decide +kernel
theorem dX8_of_27 : Dc KX8_of 27 (.invokevirtual 69) 3 := by decide +kernel
theorem dX8_of_30 : Dc KX8_of 30 (.astore_n 3) 1 := by decide +kernel
theorem dX8_of_31 : Dc KX8_of 31 (.iload_n 2) 1 := by decide +kernel
theorem dX8_of_32 : Dc KX8_of 32 (.tableswitch 90 0 6 #[44, 49, 62, 68, 75, 80, 85]) 44 := by decide +kernel
theorem dX8_of_76 : Dc KX8_of 76 (.aload_n 3) 1 := by decide +kernel
theorem dX8_of_77 : Dc KX8_of 77 (.invokevirtual 77) 3 := by decide +kernel
theorem dX8_of_80 : Dc KX8_of 80 (.ireturn) 1 := by decide +kernel
theorem dX8_of_81 : Dc KX8_of 81 (.aload_n 0) 1 := by decide +kernel
theorem dX8_of_82 : Dc KX8_of 82 (.getfield 40) 3 := by decide +kernel
theorem dX8_of_85 : Dc KX8_of 85 (.aload_n 0) 1 := by decide +kernel
theorem dX8_of_86 : Dc KX8_of 86 (.getfield 10) 3 := by decide +kernel
theorem dX8_of_89 : Dc KX8_of 89 (.iload_n 1) 1 := by decide +kernel
theorem dX8_of_90 : Dc KX8_of 90 (.invokevirtual 169) 3 := by decide +kernel
theorem dX8_of_93 : Dc KX8_of 93 (.ireturn) 1 := by decide +kernel
theorem dX8_of_94 : Dc KX8_of 94 (.aload_n 0) 1 := by decide +kernel
theorem dX8_of_95 : Dc KX8_of 95 (.aload_n 3) 1 := by decide +kernel
theorem dX8_of_96 : Dc KX8_of 96 (.invokevirtual 191) 3 := by decide +kernel
theorem dX8_of_99 : Dc KX8_of 99 (.ireturn) 1 := by decide +kernel
theorem dX8_of_100 : Dc KX8_of 100 (.iconst 2) 1 := by decide +kernel
theorem dX8_of_101 : Dc KX8_of 101 (.aload_n 3) 1 := by decide +kernel
theorem dX8_of_102 : Dc KX8_of 102 (.invokevirtual 77) 3 := by decide +kernel
theorem dX8_of_105 : Dc KX8_of 105 (.imul) 1 := by decide +kernel
theorem dX8_of_106 : Dc KX8_of 106 (.ireturn) 1 := by decide +kernel
theorem dX8_of_107 : Dc KX8_of 107 (.aload_n 3) 1 := by decide +kernel
theorem dX8_of_108 : Dc KX8_of 108 (.invokevirtual 103) 3 := by decide +kernel
theorem dX8_of_111 : Dc KX8_of 111 (.ireturn) 1 := by decide +kernel
theorem dX8_of_112 : Dc KX8_of 112 (.aload_n 3) 1 := by decide +kernel
theorem dX8_of_113 : Dc KX8_of 113 (.invokevirtual 106) 3 := by decide +kernel
theorem dX8_of_116 : Dc KX8_of 116 (.ireturn) 1 := by decide +kernel
theorem dX8_of_117 : Dc KX8_of 117 (.aload_n 3) 1 := by decide +kernel
theorem dX8_of_118 : Dc KX8_of 118 (.invokevirtual 195) 3 := by decide +kernel
theorem dX8_of_121 : Dc KX8_of 121 (.ireturn) 1 := by decide +kernel
theorem dX8_of_122 : Dc KX8_of 122 (.aload_n 0) 1 := by decide +kernel
theorem dX8_of_123 : Dc KX8_of 123 (.getfield 40) 3 := by decide +kernel
theorem dX8_of_126 : Dc KX8_of 126 (.aload_n 0) 1 := by decide +kernel
theorem dX8_of_127 : Dc KX8_of 127 (.getfield 10) 3 := by decide +kernel
theorem dX8_of_130 : Dc KX8_of 130 (.iload_n 1) 1 := by decide +kernel
theorem dX8_of_131 : Dc KX8_of 131 (.invokevirtual 169) 3 := by decide +kernel
theorem dX8_of_134 : Dc KX8_of 134 (.pop) 1 := by decide +kernel
theorem dX8_of_135 : Dc KX8_of 135 (.aload_n 0) 1 := by decide +kernel
theorem dX8_of_136 : Dc KX8_of 136 (.getfield 40) 3 := by decide +kernel
theorem dX8_of_139 : Dc KX8_of 139 (.invokevirtual 198) 3 := by decide +kernel
theorem dX8_of_142 : Dc KX8_of 142 (.ireturn) 1 := by decide +kernel
theorem dX8_leaps_0 : Dc KX8_leaps 0 (.iload_n 1) 1 := by decide +kernel
theorem dX8_leaps_1 : Dc KX8_leaps 1 (.invokestatic 63) 3 := by decide +kernel
theorem dX8_leaps_4 : Dc KX8_leaps 4 (.iload_n 2) 1 := by decide +kernel
theorem dX8_leaps_5 : Dc KX8_leaps 5 (.invokestatic 63) 3 := by decide +kernel
theorem dX8_leaps_8 : Dc KX8_leaps 8 (.iload_n 3) 1 := by decide +kernel
theorem dX8_leaps_9 : Dc KX8_leaps 9 (.ifCond .lt 12) 3 := by decide +kernel
theorem dX8_leaps_12 : Dc KX8_leaps 12 (.iload_n 3) 1 := by decide +kernel
theorem dX8_leaps_13 : Dc KX8_leaps 13 (.iconst 3) 1 := by decide +kernel
theorem dX8_leaps_14 : Dc KX8_leaps 14 (.if_icmp .gt 7) 3 := by decide +kernel
theorem dX8_leaps_17 : Dc KX8_leaps 17 (.iconst 1) 1 := by decide +kernel
theorem dX8_leaps_18 : Dc KX8_leaps 18 (.goto 4) 3 := by decide +kernel
theorem dX8_leaps_21 : Dc KX8_leaps 21 (.iconst 0) 1 := by decide +kernel
theorem dX8_leaps_22 : Dc KX8_leaps 22 (.invokestatic 96) 3 := by decide +kernel
theorem dX8_leaps_25 : Dc KX8_leaps 25 (.aload_n 0) 1 := by decide +kernel
theorem dX8_leaps_26 : Dc KX8_leaps 26 (.getfield 47) 3 := by decide +kernel
theorem dX8_leaps_29 : Dc KX8_leaps 29 (.aload_n 0) 1 := by decide +kernel
theorem dX8_leaps_30 : Dc KX8_leaps 30 (.getfield 10) 3 := by decide +kernel
theorem dX8_leaps_33 : Dc KX8_leaps 33 (.iload_n 1) 1 := by decide +kernel
theorem dX8_leaps_34 : Dc KX8_leaps 34 (.iload_n 2) 1 := by decide +kernel
theorem dX8_leaps_35 : Dc KX8_leaps 35 (.invokevirtual 201) 3 := by decide +kernel
theorem dX8_leaps_38 : Dc KX8_leaps 38 (.aload_n 0) 1 := by decide +kernel
theorem dX8_leaps_39 : Dc KX8_leaps 39 (.getfield 47) 3 := by decide +kernel
theorem dX8_leaps_42 : Dc KX8_leaps 42 (.iload_n 3) 1 := by decide +kernel
theorem dX8_leaps_43 : Dc KX8_leaps 43 (.invokevirtual 205) 3 := by decide +kernel
theorem dX8_leaps_46 : Dc KX8_leaps 46 (.ireturn) 1 := by decide +kernel
theorem dX8_count_0 : Dc KX8_count 0 (.iload_n 1) 1 := by decide +kernel
theorem dX8_count_1 : Dc KX8_count 1 (.ifCond .lt 13) 3 := by decide +kernel
theorem dX8_count_4 : Dc KX8_count 4 (.iload_n 1) 1 := by decide +kernel
theorem dX8_count_5 : Dc KX8_count 5 (.bipush 6) 2 := by decide +kernel
theorem dX8_count_7 : Dc KX8_count 7 (.if_icmp .gt 7) 3 := by decide +kernel
theorem dX8_count_10 : Dc KX8_count 10 (.iconst 1) 1 := by decide +kernel
theorem dX8_count_11 : Dc KX8_count 11 (.goto 4) 3 := by decide +kernel
theorem dX8_count_14 : Dc KX8_count 14 (.iconst 0) 1 := by decide +kernel
theorem dX8_count_15 : Dc KX8_count 15 (.invokestatic 96) 3 := by decide +kernel
theorem dX8_count_18 : Dc KX8_count 18 (.iload_n 1) 1 := by decide +kernel
theorem dX8_count_19 : Dc KX8_count 19 (.tableswitch 75 0 5 #[37, 42, 47, 52, 65, 70]) 37 := by decide +kernel
theorem dX8_count_56 : Dc KX8_count 56 (.aload_n 0) 1 := by decide +kernel
theorem dX8_count_57 : Dc KX8_count 57 (.invokevirtual 208) 3 := by decide +kernel
theorem dX8_count_60 : Dc KX8_count 60 (.ireturn) 1 := by decide +kernel
theorem dX8_count_61 : Dc KX8_count 61 (.aload_n 0) 1 := by decide +kernel
theorem dX8_count_62 : Dc KX8_count 62 (.invokevirtual 211) 3 := by decide +kernel
theorem dX8_count_65 : Dc KX8_count 65 (.ireturn) 1 := by decide +kernel
theorem dX8_count_66 : Dc KX8_count 66 (.aload_n 0) 1 := by decide +kernel
theorem dX8_count_67 : Dc KX8_count 67 (.invokevirtual 214) 3 := by decide +kernel
theorem dX8_count_70 : Dc KX8_count 70 (.ireturn) 1 := by decide +kernel
theorem dX8_count_71 : Dc KX8_count 71 (.aload_n 0) 1 := by decide +kernel
theorem dX8_count_72 : Dc KX8_count 72 (.aload_n 0) 1 := by decide +kernel
theorem dX8_count_73 : Dc KX8_count 73 (.getfield 10) 3 := by decide +kernel
theorem dX8_count_76 : Dc KX8_count 76 (.iconst 1) 1 := by decide +kernel
theorem dX8_count_77 : Dc KX8_count 77 (.invokevirtual 129) 3 := by decide +kernel
theorem dX8_count_80 : Dc KX8_count 80 (.invokevirtual 217) 3 := by decide +kernel
theorem dX8_count_83 : Dc KX8_count 83 (.ireturn) 1 := by decide +kernel
theorem dX8_count_84 : Dc KX8_count 84 (.aload_n 0) 1 := by decide +kernel
theorem dX8_count_85 : Dc KX8_count 85 (.invokevirtual 220) 3 := by decide +kernel
theorem dX8_count_88 : Dc KX8_count 88 (.ireturn) 1 := by decide +kernel
theorem dX8_count_89 : Dc KX8_count 89 (.aload_n 0) 1 := by decide +kernel
theorem dX8_count_90 : Dc KX8_count 90 (.invokevirtual 223) 3 := by decide +kernel
theorem dX8_count_93 : Dc KX8_count 93 (.ireturn) 1 := by decide +kernel
theorem dX8_count_94 : Dc KX8_count 94 (.aload_n 0) 1 := by decide +kernel
theorem dX8_count_95 : Dc KX8_count 95 (.getfield 19) 3 := by decide +kernel
theorem dX8_count_98 : Dc KX8_count 98 (.invokevirtual 156) 3 := by decide +kernel
theorem dX8_count_101 : Dc KX8_count 101 (.ireturn) 1 := by decide +kernel
theorem dX8_setting_0 : Dc KX8_setting 0 (.iload_n 1) 1 := by decide +kernel
theorem dX8_setting_1 : Dc KX8_setting 1 (.invokestatic 120) 3 := by decide +kernel
theorem dX8_setting_4 : Dc KX8_setting 4 (.aload_n 0) 1 := by decide +kernel
theorem dX8_setting_5 : Dc KX8_setting 5 (.getfield 10) 3 := by decide +kernel
theorem dX8_setting_8 : Dc KX8_setting 8 (.iload_n 1) 1 := by decide +kernel
theorem dX8_setting_9 : Dc KX8_setting 9 (.invokevirtual 129) 3 := by decide +kernel
theorem dX8_setting_12 : Dc KX8_setting 12 (.ireturn) 1 := by decide +kernel
theorem dX8_ifSet_0 : Dc KX8_ifSet 0 (.iload_n 1) 1 := by decide +kernel
theorem dX8_ifSet_1 : Dc KX8_ifSet 1 (.invokestatic 63) 3 := by decide +kernel
theorem dX8_ifSet_4 : Dc KX8_ifSet 4 (.iload_n 2) 1 := by decide +kernel
theorem dX8_ifSet_5 : Dc KX8_ifSet 5 (.invokestatic 123) 3 := by decide +kernel
theorem dX8_ifSet_8 : Dc KX8_ifSet 8 (.ifCond .eq 14) 3 := by decide +kernel
theorem dX8_ifSet_11 : Dc KX8_ifSet 11 (.iload_n 3) 1 := by decide +kernel
theorem dX8_ifSet_12 : Dc KX8_ifSet 12 (.invokestatic 126) 3 := by decide +kernel
theorem dX8_ifSet_15 : Dc KX8_ifSet 15 (.ifCond .eq 7) 3 := by decide +kernel
theorem dX8_ifSet_18 : Dc KX8_ifSet 18 (.iconst 1) 1 := by decide +kernel
theorem dX8_ifSet_19 : Dc KX8_ifSet 19 (.goto 4) 3 := by decide +kernel
theorem dX8_ifSet_22 : Dc KX8_ifSet 22 (.iconst 0) 1 := by decide +kernel
theorem dX8_ifSet_23 : Dc KX8_ifSet 23 (.invokestatic 96) 3 := by decide +kernel
theorem dX8_ifSet_26 : Dc KX8_ifSet 26 (.aload_n 0) 1 := by decide +kernel
theorem dX8_ifSet_27 : Dc KX8_ifSet 27 (.getfield 10) 3 := by decide +kernel
theorem dX8_ifSet_30 : Dc KX8_ifSet 30 (.iload_n 1) 1 := by decide +kernel
theorem dX8_ifSet_31 : Dc KX8_ifSet 31 (.invokevirtual 69) 3 := by decide +kernel
theorem dX8_ifSet_34 : Dc KX8_ifSet 34 (.iload_n 2) 1 := by decide +kernel
theorem dX8_ifSet_35 : Dc KX8_ifSet 35 (.iload_n 3) 1 := by decide +kernel
theorem dX8_ifSet_36 : Dc KX8_ifSet 36 (.invokevirtual 226) 3 := by decide +kernel
theorem dX8_ifSet_39 : Dc KX8_ifSet 39 (.ireturn) 1 := by decide +kernel
theorem dX8_ifAdded_0 : Dc KX8_ifAdded 0 (.iload_n 1) 1 := by decide +kernel
theorem dX8_ifAdded_1 : Dc KX8_ifAdded 1 (.invokestatic 63) 3 := by decide +kernel
theorem dX8_ifAdded_4 : Dc KX8_ifAdded 4 (.iload_n 2) 1 := by decide +kernel
theorem dX8_ifAdded_5 : Dc KX8_ifAdded 5 (.invokestatic 66) 3 := by decide +kernel
theorem dX8_ifAdded_8 : Dc KX8_ifAdded 8 (.aload_n 0) 1 := by decide +kernel
theorem dX8_ifAdded_9 : Dc KX8_ifAdded 9 (.getfield 10) 3 := by decide +kernel
theorem dX8_ifAdded_12 : Dc KX8_ifAdded 12 (.iload_n 1) 1 := by decide +kernel
theorem dX8_ifAdded_13 : Dc KX8_ifAdded 13 (.invokevirtual 69) 3 := by decide +kernel
theorem dX8_ifAdded_16 : Dc KX8_ifAdded 16 (.astore_n 3) 1 := by decide +kernel
theorem dX8_ifAdded_17 : Dc KX8_ifAdded 17 (.aload_n 0) 1 := by decide +kernel
theorem dX8_ifAdded_18 : Dc KX8_ifAdded 18 (.getfield 56) 3 := by decide +kernel
theorem dX8_ifAdded_21 : Dc KX8_ifAdded 21 (.aload_n 3) 1 := by decide +kernel
theorem dX8_ifAdded_22 : Dc KX8_ifAdded 22 (.invokevirtual 116) 3 := by decide +kernel
theorem dX8_ifAdded_25 : Dc KX8_ifAdded 25 (.aload_n 0) 1 := by decide +kernel
theorem dX8_ifAdded_26 : Dc KX8_ifAdded 26 (.getfield 56) 3 := by decide +kernel
theorem dX8_ifAdded_29 : Dc KX8_ifAdded 29 (.iload_n 2) 1 := by decide +kernel
theorem dX8_ifAdded_30 : Dc KX8_ifAdded 30 (.invokevirtual 89) 3 := by decide +kernel
theorem dX8_ifAdded_33 : Dc KX8_ifAdded 33 (.aload_n 0) 1 := by decide +kernel
theorem dX8_ifAdded_34 : Dc KX8_ifAdded 34 (.aload_n 0) 1 := by decide +kernel
theorem dX8_ifAdded_35 : Dc KX8_ifAdded 35 (.getfield 56) 3 := by decide +kernel
theorem dX8_ifAdded_38 : Dc KX8_ifAdded 38 (.invokevirtual 191) 3 := by decide +kernel
theorem dX8_ifAdded_41 : Dc KX8_ifAdded 41 (.aload_n 0) 1 := by decide +kernel
theorem dX8_ifAdded_42 : Dc KX8_ifAdded 42 (.aload_n 3) 1 := by decide +kernel
theorem dX8_ifAdded_43 : Dc KX8_ifAdded 43 (.invokevirtual 191) 3 := by decide +kernel
theorem dX8_ifAdded_46 : Dc KX8_ifAdded 46 (.isub) 1 := by decide +kernel
theorem dX8_ifAdded_47 : Dc KX8_ifAdded 47 (.ireturn) 1 := by decide +kernel
theorem dX8_dearest_0 : Dc KX8_dearest 0 (.iload_n 1) 1 := by decide +kernel
theorem dX8_dearest_1 : Dc KX8_dearest 1 (.invokestatic 63) 3 := by decide +kernel
theorem dX8_dearest_4 : Dc KX8_dearest 4 (.iload_n 2) 1 := by decide +kernel
theorem dX8_dearest_5 : Dc KX8_dearest 5 (.ifCond .eq 8) 3 := by decide +kernel
theorem dX8_dearest_8 : Dc KX8_dearest 8 (.iload_n 2) 1 := by decide +kernel
theorem dX8_dearest_9 : Dc KX8_dearest 9 (.iconst 1) 1 := by decide +kernel
theorem dX8_dearest_10 : Dc KX8_dearest 10 (.if_icmp .ne 7) 3 := by decide +kernel
theorem dX8_dearest_13 : Dc KX8_dearest 13 (.iconst 1) 1 := by decide +kernel
theorem dX8_dearest_14 : Dc KX8_dearest 14 (.goto 4) 3 := by decide +kernel
theorem dX8_dearest_17 : Dc KX8_dearest 17 (.iconst 0) 1 := by decide +kernel
theorem dX8_dearest_18 : Dc KX8_dearest 18 (.invokestatic 96) 3 := by decide +kernel
theorem dX8_dearest_21 : Dc KX8_dearest 21 (.aload_n 0) 1 := by decide +kernel
theorem dX8_dearest_22 : Dc KX8_dearest 22 (.getfield 10) 3 := by decide +kernel
theorem dX8_dearest_25 : Dc KX8_dearest 25 (.iload_n 1) 1 := by decide +kernel
theorem dX8_dearest_26 : Dc KX8_dearest 26 (.invokevirtual 69) 3 := by decide +kernel
theorem dX8_dearest_29 : Dc KX8_dearest 29 (.astore_n 3) 1 := by decide +kernel
theorem dX8_dearest_30 : Dc KX8_dearest 30 (.iconst (-1)) 1 := by decide +kernel
theorem dX8_dearest_31 : Dc KX8_dearest 31 (.istore 4) 2 := by decide +kernel
theorem dX8_dearest_33 : Dc KX8_dearest 33 (.iconst (-1)) 1 := by decide +kernel
theorem dX8_dearest_34 : Dc KX8_dearest 34 (.istore 5) 2 := by decide +kernel
theorem dX8_dearest_36 : Dc KX8_dearest 36 (.iconst 0) 1 := by decide +kernel
theorem dX8_dearest_37 : Dc KX8_dearest 37 (.istore 6) 2 := by decide +kernel
theorem dX8_dearest_39 : Dc KX8_dearest 39 (.iload 6) 2 := by decide +kernel
theorem dX8_dearest_41 : Dc KX8_dearest 41 (.aload_n 3) 1 := by decide +kernel
theorem dX8_dearest_42 : Dc KX8_dearest 42 (.invokevirtual 77) 3 := by decide +kernel
theorem dX8_dearest_45 : Dc KX8_dearest 45 (.if_icmp .ge 67) 3 := by decide +kernel
theorem dX8_dearest_48 : Dc KX8_dearest 48 (.aload_n 3) 1 := by decide +kernel
theorem dX8_dearest_49 : Dc KX8_dearest 49 (.iload 6) 2 := by decide +kernel
theorem dX8_dearest_51 : Dc KX8_dearest 51 (.invokevirtual 160) 3 := by decide +kernel
theorem dX8_dearest_54 : Dc KX8_dearest 54 (.istore 7) 2 := by decide +kernel
theorem dX8_dearest_56 : Dc KX8_dearest 56 (.aload_n 0) 1 := by decide +kernel
theorem dX8_dearest_57 : Dc KX8_dearest 57 (.getfield 56) 3 := by decide +kernel
theorem dX8_dearest_60 : Dc KX8_dearest 60 (.aload_n 3) 1 := by decide +kernel
theorem dX8_dearest_61 : Dc KX8_dearest 61 (.invokevirtual 116) 3 := by decide +kernel
theorem dX8_dearest_64 : Dc KX8_dearest 64 (.aload_n 0) 1 := by decide +kernel
theorem dX8_dearest_65 : Dc KX8_dearest 65 (.getfield 56) 3 := by decide +kernel
theorem dX8_dearest_68 : Dc KX8_dearest 68 (.iload 7) 2 := by decide +kernel
theorem dX8_dearest_70 : Dc KX8_dearest 70 (.iload 7) 2 := by decide +kernel
theorem dX8_dearest_72 : Dc KX8_dearest 72 (.invokevirtual 92) 3 := by decide +kernel
theorem dX8_dearest_75 : Dc KX8_dearest 75 (.pop) 1 := by decide +kernel
theorem dX8_dearest_76 : Dc KX8_dearest 76 (.aload_n 0) 1 := by decide +kernel
theorem dX8_dearest_77 : Dc KX8_dearest 77 (.aload_n 0) 1 := by decide +kernel
theorem dX8_dearest_78 : Dc KX8_dearest 78 (.getfield 56) 3 := by decide +kernel
theorem dX8_dearest_81 : Dc KX8_dearest 81 (.invokevirtual 191) 3 := by decide +kernel
theorem dX8_dearest_84 : Dc KX8_dearest 84 (.istore 8) 2 := by decide +kernel
theorem dX8_dearest_86 : Dc KX8_dearest 86 (.iload 6) 2 := by decide +kernel
theorem dX8_dearest_88 : Dc KX8_dearest 88 (.ifCond .eq 10) 3 := by decide +kernel
theorem dX8_dearest_91 : Dc KX8_dearest 91 (.iload 8) 2 := by decide +kernel
theorem dX8_dearest_93 : Dc KX8_dearest 93 (.iload 5) 2 := by decide +kernel
theorem dX8_dearest_95 : Dc KX8_dearest 95 (.if_icmp .ge 11) 3 := by decide +kernel
theorem dX8_dearest_98 : Dc KX8_dearest 98 (.iload 7) 2 := by decide +kernel
theorem dX8_dearest_100 : Dc KX8_dearest 100 (.istore 4) 2 := by decide +kernel
theorem dX8_dearest_102 : Dc KX8_dearest 102 (.iload 8) 2 := by decide +kernel
theorem dX8_dearest_104 : Dc KX8_dearest 104 (.istore 5) 2 := by decide +kernel
theorem dX8_dearest_106 : Dc KX8_dearest 106 (.iinc 6 1) 3 := by decide +kernel
theorem dX8_dearest_109 : Dc KX8_dearest 109 (.goto (-70)) 3 := by decide +kernel
theorem dX8_dearest_112 : Dc KX8_dearest 112 (.iload_n 2) 1 := by decide +kernel
theorem dX8_dearest_113 : Dc KX8_dearest 113 (.ifCond .ne 8) 3 := by decide +kernel
theorem dX8_dearest_116 : Dc KX8_dearest 116 (.iload 4) 2 := by decide +kernel
theorem dX8_dearest_118 : Dc KX8_dearest 118 (.goto 5) 3 := by decide +kernel
theorem dX8_dearest_121 : Dc KX8_dearest 121 (.iload 5) 2 := by decide +kernel
theorem dX8_dearest_123 : Dc KX8_dearest 123 (.ireturn) 1 := by decide +kernel
theorem dX8_bestWidth_0 : Dc KX8_bestWidth 0 (.aload_n 0) 1 := by decide +kernel
theorem dX8_bestWidth_1 : Dc KX8_bestWidth 1 (.invokevirtual 229) 3 := by decide +kernel
theorem dX8_bestWidth_4 : Dc KX8_bestWidth 4 (.iconst 1) 1 := by decide +kernel
theorem dX8_bestWidth_5 : Dc KX8_bestWidth 5 (.istore_n 1) 1 := by decide +kernel
theorem dX8_bestWidth_6 : Dc KX8_bestWidth 6 (.aload_n 0) 1 := by decide +kernel
theorem dX8_bestWidth_7 : Dc KX8_bestWidth 7 (.iconst 1) 1 := by decide +kernel
theorem dX8_bestWidth_8 : Dc KX8_bestWidth 8 (.invokevirtual 217) 3 := by decide +kernel
theorem dX8_bestWidth_11 : Dc KX8_bestWidth 11 (.istore_n 2) 1 := by decide +kernel
theorem dX8_bestWidth_12 : Dc KX8_bestWidth 12 (.iconst 1) 1 := by decide +kernel
theorem dX8_bestWidth_13 : Dc KX8_bestWidth 13 (.istore_n 3) 1 := by decide +kernel
theorem dX8_bestWidth_14 : Dc KX8_bestWidth 14 (.iload_n 3) 1 := by decide +kernel
theorem dX8_bestWidth_15 : Dc KX8_bestWidth 15 (.aload_n 0) 1 := by decide +kernel
theorem dX8_bestWidth_16 : Dc KX8_bestWidth 16 (.getfield 60) 3 := by decide +kernel
theorem dX8_bestWidth_19 : Dc KX8_bestWidth 19 (.invokevirtual 77) 3 := by decide +kernel
theorem dX8_bestWidth_22 : Dc KX8_bestWidth 22 (.if_icmp .ge 41) 3 := by decide +kernel
theorem dX8_bestWidth_25 : Dc KX8_bestWidth 25 (.aload_n 0) 1 := by decide +kernel
theorem dX8_bestWidth_26 : Dc KX8_bestWidth 26 (.aload_n 0) 1 := by decide +kernel
theorem dX8_bestWidth_27 : Dc KX8_bestWidth 27 (.getfield 60) 3 := by decide +kernel
theorem dX8_bestWidth_30 : Dc KX8_bestWidth 30 (.iload_n 3) 1 := by decide +kernel
theorem dX8_bestWidth_31 : Dc KX8_bestWidth 31 (.invokevirtual 160) 3 := by decide +kernel
theorem dX8_bestWidth_34 : Dc KX8_bestWidth 34 (.invokevirtual 217) 3 := by decide +kernel
theorem dX8_bestWidth_37 : Dc KX8_bestWidth 37 (.istore 4) 2 := by decide +kernel
theorem dX8_bestWidth_39 : Dc KX8_bestWidth 39 (.iload 4) 2 := by decide +kernel
theorem dX8_bestWidth_41 : Dc KX8_bestWidth 41 (.iload_n 2) 1 := by decide +kernel
theorem dX8_bestWidth_42 : Dc KX8_bestWidth 42 (.if_icmp .ge 15) 3 := by decide +kernel
theorem dX8_bestWidth_45 : Dc KX8_bestWidth 45 (.aload_n 0) 1 := by decide +kernel
theorem dX8_bestWidth_46 : Dc KX8_bestWidth 46 (.getfield 60) 3 := by decide +kernel
theorem dX8_bestWidth_49 : Dc KX8_bestWidth 49 (.iload_n 3) 1 := by decide +kernel
theorem dX8_bestWidth_50 : Dc KX8_bestWidth 50 (.invokevirtual 160) 3 := by decide +kernel
theorem dX8_bestWidth_53 : Dc KX8_bestWidth 53 (.istore_n 1) 1 := by decide +kernel
theorem dX8_bestWidth_54 : Dc KX8_bestWidth 54 (.iload 4) 2 := by decide +kernel
theorem dX8_bestWidth_56 : Dc KX8_bestWidth 56 (.istore_n 2) 1 := by decide +kernel
theorem dX8_bestWidth_57 : Dc KX8_bestWidth 57 (.iinc 3 1) 3 := by decide +kernel
theorem dX8_bestWidth_60 : Dc KX8_bestWidth 60 (.goto (-46)) 3 := by decide +kernel
theorem dX8_bestWidth_63 : Dc KX8_bestWidth 63 (.iload_n 1) 1 := by decide +kernel
theorem dX8_bestWidth_64 : Dc KX8_bestWidth 64 (.ireturn) 1 := by decide +kernel
theorem dX8_smallness_0 : Dc KX8_smallness 0 (.iconst 2) 1 := by decide +kernel
theorem dX8_smallness_1 : Dc KX8_smallness 1 (.aload_n 0) 1 := by decide +kernel
theorem dX8_smallness_2 : Dc KX8_smallness 2 (.invokevirtual 208) 3 := by decide +kernel
theorem dX8_smallness_5 : Dc KX8_smallness 5 (.imul) 1 := by decide +kernel
theorem dX8_smallness_6 : Dc KX8_smallness 6 (.istore_n 1) 1 := by decide +kernel
theorem dX8_smallness_7 : Dc KX8_smallness 7 (.iload_n 1) 1 := by decide +kernel
theorem dX8_smallness_8 : Dc KX8_smallness 8 (.ifCond .ne 5) 3 := by decide +kernel
theorem dX8_smallness_11 : Dc KX8_smallness 11 (.dconst 1) 1 := by decide +kernel
theorem dX8_smallness_12 : Dc KX8_smallness 12 (.dreturn) 1 := by decide +kernel
theorem dX8_smallness_13 : Dc KX8_smallness 13 (.aload_n 0) 1 := by decide +kernel
theorem dX8_smallness_14 : Dc KX8_smallness 14 (.aload_n 0) 1 := by decide +kernel
theorem dX8_smallness_15 : Dc KX8_smallness 15 (.getfield 10) 3 := by decide +kernel
theorem dX8_smallness_18 : Dc KX8_smallness 18 (.iconst 1) 1 := by decide +kernel
theorem dX8_smallness_19 : Dc KX8_smallness 19 (.invokevirtual 129) 3 := by decide +kernel
theorem dX8_smallness_22 : Dc KX8_smallness 22 (.invokevirtual 217) 3 := by decide +kernel
theorem dX8_smallness_25 : Dc KX8_smallness 25 (.i2d) 1 := by decide +kernel
theorem dX8_smallness_26 : Dc KX8_smallness 26 (.iload_n 1) 1 := by decide +kernel
theorem dX8_smallness_27 : Dc KX8_smallness 27 (.i2d) 1 := by decide +kernel
theorem dX8_smallness_28 : Dc KX8_smallness 28 (.ddiv) 1 := by decide +kernel
theorem dX8_smallness_29 : Dc KX8_smallness 29 (.dreturn) 1 := by decide +kernel
theorem dX8_digest_0 : Dc KX8_digest 0 (.ldc2_w 232) 3 := by decide +kernel
theorem dX8_digest_3 : Dc KX8_digest 3 (.lstore_n 1) 1 := by decide +kernel
theorem dX8_digest_4 : Dc KX8_digest 4 (.iconst 0) 1 := by decide +kernel
theorem dX8_digest_5 : Dc KX8_digest 5 (.istore_n 3) 1 := by decide +kernel
theorem dX8_digest_6 : Dc KX8_digest 6 (.iload_n 3) 1 := by decide +kernel
theorem dX8_digest_7 : Dc KX8_digest 7 (.bipush 6) 2 := by decide +kernel
theorem dX8_digest_9 : Dc KX8_digest 9 (.if_icmp .gt 20) 3 := by decide +kernel
theorem dX8_digest_12 : Dc KX8_digest 12 (.lload_n 1) 1 := by decide +kernel
theorem dX8_digest_13 : Dc KX8_digest 13 (.aload_n 0) 1 := by decide +kernel
theorem dX8_digest_14 : Dc KX8_digest 14 (.iload_n 3) 1 := by decide +kernel
theorem dX8_digest_15 : Dc KX8_digest 15 (.invokevirtual 234) 3 := by decide +kernel
theorem dX8_digest_18 : Dc KX8_digest 18 (.i2l) 1 := by decide +kernel
theorem dX8_digest_19 : Dc KX8_digest 19 (.invokestatic 237) 3 := by decide +kernel
theorem dX8_digest_22 : Dc KX8_digest 22 (.lstore_n 1) 1 := by decide +kernel
theorem dX8_digest_23 : Dc KX8_digest 23 (.iinc 3 1) 3 := by decide +kernel
theorem dX8_digest_26 : Dc KX8_digest 26 (.goto (-20)) 3 := by decide +kernel
theorem dX8_digest_29 : Dc KX8_digest 29 (.iconst 0) 1 := by decide +kernel
theorem dX8_digest_30 : Dc KX8_digest 30 (.istore_n 3) 1 := by decide +kernel
theorem dX8_digest_31 : Dc KX8_digest 31 (.iload_n 3) 1 := by decide +kernel
theorem dX8_digest_32 : Dc KX8_digest 32 (.iconst 2) 1 := by decide +kernel
theorem dX8_digest_33 : Dc KX8_digest 33 (.if_icmp .ge 23) 3 := by decide +kernel
theorem dX8_digest_36 : Dc KX8_digest 36 (.lload_n 1) 1 := by decide +kernel
theorem dX8_digest_37 : Dc KX8_digest 37 (.aload_n 0) 1 := by decide +kernel
theorem dX8_digest_38 : Dc KX8_digest 38 (.getfield 10) 3 := by decide +kernel
theorem dX8_digest_41 : Dc KX8_digest 41 (.iload_n 3) 1 := by decide +kernel
theorem dX8_digest_42 : Dc KX8_digest 42 (.invokevirtual 129) 3 := by decide +kernel
theorem dX8_digest_45 : Dc KX8_digest 45 (.i2l) 1 := by decide +kernel
theorem dX8_digest_46 : Dc KX8_digest 46 (.invokestatic 237) 3 := by decide +kernel
theorem dX8_digest_49 : Dc KX8_digest 49 (.lstore_n 1) 1 := by decide +kernel
theorem dX8_digest_50 : Dc KX8_digest 50 (.iinc 3 1) 3 := by decide +kernel
theorem dX8_digest_53 : Dc KX8_digest 53 (.goto (-22)) 3 := by decide +kernel
theorem dX8_digest_56 : Dc KX8_digest 56 (.iconst 0) 1 := by decide +kernel
theorem dX8_digest_57 : Dc KX8_digest 57 (.istore_n 3) 1 := by decide +kernel
theorem dX8_digest_58 : Dc KX8_digest 58 (.iload_n 3) 1 := by decide +kernel
theorem dX8_digest_59 : Dc KX8_digest 59 (.iconst 4) 1 := by decide +kernel
theorem dX8_digest_60 : Dc KX8_digest 60 (.if_icmp .ge 30) 3 := by decide +kernel
theorem dX8_digest_63 : Dc KX8_digest 63 (.aload_n 0) 1 := by decide +kernel
theorem dX8_digest_64 : Dc KX8_digest 64 (.lload_n 1) 1 := by decide +kernel
theorem dX8_digest_65 : Dc KX8_digest 65 (.iload_n 3) 1 := by decide +kernel
theorem dX8_digest_66 : Dc KX8_digest 66 (.invokevirtual 241) 3 := by decide +kernel
theorem dX8_digest_69 : Dc KX8_digest 69 (.lstore_n 1) 1 := by decide +kernel
theorem dX8_digest_70 : Dc KX8_digest 70 (.aload_n 0) 1 := by decide +kernel
theorem dX8_digest_71 : Dc KX8_digest 71 (.lload_n 1) 1 := by decide +kernel
theorem dX8_digest_72 : Dc KX8_digest 72 (.iload_n 3) 1 := by decide +kernel
theorem dX8_digest_73 : Dc KX8_digest 73 (.invokevirtual 245) 3 := by decide +kernel
theorem dX8_digest_76 : Dc KX8_digest 76 (.lstore_n 1) 1 := by decide +kernel
theorem dX8_digest_77 : Dc KX8_digest 77 (.aload_n 0) 1 := by decide +kernel
theorem dX8_digest_78 : Dc KX8_digest 78 (.lload_n 1) 1 := by decide +kernel
theorem dX8_digest_79 : Dc KX8_digest 79 (.iload_n 3) 1 := by decide +kernel
theorem dX8_digest_80 : Dc KX8_digest 80 (.invokevirtual 248) 3 := by decide +kernel
theorem dX8_digest_83 : Dc KX8_digest 83 (.lstore_n 1) 1 := by decide +kernel
theorem dX8_digest_84 : Dc KX8_digest 84 (.iinc 3 1) 3 := by decide +kernel
theorem dX8_digest_87 : Dc KX8_digest 87 (.goto (-29)) 3 := by decide +kernel
theorem dX8_digest_90 : Dc KX8_digest 90 (.lload_n 1) 1 := by decide +kernel
theorem dX8_digest_91 : Dc KX8_digest 91 (.aload_n 0) 1 := by decide +kernel
theorem dX8_digest_92 : Dc KX8_digest 92 (.invokevirtual 251) 3 := by decide +kernel
theorem dX8_digest_95 : Dc KX8_digest 95 (.i2l) 1 := by decide +kernel
theorem dX8_digest_96 : Dc KX8_digest 96 (.invokestatic 237) 3 := by decide +kernel
theorem dX8_digest_99 : Dc KX8_digest 99 (.lstore_n 1) 1 := by decide +kernel
theorem dX8_digest_100 : Dc KX8_digest 100 (.lload_n 1) 1 := by decide +kernel
theorem dX8_digest_101 : Dc KX8_digest 101 (.aload_n 0) 1 := by decide +kernel
theorem dX8_digest_102 : Dc KX8_digest 102 (.invokevirtual 254) 3 := by decide +kernel
theorem dX8_digest_105 : Dc KX8_digest 105 (.invokestatic 258) 3 := by decide +kernel
theorem dX8_digest_108 : Dc KX8_digest 108 (.invokestatic 237) 3 := by decide +kernel
theorem dX8_digest_111 : Dc KX8_digest 111 (.lstore_n 1) 1 := by decide +kernel
theorem dX8_digest_112 : Dc KX8_digest 112 (.aload_n 0) 1 := by decide +kernel
theorem dX8_digest_113 : Dc KX8_digest 113 (.lload_n 1) 1 := by decide +kernel
theorem dX8_digest_114 : Dc KX8_digest 114 (.invokevirtual 262) 3 := by decide +kernel
theorem dX8_digest_117 : Dc KX8_digest 117 (.lreturn) 1 := by decide +kernel
theorem dX8_requireSet_0 : Dc KX8_requireSet 0 (.iload_n 0) 1 := by decide +kernel
theorem dX8_requireSet_1 : Dc KX8_requireSet 1 (.ifCond .lt 8) 3 := by decide +kernel
theorem dX8_requireSet_4 : Dc KX8_requireSet 4 (.iload_n 0) 1 := by decide +kernel
theorem dX8_requireSet_5 : Dc KX8_requireSet 5 (.iconst 4) 1 := by decide +kernel
theorem dX8_requireSet_6 : Dc KX8_requireSet 6 (.if_icmp .lt 14) 3 := by decide +kernel
theorem dX8_requireSet_9 : Dc KX8_requireSet 9 (.new 266) 3 := by decide +kernel
theorem dX8_requireSet_12 : Dc KX8_requireSet 12 (.dup) 1 := by decide +kernel
theorem dX8_requireSet_13 : Dc KX8_requireSet 13 (.ldc_w 268) 3 := by decide +kernel
theorem dX8_requireSet_16 : Dc KX8_requireSet 16 (.invokespecial 270) 3 := by decide +kernel
theorem dX8_requireSet_19 : Dc KX8_requireSet 19 (.athrow) 1 := by decide +kernel
theorem dX8_requireSet_20 : Dc KX8_requireSet 20 (.return_) 1 := by decide +kernel
theorem dX8_requireSetting_0 : Dc KX8_requireSetting 0 (.iload_n 0) 1 := by decide +kernel
theorem dX8_requireSetting_1 : Dc KX8_requireSetting 1 (.ifCond .lt 8) 3 := by decide +kernel
theorem dX8_requireSetting_4 : Dc KX8_requireSetting 4 (.iload_n 0) 1 := by decide +kernel
theorem dX8_requireSetting_5 : Dc KX8_requireSetting 5 (.iconst 2) 1 := by decide +kernel
theorem dX8_requireSetting_6 : Dc KX8_requireSetting 6 (.if_icmp .lt 14) 3 := by decide +kernel
theorem dX8_requireSetting_9 : Dc KX8_requireSetting 9 (.new 266) 3 := by decide +kernel
theorem dX8_requireSetting_12 : Dc KX8_requireSetting 12 (.dup) 1 := by decide +kernel
theorem dX8_requireSetting_13 : Dc KX8_requireSetting 13 (.ldc_w 273) 3 := by decide +kernel
theorem dX8_requireSetting_16 : Dc KX8_requireSetting 16 (.invokespecial 270) 3 := by decide +kernel
theorem dX8_requireSetting_19 : Dc KX8_requireSetting 19 (.athrow) 1 := by decide +kernel
theorem dX8_requireSetting_20 : Dc KX8_requireSetting 20 (.return_) 1 := by decide +kernel
theorem dX8_requireNumber_0 : Dc KX8_requireNumber 0 (.iload_n 0) 1 := by decide +kernel
theorem dX8_requireNumber_1 : Dc KX8_requireNumber 1 (.ifCond .lt 14) 3 := by decide +kernel
theorem dX8_requireNumber_4 : Dc KX8_requireNumber 4 (.iload_n 0) 1 := by decide +kernel
theorem dX8_requireNumber_5 : Dc KX8_requireNumber 5 (.sipush 9999) 3 := by decide +kernel
theorem dX8_requireNumber_8 : Dc KX8_requireNumber 8 (.if_icmp .gt 7) 3 := by decide +kernel
theorem dX8_requireNumber_11 : Dc KX8_requireNumber 11 (.iconst 1) 1 := by decide +kernel
theorem dX8_requireNumber_12 : Dc KX8_requireNumber 12 (.goto 4) 3 := by decide +kernel
theorem dX8_requireNumber_15 : Dc KX8_requireNumber 15 (.iconst 0) 1 := by decide +kernel
theorem dX8_requireNumber_16 : Dc KX8_requireNumber 16 (.invokestatic 96) 3 := by decide +kernel
theorem dX8_requireNumber_19 : Dc KX8_requireNumber 19 (.return_) 1 := by decide +kernel
theorem dX8_requireArgument_0 : Dc KX8_requireArgument 0 (.iload_n 0) 1 := by decide +kernel
theorem dX8_requireArgument_1 : Dc KX8_requireArgument 1 (.ifCond .ne 14) 3 := by decide +kernel
theorem dX8_requireArgument_4 : Dc KX8_requireArgument 4 (.new 275) 3 := by decide +kernel
theorem dX8_requireArgument_7 : Dc KX8_requireArgument 7 (.dup) 1 := by decide +kernel
theorem dX8_requireArgument_8 : Dc KX8_requireArgument 8 (.ldc_w 277) 3 := by decide +kernel
theorem dX8_requireArgument_11 : Dc KX8_requireArgument 11 (.invokespecial 279) 3 := by decide +kernel
theorem dX8_requireArgument_14 : Dc KX8_requireArgument 14 (.athrow) 1 := by decide +kernel
theorem dX8_requireArgument_15 : Dc KX8_requireArgument 15 (.return_) 1 := by decide +kernel
theorem dX8_requireState_0 : Dc KX8_requireState 0 (.iload_n 0) 1 := by decide +kernel
theorem dX8_requireState_1 : Dc KX8_requireState 1 (.ifCond .ne 14) 3 := by decide +kernel
theorem dX8_requireState_4 : Dc KX8_requireState 4 (.new 280) 3 := by decide +kernel
theorem dX8_requireState_7 : Dc KX8_requireState 7 (.dup) 1 := by decide +kernel
theorem dX8_requireState_8 : Dc KX8_requireState 8 (.ldc_w 282) 3 := by decide +kernel
theorem dX8_requireState_11 : Dc KX8_requireState 11 (.invokespecial 284) 3 := by decide +kernel
theorem dX8_requireState_14 : Dc KX8_requireState 14 (.athrow) 1 := by decide +kernel
theorem dX8_requireState_15 : Dc KX8_requireState 15 (.return_) 1 := by decide +kernel
theorem dX8_isMost_0 : Dc KX8_isMost 0 (.iload_n 0) 1 := by decide +kernel
theorem dX8_isMost_1 : Dc KX8_isMost 1 (.iconst 2) 1 := by decide +kernel
theorem dX8_isMost_2 : Dc KX8_isMost 2 (.if_icmp .lt 13) 3 := by decide +kernel
theorem dX8_isMost_5 : Dc KX8_isMost 5 (.iload_n 0) 1 := by decide +kernel
theorem dX8_isMost_6 : Dc KX8_isMost 6 (.bipush 16) 2 := by decide +kernel
theorem dX8_isMost_8 : Dc KX8_isMost 8 (.if_icmp .gt 7) 3 := by decide +kernel
theorem dX8_isMost_11 : Dc KX8_isMost 11 (.iconst 1) 1 := by decide +kernel
theorem dX8_isMost_12 : Dc KX8_isMost 12 (.goto 4) 3 := by decide +kernel
theorem dX8_isMost_15 : Dc KX8_isMost 15 (.iconst 0) 1 := by decide +kernel
theorem dX8_isMost_16 : Dc KX8_isMost 16 (.ireturn) 1 := by decide +kernel
theorem dX8_isWidth_0 : Dc KX8_isWidth 0 (.iload_n 0) 1 := by decide +kernel
theorem dX8_isWidth_1 : Dc KX8_isWidth 1 (.iconst 1) 1 := by decide +kernel
theorem dX8_isWidth_2 : Dc KX8_isWidth 2 (.if_icmp .lt 14) 3 := by decide +kernel
theorem dX8_isWidth_5 : Dc KX8_isWidth 5 (.iload_n 0) 1 := by decide +kernel
theorem dX8_isWidth_6 : Dc KX8_isWidth 6 (.sipush 9999) 3 := by decide +kernel
theorem dX8_isWidth_9 : Dc KX8_isWidth 9 (.if_icmp .gt 7) 3 := by decide +kernel
theorem dX8_isWidth_12 : Dc KX8_isWidth 12 (.iconst 1) 1 := by decide +kernel
theorem dX8_isWidth_13 : Dc KX8_isWidth 13 (.goto 4) 3 := by decide +kernel
theorem dX8_isWidth_16 : Dc KX8_isWidth 16 (.iconst 0) 1 := by decide +kernel
theorem dX8_isWidth_17 : Dc KX8_isWidth 17 (.ireturn) 1 := by decide +kernel
theorem dX8_joinInto_0 : Dc KX8_joinInto 0 (.aload_n 0) 1 := by decide +kernel
theorem dX8_joinInto_1 : Dc KX8_joinInto 1 (.invokevirtual 285) 3 := by decide +kernel
theorem dX8_joinInto_4 : Dc KX8_joinInto 4 (.iconst 0) 1 := by decide +kernel
theorem dX8_joinInto_5 : Dc KX8_joinInto 5 (.istore 4) 2 := by decide +kernel
theorem dX8_joinInto_7 : Dc KX8_joinInto 7 (.iload 4) 2 := by decide +kernel
theorem dX8_joinInto_9 : Dc KX8_joinInto 9 (.aload_n 1) 1 := by decide +kernel
theorem dX8_joinInto_10 : Dc KX8_joinInto 10 (.invokevirtual 77) 3 := by decide +kernel
theorem dX8_joinInto_13 : Dc KX8_joinInto 13 (.if_icmp .ge 46) 3 := by decide +kernel
theorem dX8_joinInto_16 : Dc KX8_joinInto 16 (.aload_n 1) 1 := by decide +kernel
theorem dX8_joinInto_17 : Dc KX8_joinInto 17 (.iload 4) 2 := by decide +kernel
theorem dX8_joinInto_19 : Dc KX8_joinInto 19 (.invokevirtual 160) 3 := by decide +kernel
theorem dX8_joinInto_22 : Dc KX8_joinInto 22 (.istore 5) 2 := by decide +kernel
theorem dX8_joinInto_24 : Dc KX8_joinInto 24 (.iload_n 3) 1 := by decide +kernel
theorem dX8_joinInto_25 : Dc KX8_joinInto 25 (.ifCond .eq 22) 3 := by decide +kernel
theorem dX8_joinInto_28 : Dc KX8_joinInto 28 (.aload_n 2) 1 := by decide +kernel
theorem dX8_joinInto_29 : Dc KX8_joinInto 29 (.iload 5) 2 := by decide +kernel
theorem dX8_joinInto_31 : Dc KX8_joinInto 31 (.invokevirtual 73) 3 := by decide +kernel
theorem dX8_joinInto_34 : Dc KX8_joinInto 34 (.iload_n 3) 1 := by decide +kernel
theorem dX8_joinInto_35 : Dc KX8_joinInto 35 (.iconst 1) 1 := by decide +kernel
theorem dX8_joinInto_36 : Dc KX8_joinInto 36 (.if_icmp .ne 7) 3 := by decide +kernel
theorem dX8_joinInto_39 : Dc KX8_joinInto 39 (.iconst 1) 1 := by decide +kernel
theorem dX8_joinInto_40 : Dc KX8_joinInto 40 (.goto 4) 3 := by decide +kernel
theorem dX8_joinInto_43 : Dc KX8_joinInto 43 (.iconst 0) 1 := by decide +kernel
theorem dX8_joinInto_44 : Dc KX8_joinInto 44 (.if_icmp .ne 9) 3 := by decide +kernel
theorem dX8_joinInto_47 : Dc KX8_joinInto 47 (.aload_n 0) 1 := by decide +kernel
theorem dX8_joinInto_48 : Dc KX8_joinInto 48 (.iload 5) 2 := by decide +kernel
theorem dX8_joinInto_50 : Dc KX8_joinInto 50 (.invokevirtual 89) 3 := by decide +kernel
theorem dX8_joinInto_53 : Dc KX8_joinInto 53 (.iinc 4 1) 3 := by decide +kernel
theorem dX8_joinInto_56 : Dc KX8_joinInto 56 (.goto (-49)) 3 := by decide +kernel
theorem dX8_joinInto_59 : Dc KX8_joinInto 59 (.iload_n 3) 1 := by decide +kernel
theorem dX8_joinInto_60 : Dc KX8_joinInto 60 (.ifCond .eq 8) 3 := by decide +kernel
theorem dX8_joinInto_63 : Dc KX8_joinInto 63 (.iload_n 3) 1 := by decide +kernel
theorem dX8_joinInto_64 : Dc KX8_joinInto 64 (.iconst 3) 1 := by decide +kernel
theorem dX8_joinInto_65 : Dc KX8_joinInto 65 (.if_icmp .ne 44) 3 := by decide +kernel
theorem dX8_joinInto_68 : Dc KX8_joinInto 68 (.iconst 0) 1 := by decide +kernel
theorem dX8_joinInto_69 : Dc KX8_joinInto 69 (.istore 4) 2 := by decide +kernel
theorem dX8_joinInto_71 : Dc KX8_joinInto 71 (.iload 4) 2 := by decide +kernel
theorem dX8_joinInto_73 : Dc KX8_joinInto 73 (.aload_n 2) 1 := by decide +kernel
theorem dX8_joinInto_74 : Dc KX8_joinInto 74 (.invokevirtual 77) 3 := by decide +kernel
theorem dX8_joinInto_77 : Dc KX8_joinInto 77 (.if_icmp .ge 32) 3 := by decide +kernel
theorem dX8_joinInto_80 : Dc KX8_joinInto 80 (.aload_n 2) 1 := by decide +kernel
theorem dX8_joinInto_81 : Dc KX8_joinInto 81 (.iload 4) 2 := by decide +kernel
theorem dX8_joinInto_83 : Dc KX8_joinInto 83 (.invokevirtual 160) 3 := by decide +kernel
theorem dX8_joinInto_86 : Dc KX8_joinInto 86 (.istore 5) 2 := by decide +kernel
theorem dX8_joinInto_88 : Dc KX8_joinInto 88 (.aload_n 1) 1 := by decide +kernel
theorem dX8_joinInto_89 : Dc KX8_joinInto 89 (.iload 5) 2 := by decide +kernel
theorem dX8_joinInto_91 : Dc KX8_joinInto 91 (.invokevirtual 73) 3 := by decide +kernel
theorem dX8_joinInto_94 : Dc KX8_joinInto 94 (.ifCond .ne 9) 3 := by decide +kernel
theorem dX8_joinInto_97 : Dc KX8_joinInto 97 (.aload_n 0) 1 := by decide +kernel
theorem dX8_joinInto_98 : Dc KX8_joinInto 98 (.iload 5) 2 := by decide +kernel
theorem dX8_joinInto_100 : Dc KX8_joinInto 100 (.invokevirtual 89) 3 := by decide +kernel
theorem dX8_joinInto_103 : Dc KX8_joinInto 103 (.iinc 4 1) 3 := by decide +kernel
theorem dX8_joinInto_106 : Dc KX8_joinInto 106 (.goto (-35)) 3 := by decide +kernel
theorem dX8_joinInto_109 : Dc KX8_joinInto 109 (.return_) 1 := by decide +kernel
theorem dX8_sizeOf_0 : Dc KX8_sizeOf 0 (.aload_n 1) 1 := by decide +kernel
theorem dX8_sizeOf_1 : Dc KX8_sizeOf 1 (.aload_n 0) 1 := by decide +kernel
theorem dX8_sizeOf_2 : Dc KX8_sizeOf 2 (.getfield 10) 3 := by decide +kernel
theorem dX8_sizeOf_5 : Dc KX8_sizeOf 5 (.iconst 0) 1 := by decide +kernel
theorem dX8_sizeOf_6 : Dc KX8_sizeOf 6 (.invokevirtual 129) 3 := by decide +kernel
theorem dX8_sizeOf_9 : Dc KX8_sizeOf 9 (.aload_n 0) 1 := by decide +kernel
theorem dX8_sizeOf_10 : Dc KX8_sizeOf 10 (.getfield 10) 3 := by decide +kernel
theorem dX8_sizeOf_13 : Dc KX8_sizeOf 13 (.iconst 1) 1 := by decide +kernel
theorem dX8_sizeOf_14 : Dc KX8_sizeOf 14 (.invokevirtual 129) 3 := by decide +kernel
theorem dX8_sizeOf_17 : Dc KX8_sizeOf 17 (.invokevirtual 226) 3 := by decide +kernel
theorem dX8_sizeOf_20 : Dc KX8_sizeOf 20 (.ireturn) 1 := by decide +kernel
theorem dX8_allMembers_0 : Dc KX8_allMembers 0 (.iconst 0) 1 := by decide +kernel
theorem dX8_allMembers_1 : Dc KX8_allMembers 1 (.istore_n 1) 1 := by decide +kernel
theorem dX8_allMembers_2 : Dc KX8_allMembers 2 (.iconst 0) 1 := by decide +kernel
theorem dX8_allMembers_3 : Dc KX8_allMembers 3 (.istore_n 2) 1 := by decide +kernel
theorem dX8_allMembers_4 : Dc KX8_allMembers 4 (.iload_n 2) 1 := by decide +kernel
theorem dX8_allMembers_5 : Dc KX8_allMembers 5 (.iconst 4) 1 := by decide +kernel
theorem dX8_allMembers_6 : Dc KX8_allMembers 6 (.if_icmp .ge 23) 3 := by decide +kernel
theorem dX8_allMembers_9 : Dc KX8_allMembers 9 (.iload_n 1) 1 := by decide +kernel
theorem dX8_allMembers_10 : Dc KX8_allMembers 10 (.aload_n 0) 1 := by decide +kernel
theorem dX8_allMembers_11 : Dc KX8_allMembers 11 (.getfield 10) 3 := by decide +kernel
theorem dX8_allMembers_14 : Dc KX8_allMembers 14 (.iload_n 2) 1 := by decide +kernel
theorem dX8_allMembers_15 : Dc KX8_allMembers 15 (.invokevirtual 69) 3 := by decide +kernel
theorem dX8_allMembers_18 : Dc KX8_allMembers 18 (.invokevirtual 77) 3 := by decide +kernel
theorem dX8_allMembers_21 : Dc KX8_allMembers 21 (.iadd) 1 := by decide +kernel
theorem dX8_allMembers_22 : Dc KX8_allMembers 22 (.istore_n 1) 1 := by decide +kernel
theorem dX8_allMembers_23 : Dc KX8_allMembers 23 (.iinc 2 1) 3 := by decide +kernel
theorem dX8_allMembers_26 : Dc KX8_allMembers 26 (.goto (-22)) 3 := by decide +kernel
theorem dX8_allMembers_29 : Dc KX8_allMembers 29 (.iload_n 1) 1 := by decide +kernel
theorem dX8_allMembers_30 : Dc KX8_allMembers 30 (.ireturn) 1 := by decide +kernel
theorem dX8_unlikeMembers_0 : Dc KX8_unlikeMembers 0 (.iconst 0) 1 := by decide +kernel
theorem dX8_unlikeMembers_1 : Dc KX8_unlikeMembers 1 (.istore_n 1) 1 := by decide +kernel
theorem dX8_unlikeMembers_2 : Dc KX8_unlikeMembers 2 (.iconst 0) 1 := by decide +kernel
theorem dX8_unlikeMembers_3 : Dc KX8_unlikeMembers 3 (.istore_n 2) 1 := by decide +kernel
theorem dX8_unlikeMembers_4 : Dc KX8_unlikeMembers 4 (.iload_n 2) 1 := by decide +kernel
theorem dX8_unlikeMembers_5 : Dc KX8_unlikeMembers 5 (.iconst 4) 1 := by decide +kernel
theorem dX8_unlikeMembers_6 : Dc KX8_unlikeMembers 6 (.if_icmp .ge 53) 3 := by decide +kernel
theorem dX8_unlikeMembers_9 : Dc KX8_unlikeMembers 9 (.aload_n 0) 1 := by decide +kernel
theorem dX8_unlikeMembers_10 : Dc KX8_unlikeMembers 10 (.getfield 10) 3 := by decide +kernel
theorem dX8_unlikeMembers_13 : Dc KX8_unlikeMembers 13 (.iload_n 2) 1 := by decide +kernel
theorem dX8_unlikeMembers_14 : Dc KX8_unlikeMembers 14 (.invokevirtual 69) 3 := by decide +kernel
theorem dX8_unlikeMembers_17 : Dc KX8_unlikeMembers 17 (.astore_n 3) 1 := by decide +kernel
theorem dX8_unlikeMembers_18 : Dc KX8_unlikeMembers 18 (.iconst 0) 1 := by decide +kernel
theorem dX8_unlikeMembers_19 : Dc KX8_unlikeMembers 19 (.istore 4) 2 := by decide +kernel
theorem dX8_unlikeMembers_21 : Dc KX8_unlikeMembers 21 (.iload 4) 2 := by decide +kernel
theorem dX8_unlikeMembers_23 : Dc KX8_unlikeMembers 23 (.aload_n 3) 1 := by decide +kernel
theorem dX8_unlikeMembers_24 : Dc KX8_unlikeMembers 24 (.invokevirtual 77) 3 := by decide +kernel
theorem dX8_unlikeMembers_27 : Dc KX8_unlikeMembers 27 (.if_icmp .ge 26) 3 := by decide +kernel
theorem dX8_unlikeMembers_30 : Dc KX8_unlikeMembers 30 (.aload_n 0) 1 := by decide +kernel
theorem dX8_unlikeMembers_31 : Dc KX8_unlikeMembers 31 (.iload_n 2) 1 := by decide +kernel
theorem dX8_unlikeMembers_32 : Dc KX8_unlikeMembers 32 (.aload_n 3) 1 := by decide +kernel
theorem dX8_unlikeMembers_33 : Dc KX8_unlikeMembers 33 (.iload 4) 2 := by decide +kernel
theorem dX8_unlikeMembers_35 : Dc KX8_unlikeMembers 35 (.invokevirtual 160) 3 := by decide +kernel
theorem dX8_unlikeMembers_38 : Dc KX8_unlikeMembers 38 (.invokevirtual 286) 3 := by decide +kernel
theorem dX8_unlikeMembers_41 : Dc KX8_unlikeMembers 41 (.ifCond .ne 6) 3 := by decide +kernel
theorem dX8_unlikeMembers_44 : Dc KX8_unlikeMembers 44 (.iinc 1 1) 3 := by decide +kernel
theorem dX8_unlikeMembers_47 : Dc KX8_unlikeMembers 47 (.iinc 4 1) 3 := by decide +kernel
theorem dX8_unlikeMembers_50 : Dc KX8_unlikeMembers 50 (.goto (-29)) 3 := by decide +kernel
theorem dX8_unlikeMembers_53 : Dc KX8_unlikeMembers 53 (.iinc 2 1) 3 := by decide +kernel
theorem dX8_unlikeMembers_56 : Dc KX8_unlikeMembers 56 (.goto (-52)) 3 := by decide +kernel
theorem dX8_unlikeMembers_59 : Dc KX8_unlikeMembers 59 (.iload_n 1) 1 := by decide +kernel
theorem dX8_unlikeMembers_60 : Dc KX8_unlikeMembers 60 (.ireturn) 1 := by decide +kernel
theorem dX8_membersOfAllFour_0 : Dc KX8_membersOfAllFour 0 (.iconst 0) 1 := by decide +kernel
theorem dX8_membersOfAllFour_1 : Dc KX8_membersOfAllFour 1 (.istore_n 1) 1 := by decide +kernel
theorem dX8_membersOfAllFour_2 : Dc KX8_membersOfAllFour 2 (.aload_n 0) 1 := by decide +kernel
theorem dX8_membersOfAllFour_3 : Dc KX8_membersOfAllFour 3 (.getfield 10) 3 := by decide +kernel
theorem dX8_membersOfAllFour_6 : Dc KX8_membersOfAllFour 6 (.iconst 3) 1 := by decide +kernel
theorem dX8_membersOfAllFour_7 : Dc KX8_membersOfAllFour 7 (.invokevirtual 69) 3 := by decide +kernel
theorem dX8_membersOfAllFour_10 : Dc KX8_membersOfAllFour 10 (.astore_n 2) 1 := by decide +kernel
theorem dX8_membersOfAllFour_11 : Dc KX8_membersOfAllFour 11 (.iconst 0) 1 := by decide +kernel
theorem dX8_membersOfAllFour_12 : Dc KX8_membersOfAllFour 12 (.istore_n 3) 1 := by decide +kernel
theorem dX8_membersOfAllFour_13 : Dc KX8_membersOfAllFour 13 (.iload_n 3) 1 := by decide +kernel
theorem dX8_membersOfAllFour_14 : Dc KX8_membersOfAllFour 14 (.aload_n 2) 1 := by decide +kernel
theorem dX8_membersOfAllFour_15 : Dc KX8_membersOfAllFour 15 (.invokevirtual 77) 3 := by decide +kernel
theorem dX8_membersOfAllFour_18 : Dc KX8_membersOfAllFour 18 (.if_icmp .ge 26) 3 := by decide +kernel
theorem dX8_membersOfAllFour_21 : Dc KX8_membersOfAllFour 21 (.aload_n 0) 1 := by decide +kernel
theorem dX8_membersOfAllFour_22 : Dc KX8_membersOfAllFour 22 (.iconst 3) 1 := by decide +kernel
theorem dX8_membersOfAllFour_23 : Dc KX8_membersOfAllFour 23 (.aload_n 2) 1 := by decide +kernel
theorem dX8_membersOfAllFour_24 : Dc KX8_membersOfAllFour 24 (.iload_n 3) 1 := by decide +kernel
theorem dX8_membersOfAllFour_25 : Dc KX8_membersOfAllFour 25 (.invokevirtual 160) 3 := by decide +kernel
theorem dX8_membersOfAllFour_28 : Dc KX8_membersOfAllFour 28 (.invokevirtual 286) 3 := by decide +kernel
theorem dX8_membersOfAllFour_31 : Dc KX8_membersOfAllFour 31 (.iconst 3) 1 := by decide +kernel
theorem dX8_membersOfAllFour_32 : Dc KX8_membersOfAllFour 32 (.if_icmp .ne 6) 3 := by decide +kernel
theorem dX8_membersOfAllFour_35 : Dc KX8_membersOfAllFour 35 (.iinc 1 1) 3 := by decide +kernel
theorem dX8_membersOfAllFour_38 : Dc KX8_membersOfAllFour 38 (.iinc 3 1) 3 := by decide +kernel
theorem dX8_membersOfAllFour_41 : Dc KX8_membersOfAllFour 41 (.goto (-28)) 3 := by decide +kernel
theorem dX8_membersOfAllFour_44 : Dc KX8_membersOfAllFour 44 (.iload_n 1) 1 := by decide +kernel
theorem dX8_membersOfAllFour_45 : Dc KX8_membersOfAllFour 45 (.ireturn) 1 := by decide +kernel
theorem dX8_holdersAhead_0 : Dc KX8_holdersAhead 0 (.iconst 0) 1 := by decide +kernel
theorem dX8_holdersAhead_1 : Dc KX8_holdersAhead 1 (.istore_n 3) 1 := by decide +kernel
theorem dX8_holdersAhead_2 : Dc KX8_holdersAhead 2 (.iconst 0) 1 := by decide +kernel
theorem dX8_holdersAhead_3 : Dc KX8_holdersAhead 3 (.istore 4) 2 := by decide +kernel
theorem dX8_holdersAhead_5 : Dc KX8_holdersAhead 5 (.iload 4) 2 := by decide +kernel
theorem dX8_holdersAhead_7 : Dc KX8_holdersAhead 7 (.iload_n 1) 1 := by decide +kernel
theorem dX8_holdersAhead_8 : Dc KX8_holdersAhead 8 (.if_icmp .ge 28) 3 := by decide +kernel
theorem dX8_holdersAhead_11 : Dc KX8_holdersAhead 11 (.aload_n 0) 1 := by decide +kernel
theorem dX8_holdersAhead_12 : Dc KX8_holdersAhead 12 (.getfield 10) 3 := by decide +kernel
theorem dX8_holdersAhead_15 : Dc KX8_holdersAhead 15 (.iload 4) 2 := by decide +kernel
theorem dX8_holdersAhead_17 : Dc KX8_holdersAhead 17 (.invokevirtual 69) 3 := by decide +kernel
theorem dX8_holdersAhead_20 : Dc KX8_holdersAhead 20 (.iload_n 2) 1 := by decide +kernel
theorem dX8_holdersAhead_21 : Dc KX8_holdersAhead 21 (.invokevirtual 73) 3 := by decide +kernel
theorem dX8_holdersAhead_24 : Dc KX8_holdersAhead 24 (.ifCond .eq 6) 3 := by decide +kernel
theorem dX8_holdersAhead_27 : Dc KX8_holdersAhead 27 (.iinc 3 1) 3 := by decide +kernel
theorem dX8_holdersAhead_30 : Dc KX8_holdersAhead 30 (.iinc 4 1) 3 := by decide +kernel
theorem dX8_holdersAhead_33 : Dc KX8_holdersAhead 33 (.goto (-28)) 3 := by decide +kernel
theorem dX8_holdersAhead_36 : Dc KX8_holdersAhead 36 (.iload_n 3) 1 := by decide +kernel
theorem dX8_holdersAhead_37 : Dc KX8_holdersAhead 37 (.ireturn) 1 := by decide +kernel
theorem dX8_allSizes_0 : Dc KX8_allSizes 0 (.iconst 0) 1 := by decide +kernel
theorem dX8_allSizes_1 : Dc KX8_allSizes 1 (.istore_n 2) 1 := by decide +kernel
theorem dX8_allSizes_2 : Dc KX8_allSizes 2 (.iconst 0) 1 := by decide +kernel
theorem dX8_allSizes_3 : Dc KX8_allSizes 3 (.istore_n 3) 1 := by decide +kernel
theorem dX8_allSizes_4 : Dc KX8_allSizes 4 (.iload_n 3) 1 := by decide +kernel
theorem dX8_allSizes_5 : Dc KX8_allSizes 5 (.iconst 4) 1 := by decide +kernel
theorem dX8_allSizes_6 : Dc KX8_allSizes 6 (.if_icmp .ge 32) 3 := by decide +kernel
theorem dX8_allSizes_9 : Dc KX8_allSizes 9 (.iload_n 2) 1 := by decide +kernel
theorem dX8_allSizes_10 : Dc KX8_allSizes 10 (.aload_n 0) 1 := by decide +kernel
theorem dX8_allSizes_11 : Dc KX8_allSizes 11 (.getfield 10) 3 := by decide +kernel
theorem dX8_allSizes_14 : Dc KX8_allSizes 14 (.iload_n 3) 1 := by decide +kernel
theorem dX8_allSizes_15 : Dc KX8_allSizes 15 (.invokevirtual 69) 3 := by decide +kernel
theorem dX8_allSizes_18 : Dc KX8_allSizes 18 (.aload_n 0) 1 := by decide +kernel
theorem dX8_allSizes_19 : Dc KX8_allSizes 19 (.getfield 10) 3 := by decide +kernel
theorem dX8_allSizes_22 : Dc KX8_allSizes 22 (.iconst 0) 1 := by decide +kernel
theorem dX8_allSizes_23 : Dc KX8_allSizes 23 (.invokevirtual 129) 3 := by decide +kernel
theorem dX8_allSizes_26 : Dc KX8_allSizes 26 (.iload_n 1) 1 := by decide +kernel
theorem dX8_allSizes_27 : Dc KX8_allSizes 27 (.invokevirtual 226) 3 := by decide +kernel
theorem dX8_allSizes_30 : Dc KX8_allSizes 30 (.iadd) 1 := by decide +kernel
theorem dX8_allSizes_31 : Dc KX8_allSizes 31 (.istore_n 2) 1 := by decide +kernel
theorem dX8_allSizes_32 : Dc KX8_allSizes 32 (.iinc 3 1) 3 := by decide +kernel
theorem dX8_allSizes_35 : Dc KX8_allSizes 35 (.goto (-31)) 3 := by decide +kernel
theorem dX8_allSizes_38 : Dc KX8_allSizes 38 (.iload_n 2) 1 := by decide +kernel
theorem dX8_allSizes_39 : Dc KX8_allSizes 39 (.ireturn) 1 := by decide +kernel
theorem dX8_allBlocks_0 : Dc KX8_allBlocks 0 (.iconst 0) 1 := by decide +kernel
theorem dX8_allBlocks_1 : Dc KX8_allBlocks 1 (.istore_n 1) 1 := by decide +kernel
theorem dX8_allBlocks_2 : Dc KX8_allBlocks 2 (.iconst 0) 1 := by decide +kernel
theorem dX8_allBlocks_3 : Dc KX8_allBlocks 3 (.istore_n 2) 1 := by decide +kernel
theorem dX8_allBlocks_4 : Dc KX8_allBlocks 4 (.iload_n 2) 1 := by decide +kernel
theorem dX8_allBlocks_5 : Dc KX8_allBlocks 5 (.iconst 4) 1 := by decide +kernel
theorem dX8_allBlocks_6 : Dc KX8_allBlocks 6 (.if_icmp .ge 24) 3 := by decide +kernel
theorem dX8_allBlocks_9 : Dc KX8_allBlocks 9 (.iload_n 1) 1 := by decide +kernel
theorem dX8_allBlocks_10 : Dc KX8_allBlocks 10 (.aload_n 0) 1 := by decide +kernel
theorem dX8_allBlocks_11 : Dc KX8_allBlocks 11 (.getfield 40) 3 := by decide +kernel
theorem dX8_allBlocks_14 : Dc KX8_allBlocks 14 (.aload_n 0) 1 := by decide +kernel
theorem dX8_allBlocks_15 : Dc KX8_allBlocks 15 (.getfield 10) 3 := by decide +kernel
theorem dX8_allBlocks_18 : Dc KX8_allBlocks 18 (.iload_n 2) 1 := by decide +kernel
theorem dX8_allBlocks_19 : Dc KX8_allBlocks 19 (.invokevirtual 169) 3 := by decide +kernel
theorem dX8_allBlocks_22 : Dc KX8_allBlocks 22 (.iadd) 1 := by decide +kernel
theorem dX8_allBlocks_23 : Dc KX8_allBlocks 23 (.istore_n 1) 1 := by decide +kernel
theorem dX8_allBlocks_24 : Dc KX8_allBlocks 24 (.iinc 2 1) 3 := by decide +kernel
theorem dX8_allBlocks_27 : Dc KX8_allBlocks 27 (.goto (-23)) 3 := by decide +kernel
theorem dX8_allBlocks_30 : Dc KX8_allBlocks 30 (.iload_n 1) 1 := by decide +kernel
theorem dX8_allBlocks_31 : Dc KX8_allBlocks 31 (.ireturn) 1 := by decide +kernel
theorem dX8_pairsAlike_0 : Dc KX8_pairsAlike 0 (.iconst 0) 1 := by decide +kernel
theorem dX8_pairsAlike_1 : Dc KX8_pairsAlike 1 (.istore_n 1) 1 := by decide +kernel
theorem dX8_pairsAlike_2 : Dc KX8_pairsAlike 2 (.iconst 0) 1 := by decide +kernel
theorem dX8_pairsAlike_3 : Dc KX8_pairsAlike 3 (.istore_n 2) 1 := by decide +kernel
theorem dX8_pairsAlike_4 : Dc KX8_pairsAlike 4 (.iload_n 2) 1 := by decide +kernel
theorem dX8_pairsAlike_5 : Dc KX8_pairsAlike 5 (.iconst 4) 1 := by decide +kernel
theorem dX8_pairsAlike_6 : Dc KX8_pairsAlike 6 (.if_icmp .ge 49) 3 := by decide +kernel
theorem dX8_pairsAlike_9 : Dc KX8_pairsAlike 9 (.iload_n 2) 1 := by decide +kernel
theorem dX8_pairsAlike_10 : Dc KX8_pairsAlike 10 (.iconst 1) 1 := by decide +kernel
theorem dX8_pairsAlike_11 : Dc KX8_pairsAlike 11 (.iadd) 1 := by decide +kernel
theorem dX8_pairsAlike_12 : Dc KX8_pairsAlike 12 (.istore_n 3) 1 := by decide +kernel
theorem dX8_pairsAlike_13 : Dc KX8_pairsAlike 13 (.iload_n 3) 1 := by decide +kernel
theorem dX8_pairsAlike_14 : Dc KX8_pairsAlike 14 (.iconst 4) 1 := by decide +kernel
theorem dX8_pairsAlike_15 : Dc KX8_pairsAlike 15 (.if_icmp .ge 34) 3 := by decide +kernel
theorem dX8_pairsAlike_18 : Dc KX8_pairsAlike 18 (.aload_n 0) 1 := by decide +kernel
theorem dX8_pairsAlike_19 : Dc KX8_pairsAlike 19 (.getfield 10) 3 := by decide +kernel
theorem dX8_pairsAlike_22 : Dc KX8_pairsAlike 22 (.iload_n 2) 1 := by decide +kernel
theorem dX8_pairsAlike_23 : Dc KX8_pairsAlike 23 (.invokevirtual 69) 3 := by decide +kernel
theorem dX8_pairsAlike_26 : Dc KX8_pairsAlike 26 (.aload_n 0) 1 := by decide +kernel
theorem dX8_pairsAlike_27 : Dc KX8_pairsAlike 27 (.getfield 10) 3 := by decide +kernel
theorem dX8_pairsAlike_30 : Dc KX8_pairsAlike 30 (.iload_n 3) 1 := by decide +kernel
theorem dX8_pairsAlike_31 : Dc KX8_pairsAlike 31 (.invokevirtual 69) 3 := by decide +kernel
theorem dX8_pairsAlike_34 : Dc KX8_pairsAlike 34 (.invokevirtual 289) 3 := by decide +kernel
theorem dX8_pairsAlike_37 : Dc KX8_pairsAlike 37 (.ifCond .eq 6) 3 := by decide +kernel
theorem dX8_pairsAlike_40 : Dc KX8_pairsAlike 40 (.iinc 1 1) 3 := by decide +kernel
theorem dX8_pairsAlike_43 : Dc KX8_pairsAlike 43 (.iinc 3 1) 3 := by decide +kernel
theorem dX8_pairsAlike_46 : Dc KX8_pairsAlike 46 (.goto (-33)) 3 := by decide +kernel
theorem dX8_pairsAlike_49 : Dc KX8_pairsAlike 49 (.iinc 2 1) 3 := by decide +kernel
theorem dX8_pairsAlike_52 : Dc KX8_pairsAlike 52 (.goto (-48)) 3 := by decide +kernel
theorem dX8_pairsAlike_55 : Dc KX8_pairsAlike 55 (.iload_n 1) 1 := by decide +kernel
theorem dX8_pairsAlike_56 : Dc KX8_pairsAlike 56 (.ireturn) 1 := by decide +kernel
theorem dX8_gatherWidths_0 : Dc KX8_gatherWidths 0 (.aload_n 0) 1 := by decide +kernel
theorem dX8_gatherWidths_1 : Dc KX8_gatherWidths 1 (.getfield 60) 3 := by decide +kernel
theorem dX8_gatherWidths_4 : Dc KX8_gatherWidths 4 (.invokevirtual 285) 3 := by decide +kernel
theorem dX8_gatherWidths_7 : Dc KX8_gatherWidths 7 (.aload_n 0) 1 := by decide +kernel
theorem dX8_gatherWidths_8 : Dc KX8_gatherWidths 8 (.getfield 60) 3 := by decide +kernel
theorem dX8_gatherWidths_11 : Dc KX8_gatherWidths 11 (.iconst 1) 1 := by decide +kernel
theorem dX8_gatherWidths_12 : Dc KX8_gatherWidths 12 (.invokevirtual 89) 3 := by decide +kernel
theorem dX8_gatherWidths_15 : Dc KX8_gatherWidths 15 (.iconst 0) 1 := by decide +kernel
theorem dX8_gatherWidths_16 : Dc KX8_gatherWidths 16 (.istore_n 1) 1 := by decide +kernel
theorem dX8_gatherWidths_17 : Dc KX8_gatherWidths 17 (.iload_n 1) 1 := by decide +kernel
theorem dX8_gatherWidths_18 : Dc KX8_gatherWidths 18 (.iconst 4) 1 := by decide +kernel
theorem dX8_gatherWidths_19 : Dc KX8_gatherWidths 19 (.if_icmp .ge 46) 3 := by decide +kernel
theorem dX8_gatherWidths_22 : Dc KX8_gatherWidths 22 (.aload_n 0) 1 := by decide +kernel
theorem dX8_gatherWidths_23 : Dc KX8_gatherWidths 23 (.getfield 10) 3 := by decide +kernel
theorem dX8_gatherWidths_26 : Dc KX8_gatherWidths 26 (.iload_n 1) 1 := by decide +kernel
theorem dX8_gatherWidths_27 : Dc KX8_gatherWidths 27 (.invokevirtual 69) 3 := by decide +kernel
theorem dX8_gatherWidths_30 : Dc KX8_gatherWidths 30 (.astore_n 2) 1 := by decide +kernel
theorem dX8_gatherWidths_31 : Dc KX8_gatherWidths 31 (.iconst 1) 1 := by decide +kernel
theorem dX8_gatherWidths_32 : Dc KX8_gatherWidths 32 (.istore_n 3) 1 := by decide +kernel
theorem dX8_gatherWidths_33 : Dc KX8_gatherWidths 33 (.iload_n 3) 1 := by decide +kernel
theorem dX8_gatherWidths_34 : Dc KX8_gatherWidths 34 (.aload_n 2) 1 := by decide +kernel
theorem dX8_gatherWidths_35 : Dc KX8_gatherWidths 35 (.invokevirtual 77) 3 := by decide +kernel
theorem dX8_gatherWidths_38 : Dc KX8_gatherWidths 38 (.if_icmp .ge 21) 3 := by decide +kernel
theorem dX8_gatherWidths_41 : Dc KX8_gatherWidths 41 (.aload_n 0) 1 := by decide +kernel
theorem dX8_gatherWidths_42 : Dc KX8_gatherWidths 42 (.getfield 60) 3 := by decide +kernel
theorem dX8_gatherWidths_45 : Dc KX8_gatherWidths 45 (.aload_n 2) 1 := by decide +kernel
theorem dX8_gatherWidths_46 : Dc KX8_gatherWidths 46 (.iload_n 3) 1 := by decide +kernel
theorem dX8_gatherWidths_47 : Dc KX8_gatherWidths 47 (.invokevirtual 293) 3 := by decide +kernel
theorem dX8_gatherWidths_50 : Dc KX8_gatherWidths 50 (.invokevirtual 89) 3 := by decide +kernel
theorem dX8_gatherWidths_53 : Dc KX8_gatherWidths 53 (.iinc 3 1) 3 := by decide +kernel
theorem dX8_gatherWidths_56 : Dc KX8_gatherWidths 56 (.goto (-23)) 3 := by decide +kernel
theorem dX8_gatherWidths_59 : Dc KX8_gatherWidths 59 (.iinc 1 1) 3 := by decide +kernel
theorem dX8_gatherWidths_62 : Dc KX8_gatherWidths 62 (.goto (-45)) 3 := by decide +kernel
theorem dX8_gatherWidths_65 : Dc KX8_gatherWidths 65 (.return_) 1 := by decide +kernel
theorem dX8_mix_0 : Dc KX8_mix 0 (.ldc2_w 296) 3 := by decide +kernel
theorem dX8_mix_3 : Dc KX8_mix 3 (.lload_n 0) 1 := by decide +kernel
theorem dX8_mix_4 : Dc KX8_mix 4 (.lmul) 1 := by decide +kernel
theorem dX8_mix_5 : Dc KX8_mix 5 (.lload_n 2) 1 := by decide +kernel
theorem dX8_mix_6 : Dc KX8_mix 6 (.ladd) 1 := by decide +kernel
theorem dX8_mix_7 : Dc KX8_mix 7 (.lreturn) 1 := by decide +kernel
theorem dX8_mixMembers_0 : Dc KX8_mixMembers 0 (.lload_n 1) 1 := by decide +kernel
theorem dX8_mixMembers_1 : Dc KX8_mixMembers 1 (.lstore 4) 2 := by decide +kernel
theorem dX8_mixMembers_3 : Dc KX8_mixMembers 3 (.iconst 0) 1 := by decide +kernel
theorem dX8_mixMembers_4 : Dc KX8_mixMembers 4 (.istore 6) 2 := by decide +kernel
theorem dX8_mixMembers_6 : Dc KX8_mixMembers 6 (.iload 6) 2 := by decide +kernel
theorem dX8_mixMembers_8 : Dc KX8_mixMembers 8 (.bipush 7) 2 := by decide +kernel
theorem dX8_mixMembers_10 : Dc KX8_mixMembers 10 (.if_icmp .gt 24) 3 := by decide +kernel
theorem dX8_mixMembers_13 : Dc KX8_mixMembers 13 (.lload 4) 2 := by decide +kernel
theorem dX8_mixMembers_15 : Dc KX8_mixMembers 15 (.aload_n 0) 1 := by decide +kernel
theorem dX8_mixMembers_16 : Dc KX8_mixMembers 16 (.iload_n 3) 1 := by decide +kernel
theorem dX8_mixMembers_17 : Dc KX8_mixMembers 17 (.iload 6) 2 := by decide +kernel
theorem dX8_mixMembers_19 : Dc KX8_mixMembers 19 (.invokevirtual 298) 3 := by decide +kernel
theorem dX8_mixMembers_22 : Dc KX8_mixMembers 22 (.i2l) 1 := by decide +kernel
theorem dX8_mixMembers_23 : Dc KX8_mixMembers 23 (.invokestatic 237) 3 := by decide +kernel
theorem dX8_mixMembers_26 : Dc KX8_mixMembers 26 (.lstore 4) 2 := by decide +kernel
theorem dX8_mixMembers_28 : Dc KX8_mixMembers 28 (.iinc 6 1) 3 := by decide +kernel
theorem dX8_mixMembers_31 : Dc KX8_mixMembers 31 (.goto (-25)) 3 := by decide +kernel
theorem dX8_mixMembers_34 : Dc KX8_mixMembers 34 (.aload_n 0) 1 := by decide +kernel
theorem dX8_mixMembers_35 : Dc KX8_mixMembers 35 (.getfield 10) 3 := by decide +kernel
theorem dX8_mixMembers_38 : Dc KX8_mixMembers 38 (.iload_n 3) 1 := by decide +kernel
theorem dX8_mixMembers_39 : Dc KX8_mixMembers 39 (.invokevirtual 69) 3 := by decide +kernel
theorem dX8_mixMembers_42 : Dc KX8_mixMembers 42 (.astore 6) 2 := by decide +kernel
theorem dX8_mixMembers_44 : Dc KX8_mixMembers 44 (.iconst 0) 1 := by decide +kernel
theorem dX8_mixMembers_45 : Dc KX8_mixMembers 45 (.istore 7) 2 := by decide +kernel
theorem dX8_mixMembers_47 : Dc KX8_mixMembers 47 (.iload 7) 2 := by decide +kernel
theorem dX8_mixMembers_49 : Dc KX8_mixMembers 49 (.aload 6) 2 := by decide +kernel
theorem dX8_mixMembers_51 : Dc KX8_mixMembers 51 (.invokevirtual 77) 3 := by decide +kernel
theorem dX8_mixMembers_54 : Dc KX8_mixMembers 54 (.if_icmp .ge 24) 3 := by decide +kernel
theorem dX8_mixMembers_57 : Dc KX8_mixMembers 57 (.lload 4) 2 := by decide +kernel
theorem dX8_mixMembers_59 : Dc KX8_mixMembers 59 (.aload 6) 2 := by decide +kernel
theorem dX8_mixMembers_61 : Dc KX8_mixMembers 61 (.iload 7) 2 := by decide +kernel
theorem dX8_mixMembers_63 : Dc KX8_mixMembers 63 (.invokevirtual 160) 3 := by decide +kernel
theorem dX8_mixMembers_66 : Dc KX8_mixMembers 66 (.i2l) 1 := by decide +kernel
theorem dX8_mixMembers_67 : Dc KX8_mixMembers 67 (.invokestatic 237) 3 := by decide +kernel
theorem dX8_mixMembers_70 : Dc KX8_mixMembers 70 (.lstore 4) 2 := by decide +kernel
theorem dX8_mixMembers_72 : Dc KX8_mixMembers 72 (.iinc 7 1) 3 := by decide +kernel
theorem dX8_mixMembers_75 : Dc KX8_mixMembers 75 (.goto (-28)) 3 := by decide +kernel
theorem dX8_mixMembers_78 : Dc KX8_mixMembers 78 (.lload 4) 2 := by decide +kernel
theorem dX8_mixMembers_80 : Dc KX8_mixMembers 80 (.lreturn) 1 := by decide +kernel
theorem dX8_mixBlocks_0 : Dc KX8_mixBlocks 0 (.lload_n 1) 1 := by decide +kernel
theorem dX8_mixBlocks_1 : Dc KX8_mixBlocks 1 (.lstore 4) 2 := by decide +kernel
theorem dX8_mixBlocks_3 : Dc KX8_mixBlocks 3 (.aload_n 0) 1 := by decide +kernel
theorem dX8_mixBlocks_4 : Dc KX8_mixBlocks 4 (.getfield 40) 3 := by decide +kernel
theorem dX8_mixBlocks_7 : Dc KX8_mixBlocks 7 (.aload_n 0) 1 := by decide +kernel
theorem dX8_mixBlocks_8 : Dc KX8_mixBlocks 8 (.getfield 10) 3 := by decide +kernel
theorem dX8_mixBlocks_11 : Dc KX8_mixBlocks 11 (.iload_n 3) 1 := by decide +kernel
theorem dX8_mixBlocks_12 : Dc KX8_mixBlocks 12 (.invokevirtual 169) 3 := by decide +kernel
theorem dX8_mixBlocks_15 : Dc KX8_mixBlocks 15 (.istore 6) 2 := by decide +kernel
theorem dX8_mixBlocks_17 : Dc KX8_mixBlocks 17 (.iconst 0) 1 := by decide +kernel
theorem dX8_mixBlocks_18 : Dc KX8_mixBlocks 18 (.istore 7) 2 := by decide +kernel
theorem dX8_mixBlocks_20 : Dc KX8_mixBlocks 20 (.iload 7) 2 := by decide +kernel
theorem dX8_mixBlocks_22 : Dc KX8_mixBlocks 22 (.iload 6) 2 := by decide +kernel
theorem dX8_mixBlocks_24 : Dc KX8_mixBlocks 24 (.if_icmp .ge 41) 3 := by decide +kernel
theorem dX8_mixBlocks_27 : Dc KX8_mixBlocks 27 (.iconst 0) 1 := by decide +kernel
theorem dX8_mixBlocks_28 : Dc KX8_mixBlocks 28 (.istore 8) 2 := by decide +kernel
theorem dX8_mixBlocks_30 : Dc KX8_mixBlocks 30 (.iload 8) 2 := by decide +kernel
theorem dX8_mixBlocks_32 : Dc KX8_mixBlocks 32 (.iconst 5) 1 := by decide +kernel
theorem dX8_mixBlocks_33 : Dc KX8_mixBlocks 33 (.if_icmp .gt 26) 3 := by decide +kernel
theorem dX8_mixBlocks_36 : Dc KX8_mixBlocks 36 (.lload 4) 2 := by decide +kernel
theorem dX8_mixBlocks_38 : Dc KX8_mixBlocks 38 (.aload_n 0) 1 := by decide +kernel
theorem dX8_mixBlocks_39 : Dc KX8_mixBlocks 39 (.iload_n 3) 1 := by decide +kernel
theorem dX8_mixBlocks_40 : Dc KX8_mixBlocks 40 (.iload 7) 2 := by decide +kernel
theorem dX8_mixBlocks_42 : Dc KX8_mixBlocks 42 (.iload 8) 2 := by decide +kernel
theorem dX8_mixBlocks_44 : Dc KX8_mixBlocks 44 (.invokevirtual 301) 3 := by decide +kernel
theorem dX8_mixBlocks_47 : Dc KX8_mixBlocks 47 (.i2l) 1 := by decide +kernel
theorem dX8_mixBlocks_48 : Dc KX8_mixBlocks 48 (.invokestatic 237) 3 := by decide +kernel
theorem dX8_mixBlocks_51 : Dc KX8_mixBlocks 51 (.lstore 4) 2 := by decide +kernel
theorem dX8_mixBlocks_53 : Dc KX8_mixBlocks 53 (.iinc 8 1) 3 := by decide +kernel
theorem dX8_mixBlocks_56 : Dc KX8_mixBlocks 56 (.goto (-26)) 3 := by decide +kernel
theorem dX8_mixBlocks_59 : Dc KX8_mixBlocks 59 (.iinc 7 1) 3 := by decide +kernel
theorem dX8_mixBlocks_62 : Dc KX8_mixBlocks 62 (.goto (-42)) 3 := by decide +kernel
theorem dX8_mixBlocks_65 : Dc KX8_mixBlocks 65 (.lload 4) 2 := by decide +kernel
theorem dX8_mixBlocks_67 : Dc KX8_mixBlocks 67 (.lreturn) 1 := by decide +kernel
theorem dX8_mixLooks_0 : Dc KX8_mixLooks 0 (.lload_n 1) 1 := by decide +kernel
theorem dX8_mixLooks_1 : Dc KX8_mixLooks 1 (.aload_n 0) 1 := by decide +kernel
theorem dX8_mixLooks_2 : Dc KX8_mixLooks 2 (.iload_n 3) 1 := by decide +kernel
theorem dX8_mixLooks_3 : Dc KX8_mixLooks 3 (.iconst 0) 1 := by decide +kernel
theorem dX8_mixLooks_4 : Dc KX8_mixLooks 4 (.invokevirtual 305) 3 := by decide +kernel
theorem dX8_mixLooks_7 : Dc KX8_mixLooks 7 (.i2l) 1 := by decide +kernel
theorem dX8_mixLooks_8 : Dc KX8_mixLooks 8 (.invokestatic 237) 3 := by decide +kernel
theorem dX8_mixLooks_11 : Dc KX8_mixLooks 11 (.lstore 4) 2 := by decide +kernel
theorem dX8_mixLooks_13 : Dc KX8_mixLooks 13 (.lload 4) 2 := by decide +kernel
theorem dX8_mixLooks_15 : Dc KX8_mixLooks 15 (.aload_n 0) 1 := by decide +kernel
theorem dX8_mixLooks_16 : Dc KX8_mixLooks 16 (.iload_n 3) 1 := by decide +kernel
theorem dX8_mixLooks_17 : Dc KX8_mixLooks 17 (.iconst 1) 1 := by decide +kernel
theorem dX8_mixLooks_18 : Dc KX8_mixLooks 18 (.invokevirtual 305) 3 := by decide +kernel
theorem dX8_mixLooks_21 : Dc KX8_mixLooks 21 (.i2l) 1 := by decide +kernel
theorem dX8_mixLooks_22 : Dc KX8_mixLooks 22 (.invokestatic 237) 3 := by decide +kernel
theorem dX8_mixLooks_25 : Dc KX8_mixLooks 25 (.lstore 4) 2 := by decide +kernel
theorem dX8_mixLooks_27 : Dc KX8_mixLooks 27 (.lload 4) 2 := by decide +kernel
theorem dX8_mixLooks_29 : Dc KX8_mixLooks 29 (.aload_n 0) 1 := by decide +kernel
theorem dX8_mixLooks_30 : Dc KX8_mixLooks 30 (.iload_n 3) 1 := by decide +kernel
theorem dX8_mixLooks_31 : Dc KX8_mixLooks 31 (.sipush 5000) 3 := by decide +kernel
theorem dX8_mixLooks_34 : Dc KX8_mixLooks 34 (.invokevirtual 308) 3 := by decide +kernel
theorem dX8_mixLooks_37 : Dc KX8_mixLooks 37 (.i2l) 1 := by decide +kernel
theorem dX8_mixLooks_38 : Dc KX8_mixLooks 38 (.invokestatic 237) 3 := by decide +kernel
theorem dX8_mixLooks_41 : Dc KX8_mixLooks 41 (.lstore 4) 2 := by decide +kernel
theorem dX8_mixLooks_43 : Dc KX8_mixLooks 43 (.lload 4) 2 := by decide +kernel
theorem dX8_mixLooks_45 : Dc KX8_mixLooks 45 (.aload_n 0) 1 := by decide +kernel
theorem dX8_mixLooks_46 : Dc KX8_mixLooks 46 (.iload_n 3) 1 := by decide +kernel
theorem dX8_mixLooks_47 : Dc KX8_mixLooks 47 (.sipush 5000) 3 := by decide +kernel
theorem dX8_mixLooks_50 : Dc KX8_mixLooks 50 (.invokevirtual 311) 3 := by decide +kernel
theorem dX8_mixLooks_53 : Dc KX8_mixLooks 53 (.i2l) 1 := by decide +kernel
theorem dX8_mixLooks_54 : Dc KX8_mixLooks 54 (.invokestatic 237) 3 := by decide +kernel
theorem dX8_mixLooks_57 : Dc KX8_mixLooks 57 (.lstore 4) 2 := by decide +kernel
theorem dX8_mixLooks_59 : Dc KX8_mixLooks 59 (.aload_n 0) 1 := by decide +kernel
theorem dX8_mixLooks_60 : Dc KX8_mixLooks 60 (.getfield 47) 3 := by decide +kernel
theorem dX8_mixLooks_63 : Dc KX8_mixLooks 63 (.aload_n 0) 1 := by decide +kernel
theorem dX8_mixLooks_64 : Dc KX8_mixLooks 64 (.getfield 10) 3 := by decide +kernel
theorem dX8_mixLooks_67 : Dc KX8_mixLooks 67 (.iload_n 3) 1 := by decide +kernel
theorem dX8_mixLooks_68 : Dc KX8_mixLooks 68 (.iconst 0) 1 := by decide +kernel
theorem dX8_mixLooks_69 : Dc KX8_mixLooks 69 (.invokevirtual 201) 3 := by decide +kernel
theorem dX8_mixLooks_72 : Dc KX8_mixLooks 72 (.iconst 0) 1 := by decide +kernel
theorem dX8_mixLooks_73 : Dc KX8_mixLooks 73 (.istore 6) 2 := by decide +kernel
theorem dX8_mixLooks_75 : Dc KX8_mixLooks 75 (.iload 6) 2 := by decide +kernel
theorem dX8_mixLooks_77 : Dc KX8_mixLooks 77 (.iconst 3) 1 := by decide +kernel
theorem dX8_mixLooks_78 : Dc KX8_mixLooks 78 (.if_icmp .gt 26) 3 := by decide +kernel
theorem dX8_mixLooks_81 : Dc KX8_mixLooks 81 (.lload 4) 2 := by decide +kernel
theorem dX8_mixLooks_83 : Dc KX8_mixLooks 83 (.aload_n 0) 1 := by decide +kernel
theorem dX8_mixLooks_84 : Dc KX8_mixLooks 84 (.getfield 47) 3 := by decide +kernel
theorem dX8_mixLooks_87 : Dc KX8_mixLooks 87 (.iload 6) 2 := by decide +kernel
theorem dX8_mixLooks_89 : Dc KX8_mixLooks 89 (.invokevirtual 205) 3 := by decide +kernel
theorem dX8_mixLooks_92 : Dc KX8_mixLooks 92 (.i2l) 1 := by decide +kernel
theorem dX8_mixLooks_93 : Dc KX8_mixLooks 93 (.invokestatic 237) 3 := by decide +kernel
theorem dX8_mixLooks_96 : Dc KX8_mixLooks 96 (.lstore 4) 2 := by decide +kernel
theorem dX8_mixLooks_98 : Dc KX8_mixLooks 98 (.iinc 6 1) 3 := by decide +kernel
theorem dX8_mixLooks_101 : Dc KX8_mixLooks 101 (.goto (-26)) 3 := by decide +kernel
theorem dX8_mixLooks_104 : Dc KX8_mixLooks 104 (.lload 4) 2 := by decide +kernel
theorem dX8_mixLooks_106 : Dc KX8_mixLooks 106 (.lreturn) 1 := by decide +kernel
theorem dX8_mixBuffer_0 : Dc KX8_mixBuffer 0 (.lload_n 1) 1 := by decide +kernel
theorem dX8_mixBuffer_1 : Dc KX8_mixBuffer 1 (.aload_n 0) 1 := by decide +kernel
theorem dX8_mixBuffer_2 : Dc KX8_mixBuffer 2 (.getfield 26) 3 := by decide +kernel
theorem dX8_mixBuffer_5 : Dc KX8_mixBuffer 5 (.invokevirtual 137) 3 := by decide +kernel
theorem dX8_mixBuffer_8 : Dc KX8_mixBuffer 8 (.i2l) 1 := by decide +kernel
theorem dX8_mixBuffer_9 : Dc KX8_mixBuffer 9 (.invokestatic 237) 3 := by decide +kernel
theorem dX8_mixBuffer_12 : Dc KX8_mixBuffer 12 (.lstore_n 3) 1 := by decide +kernel
theorem dX8_mixBuffer_13 : Dc KX8_mixBuffer 13 (.iconst 0) 1 := by decide +kernel
theorem dX8_mixBuffer_14 : Dc KX8_mixBuffer 14 (.istore 5) 2 := by decide +kernel
theorem dX8_mixBuffer_16 : Dc KX8_mixBuffer 16 (.iload 5) 2 := by decide +kernel
theorem dX8_mixBuffer_18 : Dc KX8_mixBuffer 18 (.aload_n 0) 1 := by decide +kernel
theorem dX8_mixBuffer_19 : Dc KX8_mixBuffer 19 (.getfield 26) 3 := by decide +kernel
theorem dX8_mixBuffer_22 : Dc KX8_mixBuffer 22 (.invokevirtual 137) 3 := by decide +kernel
theorem dX8_mixBuffer_25 : Dc KX8_mixBuffer 25 (.if_icmp .ge 24) 3 := by decide +kernel
theorem dX8_mixBuffer_28 : Dc KX8_mixBuffer 28 (.lload_n 3) 1 := by decide +kernel
theorem dX8_mixBuffer_29 : Dc KX8_mixBuffer 29 (.aload_n 0) 1 := by decide +kernel
theorem dX8_mixBuffer_30 : Dc KX8_mixBuffer 30 (.getfield 26) 3 := by decide +kernel
theorem dX8_mixBuffer_33 : Dc KX8_mixBuffer 33 (.iload 5) 2 := by decide +kernel
theorem dX8_mixBuffer_35 : Dc KX8_mixBuffer 35 (.invokevirtual 314) 3 := by decide +kernel
theorem dX8_mixBuffer_38 : Dc KX8_mixBuffer 38 (.i2l) 1 := by decide +kernel
theorem dX8_mixBuffer_39 : Dc KX8_mixBuffer 39 (.invokestatic 237) 3 := by decide +kernel
theorem dX8_mixBuffer_42 : Dc KX8_mixBuffer 42 (.lstore_n 3) 1 := by decide +kernel
theorem dX8_mixBuffer_43 : Dc KX8_mixBuffer 43 (.iinc 5 1) 3 := by decide +kernel
theorem dX8_mixBuffer_46 : Dc KX8_mixBuffer 46 (.goto (-30)) 3 := by decide +kernel
theorem dX8_mixBuffer_49 : Dc KX8_mixBuffer 49 (.lload_n 3) 1 := by decide +kernel
theorem dX8_mixBuffer_50 : Dc KX8_mixBuffer 50 (.lreturn) 1 := by decide +kernel
theorem dX8_bitsOf_0 : Dc KX8_bitsOf 0 (.dload_n 0) 1 := by decide +kernel
theorem dX8_bitsOf_1 : Dc KX8_bitsOf 1 (.dstore_n 2) 1 := by decide +kernel
theorem dX8_bitsOf_2 : Dc KX8_bitsOf 2 (.ldc2_w 315) 3 := by decide +kernel
theorem dX8_bitsOf_5 : Dc KX8_bitsOf 5 (.lstore 4) 2 := by decide +kernel
theorem dX8_bitsOf_7 : Dc KX8_bitsOf 7 (.iconst 0) 1 := by decide +kernel
theorem dX8_bitsOf_8 : Dc KX8_bitsOf 8 (.istore 6) 2 := by decide +kernel
theorem dX8_bitsOf_10 : Dc KX8_bitsOf 10 (.iload 6) 2 := by decide +kernel
theorem dX8_bitsOf_12 : Dc KX8_bitsOf 12 (.sipush 1000) 3 := by decide +kernel
theorem dX8_bitsOf_15 : Dc KX8_bitsOf 15 (.if_icmp .ge 27) 3 := by decide +kernel
theorem dX8_bitsOf_18 : Dc KX8_bitsOf 18 (.dload_n 2) 1 := by decide +kernel
theorem dX8_bitsOf_19 : Dc KX8_bitsOf 19 (.dconst 1) 1 := by decide +kernel
theorem dX8_bitsOf_20 : Dc KX8_bitsOf 20 (.dcmp .g) 1 := by decide +kernel
theorem dX8_bitsOf_21 : Dc KX8_bitsOf 21 (.ifCond .ge 21) 3 := by decide +kernel
theorem dX8_bitsOf_24 : Dc KX8_bitsOf 24 (.dload_n 2) 1 := by decide +kernel
theorem dX8_bitsOf_25 : Dc KX8_bitsOf 25 (.ldc2_w 317) 3 := by decide +kernel
theorem dX8_bitsOf_28 : Dc KX8_bitsOf 28 (.dmul) 1 := by decide +kernel
theorem dX8_bitsOf_29 : Dc KX8_bitsOf 29 (.dstore_n 2) 1 := by decide +kernel
theorem dX8_bitsOf_30 : Dc KX8_bitsOf 30 (.lload 4) 2 := by decide +kernel
theorem dX8_bitsOf_32 : Dc KX8_bitsOf 32 (.lconst 1) 1 := by decide +kernel
theorem dX8_bitsOf_33 : Dc KX8_bitsOf 33 (.lsub) 1 := by decide +kernel
theorem dX8_bitsOf_34 : Dc KX8_bitsOf 34 (.lstore 4) 2 := by decide +kernel
theorem dX8_bitsOf_36 : Dc KX8_bitsOf 36 (.iinc 6 1) 3 := by decide +kernel
theorem dX8_bitsOf_39 : Dc KX8_bitsOf 39 (.goto (-29)) 3 := by decide +kernel
theorem dX8_bitsOf_42 : Dc KX8_bitsOf 42 (.iconst 0) 1 := by decide +kernel
theorem dX8_bitsOf_43 : Dc KX8_bitsOf 43 (.istore 6) 2 := by decide +kernel
theorem dX8_bitsOf_45 : Dc KX8_bitsOf 45 (.iload 6) 2 := by decide +kernel
theorem dX8_bitsOf_47 : Dc KX8_bitsOf 47 (.sipush 1000) 3 := by decide +kernel
theorem dX8_bitsOf_50 : Dc KX8_bitsOf 50 (.if_icmp .ge 29) 3 := by decide +kernel
theorem dX8_bitsOf_53 : Dc KX8_bitsOf 53 (.dload_n 2) 1 := by decide +kernel
theorem dX8_bitsOf_54 : Dc KX8_bitsOf 54 (.ldc2_w 317) 3 := by decide +kernel
theorem dX8_bitsOf_57 : Dc KX8_bitsOf 57 (.dcmp .l) 1 := by decide +kernel
theorem dX8_bitsOf_58 : Dc KX8_bitsOf 58 (.ifCond .lt 21) 3 := by decide +kernel
theorem dX8_bitsOf_61 : Dc KX8_bitsOf 61 (.dload_n 2) 1 := by decide +kernel
theorem dX8_bitsOf_62 : Dc KX8_bitsOf 62 (.ldc2_w 317) 3 := by decide +kernel
theorem dX8_bitsOf_65 : Dc KX8_bitsOf 65 (.ddiv) 1 := by decide +kernel
theorem dX8_bitsOf_66 : Dc KX8_bitsOf 66 (.dstore_n 2) 1 := by decide +kernel
theorem dX8_bitsOf_67 : Dc KX8_bitsOf 67 (.lload 4) 2 := by decide +kernel
theorem dX8_bitsOf_69 : Dc KX8_bitsOf 69 (.lconst 1) 1 := by decide +kernel
theorem dX8_bitsOf_70 : Dc KX8_bitsOf 70 (.ladd) 1 := by decide +kernel
theorem dX8_bitsOf_71 : Dc KX8_bitsOf 71 (.lstore 4) 2 := by decide +kernel
theorem dX8_bitsOf_73 : Dc KX8_bitsOf 73 (.iinc 6 1) 3 := by decide +kernel
theorem dX8_bitsOf_76 : Dc KX8_bitsOf 76 (.goto (-31)) 3 := by decide +kernel
theorem dX8_bitsOf_79 : Dc KX8_bitsOf 79 (.lload 4) 2 := by decide +kernel
theorem dX8_bitsOf_81 : Dc KX8_bitsOf 81 (.bipush 52) 2 := by decide +kernel
theorem dX8_bitsOf_83 : Dc KX8_bitsOf 83 (.lshl) 1 := by decide +kernel
theorem dX8_bitsOf_84 : Dc KX8_bitsOf 84 (.dload_n 2) 1 := by decide +kernel
theorem dX8_bitsOf_85 : Dc KX8_bitsOf 85 (.dconst 1) 1 := by decide +kernel
theorem dX8_bitsOf_86 : Dc KX8_bitsOf 86 (.dsub) 1 := by decide +kernel
theorem dX8_bitsOf_87 : Dc KX8_bitsOf 87 (.ldc2_w 319) 3 := by decide +kernel
theorem dX8_bitsOf_90 : Dc KX8_bitsOf 90 (.dmul) 1 := by decide +kernel
theorem dX8_bitsOf_91 : Dc KX8_bitsOf 91 (.d2l) 1 := by decide +kernel
theorem dX8_bitsOf_92 : Dc KX8_bitsOf 92 (.ladd) 1 := by decide +kernel
theorem dX8_bitsOf_93 : Dc KX8_bitsOf 93 (.lreturn) 1 := by decide +kernel
theorem dX8_gapBytes_0 : Dc KX8_gapBytes 0 (.iload_n 0) 1 := by decide +kernel
theorem dX8_gapBytes_1 : Dc KX8_gapBytes 1 (.sipush 128) 3 := by decide +kernel
theorem dX8_gapBytes_4 : Dc KX8_gapBytes 4 (.if_icmp .ge 7) 3 := by decide +kernel
theorem dX8_gapBytes_7 : Dc KX8_gapBytes 7 (.iconst 1) 1 := by decide +kernel
theorem dX8_gapBytes_8 : Dc KX8_gapBytes 8 (.goto 4) 3 := by decide +kernel
theorem dX8_gapBytes_11 : Dc KX8_gapBytes 11 (.iconst 2) 1 := by decide +kernel
theorem dX8_gapBytes_12 : Dc KX8_gapBytes 12 (.ireturn) 1 := by decide +kernel
theorem dM_max_0 : Dc KM_max 0 (.iload_n 0) 1 := by decide +kernel
theorem dM_max_1 : Dc KM_max 1 (.iload_n 1) 1 := by decide +kernel
theorem dM_max_2 : Dc KM_max 2 (.if_icmp .lt 7) 3 := by decide +kernel
theorem dM_max_5 : Dc KM_max 5 (.iload_n 0) 1 := by decide +kernel
theorem dM_max_6 : Dc KM_max 6 (.goto 4) 3 := by decide +kernel
theorem dM_max_9 : Dc KM_max 9 (.iload_n 1) 1 := by decide +kernel
theorem dM_max_10 : Dc KM_max 10 (.ireturn) 1 := by decide +kernel
theorem dM_min_0 : Dc KM_min 0 (.iload_n 0) 1 := by decide +kernel
theorem dM_min_1 : Dc KM_min 1 (.iload_n 1) 1 := by decide +kernel
theorem dM_min_2 : Dc KM_min 2 (.if_icmp .gt 7) 3 := by decide +kernel
theorem dM_min_5 : Dc KM_min 5 (.iload_n 0) 1 := by decide +kernel
theorem dM_min_6 : Dc KM_min 6 (.goto 4) 3 := by decide +kernel
theorem dM_min_9 : Dc KM_min 9 (.iload_n 1) 1 := by decide +kernel
theorem dM_min_10 : Dc KM_min 10 (.ireturn) 1 := by decide +kernel
theorem dD_d2l_0 : Dc KD_d2l 0 (.dload_n 0) 1 := by decide +kernel
theorem dD_d2l_1 : Dc KD_d2l 1 (.invokestatic 122) 3 := by decide +kernel
theorem dD_d2l_4 : Dc KD_d2l 4 (.ifCond .ne 8) 3 := by decide +kernel
theorem dD_d2l_7 : Dc KD_d2l 7 (.dload_n 0) 1 := by decide +kernel
theorem dD_d2l_8 : Dc KD_d2l 8 (.invokestatic 134) 3 := by decide +kernel
theorem dD_d2l_11 : Dc KD_d2l 11 (.lreturn) 1 := by decide +kernel
theorem dD_d2l_12 : Dc KD_d2l 12 (.ldc2_w 137) 3 := by decide +kernel
theorem dD_d2l_15 : Dc KD_d2l 15 (.lreturn) 1 := by decide +kernel
theorem dD_isNaN_0 : Dc KD_isNaN 0 (.dload_n 0) 1 := by decide +kernel
theorem dD_isNaN_1 : Dc KD_isNaN 1 (.dload_n 0) 1 := by decide +kernel
theorem dD_isNaN_2 : Dc KD_isNaN 2 (.dcmp .l) 1 := by decide +kernel
theorem dD_isNaN_3 : Dc KD_isNaN 3 (.ifCond .eq 7) 3 := by decide +kernel
theorem dD_isNaN_6 : Dc KD_isNaN 6 (.iconst 1) 1 := by decide +kernel
theorem dD_isNaN_7 : Dc KD_isNaN 7 (.goto 4) 3 := by decide +kernel
theorem dD_isNaN_10 : Dc KD_isNaN 10 (.iconst 0) 1 := by decide +kernel
theorem dD_isNaN_11 : Dc KD_isNaN 11 (.ireturn) 1 := by decide +kernel
end
section
/-! decode rows -/
theorem dX9_init_0 : Dc KX9_init 0 (.aload_n 0) 1 := by decide +kernel
theorem dX9_init_1 : Dc KX9_init 1 (.invokespecial 1) 3 := by decide +kernel
theorem dX9_init_4 : Dc KX9_init 4 (.aload_n 0) 1 := by decide +kernel
theorem dX9_init_5 : Dc KX9_init 5 (.sipush 246) 3 := by decide +kernel
theorem dX9_init_8 : Dc KX9_init 8 (.newarray .int) 2 := by decide +kernel
theorem dX9_init_10 : Dc KX9_init 10 (.putfield 7) 3 := by decide +kernel
theorem dX9_init_13 : Dc KX9_init 13 (.aload_n 0) 1 := by decide +kernel
theorem dX9_init_14 : Dc KX9_init 14 (.sipush 1476) 3 := by decide +kernel
theorem dX9_init_17 : Dc KX9_init 17 (.newarray .int) 2 := by decide +kernel
theorem dX9_init_19 : Dc KX9_init 19 (.putfield 13) 3 := by decide +kernel
theorem dX9_init_22 : Dc KX9_init 22 (.aload_n 0) 1 := by decide +kernel
theorem dX9_init_23 : Dc KX9_init 23 (.bipush 60) 2 := by decide +kernel
theorem dX9_init_25 : Dc KX9_init 25 (.newarray .int) 2 := by decide +kernel
theorem dX9_init_27 : Dc KX9_init 27 (.putfield 16) 3 := by decide +kernel
theorem dX9_init_30 : Dc KX9_init 30 (.aload_n 0) 1 := by decide +kernel
theorem dX9_init_31 : Dc KX9_init 31 (.bipush 120) 2 := by decide +kernel
theorem dX9_init_33 : Dc KX9_init 33 (.newarray .int) 2 := by decide +kernel
theorem dX9_init_35 : Dc KX9_init 35 (.putfield 19) 3 := by decide +kernel
theorem dX9_init_38 : Dc KX9_init 38 (.aload_n 0) 1 := by decide +kernel
theorem dX9_init_39 : Dc KX9_init 39 (.bipush 62) 2 := by decide +kernel
theorem dX9_init_41 : Dc KX9_init 41 (.newarray .int) 2 := by decide +kernel
theorem dX9_init_43 : Dc KX9_init 43 (.putfield 22) 3 := by decide +kernel
theorem dX9_init_46 : Dc KX9_init 46 (.aload_n 0) 1 := by decide +kernel
theorem dX9_init_47 : Dc KX9_init 47 (.bipush 64) 2 := by decide +kernel
theorem dX9_init_49 : Dc KX9_init 49 (.newarray .int) 2 := by decide +kernel
theorem dX9_init_51 : Dc KX9_init 51 (.putfield 25) 3 := by decide +kernel
theorem dX9_init_54 : Dc KX9_init 54 (.aload_n 0) 1 := by decide +kernel
theorem dX9_init_55 : Dc KX9_init 55 (.iconst 2) 1 := by decide +kernel
theorem dX9_init_56 : Dc KX9_init 56 (.newarray .int) 2 := by decide +kernel
theorem dX9_init_58 : Dc KX9_init 58 (.putfield 28) 3 := by decide +kernel
theorem dX9_init_61 : Dc KX9_init 61 (.aload_n 0) 1 := by decide +kernel
theorem dX9_init_62 : Dc KX9_init 62 (.iconst 4) 1 := by decide +kernel
theorem dX9_init_63 : Dc KX9_init 63 (.newarray .int) 2 := by decide +kernel
theorem dX9_init_65 : Dc KX9_init 65 (.putfield 31) 3 := by decide +kernel
theorem dX9_init_68 : Dc KX9_init 68 (.aload_n 0) 1 := by decide +kernel
theorem dX9_init_69 : Dc KX9_init 69 (.getfield 7) 3 := by decide +kernel
theorem dX9_init_72 : Dc KX9_init 72 (.iconst 0) 1 := by decide +kernel
theorem dX9_init_73 : Dc KX9_init 73 (.bipush 8) 2 := by decide +kernel
theorem dX9_init_75 : Dc KX9_init 75 (.iastore) 1 := by decide +kernel
theorem dX9_init_76 : Dc KX9_init 76 (.aload_n 0) 1 := by decide +kernel
theorem dX9_init_77 : Dc KX9_init 77 (.getfield 7) 3 := by decide +kernel
theorem dX9_init_80 : Dc KX9_init 80 (.iconst 1) 1 := by decide +kernel
theorem dX9_init_81 : Dc KX9_init 81 (.sipush 300) 3 := by decide +kernel
theorem dX9_init_84 : Dc KX9_init 84 (.iastore) 1 := by decide +kernel
theorem dX9_init_85 : Dc KX9_init 85 (.return_) 1 := by decide +kernel
theorem dX9_thrown_0 : Dc KX9_thrown 0 (.aload_n 0) 1 := by decide +kernel
theorem dX9_thrown_1 : Dc KX9_thrown 1 (.getfield 34) 3 := by decide +kernel
theorem dX9_thrown_4 : Dc KX9_thrown 4 (.ireturn) 1 := by decide +kernel
theorem dX9_within_0 : Dc KX9_within 0 (.iload_n 0) 1 := by decide +kernel
theorem dX9_within_1 : Dc KX9_within 1 (.iload_n 1) 1 := by decide +kernel
theorem dX9_within_2 : Dc KX9_within 2 (.if_icmp .lt 12) 3 := by decide +kernel
theorem dX9_within_5 : Dc KX9_within 5 (.iload_n 0) 1 := by decide +kernel
theorem dX9_within_6 : Dc KX9_within 6 (.iload_n 2) 1 := by decide +kernel
theorem dX9_within_7 : Dc KX9_within 7 (.if_icmp .gt 7) 3 := by decide +kernel
theorem dX9_within_10 : Dc KX9_within 10 (.iconst 1) 1 := by decide +kernel
theorem dX9_within_11 : Dc KX9_within 11 (.goto 4) 3 := by decide +kernel
theorem dX9_within_14 : Dc KX9_within 14 (.iconst 0) 1 := by decide +kernel
theorem dX9_within_15 : Dc KX9_within 15 (.ireturn) 1 := by decide +kernel
theorem dX9_save_0 : Dc KX9_save 0 (.aload_n 0) 1 := by decide +kernel
theorem dX9_save_1 : Dc KX9_save 1 (.getfield 38) 3 := by decide +kernel
theorem dX9_save_4 : Dc KX9_save 4 (.bipush 6) 2 := by decide +kernel
theorem dX9_save_6 : Dc KX9_save 6 (.if_icmp .ne 46) 3 := by decide +kernel
theorem dX9_save_9 : Dc KX9_save 9 (.sipush 246) 3 := by decide +kernel
theorem dX9_save_12 : Dc KX9_save 12 (.istore_n 1) 1 := by decide +kernel
theorem dX9_save_13 : Dc KX9_save 13 (.iload_n 1) 1 := by decide +kernel
theorem dX9_save_14 : Dc KX9_save 14 (.sipush 1476) 3 := by decide +kernel
theorem dX9_save_17 : Dc KX9_save 17 (.if_icmp .ge 25) 3 := by decide +kernel
theorem dX9_save_20 : Dc KX9_save 20 (.aload_n 0) 1 := by decide +kernel
theorem dX9_save_21 : Dc KX9_save 21 (.getfield 13) 3 := by decide +kernel
theorem dX9_save_24 : Dc KX9_save 24 (.iload_n 1) 1 := by decide +kernel
theorem dX9_save_25 : Dc KX9_save 25 (.sipush 246) 3 := by decide +kernel
theorem dX9_save_28 : Dc KX9_save 28 (.isub) 1 := by decide +kernel
theorem dX9_save_29 : Dc KX9_save 29 (.aload_n 0) 1 := by decide +kernel
theorem dX9_save_30 : Dc KX9_save 30 (.getfield 13) 3 := by decide +kernel
theorem dX9_save_33 : Dc KX9_save 33 (.iload_n 1) 1 := by decide +kernel
theorem dX9_save_34 : Dc KX9_save 34 (.iaload) 1 := by decide +kernel
theorem dX9_save_35 : Dc KX9_save 35 (.iastore) 1 := by decide +kernel
theorem dX9_save_36 : Dc KX9_save 36 (.iinc 1 1) 3 := by decide +kernel
theorem dX9_save_39 : Dc KX9_save 39 (.goto (-26)) 3 := by decide +kernel
theorem dX9_save_42 : Dc KX9_save 42 (.aload_n 0) 1 := by decide +kernel
theorem dX9_save_43 : Dc KX9_save 43 (.dup) 1 := by decide +kernel
theorem dX9_save_44 : Dc KX9_save 44 (.getfield 38) 3 := by decide +kernel
theorem dX9_save_47 : Dc KX9_save 47 (.iconst 1) 1 := by decide +kernel
theorem dX9_save_48 : Dc KX9_save 48 (.isub) 1 := by decide +kernel
theorem dX9_save_49 : Dc KX9_save 49 (.putfield 38) 3 := by decide +kernel
theorem dX9_save_52 : Dc KX9_save 52 (.iconst 0) 1 := by decide +kernel
theorem dX9_save_53 : Dc KX9_save 53 (.istore_n 1) 1 := by decide +kernel
theorem dX9_save_54 : Dc KX9_save 54 (.iload_n 1) 1 := by decide +kernel
theorem dX9_save_55 : Dc KX9_save 55 (.sipush 246) 3 := by decide +kernel
theorem dX9_save_58 : Dc KX9_save 58 (.if_icmp .ge 30) 3 := by decide +kernel
theorem dX9_save_61 : Dc KX9_save 61 (.aload_n 0) 1 := by decide +kernel
theorem dX9_save_62 : Dc KX9_save 62 (.getfield 13) 3 := by decide +kernel
theorem dX9_save_65 : Dc KX9_save 65 (.sipush 246) 3 := by decide +kernel
theorem dX9_save_68 : Dc KX9_save 68 (.aload_n 0) 1 := by decide +kernel
theorem dX9_save_69 : Dc KX9_save 69 (.getfield 38) 3 := by decide +kernel
theorem dX9_save_72 : Dc KX9_save 72 (.imul) 1 := by decide +kernel
theorem dX9_save_73 : Dc KX9_save 73 (.iload_n 1) 1 := by decide +kernel
theorem dX9_save_74 : Dc KX9_save 74 (.iadd) 1 := by decide +kernel
theorem dX9_save_75 : Dc KX9_save 75 (.aload_n 0) 1 := by decide +kernel
theorem dX9_save_76 : Dc KX9_save 76 (.getfield 7) 3 := by decide +kernel
theorem dX9_save_79 : Dc KX9_save 79 (.iload_n 1) 1 := by decide +kernel
theorem dX9_save_80 : Dc KX9_save 80 (.iaload) 1 := by decide +kernel
theorem dX9_save_81 : Dc KX9_save 81 (.iastore) 1 := by decide +kernel
theorem dX9_save_82 : Dc KX9_save 82 (.iinc 1 1) 3 := by decide +kernel
theorem dX9_save_85 : Dc KX9_save 85 (.goto (-31)) 3 := by decide +kernel
theorem dX9_save_88 : Dc KX9_save 88 (.aload_n 0) 1 := by decide +kernel
theorem dX9_save_89 : Dc KX9_save 89 (.dup) 1 := by decide +kernel
theorem dX9_save_90 : Dc KX9_save 90 (.getfield 38) 3 := by decide +kernel
theorem dX9_save_93 : Dc KX9_save 93 (.iconst 1) 1 := by decide +kernel
theorem dX9_save_94 : Dc KX9_save 94 (.iadd) 1 := by decide +kernel
theorem dX9_save_95 : Dc KX9_save 95 (.putfield 38) 3 := by decide +kernel
theorem dX9_save_98 : Dc KX9_save 98 (.return_) 1 := by decide +kernel
theorem dX9_isSet_0 : Dc KX9_isSet 0 (.iload_n 0) 1 := by decide +kernel
theorem dX9_isSet_1 : Dc KX9_isSet 1 (.iconst 0) 1 := by decide +kernel
theorem dX9_isSet_2 : Dc KX9_isSet 2 (.iconst 3) 1 := by decide +kernel
theorem dX9_isSet_3 : Dc KX9_isSet 3 (.invokestatic 41) 3 := by decide +kernel
theorem dX9_isSet_6 : Dc KX9_isSet 6 (.ireturn) 1 := by decide +kernel
theorem dX9_isNumber_0 : Dc KX9_isNumber 0 (.iload_n 0) 1 := by decide +kernel
theorem dX9_isNumber_1 : Dc KX9_isNumber 1 (.iconst 0) 1 := by decide +kernel
theorem dX9_isNumber_2 : Dc KX9_isNumber 2 (.sipush 9999) 3 := by decide +kernel
theorem dX9_isNumber_5 : Dc KX9_isNumber 5 (.invokestatic 41) 3 := by decide +kernel
theorem dX9_isNumber_8 : Dc KX9_isNumber 8 (.ireturn) 1 := by decide +kernel
theorem dX9_many_0 : Dc KX9_many 0 (.aload_n 0) 1 := by decide +kernel
theorem dX9_many_1 : Dc KX9_many 1 (.getfield 7) 3 := by decide +kernel
theorem dX9_many_4 : Dc KX9_many 4 (.iconst 2) 1 := by decide +kernel
theorem dX9_many_5 : Dc KX9_many 5 (.iload_n 1) 1 := by decide +kernel
theorem dX9_many_6 : Dc KX9_many 6 (.iadd) 1 := by decide +kernel
theorem dX9_many_7 : Dc KX9_many 7 (.iaload) 1 := by decide +kernel
theorem dX9_many_8 : Dc KX9_many 8 (.ireturn) 1 := by decide +kernel
theorem dX9_at_0 : Dc KX9_at 0 (.aload_n 0) 1 := by decide +kernel
theorem dX9_at_1 : Dc KX9_at 1 (.getfield 7) 3 := by decide +kernel
theorem dX9_at_4 : Dc KX9_at 4 (.bipush 6) 2 := by decide +kernel
theorem dX9_at_6 : Dc KX9_at 6 (.bipush 60) 2 := by decide +kernel
theorem dX9_at_8 : Dc KX9_at 8 (.iload_n 1) 1 := by decide +kernel
theorem dX9_at_9 : Dc KX9_at 9 (.imul) 1 := by decide +kernel
theorem dX9_at_10 : Dc KX9_at 10 (.iadd) 1 := by decide +kernel
theorem dX9_at_11 : Dc KX9_at 11 (.iload_n 2) 1 := by decide +kernel
theorem dX9_at_12 : Dc KX9_at 12 (.iadd) 1 := by decide +kernel
theorem dX9_at_13 : Dc KX9_at 13 (.iaload) 1 := by decide +kernel
theorem dX9_at_14 : Dc KX9_at 14 (.ireturn) 1 := by decide +kernel
theorem dX9_lessThan_0 : Dc KX9_lessThan 0 (.iconst 0) 1 := by decide +kernel
theorem dX9_lessThan_1 : Dc KX9_lessThan 1 (.istore_n 3) 1 := by decide +kernel
theorem dX9_lessThan_2 : Dc KX9_lessThan 2 (.iload_n 3) 1 := by decide +kernel
theorem dX9_lessThan_3 : Dc KX9_lessThan 3 (.aload_n 0) 1 := by decide +kernel
theorem dX9_lessThan_4 : Dc KX9_lessThan 4 (.iload_n 1) 1 := by decide +kernel
theorem dX9_lessThan_5 : Dc KX9_lessThan 5 (.invokevirtual 45) 3 := by decide +kernel
theorem dX9_lessThan_8 : Dc KX9_lessThan 8 (.if_icmp .ge 19) 3 := by decide +kernel
theorem dX9_lessThan_11 : Dc KX9_lessThan 11 (.aload_n 0) 1 := by decide +kernel
theorem dX9_lessThan_12 : Dc KX9_lessThan 12 (.iload_n 1) 1 := by decide +kernel
theorem dX9_lessThan_13 : Dc KX9_lessThan 13 (.iload_n 3) 1 := by decide +kernel
theorem dX9_lessThan_14 : Dc KX9_lessThan 14 (.invokevirtual 49) 3 := by decide +kernel
theorem dX9_lessThan_17 : Dc KX9_lessThan 17 (.iload_n 2) 1 := by decide +kernel
theorem dX9_lessThan_18 : Dc KX9_lessThan 18 (.if_icmp .ge 9) 3 := by decide +kernel
theorem dX9_lessThan_21 : Dc KX9_lessThan 21 (.iinc 3 1) 3 := by decide +kernel
theorem dX9_lessThan_24 : Dc KX9_lessThan 24 (.goto (-22)) 3 := by decide +kernel
theorem dX9_lessThan_27 : Dc KX9_lessThan 27 (.iload_n 3) 1 := by decide +kernel
theorem dX9_lessThan_28 : Dc KX9_lessThan 28 (.ireturn) 1 := by decide +kernel
theorem dX9_isMember_0 : Dc KX9_isMember 0 (.aload_n 0) 1 := by decide +kernel
theorem dX9_isMember_1 : Dc KX9_isMember 1 (.iload_n 1) 1 := by decide +kernel
theorem dX9_isMember_2 : Dc KX9_isMember 2 (.iload_n 2) 1 := by decide +kernel
theorem dX9_isMember_3 : Dc KX9_isMember 3 (.invokevirtual 53) 3 := by decide +kernel
theorem dX9_isMember_6 : Dc KX9_isMember 6 (.istore_n 3) 1 := by decide +kernel
theorem dX9_isMember_7 : Dc KX9_isMember 7 (.iload_n 3) 1 := by decide +kernel
theorem dX9_isMember_8 : Dc KX9_isMember 8 (.aload_n 0) 1 := by decide +kernel
theorem dX9_isMember_9 : Dc KX9_isMember 9 (.iload_n 1) 1 := by decide +kernel
theorem dX9_isMember_10 : Dc KX9_isMember 10 (.invokevirtual 45) 3 := by decide +kernel
theorem dX9_isMember_13 : Dc KX9_isMember 13 (.if_icmp .ge 17) 3 := by decide +kernel
theorem dX9_isMember_16 : Dc KX9_isMember 16 (.aload_n 0) 1 := by decide +kernel
theorem dX9_isMember_17 : Dc KX9_isMember 17 (.iload_n 1) 1 := by decide +kernel
theorem dX9_isMember_18 : Dc KX9_isMember 18 (.iload_n 3) 1 := by decide +kernel
theorem dX9_isMember_19 : Dc KX9_isMember 19 (.invokevirtual 49) 3 := by decide +kernel
theorem dX9_isMember_22 : Dc KX9_isMember 22 (.iload_n 2) 1 := by decide +kernel
theorem dX9_isMember_23 : Dc KX9_isMember 23 (.if_icmp .ne 7) 3 := by decide +kernel
theorem dX9_isMember_26 : Dc KX9_isMember 26 (.iconst 1) 1 := by decide +kernel
theorem dX9_isMember_27 : Dc KX9_isMember 27 (.goto 4) 3 := by decide +kernel
theorem dX9_isMember_30 : Dc KX9_isMember 30 (.iconst 0) 1 := by decide +kernel
theorem dX9_isMember_31 : Dc KX9_isMember 31 (.ireturn) 1 := by decide +kernel
theorem dX9_takeRow_0 : Dc KX9_takeRow 0 (.aload_n 0) 1 := by decide +kernel
theorem dX9_takeRow_1 : Dc KX9_takeRow 1 (.aload_n 0) 1 := by decide +kernel
theorem dX9_takeRow_2 : Dc KX9_takeRow 2 (.iload_n 1) 1 := by decide +kernel
theorem dX9_takeRow_3 : Dc KX9_takeRow 3 (.invokevirtual 45) 3 := by decide +kernel
theorem dX9_takeRow_6 : Dc KX9_takeRow 6 (.putfield 56) 3 := by decide +kernel
theorem dX9_takeRow_9 : Dc KX9_takeRow 9 (.iconst 0) 1 := by decide +kernel
theorem dX9_takeRow_10 : Dc KX9_takeRow 10 (.istore_n 2) 1 := by decide +kernel
theorem dX9_takeRow_11 : Dc KX9_takeRow 11 (.iload_n 2) 1 := by decide +kernel
theorem dX9_takeRow_12 : Dc KX9_takeRow 12 (.aload_n 0) 1 := by decide +kernel
theorem dX9_takeRow_13 : Dc KX9_takeRow 13 (.getfield 56) 3 := by decide +kernel
theorem dX9_takeRow_16 : Dc KX9_takeRow 16 (.if_icmp .ge 21) 3 := by decide +kernel
theorem dX9_takeRow_19 : Dc KX9_takeRow 19 (.aload_n 0) 1 := by decide +kernel
theorem dX9_takeRow_20 : Dc KX9_takeRow 20 (.getfield 19) 3 := by decide +kernel
theorem dX9_takeRow_23 : Dc KX9_takeRow 23 (.iload_n 2) 1 := by decide +kernel
theorem dX9_takeRow_24 : Dc KX9_takeRow 24 (.aload_n 0) 1 := by decide +kernel
theorem dX9_takeRow_25 : Dc KX9_takeRow 25 (.iload_n 1) 1 := by decide +kernel
theorem dX9_takeRow_26 : Dc KX9_takeRow 26 (.iload_n 2) 1 := by decide +kernel
theorem dX9_takeRow_27 : Dc KX9_takeRow 27 (.invokevirtual 49) 3 := by decide +kernel
theorem dX9_takeRow_30 : Dc KX9_takeRow 30 (.iastore) 1 := by decide +kernel
theorem dX9_takeRow_31 : Dc KX9_takeRow 31 (.iinc 2 1) 3 := by decide +kernel
theorem dX9_takeRow_34 : Dc KX9_takeRow 34 (.goto (-23)) 3 := by decide +kernel
theorem dX9_takeRow_37 : Dc KX9_takeRow 37 (.return_) 1 := by decide +kernel
theorem dX9_layRow_0 : Dc KX9_layRow 0 (.aload_n 0) 1 := by decide +kernel
theorem dX9_layRow_1 : Dc KX9_layRow 1 (.getfield 7) 3 := by decide +kernel
theorem dX9_layRow_4 : Dc KX9_layRow 4 (.iconst 2) 1 := by decide +kernel
theorem dX9_layRow_5 : Dc KX9_layRow 5 (.iload_n 1) 1 := by decide +kernel
theorem dX9_layRow_6 : Dc KX9_layRow 6 (.iadd) 1 := by decide +kernel
theorem dX9_layRow_7 : Dc KX9_layRow 7 (.aload_n 0) 1 := by decide +kernel
theorem dX9_layRow_8 : Dc KX9_layRow 8 (.getfield 56) 3 := by decide +kernel
theorem dX9_layRow_11 : Dc KX9_layRow 11 (.iastore) 1 := by decide +kernel
theorem dX9_layRow_12 : Dc KX9_layRow 12 (.iconst 0) 1 := by decide +kernel
theorem dX9_layRow_13 : Dc KX9_layRow 13 (.istore_n 2) 1 := by decide +kernel
theorem dX9_layRow_14 : Dc KX9_layRow 14 (.iload_n 2) 1 := by decide +kernel
theorem dX9_layRow_15 : Dc KX9_layRow 15 (.bipush 60) 2 := by decide +kernel
theorem dX9_layRow_17 : Dc KX9_layRow 17 (.if_icmp .ge 41) 3 := by decide +kernel
theorem dX9_layRow_20 : Dc KX9_layRow 20 (.aload_n 0) 1 := by decide +kernel
theorem dX9_layRow_21 : Dc KX9_layRow 21 (.getfield 7) 3 := by decide +kernel
theorem dX9_layRow_24 : Dc KX9_layRow 24 (.bipush 6) 2 := by decide +kernel
theorem dX9_layRow_26 : Dc KX9_layRow 26 (.bipush 60) 2 := by decide +kernel
theorem dX9_layRow_28 : Dc KX9_layRow 28 (.iload_n 1) 1 := by decide +kernel
theorem dX9_layRow_29 : Dc KX9_layRow 29 (.imul) 1 := by decide +kernel
theorem dX9_layRow_30 : Dc KX9_layRow 30 (.iadd) 1 := by decide +kernel
theorem dX9_layRow_31 : Dc KX9_layRow 31 (.iload_n 2) 1 := by decide +kernel
theorem dX9_layRow_32 : Dc KX9_layRow 32 (.iadd) 1 := by decide +kernel
theorem dX9_layRow_33 : Dc KX9_layRow 33 (.iload_n 2) 1 := by decide +kernel
theorem dX9_layRow_34 : Dc KX9_layRow 34 (.aload_n 0) 1 := by decide +kernel
theorem dX9_layRow_35 : Dc KX9_layRow 35 (.getfield 56) 3 := by decide +kernel
theorem dX9_layRow_38 : Dc KX9_layRow 38 (.if_icmp .ge 12) 3 := by decide +kernel
theorem dX9_layRow_41 : Dc KX9_layRow 41 (.aload_n 0) 1 := by decide +kernel
theorem dX9_layRow_42 : Dc KX9_layRow 42 (.getfield 19) 3 := by decide +kernel
theorem dX9_layRow_45 : Dc KX9_layRow 45 (.iload_n 2) 1 := by decide +kernel
theorem dX9_layRow_46 : Dc KX9_layRow 46 (.iaload) 1 := by decide +kernel
theorem dX9_layRow_47 : Dc KX9_layRow 47 (.goto 4) 3 := by decide +kernel
theorem dX9_layRow_50 : Dc KX9_layRow 50 (.iconst 0) 1 := by decide +kernel
theorem dX9_layRow_51 : Dc KX9_layRow 51 (.iastore) 1 := by decide +kernel
theorem dX9_layRow_52 : Dc KX9_layRow 52 (.iinc 2 1) 3 := by decide +kernel
theorem dX9_layRow_55 : Dc KX9_layRow 55 (.goto (-41)) 3 := by decide +kernel
theorem dX9_layRow_58 : Dc KX9_layRow 58 (.return_) 1 := by decide +kernel
theorem dX9_layBlocks_0 : Dc KX9_layBlocks 0 (.aload_n 0) 1 := by decide +kernel
theorem dX9_layBlocks_1 : Dc KX9_layBlocks 1 (.iconst 0) 1 := by decide +kernel
theorem dX9_layBlocks_2 : Dc KX9_layBlocks 2 (.putfield 59) 3 := by decide +kernel
theorem dX9_layBlocks_5 : Dc KX9_layBlocks 5 (.iconst 0) 1 := by decide +kernel
theorem dX9_layBlocks_6 : Dc KX9_layBlocks 6 (.istore_n 3) 1 := by decide +kernel
theorem dX9_layBlocks_7 : Dc KX9_layBlocks 7 (.iconst 0) 1 := by decide +kernel
theorem dX9_layBlocks_8 : Dc KX9_layBlocks 8 (.istore 4) 2 := by decide +kernel
theorem dX9_layBlocks_10 : Dc KX9_layBlocks 10 (.iload 4) 2 := by decide +kernel
theorem dX9_layBlocks_12 : Dc KX9_layBlocks 12 (.aload_n 0) 1 := by decide +kernel
theorem dX9_layBlocks_13 : Dc KX9_layBlocks 13 (.getfield 56) 3 := by decide +kernel
theorem dX9_layBlocks_16 : Dc KX9_layBlocks 16 (.if_icmp .ge 78) 3 := by decide +kernel
theorem dX9_layBlocks_19 : Dc KX9_layBlocks 19 (.iload 4) 2 := by decide +kernel
theorem dX9_layBlocks_21 : Dc KX9_layBlocks 21 (.ifCond .le 33) 3 := by decide +kernel
theorem dX9_layBlocks_24 : Dc KX9_layBlocks 24 (.iload_n 3) 1 := by decide +kernel
theorem dX9_layBlocks_25 : Dc KX9_layBlocks 25 (.iload_n 1) 1 := by decide +kernel
theorem dX9_layBlocks_26 : Dc KX9_layBlocks 26 (.if_icmp .ge 28) 3 := by decide +kernel
theorem dX9_layBlocks_29 : Dc KX9_layBlocks 29 (.aload_n 0) 1 := by decide +kernel
theorem dX9_layBlocks_30 : Dc KX9_layBlocks 30 (.getfield 19) 3 := by decide +kernel
theorem dX9_layBlocks_33 : Dc KX9_layBlocks 33 (.iload 4) 2 := by decide +kernel
theorem dX9_layBlocks_35 : Dc KX9_layBlocks 35 (.iaload) 1 := by decide +kernel
theorem dX9_layBlocks_36 : Dc KX9_layBlocks 36 (.aload_n 0) 1 := by decide +kernel
theorem dX9_layBlocks_37 : Dc KX9_layBlocks 37 (.getfield 19) 3 := by decide +kernel
theorem dX9_layBlocks_40 : Dc KX9_layBlocks 40 (.iload 4) 2 := by decide +kernel
theorem dX9_layBlocks_42 : Dc KX9_layBlocks 42 (.iconst 1) 1 := by decide +kernel
theorem dX9_layBlocks_43 : Dc KX9_layBlocks 43 (.isub) 1 := by decide +kernel
theorem dX9_layBlocks_44 : Dc KX9_layBlocks 44 (.iaload) 1 := by decide +kernel
theorem dX9_layBlocks_45 : Dc KX9_layBlocks 45 (.isub) 1 := by decide +kernel
theorem dX9_layBlocks_46 : Dc KX9_layBlocks 46 (.iload_n 2) 1 := by decide +kernel
theorem dX9_layBlocks_47 : Dc KX9_layBlocks 47 (.if_icmp .gt 7) 3 := by decide +kernel
theorem dX9_layBlocks_50 : Dc KX9_layBlocks 50 (.iconst 1) 1 := by decide +kernel
theorem dX9_layBlocks_51 : Dc KX9_layBlocks 51 (.goto 4) 3 := by decide +kernel
theorem dX9_layBlocks_54 : Dc KX9_layBlocks 54 (.iconst 0) 1 := by decide +kernel
theorem dX9_layBlocks_55 : Dc KX9_layBlocks 55 (.istore 5) 2 := by decide +kernel
theorem dX9_layBlocks_57 : Dc KX9_layBlocks 57 (.iload 5) 2 := by decide +kernel
theorem dX9_layBlocks_59 : Dc KX9_layBlocks 59 (.ifCond .ne 26) 3 := by decide +kernel
theorem dX9_layBlocks_62 : Dc KX9_layBlocks 62 (.aload_n 0) 1 := by decide +kernel
theorem dX9_layBlocks_63 : Dc KX9_layBlocks 63 (.getfield 22) 3 := by decide +kernel
theorem dX9_layBlocks_66 : Dc KX9_layBlocks 66 (.aload_n 0) 1 := by decide +kernel
theorem dX9_layBlocks_67 : Dc KX9_layBlocks 67 (.getfield 59) 3 := by decide +kernel
theorem dX9_layBlocks_70 : Dc KX9_layBlocks 70 (.iload 4) 2 := by decide +kernel
theorem dX9_layBlocks_72 : Dc KX9_layBlocks 72 (.iastore) 1 := by decide +kernel
theorem dX9_layBlocks_73 : Dc KX9_layBlocks 73 (.aload_n 0) 1 := by decide +kernel
theorem dX9_layBlocks_74 : Dc KX9_layBlocks 74 (.dup) 1 := by decide +kernel
theorem dX9_layBlocks_75 : Dc KX9_layBlocks 75 (.getfield 59) 3 := by decide +kernel
theorem dX9_layBlocks_78 : Dc KX9_layBlocks 78 (.iconst 1) 1 := by decide +kernel
theorem dX9_layBlocks_79 : Dc KX9_layBlocks 79 (.iadd) 1 := by decide +kernel
theorem dX9_layBlocks_80 : Dc KX9_layBlocks 80 (.putfield 59) 3 := by decide +kernel
theorem dX9_layBlocks_83 : Dc KX9_layBlocks 83 (.iconst 0) 1 := by decide +kernel
theorem dX9_layBlocks_84 : Dc KX9_layBlocks 84 (.istore_n 3) 1 := by decide +kernel
theorem dX9_layBlocks_85 : Dc KX9_layBlocks 85 (.iinc 3 1) 3 := by decide +kernel
theorem dX9_layBlocks_88 : Dc KX9_layBlocks 88 (.iinc 4 1) 3 := by decide +kernel
theorem dX9_layBlocks_91 : Dc KX9_layBlocks 91 (.goto (-81)) 3 := by decide +kernel
theorem dX9_layBlocks_94 : Dc KX9_layBlocks 94 (.aload_n 0) 1 := by decide +kernel
theorem dX9_layBlocks_95 : Dc KX9_layBlocks 95 (.getfield 22) 3 := by decide +kernel
theorem dX9_layBlocks_98 : Dc KX9_layBlocks 98 (.aload_n 0) 1 := by decide +kernel
theorem dX9_layBlocks_99 : Dc KX9_layBlocks 99 (.getfield 59) 3 := by decide +kernel
theorem dX9_layBlocks_102 : Dc KX9_layBlocks 102 (.aload_n 0) 1 := by decide +kernel
theorem dX9_layBlocks_103 : Dc KX9_layBlocks 103 (.getfield 56) 3 := by decide +kernel
theorem dX9_layBlocks_106 : Dc KX9_layBlocks 106 (.iastore) 1 := by decide +kernel
theorem dX9_layBlocks_107 : Dc KX9_layBlocks 107 (.return_) 1 := by decide +kernel
theorem dX9_blocksOf_0 : Dc KX9_blocksOf 0 (.aload_n 0) 1 := by decide +kernel
theorem dX9_blocksOf_1 : Dc KX9_blocksOf 1 (.iload_n 1) 1 := by decide +kernel
theorem dX9_blocksOf_2 : Dc KX9_blocksOf 2 (.invokevirtual 62) 3 := by decide +kernel
theorem dX9_blocksOf_5 : Dc KX9_blocksOf 5 (.aload_n 0) 1 := by decide +kernel
theorem dX9_blocksOf_6 : Dc KX9_blocksOf 6 (.aload_n 0) 1 := by decide +kernel
theorem dX9_blocksOf_7 : Dc KX9_blocksOf 7 (.getfield 7) 3 := by decide +kernel
theorem dX9_blocksOf_10 : Dc KX9_blocksOf 10 (.iconst 0) 1 := by decide +kernel
theorem dX9_blocksOf_11 : Dc KX9_blocksOf 11 (.iaload) 1 := by decide +kernel
theorem dX9_blocksOf_12 : Dc KX9_blocksOf 12 (.aload_n 0) 1 := by decide +kernel
theorem dX9_blocksOf_13 : Dc KX9_blocksOf 13 (.getfield 7) 3 := by decide +kernel
theorem dX9_blocksOf_16 : Dc KX9_blocksOf 16 (.iconst 1) 1 := by decide +kernel
theorem dX9_blocksOf_17 : Dc KX9_blocksOf 17 (.iaload) 1 := by decide +kernel
theorem dX9_blocksOf_18 : Dc KX9_blocksOf 18 (.invokevirtual 66) 3 := by decide +kernel
theorem dX9_blocksOf_21 : Dc KX9_blocksOf 21 (.return_) 1 := by decide +kernel
theorem dX9_bytesOf_0 : Dc KX9_bytesOf 0 (.iconst 3) 1 := by decide +kernel
theorem dX9_bytesOf_1 : Dc KX9_bytesOf 1 (.istore_n 2) 1 := by decide +kernel
theorem dX9_bytesOf_2 : Dc KX9_bytesOf 2 (.aload_n 0) 1 := by decide +kernel
theorem dX9_bytesOf_3 : Dc KX9_bytesOf 3 (.getfield 22) 3 := by decide +kernel
theorem dX9_bytesOf_6 : Dc KX9_bytesOf 6 (.iload_n 1) 1 := by decide +kernel
theorem dX9_bytesOf_7 : Dc KX9_bytesOf 7 (.iaload) 1 := by decide +kernel
theorem dX9_bytesOf_8 : Dc KX9_bytesOf 8 (.iconst 1) 1 := by decide +kernel
theorem dX9_bytesOf_9 : Dc KX9_bytesOf 9 (.iadd) 1 := by decide +kernel
theorem dX9_bytesOf_10 : Dc KX9_bytesOf 10 (.istore_n 3) 1 := by decide +kernel
theorem dX9_bytesOf_11 : Dc KX9_bytesOf 11 (.iload_n 3) 1 := by decide +kernel
theorem dX9_bytesOf_12 : Dc KX9_bytesOf 12 (.aload_n 0) 1 := by decide +kernel
theorem dX9_bytesOf_13 : Dc KX9_bytesOf 13 (.getfield 22) 3 := by decide +kernel
theorem dX9_bytesOf_16 : Dc KX9_bytesOf 16 (.iload_n 1) 1 := by decide +kernel
theorem dX9_bytesOf_17 : Dc KX9_bytesOf 17 (.iconst 1) 1 := by decide +kernel
theorem dX9_bytesOf_18 : Dc KX9_bytesOf 18 (.iadd) 1 := by decide +kernel
theorem dX9_bytesOf_19 : Dc KX9_bytesOf 19 (.iaload) 1 := by decide +kernel
theorem dX9_bytesOf_20 : Dc KX9_bytesOf 20 (.if_icmp .ge 38) 3 := by decide +kernel
theorem dX9_bytesOf_23 : Dc KX9_bytesOf 23 (.iload_n 2) 1 := by decide +kernel
theorem dX9_bytesOf_24 : Dc KX9_bytesOf 24 (.aload_n 0) 1 := by decide +kernel
theorem dX9_bytesOf_25 : Dc KX9_bytesOf 25 (.getfield 19) 3 := by decide +kernel
theorem dX9_bytesOf_28 : Dc KX9_bytesOf 28 (.iload_n 3) 1 := by decide +kernel
theorem dX9_bytesOf_29 : Dc KX9_bytesOf 29 (.iaload) 1 := by decide +kernel
theorem dX9_bytesOf_30 : Dc KX9_bytesOf 30 (.aload_n 0) 1 := by decide +kernel
theorem dX9_bytesOf_31 : Dc KX9_bytesOf 31 (.getfield 19) 3 := by decide +kernel
theorem dX9_bytesOf_34 : Dc KX9_bytesOf 34 (.iload_n 3) 1 := by decide +kernel
theorem dX9_bytesOf_35 : Dc KX9_bytesOf 35 (.iconst 1) 1 := by decide +kernel
theorem dX9_bytesOf_36 : Dc KX9_bytesOf 36 (.isub) 1 := by decide +kernel
theorem dX9_bytesOf_37 : Dc KX9_bytesOf 37 (.iaload) 1 := by decide +kernel
theorem dX9_bytesOf_38 : Dc KX9_bytesOf 38 (.isub) 1 := by decide +kernel
theorem dX9_bytesOf_39 : Dc KX9_bytesOf 39 (.sipush 128) 3 := by decide +kernel
theorem dX9_bytesOf_42 : Dc KX9_bytesOf 42 (.if_icmp .ge 7) 3 := by decide +kernel
theorem dX9_bytesOf_45 : Dc KX9_bytesOf 45 (.iconst 1) 1 := by decide +kernel
theorem dX9_bytesOf_46 : Dc KX9_bytesOf 46 (.goto 4) 3 := by decide +kernel
theorem dX9_bytesOf_49 : Dc KX9_bytesOf 49 (.iconst 2) 1 := by decide +kernel
theorem dX9_bytesOf_50 : Dc KX9_bytesOf 50 (.iadd) 1 := by decide +kernel
theorem dX9_bytesOf_51 : Dc KX9_bytesOf 51 (.istore_n 2) 1 := by decide +kernel
theorem dX9_bytesOf_52 : Dc KX9_bytesOf 52 (.iinc 3 1) 3 := by decide +kernel
theorem dX9_bytesOf_55 : Dc KX9_bytesOf 55 (.goto (-44)) 3 := by decide +kernel
theorem dX9_bytesOf_58 : Dc KX9_bytesOf 58 (.iload_n 2) 1 := by decide +kernel
theorem dX9_bytesOf_59 : Dc KX9_bytesOf 59 (.ireturn) 1 := by decide +kernel
theorem dX9_bytes_0 : Dc KX9_bytes 0 (.iconst 0) 1 := by decide +kernel
theorem dX9_bytes_1 : Dc KX9_bytes 1 (.istore_n 1) 1 := by decide +kernel
theorem dX9_bytes_2 : Dc KX9_bytes 2 (.iconst 0) 1 := by decide +kernel
theorem dX9_bytes_3 : Dc KX9_bytes 3 (.istore_n 2) 1 := by decide +kernel
theorem dX9_bytes_4 : Dc KX9_bytes 4 (.iload_n 2) 1 := by decide +kernel
theorem dX9_bytes_5 : Dc KX9_bytes 5 (.aload_n 0) 1 := by decide +kernel
theorem dX9_bytes_6 : Dc KX9_bytes 6 (.getfield 59) 3 := by decide +kernel
theorem dX9_bytes_9 : Dc KX9_bytes 9 (.if_icmp .ge 17) 3 := by decide +kernel
theorem dX9_bytes_12 : Dc KX9_bytes 12 (.iload_n 1) 1 := by decide +kernel
theorem dX9_bytes_13 : Dc KX9_bytes 13 (.aload_n 0) 1 := by decide +kernel
theorem dX9_bytes_14 : Dc KX9_bytes 14 (.iload_n 2) 1 := by decide +kernel
theorem dX9_bytes_15 : Dc KX9_bytes 15 (.invokevirtual 70) 3 := by decide +kernel
theorem dX9_bytes_18 : Dc KX9_bytes 18 (.iadd) 1 := by decide +kernel
theorem dX9_bytes_19 : Dc KX9_bytes 19 (.istore_n 1) 1 := by decide +kernel
theorem dX9_bytes_20 : Dc KX9_bytes 20 (.iinc 2 1) 3 := by decide +kernel
theorem dX9_bytes_23 : Dc KX9_bytes 23 (.goto (-19)) 3 := by decide +kernel
theorem dX9_bytes_26 : Dc KX9_bytes 26 (.iload_n 1) 1 := by decide +kernel
theorem dX9_bytes_27 : Dc KX9_bytes 27 (.ireturn) 1 := by decide +kernel
theorem dX9_sizeBy_0 : Dc KX9_sizeBy 0 (.aload_n 0) 1 := by decide +kernel
theorem dX9_sizeBy_1 : Dc KX9_sizeBy 1 (.iload_n 1) 1 := by decide +kernel
theorem dX9_sizeBy_2 : Dc KX9_sizeBy 2 (.invokevirtual 62) 3 := by decide +kernel
theorem dX9_sizeBy_5 : Dc KX9_sizeBy 5 (.aload_n 0) 1 := by decide +kernel
theorem dX9_sizeBy_6 : Dc KX9_sizeBy 6 (.iload_n 2) 1 := by decide +kernel
theorem dX9_sizeBy_7 : Dc KX9_sizeBy 7 (.iload_n 3) 1 := by decide +kernel
theorem dX9_sizeBy_8 : Dc KX9_sizeBy 8 (.invokevirtual 66) 3 := by decide +kernel
theorem dX9_sizeBy_11 : Dc KX9_sizeBy 11 (.aload_n 0) 1 := by decide +kernel
theorem dX9_sizeBy_12 : Dc KX9_sizeBy 12 (.invokevirtual 73) 3 := by decide +kernel
theorem dX9_sizeBy_15 : Dc KX9_sizeBy 15 (.ireturn) 1 := by decide +kernel
theorem dX9_sizeOf_0 : Dc KX9_sizeOf 0 (.aload_n 0) 1 := by decide +kernel
theorem dX9_sizeOf_1 : Dc KX9_sizeOf 1 (.iload_n 1) 1 := by decide +kernel
theorem dX9_sizeOf_2 : Dc KX9_sizeOf 2 (.aload_n 0) 1 := by decide +kernel
theorem dX9_sizeOf_3 : Dc KX9_sizeOf 3 (.getfield 7) 3 := by decide +kernel
theorem dX9_sizeOf_6 : Dc KX9_sizeOf 6 (.iconst 0) 1 := by decide +kernel
theorem dX9_sizeOf_7 : Dc KX9_sizeOf 7 (.iaload) 1 := by decide +kernel
theorem dX9_sizeOf_8 : Dc KX9_sizeOf 8 (.aload_n 0) 1 := by decide +kernel
theorem dX9_sizeOf_9 : Dc KX9_sizeOf 9 (.getfield 7) 3 := by decide +kernel
theorem dX9_sizeOf_12 : Dc KX9_sizeOf 12 (.iconst 1) 1 := by decide +kernel
theorem dX9_sizeOf_13 : Dc KX9_sizeOf 13 (.iaload) 1 := by decide +kernel
theorem dX9_sizeOf_14 : Dc KX9_sizeOf 14 (.invokevirtual 77) 3 := by decide +kernel
theorem dX9_sizeOf_17 : Dc KX9_sizeOf 17 (.ireturn) 1 := by decide +kernel
theorem dX9_insert_0 : Dc KX9_insert 0 (.aload_n 0) 1 := by decide +kernel
theorem dX9_insert_1 : Dc KX9_insert 1 (.iload_n 1) 1 := by decide +kernel
theorem dX9_insert_2 : Dc KX9_insert 2 (.iload_n 2) 1 := by decide +kernel
theorem dX9_insert_3 : Dc KX9_insert 3 (.invokevirtual 53) 3 := by decide +kernel
theorem dX9_insert_6 : Dc KX9_insert 6 (.istore_n 3) 1 := by decide +kernel
theorem dX9_insert_7 : Dc KX9_insert 7 (.aload_n 0) 1 := by decide +kernel
theorem dX9_insert_8 : Dc KX9_insert 8 (.iload_n 1) 1 := by decide +kernel
theorem dX9_insert_9 : Dc KX9_insert 9 (.invokevirtual 45) 3 := by decide +kernel
theorem dX9_insert_12 : Dc KX9_insert 12 (.istore 4) 2 := by decide +kernel
theorem dX9_insert_14 : Dc KX9_insert 14 (.iload 4) 2 := by decide +kernel
theorem dX9_insert_16 : Dc KX9_insert 16 (.iload_n 3) 1 := by decide +kernel
theorem dX9_insert_17 : Dc KX9_insert 17 (.if_icmp .le 33) 3 := by decide +kernel
theorem dX9_insert_20 : Dc KX9_insert 20 (.aload_n 0) 1 := by decide +kernel
theorem dX9_insert_21 : Dc KX9_insert 21 (.getfield 7) 3 := by decide +kernel
theorem dX9_insert_24 : Dc KX9_insert 24 (.bipush 6) 2 := by decide +kernel
theorem dX9_insert_26 : Dc KX9_insert 26 (.bipush 60) 2 := by decide +kernel
theorem dX9_insert_28 : Dc KX9_insert 28 (.iload_n 1) 1 := by decide +kernel
theorem dX9_insert_29 : Dc KX9_insert 29 (.imul) 1 := by decide +kernel
theorem dX9_insert_30 : Dc KX9_insert 30 (.iadd) 1 := by decide +kernel
theorem dX9_insert_31 : Dc KX9_insert 31 (.iload 4) 2 := by decide +kernel
theorem dX9_insert_33 : Dc KX9_insert 33 (.iadd) 1 := by decide +kernel
theorem dX9_insert_34 : Dc KX9_insert 34 (.aload_n 0) 1 := by decide +kernel
theorem dX9_insert_35 : Dc KX9_insert 35 (.iload_n 1) 1 := by decide +kernel
theorem dX9_insert_36 : Dc KX9_insert 36 (.iload 4) 2 := by decide +kernel
theorem dX9_insert_38 : Dc KX9_insert 38 (.iconst 1) 1 := by decide +kernel
theorem dX9_insert_39 : Dc KX9_insert 39 (.isub) 1 := by decide +kernel
theorem dX9_insert_40 : Dc KX9_insert 40 (.invokevirtual 49) 3 := by decide +kernel
theorem dX9_insert_43 : Dc KX9_insert 43 (.iastore) 1 := by decide +kernel
theorem dX9_insert_44 : Dc KX9_insert 44 (.iinc 4 (-1)) 3 := by decide +kernel
theorem dX9_insert_47 : Dc KX9_insert 47 (.goto (-33)) 3 := by decide +kernel
theorem dX9_insert_50 : Dc KX9_insert 50 (.aload_n 0) 1 := by decide +kernel
theorem dX9_insert_51 : Dc KX9_insert 51 (.getfield 7) 3 := by decide +kernel
theorem dX9_insert_54 : Dc KX9_insert 54 (.bipush 6) 2 := by decide +kernel
theorem dX9_insert_56 : Dc KX9_insert 56 (.bipush 60) 2 := by decide +kernel
theorem dX9_insert_58 : Dc KX9_insert 58 (.iload_n 1) 1 := by decide +kernel
theorem dX9_insert_59 : Dc KX9_insert 59 (.imul) 1 := by decide +kernel
theorem dX9_insert_60 : Dc KX9_insert 60 (.iadd) 1 := by decide +kernel
theorem dX9_insert_61 : Dc KX9_insert 61 (.iload_n 3) 1 := by decide +kernel
theorem dX9_insert_62 : Dc KX9_insert 62 (.iadd) 1 := by decide +kernel
theorem dX9_insert_63 : Dc KX9_insert 63 (.iload_n 2) 1 := by decide +kernel
theorem dX9_insert_64 : Dc KX9_insert 64 (.iastore) 1 := by decide +kernel
theorem dX9_insert_65 : Dc KX9_insert 65 (.aload_n 0) 1 := by decide +kernel
theorem dX9_insert_66 : Dc KX9_insert 66 (.getfield 7) 3 := by decide +kernel
theorem dX9_insert_69 : Dc KX9_insert 69 (.iconst 2) 1 := by decide +kernel
theorem dX9_insert_70 : Dc KX9_insert 70 (.iload_n 1) 1 := by decide +kernel
theorem dX9_insert_71 : Dc KX9_insert 71 (.iadd) 1 := by decide +kernel
theorem dX9_insert_72 : Dc KX9_insert 72 (.dup2) 1 := by decide +kernel
theorem dX9_insert_73 : Dc KX9_insert 73 (.iaload) 1 := by decide +kernel
theorem dX9_insert_74 : Dc KX9_insert 74 (.iconst 1) 1 := by decide +kernel
theorem dX9_insert_75 : Dc KX9_insert 75 (.iadd) 1 := by decide +kernel
theorem dX9_insert_76 : Dc KX9_insert 76 (.iastore) 1 := by decide +kernel
theorem dX9_insert_77 : Dc KX9_insert 77 (.return_) 1 := by decide +kernel
theorem dX9_add_0 : Dc KX9_add 0 (.aload_n 0) 1 := by decide +kernel
theorem dX9_add_1 : Dc KX9_add 1 (.iload_n 1) 1 := by decide +kernel
theorem dX9_add_2 : Dc KX9_add 2 (.invokestatic 81) 3 := by decide +kernel
theorem dX9_add_5 : Dc KX9_add 5 (.ifCond .ne 7) 3 := by decide +kernel
theorem dX9_add_8 : Dc KX9_add 8 (.iconst 1) 1 := by decide +kernel
theorem dX9_add_9 : Dc KX9_add 9 (.goto 38) 3 := by decide +kernel
theorem dX9_add_12 : Dc KX9_add 12 (.iload_n 2) 1 := by decide +kernel
theorem dX9_add_13 : Dc KX9_add 13 (.invokestatic 85) 3 := by decide +kernel
theorem dX9_add_16 : Dc KX9_add 16 (.ifCond .ne 7) 3 := by decide +kernel
theorem dX9_add_19 : Dc KX9_add 19 (.iconst 2) 1 := by decide +kernel
theorem dX9_add_20 : Dc KX9_add 20 (.goto 27) 3 := by decide +kernel
theorem dX9_add_23 : Dc KX9_add 23 (.aload_n 0) 1 := by decide +kernel
theorem dX9_add_24 : Dc KX9_add 24 (.iload_n 1) 1 := by decide +kernel
theorem dX9_add_25 : Dc KX9_add 25 (.iload_n 2) 1 := by decide +kernel
theorem dX9_add_26 : Dc KX9_add 26 (.invokevirtual 88) 3 := by decide +kernel
theorem dX9_add_29 : Dc KX9_add 29 (.ifCond .ne 17) 3 := by decide +kernel
theorem dX9_add_32 : Dc KX9_add 32 (.aload_n 0) 1 := by decide +kernel
theorem dX9_add_33 : Dc KX9_add 33 (.iload_n 1) 1 := by decide +kernel
theorem dX9_add_34 : Dc KX9_add 34 (.invokevirtual 45) 3 := by decide +kernel
theorem dX9_add_37 : Dc KX9_add 37 (.bipush 60) 2 := by decide +kernel
theorem dX9_add_39 : Dc KX9_add 39 (.if_icmp .ne 7) 3 := by decide +kernel
theorem dX9_add_42 : Dc KX9_add 42 (.iconst 3) 1 := by decide +kernel
theorem dX9_add_43 : Dc KX9_add 43 (.goto 4) 3 := by decide +kernel
theorem dX9_add_46 : Dc KX9_add 46 (.iconst 0) 1 := by decide +kernel
theorem dX9_add_47 : Dc KX9_add 47 (.putfield 34) 3 := by decide +kernel
theorem dX9_add_50 : Dc KX9_add 50 (.aload_n 0) 1 := by decide +kernel
theorem dX9_add_51 : Dc KX9_add 51 (.getfield 34) 3 := by decide +kernel
theorem dX9_add_54 : Dc KX9_add 54 (.ifCond .le 5) 3 := by decide +kernel
theorem dX9_add_57 : Dc KX9_add 57 (.iconst 0) 1 := by decide +kernel
theorem dX9_add_58 : Dc KX9_add 58 (.ireturn) 1 := by decide +kernel
theorem dX9_add_59 : Dc KX9_add 59 (.aload_n 0) 1 := by decide +kernel
theorem dX9_add_60 : Dc KX9_add 60 (.invokevirtual 92) 3 := by decide +kernel
theorem dX9_add_63 : Dc KX9_add 63 (.aload_n 0) 1 := by decide +kernel
theorem dX9_add_64 : Dc KX9_add 64 (.iload_n 1) 1 := by decide +kernel
theorem dX9_add_65 : Dc KX9_add 65 (.iload_n 2) 1 := by decide +kernel
theorem dX9_add_66 : Dc KX9_add 66 (.invokevirtual 88) 3 := by decide +kernel
theorem dX9_add_69 : Dc KX9_add 69 (.ifCond .eq 5) 3 := by decide +kernel
theorem dX9_add_72 : Dc KX9_add 72 (.iconst 0) 1 := by decide +kernel
theorem dX9_add_73 : Dc KX9_add 73 (.ireturn) 1 := by decide +kernel
theorem dX9_add_74 : Dc KX9_add 74 (.aload_n 0) 1 := by decide +kernel
theorem dX9_add_75 : Dc KX9_add 75 (.iload_n 1) 1 := by decide +kernel
theorem dX9_add_76 : Dc KX9_add 76 (.iload_n 2) 1 := by decide +kernel
theorem dX9_add_77 : Dc KX9_add 77 (.invokevirtual 95) 3 := by decide +kernel
theorem dX9_add_80 : Dc KX9_add 80 (.iconst 1) 1 := by decide +kernel
theorem dX9_add_81 : Dc KX9_add 81 (.ireturn) 1 := by decide +kernel
theorem dX9_takeAway_0 : Dc KX9_takeAway 0 (.aload_n 0) 1 := by decide +kernel
theorem dX9_takeAway_1 : Dc KX9_takeAway 1 (.iload_n 1) 1 := by decide +kernel
theorem dX9_takeAway_2 : Dc KX9_takeAway 2 (.iload_n 2) 1 := by decide +kernel
theorem dX9_takeAway_3 : Dc KX9_takeAway 3 (.invokevirtual 53) 3 := by decide +kernel
theorem dX9_takeAway_6 : Dc KX9_takeAway 6 (.istore 4) 2 := by decide +kernel
theorem dX9_takeAway_8 : Dc KX9_takeAway 8 (.aload_n 0) 1 := by decide +kernel
theorem dX9_takeAway_9 : Dc KX9_takeAway 9 (.iload_n 1) 1 := by decide +kernel
theorem dX9_takeAway_10 : Dc KX9_takeAway 10 (.iload_n 3) 1 := by decide +kernel
theorem dX9_takeAway_11 : Dc KX9_takeAway 11 (.iconst 1) 1 := by decide +kernel
theorem dX9_takeAway_12 : Dc KX9_takeAway 12 (.iadd) 1 := by decide +kernel
theorem dX9_takeAway_13 : Dc KX9_takeAway 13 (.invokevirtual 53) 3 := by decide +kernel
theorem dX9_takeAway_16 : Dc KX9_takeAway 16 (.iload 4) 2 := by decide +kernel
theorem dX9_takeAway_18 : Dc KX9_takeAway 18 (.isub) 1 := by decide +kernel
theorem dX9_takeAway_19 : Dc KX9_takeAway 19 (.istore 5) 2 := by decide +kernel
theorem dX9_takeAway_21 : Dc KX9_takeAway 21 (.aload_n 0) 1 := by decide +kernel
theorem dX9_takeAway_22 : Dc KX9_takeAway 22 (.iload_n 1) 1 := by decide +kernel
theorem dX9_takeAway_23 : Dc KX9_takeAway 23 (.invokevirtual 62) 3 := by decide +kernel
theorem dX9_takeAway_26 : Dc KX9_takeAway 26 (.iload 4) 2 := by decide +kernel
theorem dX9_takeAway_28 : Dc KX9_takeAway 28 (.istore 6) 2 := by decide +kernel
theorem dX9_takeAway_30 : Dc KX9_takeAway 30 (.iload 6) 2 := by decide +kernel
theorem dX9_takeAway_32 : Dc KX9_takeAway 32 (.iload 5) 2 := by decide +kernel
theorem dX9_takeAway_34 : Dc KX9_takeAway 34 (.iadd) 1 := by decide +kernel
theorem dX9_takeAway_35 : Dc KX9_takeAway 35 (.aload_n 0) 1 := by decide +kernel
theorem dX9_takeAway_36 : Dc KX9_takeAway 36 (.getfield 56) 3 := by decide +kernel
theorem dX9_takeAway_39 : Dc KX9_takeAway 39 (.if_icmp .ge 26) 3 := by decide +kernel
theorem dX9_takeAway_42 : Dc KX9_takeAway 42 (.aload_n 0) 1 := by decide +kernel
theorem dX9_takeAway_43 : Dc KX9_takeAway 43 (.getfield 19) 3 := by decide +kernel
theorem dX9_takeAway_46 : Dc KX9_takeAway 46 (.iload 6) 2 := by decide +kernel
theorem dX9_takeAway_48 : Dc KX9_takeAway 48 (.aload_n 0) 1 := by decide +kernel
theorem dX9_takeAway_49 : Dc KX9_takeAway 49 (.getfield 19) 3 := by decide +kernel
theorem dX9_takeAway_52 : Dc KX9_takeAway 52 (.iload 6) 2 := by decide +kernel
theorem dX9_takeAway_54 : Dc KX9_takeAway 54 (.iload 5) 2 := by decide +kernel
theorem dX9_takeAway_56 : Dc KX9_takeAway 56 (.iadd) 1 := by decide +kernel
theorem dX9_takeAway_57 : Dc KX9_takeAway 57 (.iaload) 1 := by decide +kernel
theorem dX9_takeAway_58 : Dc KX9_takeAway 58 (.iastore) 1 := by decide +kernel
theorem dX9_takeAway_59 : Dc KX9_takeAway 59 (.iinc 6 1) 3 := by decide +kernel
theorem dX9_takeAway_62 : Dc KX9_takeAway 62 (.goto (-32)) 3 := by decide +kernel
theorem dX9_takeAway_65 : Dc KX9_takeAway 65 (.aload_n 0) 1 := by decide +kernel
theorem dX9_takeAway_66 : Dc KX9_takeAway 66 (.dup) 1 := by decide +kernel
theorem dX9_takeAway_67 : Dc KX9_takeAway 67 (.getfield 56) 3 := by decide +kernel
theorem dX9_takeAway_70 : Dc KX9_takeAway 70 (.iload 5) 2 := by decide +kernel
theorem dX9_takeAway_72 : Dc KX9_takeAway 72 (.isub) 1 := by decide +kernel
theorem dX9_takeAway_73 : Dc KX9_takeAway 73 (.putfield 56) 3 := by decide +kernel
theorem dX9_takeAway_76 : Dc KX9_takeAway 76 (.aload_n 0) 1 := by decide +kernel
theorem dX9_takeAway_77 : Dc KX9_takeAway 77 (.iload_n 1) 1 := by decide +kernel
theorem dX9_takeAway_78 : Dc KX9_takeAway 78 (.invokevirtual 98) 3 := by decide +kernel
theorem dX9_takeAway_81 : Dc KX9_takeAway 81 (.iload 5) 2 := by decide +kernel
theorem dX9_takeAway_83 : Dc KX9_takeAway 83 (.ireturn) 1 := by decide +kernel
theorem dX9_remove_0 : Dc KX9_remove 0 (.aload_n 0) 1 := by decide +kernel
theorem dX9_remove_1 : Dc KX9_remove 1 (.iload_n 1) 1 := by decide +kernel
theorem dX9_remove_2 : Dc KX9_remove 2 (.invokestatic 81) 3 := by decide +kernel
theorem dX9_remove_5 : Dc KX9_remove 5 (.ifCond .ne 7) 3 := by decide +kernel
theorem dX9_remove_8 : Dc KX9_remove 8 (.iconst 1) 1 := by decide +kernel
theorem dX9_remove_9 : Dc KX9_remove 9 (.goto 15) 3 := by decide +kernel
theorem dX9_remove_12 : Dc KX9_remove 12 (.iload_n 2) 1 := by decide +kernel
theorem dX9_remove_13 : Dc KX9_remove 13 (.invokestatic 85) 3 := by decide +kernel
theorem dX9_remove_16 : Dc KX9_remove 16 (.ifCond .eq 7) 3 := by decide +kernel
theorem dX9_remove_19 : Dc KX9_remove 19 (.iconst 0) 1 := by decide +kernel
theorem dX9_remove_20 : Dc KX9_remove 20 (.goto 4) 3 := by decide +kernel
theorem dX9_remove_23 : Dc KX9_remove 23 (.iconst 2) 1 := by decide +kernel
theorem dX9_remove_24 : Dc KX9_remove 24 (.putfield 34) 3 := by decide +kernel
theorem dX9_remove_27 : Dc KX9_remove 27 (.aload_n 0) 1 := by decide +kernel
theorem dX9_remove_28 : Dc KX9_remove 28 (.getfield 34) 3 := by decide +kernel
theorem dX9_remove_31 : Dc KX9_remove 31 (.ifCond .le 5) 3 := by decide +kernel
theorem dX9_remove_34 : Dc KX9_remove 34 (.iconst 0) 1 := by decide +kernel
theorem dX9_remove_35 : Dc KX9_remove 35 (.ireturn) 1 := by decide +kernel
theorem dX9_remove_36 : Dc KX9_remove 36 (.aload_n 0) 1 := by decide +kernel
theorem dX9_remove_37 : Dc KX9_remove 37 (.invokevirtual 92) 3 := by decide +kernel
theorem dX9_remove_40 : Dc KX9_remove 40 (.aload_n 0) 1 := by decide +kernel
theorem dX9_remove_41 : Dc KX9_remove 41 (.iload_n 1) 1 := by decide +kernel
theorem dX9_remove_42 : Dc KX9_remove 42 (.iload_n 2) 1 := by decide +kernel
theorem dX9_remove_43 : Dc KX9_remove 43 (.iload_n 2) 1 := by decide +kernel
theorem dX9_remove_44 : Dc KX9_remove 44 (.invokevirtual 101) 3 := by decide +kernel
theorem dX9_remove_47 : Dc KX9_remove 47 (.ireturn) 1 := by decide +kernel
theorem dX9_removeRange_0 : Dc KX9_removeRange 0 (.aload_n 0) 1 := by decide +kernel
theorem dX9_removeRange_1 : Dc KX9_removeRange 1 (.iload_n 1) 1 := by decide +kernel
theorem dX9_removeRange_2 : Dc KX9_removeRange 2 (.invokestatic 81) 3 := by decide +kernel
theorem dX9_removeRange_5 : Dc KX9_removeRange 5 (.ifCond .ne 7) 3 := by decide +kernel
theorem dX9_removeRange_8 : Dc KX9_removeRange 8 (.iconst 1) 1 := by decide +kernel
theorem dX9_removeRange_9 : Dc KX9_removeRange 9 (.goto 26) 3 := by decide +kernel
theorem dX9_removeRange_12 : Dc KX9_removeRange 12 (.iload_n 2) 1 := by decide +kernel
theorem dX9_removeRange_13 : Dc KX9_removeRange 13 (.invokestatic 85) 3 := by decide +kernel
theorem dX9_removeRange_16 : Dc KX9_removeRange 16 (.ifCond .eq 18) 3 := by decide +kernel
theorem dX9_removeRange_19 : Dc KX9_removeRange 19 (.iload_n 3) 1 := by decide +kernel
theorem dX9_removeRange_20 : Dc KX9_removeRange 20 (.iload_n 2) 1 := by decide +kernel
theorem dX9_removeRange_21 : Dc KX9_removeRange 21 (.sipush 9999) 3 := by decide +kernel
theorem dX9_removeRange_24 : Dc KX9_removeRange 24 (.invokestatic 41) 3 := by decide +kernel
theorem dX9_removeRange_27 : Dc KX9_removeRange 27 (.ifCond .eq 7) 3 := by decide +kernel
theorem dX9_removeRange_30 : Dc KX9_removeRange 30 (.iconst 0) 1 := by decide +kernel
theorem dX9_removeRange_31 : Dc KX9_removeRange 31 (.goto 4) 3 := by decide +kernel
theorem dX9_removeRange_34 : Dc KX9_removeRange 34 (.iconst 2) 1 := by decide +kernel
theorem dX9_removeRange_35 : Dc KX9_removeRange 35 (.putfield 34) 3 := by decide +kernel
theorem dX9_removeRange_38 : Dc KX9_removeRange 38 (.aload_n 0) 1 := by decide +kernel
theorem dX9_removeRange_39 : Dc KX9_removeRange 39 (.getfield 34) 3 := by decide +kernel
theorem dX9_removeRange_42 : Dc KX9_removeRange 42 (.ifCond .le 5) 3 := by decide +kernel
theorem dX9_removeRange_45 : Dc KX9_removeRange 45 (.iconst 0) 1 := by decide +kernel
theorem dX9_removeRange_46 : Dc KX9_removeRange 46 (.ireturn) 1 := by decide +kernel
theorem dX9_removeRange_47 : Dc KX9_removeRange 47 (.aload_n 0) 1 := by decide +kernel
theorem dX9_removeRange_48 : Dc KX9_removeRange 48 (.invokevirtual 92) 3 := by decide +kernel
theorem dX9_removeRange_51 : Dc KX9_removeRange 51 (.aload_n 0) 1 := by decide +kernel
theorem dX9_removeRange_52 : Dc KX9_removeRange 52 (.iload_n 1) 1 := by decide +kernel
theorem dX9_removeRange_53 : Dc KX9_removeRange 53 (.iload_n 2) 1 := by decide +kernel
theorem dX9_removeRange_54 : Dc KX9_removeRange 54 (.iload_n 3) 1 := by decide +kernel
theorem dX9_removeRange_55 : Dc KX9_removeRange 55 (.invokevirtual 101) 3 := by decide +kernel
theorem dX9_removeRange_58 : Dc KX9_removeRange 58 (.ireturn) 1 := by decide +kernel
theorem dX9_leastOf_0 : Dc KX9_leastOf 0 (.aload_n 0) 1 := by decide +kernel
theorem dX9_leastOf_1 : Dc KX9_leastOf 1 (.iload_n 1) 1 := by decide +kernel
theorem dX9_leastOf_2 : Dc KX9_leastOf 2 (.invokevirtual 45) 3 := by decide +kernel
theorem dX9_leastOf_5 : Dc KX9_leastOf 5 (.ifCond .ne 7) 3 := by decide +kernel
theorem dX9_leastOf_8 : Dc KX9_leastOf 8 (.iconst (-1)) 1 := by decide +kernel
theorem dX9_leastOf_9 : Dc KX9_leastOf 9 (.goto 9) 3 := by decide +kernel
theorem dX9_leastOf_12 : Dc KX9_leastOf 12 (.aload_n 0) 1 := by decide +kernel
theorem dX9_leastOf_13 : Dc KX9_leastOf 13 (.iload_n 1) 1 := by decide +kernel
theorem dX9_leastOf_14 : Dc KX9_leastOf 14 (.iconst 0) 1 := by decide +kernel
theorem dX9_leastOf_15 : Dc KX9_leastOf 15 (.invokevirtual 49) 3 := by decide +kernel
theorem dX9_leastOf_18 : Dc KX9_leastOf 18 (.ireturn) 1 := by decide +kernel
theorem dX9_greatestOf_0 : Dc KX9_greatestOf 0 (.aload_n 0) 1 := by decide +kernel
theorem dX9_greatestOf_1 : Dc KX9_greatestOf 1 (.iload_n 1) 1 := by decide +kernel
theorem dX9_greatestOf_2 : Dc KX9_greatestOf 2 (.invokevirtual 45) 3 := by decide +kernel
theorem dX9_greatestOf_5 : Dc KX9_greatestOf 5 (.ifCond .ne 7) 3 := by decide +kernel
theorem dX9_greatestOf_8 : Dc KX9_greatestOf 8 (.iconst (-1)) 1 := by decide +kernel
theorem dX9_greatestOf_9 : Dc KX9_greatestOf 9 (.goto 15) 3 := by decide +kernel
theorem dX9_greatestOf_12 : Dc KX9_greatestOf 12 (.aload_n 0) 1 := by decide +kernel
theorem dX9_greatestOf_13 : Dc KX9_greatestOf 13 (.iload_n 1) 1 := by decide +kernel
theorem dX9_greatestOf_14 : Dc KX9_greatestOf 14 (.aload_n 0) 1 := by decide +kernel
theorem dX9_greatestOf_15 : Dc KX9_greatestOf 15 (.iload_n 1) 1 := by decide +kernel
theorem dX9_greatestOf_16 : Dc KX9_greatestOf 16 (.invokevirtual 45) 3 := by decide +kernel
theorem dX9_greatestOf_19 : Dc KX9_greatestOf 19 (.iconst 1) 1 := by decide +kernel
theorem dX9_greatestOf_20 : Dc KX9_greatestOf 20 (.isub) 1 := by decide +kernel
theorem dX9_greatestOf_21 : Dc KX9_greatestOf 21 (.invokevirtual 49) 3 := by decide +kernel
theorem dX9_greatestOf_24 : Dc KX9_greatestOf 24 (.ireturn) 1 := by decide +kernel
theorem dX9_canShift_0 : Dc KX9_canShift 0 (.aload_n 0) 1 := by decide +kernel
theorem dX9_canShift_1 : Dc KX9_canShift 1 (.iload_n 1) 1 := by decide +kernel
theorem dX9_canShift_2 : Dc KX9_canShift 2 (.invokevirtual 45) 3 := by decide +kernel
theorem dX9_canShift_5 : Dc KX9_canShift 5 (.ifCond .eq 26) 3 := by decide +kernel
theorem dX9_canShift_8 : Dc KX9_canShift 8 (.aload_n 0) 1 := by decide +kernel
theorem dX9_canShift_9 : Dc KX9_canShift 9 (.iload_n 1) 1 := by decide +kernel
theorem dX9_canShift_10 : Dc KX9_canShift 10 (.invokevirtual 104) 3 := by decide +kernel
theorem dX9_canShift_13 : Dc KX9_canShift 13 (.iload_n 2) 1 := by decide +kernel
theorem dX9_canShift_14 : Dc KX9_canShift 14 (.iadd) 1 := by decide +kernel
theorem dX9_canShift_15 : Dc KX9_canShift 15 (.ifCond .lt 20) 3 := by decide +kernel
theorem dX9_canShift_18 : Dc KX9_canShift 18 (.aload_n 0) 1 := by decide +kernel
theorem dX9_canShift_19 : Dc KX9_canShift 19 (.iload_n 1) 1 := by decide +kernel
theorem dX9_canShift_20 : Dc KX9_canShift 20 (.invokevirtual 107) 3 := by decide +kernel
theorem dX9_canShift_23 : Dc KX9_canShift 23 (.iload_n 2) 1 := by decide +kernel
theorem dX9_canShift_24 : Dc KX9_canShift 24 (.iadd) 1 := by decide +kernel
theorem dX9_canShift_25 : Dc KX9_canShift 25 (.sipush 9999) 3 := by decide +kernel
theorem dX9_canShift_28 : Dc KX9_canShift 28 (.if_icmp .gt 7) 3 := by decide +kernel
theorem dX9_canShift_31 : Dc KX9_canShift 31 (.iconst 1) 1 := by decide +kernel
theorem dX9_canShift_32 : Dc KX9_canShift 32 (.goto 4) 3 := by decide +kernel
theorem dX9_canShift_35 : Dc KX9_canShift 35 (.iconst 0) 1 := by decide +kernel
theorem dX9_canShift_36 : Dc KX9_canShift 36 (.ireturn) 1 := by decide +kernel
theorem dX9_shift_0 : Dc KX9_shift 0 (.aload_n 0) 1 := by decide +kernel
theorem dX9_shift_1 : Dc KX9_shift 1 (.iload_n 1) 1 := by decide +kernel
theorem dX9_shift_2 : Dc KX9_shift 2 (.invokestatic 81) 3 := by decide +kernel
theorem dX9_shift_5 : Dc KX9_shift 5 (.ifCond .ne 7) 3 := by decide +kernel
theorem dX9_shift_8 : Dc KX9_shift 8 (.iconst 1) 1 := by decide +kernel
theorem dX9_shift_9 : Dc KX9_shift 9 (.goto 34) 3 := by decide +kernel
theorem dX9_shift_12 : Dc KX9_shift 12 (.iload_n 2) 1 := by decide +kernel
theorem dX9_shift_13 : Dc KX9_shift 13 (.sipush (-9999)) 3 := by decide +kernel
theorem dX9_shift_16 : Dc KX9_shift 16 (.sipush 9999) 3 := by decide +kernel
theorem dX9_shift_19 : Dc KX9_shift 19 (.invokestatic 41) 3 := by decide +kernel
theorem dX9_shift_22 : Dc KX9_shift 22 (.ifCond .ne 7) 3 := by decide +kernel
theorem dX9_shift_25 : Dc KX9_shift 25 (.iconst 2) 1 := by decide +kernel
theorem dX9_shift_26 : Dc KX9_shift 26 (.goto 17) 3 := by decide +kernel
theorem dX9_shift_29 : Dc KX9_shift 29 (.aload_n 0) 1 := by decide +kernel
theorem dX9_shift_30 : Dc KX9_shift 30 (.iload_n 1) 1 := by decide +kernel
theorem dX9_shift_31 : Dc KX9_shift 31 (.iload_n 2) 1 := by decide +kernel
theorem dX9_shift_32 : Dc KX9_shift 32 (.invokevirtual 110) 3 := by decide +kernel
theorem dX9_shift_35 : Dc KX9_shift 35 (.ifCond .eq 7) 3 := by decide +kernel
theorem dX9_shift_38 : Dc KX9_shift 38 (.iconst 0) 1 := by decide +kernel
theorem dX9_shift_39 : Dc KX9_shift 39 (.goto 4) 3 := by decide +kernel
theorem dX9_shift_42 : Dc KX9_shift 42 (.iconst 3) 1 := by decide +kernel
theorem dX9_shift_43 : Dc KX9_shift 43 (.putfield 34) 3 := by decide +kernel
theorem dX9_shift_46 : Dc KX9_shift 46 (.aload_n 0) 1 := by decide +kernel
theorem dX9_shift_47 : Dc KX9_shift 47 (.getfield 34) 3 := by decide +kernel
theorem dX9_shift_50 : Dc KX9_shift 50 (.ifCond .le 5) 3 := by decide +kernel
theorem dX9_shift_53 : Dc KX9_shift 53 (.iconst 0) 1 := by decide +kernel
theorem dX9_shift_54 : Dc KX9_shift 54 (.ireturn) 1 := by decide +kernel
theorem dX9_shift_55 : Dc KX9_shift 55 (.aload_n 0) 1 := by decide +kernel
theorem dX9_shift_56 : Dc KX9_shift 56 (.invokevirtual 92) 3 := by decide +kernel
theorem dX9_shift_59 : Dc KX9_shift 59 (.iconst 0) 1 := by decide +kernel
theorem dX9_shift_60 : Dc KX9_shift 60 (.istore_n 3) 1 := by decide +kernel
theorem dX9_shift_61 : Dc KX9_shift 61 (.iload_n 3) 1 := by decide +kernel
theorem dX9_shift_62 : Dc KX9_shift 62 (.aload_n 0) 1 := by decide +kernel
theorem dX9_shift_63 : Dc KX9_shift 63 (.iload_n 1) 1 := by decide +kernel
theorem dX9_shift_64 : Dc KX9_shift 64 (.invokevirtual 45) 3 := by decide +kernel
theorem dX9_shift_67 : Dc KX9_shift 67 (.if_icmp .ge 27) 3 := by decide +kernel
theorem dX9_shift_70 : Dc KX9_shift 70 (.aload_n 0) 1 := by decide +kernel
theorem dX9_shift_71 : Dc KX9_shift 71 (.getfield 7) 3 := by decide +kernel
theorem dX9_shift_74 : Dc KX9_shift 74 (.bipush 6) 2 := by decide +kernel
theorem dX9_shift_76 : Dc KX9_shift 76 (.bipush 60) 2 := by decide +kernel
theorem dX9_shift_78 : Dc KX9_shift 78 (.iload_n 1) 1 := by decide +kernel
theorem dX9_shift_79 : Dc KX9_shift 79 (.imul) 1 := by decide +kernel
theorem dX9_shift_80 : Dc KX9_shift 80 (.iadd) 1 := by decide +kernel
theorem dX9_shift_81 : Dc KX9_shift 81 (.iload_n 3) 1 := by decide +kernel
theorem dX9_shift_82 : Dc KX9_shift 82 (.iadd) 1 := by decide +kernel
theorem dX9_shift_83 : Dc KX9_shift 83 (.dup2) 1 := by decide +kernel
theorem dX9_shift_84 : Dc KX9_shift 84 (.iaload) 1 := by decide +kernel
theorem dX9_shift_85 : Dc KX9_shift 85 (.iload_n 2) 1 := by decide +kernel
theorem dX9_shift_86 : Dc KX9_shift 86 (.iadd) 1 := by decide +kernel
theorem dX9_shift_87 : Dc KX9_shift 87 (.iastore) 1 := by decide +kernel
theorem dX9_shift_88 : Dc KX9_shift 88 (.iinc 3 1) 3 := by decide +kernel
theorem dX9_shift_91 : Dc KX9_shift 91 (.goto (-30)) 3 := by decide +kernel
theorem dX9_shift_94 : Dc KX9_shift 94 (.aload_n 0) 1 := by decide +kernel
theorem dX9_shift_95 : Dc KX9_shift 95 (.iload_n 1) 1 := by decide +kernel
theorem dX9_shift_96 : Dc KX9_shift 96 (.invokevirtual 104) 3 := by decide +kernel
theorem dX9_shift_99 : Dc KX9_shift 99 (.ireturn) 1 := by decide +kernel
theorem dX9_belongs_0 : Dc KX9_belongs 0 (.iload_n 2) 1 := by decide +kernel
theorem dX9_belongs_1 : Dc KX9_belongs 1 (.ifCond .ne 19) 3 := by decide +kernel
theorem dX9_belongs_4 : Dc KX9_belongs 4 (.iload_n 0) 1 := by decide +kernel
theorem dX9_belongs_5 : Dc KX9_belongs 5 (.ifCond .ne 7) 3 := by decide +kernel
theorem dX9_belongs_8 : Dc KX9_belongs 8 (.iload_n 1) 1 := by decide +kernel
theorem dX9_belongs_9 : Dc KX9_belongs 9 (.ifCond .eq 7) 3 := by decide +kernel
theorem dX9_belongs_12 : Dc KX9_belongs 12 (.iconst 1) 1 := by decide +kernel
theorem dX9_belongs_13 : Dc KX9_belongs 13 (.goto 59) 3 := by decide +kernel
theorem dX9_belongs_16 : Dc KX9_belongs 16 (.iconst 0) 1 := by decide +kernel
theorem dX9_belongs_17 : Dc KX9_belongs 17 (.goto 55) 3 := by decide +kernel
theorem dX9_belongs_20 : Dc KX9_belongs 20 (.iload_n 2) 1 := by decide +kernel
theorem dX9_belongs_21 : Dc KX9_belongs 21 (.iconst 1) 1 := by decide +kernel
theorem dX9_belongs_22 : Dc KX9_belongs 22 (.if_icmp .ne 19) 3 := by decide +kernel
theorem dX9_belongs_25 : Dc KX9_belongs 25 (.iload_n 0) 1 := by decide +kernel
theorem dX9_belongs_26 : Dc KX9_belongs 26 (.ifCond .eq 11) 3 := by decide +kernel
theorem dX9_belongs_29 : Dc KX9_belongs 29 (.iload_n 1) 1 := by decide +kernel
theorem dX9_belongs_30 : Dc KX9_belongs 30 (.ifCond .eq 7) 3 := by decide +kernel
theorem dX9_belongs_33 : Dc KX9_belongs 33 (.iconst 1) 1 := by decide +kernel
theorem dX9_belongs_34 : Dc KX9_belongs 34 (.goto 38) 3 := by decide +kernel
theorem dX9_belongs_37 : Dc KX9_belongs 37 (.iconst 0) 1 := by decide +kernel
theorem dX9_belongs_38 : Dc KX9_belongs 38 (.goto 34) 3 := by decide +kernel
theorem dX9_belongs_41 : Dc KX9_belongs 41 (.iload_n 2) 1 := by decide +kernel
theorem dX9_belongs_42 : Dc KX9_belongs 42 (.iconst 2) 1 := by decide +kernel
theorem dX9_belongs_43 : Dc KX9_belongs 43 (.if_icmp .ne 19) 3 := by decide +kernel
theorem dX9_belongs_46 : Dc KX9_belongs 46 (.iload_n 0) 1 := by decide +kernel
theorem dX9_belongs_47 : Dc KX9_belongs 47 (.ifCond .eq 11) 3 := by decide +kernel
theorem dX9_belongs_50 : Dc KX9_belongs 50 (.iload_n 1) 1 := by decide +kernel
theorem dX9_belongs_51 : Dc KX9_belongs 51 (.ifCond .ne 7) 3 := by decide +kernel
theorem dX9_belongs_54 : Dc KX9_belongs 54 (.iconst 1) 1 := by decide +kernel
theorem dX9_belongs_55 : Dc KX9_belongs 55 (.goto 17) 3 := by decide +kernel
theorem dX9_belongs_58 : Dc KX9_belongs 58 (.iconst 0) 1 := by decide +kernel
theorem dX9_belongs_59 : Dc KX9_belongs 59 (.goto 13) 3 := by decide +kernel
theorem dX9_belongs_62 : Dc KX9_belongs 62 (.iload_n 0) 1 := by decide +kernel
theorem dX9_belongs_63 : Dc KX9_belongs 63 (.iload_n 1) 1 := by decide +kernel
theorem dX9_belongs_64 : Dc KX9_belongs 64 (.if_icmp .eq 7) 3 := by decide +kernel
theorem dX9_belongs_67 : Dc KX9_belongs 67 (.iconst 1) 1 := by decide +kernel
theorem dX9_belongs_68 : Dc KX9_belongs 68 (.goto 4) 3 := by decide +kernel
theorem dX9_belongs_71 : Dc KX9_belongs 71 (.iconst 0) 1 := by decide +kernel
theorem dX9_belongs_72 : Dc KX9_belongs 72 (.ireturn) 1 := by decide +kernel
theorem dX9_layCombined_0 : Dc KX9_layCombined 0 (.aload_n 0) 1 := by decide +kernel
theorem dX9_layCombined_1 : Dc KX9_layCombined 1 (.iconst 0) 1 := by decide +kernel
theorem dX9_layCombined_2 : Dc KX9_layCombined 2 (.putfield 56) 3 := by decide +kernel
theorem dX9_layCombined_5 : Dc KX9_layCombined 5 (.iconst 0) 1 := by decide +kernel
theorem dX9_layCombined_6 : Dc KX9_layCombined 6 (.istore 4) 2 := by decide +kernel
theorem dX9_layCombined_8 : Dc KX9_layCombined 8 (.iconst 0) 1 := by decide +kernel
theorem dX9_layCombined_9 : Dc KX9_layCombined 9 (.istore 5) 2 := by decide +kernel
theorem dX9_layCombined_11 : Dc KX9_layCombined 11 (.iload 4) 2 := by decide +kernel
theorem dX9_layCombined_13 : Dc KX9_layCombined 13 (.aload_n 0) 1 := by decide +kernel
theorem dX9_layCombined_14 : Dc KX9_layCombined 14 (.iload_n 1) 1 := by decide +kernel
theorem dX9_layCombined_15 : Dc KX9_layCombined 15 (.invokevirtual 45) 3 := by decide +kernel
theorem dX9_layCombined_18 : Dc KX9_layCombined 18 (.if_icmp .lt 13) 3 := by decide +kernel
theorem dX9_layCombined_21 : Dc KX9_layCombined 21 (.iload 5) 2 := by decide +kernel
theorem dX9_layCombined_23 : Dc KX9_layCombined 23 (.aload_n 0) 1 := by decide +kernel
theorem dX9_layCombined_24 : Dc KX9_layCombined 24 (.iload_n 2) 1 := by decide +kernel
theorem dX9_layCombined_25 : Dc KX9_layCombined 25 (.invokevirtual 45) 3 := by decide +kernel
theorem dX9_layCombined_28 : Dc KX9_layCombined 28 (.if_icmp .ge 158) 3 := by decide +kernel
theorem dX9_layCombined_31 : Dc KX9_layCombined 31 (.iload 4) 2 := by decide +kernel
theorem dX9_layCombined_33 : Dc KX9_layCombined 33 (.aload_n 0) 1 := by decide +kernel
theorem dX9_layCombined_34 : Dc KX9_layCombined 34 (.iload_n 1) 1 := by decide +kernel
theorem dX9_layCombined_35 : Dc KX9_layCombined 35 (.invokevirtual 45) 3 := by decide +kernel
theorem dX9_layCombined_38 : Dc KX9_layCombined 38 (.if_icmp .ge 13) 3 := by decide +kernel
theorem dX9_layCombined_41 : Dc KX9_layCombined 41 (.aload_n 0) 1 := by decide +kernel
theorem dX9_layCombined_42 : Dc KX9_layCombined 42 (.iload_n 1) 1 := by decide +kernel
theorem dX9_layCombined_43 : Dc KX9_layCombined 43 (.iload 4) 2 := by decide +kernel
theorem dX9_layCombined_45 : Dc KX9_layCombined 45 (.invokevirtual 49) 3 := by decide +kernel
theorem dX9_layCombined_48 : Dc KX9_layCombined 48 (.goto 6) 3 := by decide +kernel
theorem dX9_layCombined_51 : Dc KX9_layCombined 51 (.sipush 10000) 3 := by decide +kernel
theorem dX9_layCombined_54 : Dc KX9_layCombined 54 (.istore 6) 2 := by decide +kernel
theorem dX9_layCombined_56 : Dc KX9_layCombined 56 (.iload 5) 2 := by decide +kernel
theorem dX9_layCombined_58 : Dc KX9_layCombined 58 (.aload_n 0) 1 := by decide +kernel
theorem dX9_layCombined_59 : Dc KX9_layCombined 59 (.iload_n 2) 1 := by decide +kernel
theorem dX9_layCombined_60 : Dc KX9_layCombined 60 (.invokevirtual 45) 3 := by decide +kernel
theorem dX9_layCombined_63 : Dc KX9_layCombined 63 (.if_icmp .ge 13) 3 := by decide +kernel
theorem dX9_layCombined_66 : Dc KX9_layCombined 66 (.aload_n 0) 1 := by decide +kernel
theorem dX9_layCombined_67 : Dc KX9_layCombined 67 (.iload_n 2) 1 := by decide +kernel
theorem dX9_layCombined_68 : Dc KX9_layCombined 68 (.iload 5) 2 := by decide +kernel
theorem dX9_layCombined_70 : Dc KX9_layCombined 70 (.invokevirtual 49) 3 := by decide +kernel
theorem dX9_layCombined_73 : Dc KX9_layCombined 73 (.goto 6) 3 := by decide +kernel
theorem dX9_layCombined_76 : Dc KX9_layCombined 76 (.sipush 10000) 3 := by decide +kernel
theorem dX9_layCombined_79 : Dc KX9_layCombined 79 (.istore 7) 2 := by decide +kernel
theorem dX9_layCombined_81 : Dc KX9_layCombined 81 (.iload 6) 2 := by decide +kernel
theorem dX9_layCombined_83 : Dc KX9_layCombined 83 (.iload 7) 2 := by decide +kernel
theorem dX9_layCombined_85 : Dc KX9_layCombined 85 (.if_icmp .ge 8) 3 := by decide +kernel
theorem dX9_layCombined_88 : Dc KX9_layCombined 88 (.iload 6) 2 := by decide +kernel
theorem dX9_layCombined_90 : Dc KX9_layCombined 90 (.goto 5) 3 := by decide +kernel
theorem dX9_layCombined_93 : Dc KX9_layCombined 93 (.iload 7) 2 := by decide +kernel
theorem dX9_layCombined_95 : Dc KX9_layCombined 95 (.istore 8) 2 := by decide +kernel
theorem dX9_layCombined_97 : Dc KX9_layCombined 97 (.iload 6) 2 := by decide +kernel
theorem dX9_layCombined_99 : Dc KX9_layCombined 99 (.iload 8) 2 := by decide +kernel
theorem dX9_layCombined_101 : Dc KX9_layCombined 101 (.if_icmp .ne 7) 3 := by decide +kernel
theorem dX9_layCombined_104 : Dc KX9_layCombined 104 (.iconst 1) 1 := by decide +kernel
theorem dX9_layCombined_105 : Dc KX9_layCombined 105 (.goto 4) 3 := by decide +kernel
theorem dX9_layCombined_108 : Dc KX9_layCombined 108 (.iconst 0) 1 := by decide +kernel
theorem dX9_layCombined_109 : Dc KX9_layCombined 109 (.iload 7) 2 := by decide +kernel
theorem dX9_layCombined_111 : Dc KX9_layCombined 111 (.iload 8) 2 := by decide +kernel
theorem dX9_layCombined_113 : Dc KX9_layCombined 113 (.if_icmp .ne 7) 3 := by decide +kernel
theorem dX9_layCombined_116 : Dc KX9_layCombined 116 (.iconst 1) 1 := by decide +kernel
theorem dX9_layCombined_117 : Dc KX9_layCombined 117 (.goto 4) 3 := by decide +kernel
theorem dX9_layCombined_120 : Dc KX9_layCombined 120 (.iconst 0) 1 := by decide +kernel
theorem dX9_layCombined_121 : Dc KX9_layCombined 121 (.iload_n 3) 1 := by decide +kernel
theorem dX9_layCombined_122 : Dc KX9_layCombined 122 (.invokestatic 113) 3 := by decide +kernel
theorem dX9_layCombined_125 : Dc KX9_layCombined 125 (.ifCond .eq 24) 3 := by decide +kernel
theorem dX9_layCombined_128 : Dc KX9_layCombined 128 (.aload_n 0) 1 := by decide +kernel
theorem dX9_layCombined_129 : Dc KX9_layCombined 129 (.getfield 19) 3 := by decide +kernel
theorem dX9_layCombined_132 : Dc KX9_layCombined 132 (.aload_n 0) 1 := by decide +kernel
theorem dX9_layCombined_133 : Dc KX9_layCombined 133 (.getfield 56) 3 := by decide +kernel
theorem dX9_layCombined_136 : Dc KX9_layCombined 136 (.iload 8) 2 := by decide +kernel
theorem dX9_layCombined_138 : Dc KX9_layCombined 138 (.iastore) 1 := by decide +kernel
theorem dX9_layCombined_139 : Dc KX9_layCombined 139 (.aload_n 0) 1 := by decide +kernel
theorem dX9_layCombined_140 : Dc KX9_layCombined 140 (.dup) 1 := by decide +kernel
theorem dX9_layCombined_141 : Dc KX9_layCombined 141 (.getfield 56) 3 := by decide +kernel
theorem dX9_layCombined_144 : Dc KX9_layCombined 144 (.iconst 1) 1 := by decide +kernel
theorem dX9_layCombined_145 : Dc KX9_layCombined 145 (.iadd) 1 := by decide +kernel
theorem dX9_layCombined_146 : Dc KX9_layCombined 146 (.putfield 56) 3 := by decide +kernel
theorem dX9_layCombined_149 : Dc KX9_layCombined 149 (.iload 4) 2 := by decide +kernel
theorem dX9_layCombined_151 : Dc KX9_layCombined 151 (.iload 6) 2 := by decide +kernel
theorem dX9_layCombined_153 : Dc KX9_layCombined 153 (.iload 8) 2 := by decide +kernel
theorem dX9_layCombined_155 : Dc KX9_layCombined 155 (.if_icmp .ne 7) 3 := by decide +kernel
theorem dX9_layCombined_158 : Dc KX9_layCombined 158 (.iconst 1) 1 := by decide +kernel
theorem dX9_layCombined_159 : Dc KX9_layCombined 159 (.goto 4) 3 := by decide +kernel
theorem dX9_layCombined_162 : Dc KX9_layCombined 162 (.iconst 0) 1 := by decide +kernel
theorem dX9_layCombined_163 : Dc KX9_layCombined 163 (.iadd) 1 := by decide +kernel
theorem dX9_layCombined_164 : Dc KX9_layCombined 164 (.istore 4) 2 := by decide +kernel
theorem dX9_layCombined_166 : Dc KX9_layCombined 166 (.iload 5) 2 := by decide +kernel
theorem dX9_layCombined_168 : Dc KX9_layCombined 168 (.iload 7) 2 := by decide +kernel
theorem dX9_layCombined_170 : Dc KX9_layCombined 170 (.iload 8) 2 := by decide +kernel
theorem dX9_layCombined_172 : Dc KX9_layCombined 172 (.if_icmp .ne 7) 3 := by decide +kernel
theorem dX9_layCombined_175 : Dc KX9_layCombined 175 (.iconst 1) 1 := by decide +kernel
theorem dX9_layCombined_176 : Dc KX9_layCombined 176 (.goto 4) 3 := by decide +kernel
theorem dX9_layCombined_179 : Dc KX9_layCombined 179 (.iconst 0) 1 := by decide +kernel
theorem dX9_layCombined_180 : Dc KX9_layCombined 180 (.iadd) 1 := by decide +kernel
theorem dX9_layCombined_181 : Dc KX9_layCombined 181 (.istore 5) 2 := by decide +kernel
theorem dX9_layCombined_183 : Dc KX9_layCombined 183 (.goto (-172)) 3 := by decide +kernel
theorem dX9_layCombined_186 : Dc KX9_layCombined 186 (.return_) 1 := by decide +kernel
theorem dX9_combine_0 : Dc KX9_combine 0 (.aload_n 0) 1 := by decide +kernel
theorem dX9_combine_1 : Dc KX9_combine 1 (.iload_n 1) 1 := by decide +kernel
theorem dX9_combine_2 : Dc KX9_combine 2 (.invokestatic 81) 3 := by decide +kernel
theorem dX9_combine_5 : Dc KX9_combine 5 (.ifCond .eq 17) 3 := by decide +kernel
theorem dX9_combine_8 : Dc KX9_combine 8 (.iload_n 2) 1 := by decide +kernel
theorem dX9_combine_9 : Dc KX9_combine 9 (.invokestatic 81) 3 := by decide +kernel
theorem dX9_combine_12 : Dc KX9_combine 12 (.ifCond .eq 10) 3 := by decide +kernel
theorem dX9_combine_15 : Dc KX9_combine 15 (.iload_n 3) 1 := by decide +kernel
theorem dX9_combine_16 : Dc KX9_combine 16 (.invokestatic 81) 3 := by decide +kernel
theorem dX9_combine_19 : Dc KX9_combine 19 (.ifCond .ne 7) 3 := by decide +kernel
theorem dX9_combine_22 : Dc KX9_combine 22 (.iconst 1) 1 := by decide +kernel
theorem dX9_combine_23 : Dc KX9_combine 23 (.goto 18) 3 := by decide +kernel
theorem dX9_combine_26 : Dc KX9_combine 26 (.iload 4) 2 := by decide +kernel
theorem dX9_combine_28 : Dc KX9_combine 28 (.iconst 0) 1 := by decide +kernel
theorem dX9_combine_29 : Dc KX9_combine 29 (.iconst 3) 1 := by decide +kernel
theorem dX9_combine_30 : Dc KX9_combine 30 (.invokestatic 41) 3 := by decide +kernel
theorem dX9_combine_33 : Dc KX9_combine 33 (.ifCond .eq 7) 3 := by decide +kernel
theorem dX9_combine_36 : Dc KX9_combine 36 (.iconst 0) 1 := by decide +kernel
theorem dX9_combine_37 : Dc KX9_combine 37 (.goto 4) 3 := by decide +kernel
theorem dX9_combine_40 : Dc KX9_combine 40 (.iconst 2) 1 := by decide +kernel
theorem dX9_combine_41 : Dc KX9_combine 41 (.putfield 34) 3 := by decide +kernel
theorem dX9_combine_44 : Dc KX9_combine 44 (.aload_n 0) 1 := by decide +kernel
theorem dX9_combine_45 : Dc KX9_combine 45 (.getfield 34) 3 := by decide +kernel
theorem dX9_combine_48 : Dc KX9_combine 48 (.ifCond .ne 29) 3 := by decide +kernel
theorem dX9_combine_51 : Dc KX9_combine 51 (.aload_n 0) 1 := by decide +kernel
theorem dX9_combine_52 : Dc KX9_combine 52 (.iload_n 2) 1 := by decide +kernel
theorem dX9_combine_53 : Dc KX9_combine 53 (.iload_n 3) 1 := by decide +kernel
theorem dX9_combine_54 : Dc KX9_combine 54 (.iload 4) 2 := by decide +kernel
theorem dX9_combine_56 : Dc KX9_combine 56 (.invokevirtual 117) 3 := by decide +kernel
theorem dX9_combine_59 : Dc KX9_combine 59 (.aload_n 0) 1 := by decide +kernel
theorem dX9_combine_60 : Dc KX9_combine 60 (.aload_n 0) 1 := by decide +kernel
theorem dX9_combine_61 : Dc KX9_combine 61 (.getfield 56) 3 := by decide +kernel
theorem dX9_combine_64 : Dc KX9_combine 64 (.bipush 60) 2 := by decide +kernel
theorem dX9_combine_66 : Dc KX9_combine 66 (.if_icmp .le 7) 3 := by decide +kernel
theorem dX9_combine_69 : Dc KX9_combine 69 (.iconst 3) 1 := by decide +kernel
theorem dX9_combine_70 : Dc KX9_combine 70 (.goto 4) 3 := by decide +kernel
theorem dX9_combine_73 : Dc KX9_combine 73 (.iconst 0) 1 := by decide +kernel
theorem dX9_combine_74 : Dc KX9_combine 74 (.putfield 34) 3 := by decide +kernel
theorem dX9_combine_77 : Dc KX9_combine 77 (.aload_n 0) 1 := by decide +kernel
theorem dX9_combine_78 : Dc KX9_combine 78 (.getfield 34) 3 := by decide +kernel
theorem dX9_combine_81 : Dc KX9_combine 81 (.ifCond .le 5) 3 := by decide +kernel
theorem dX9_combine_84 : Dc KX9_combine 84 (.iconst 0) 1 := by decide +kernel
theorem dX9_combine_85 : Dc KX9_combine 85 (.ireturn) 1 := by decide +kernel
theorem dX9_combine_86 : Dc KX9_combine 86 (.aload_n 0) 1 := by decide +kernel
theorem dX9_combine_87 : Dc KX9_combine 87 (.invokevirtual 92) 3 := by decide +kernel
theorem dX9_combine_90 : Dc KX9_combine 90 (.aload_n 0) 1 := by decide +kernel
theorem dX9_combine_91 : Dc KX9_combine 91 (.iload_n 1) 1 := by decide +kernel
theorem dX9_combine_92 : Dc KX9_combine 92 (.invokevirtual 98) 3 := by decide +kernel
theorem dX9_combine_95 : Dc KX9_combine 95 (.aload_n 0) 1 := by decide +kernel
theorem dX9_combine_96 : Dc KX9_combine 96 (.getfield 56) 3 := by decide +kernel
theorem dX9_combine_99 : Dc KX9_combine 99 (.ireturn) 1 := by decide +kernel
theorem dX9_isMost_0 : Dc KX9_isMost 0 (.iload_n 0) 1 := by decide +kernel
theorem dX9_isMost_1 : Dc KX9_isMost 1 (.iconst 2) 1 := by decide +kernel
theorem dX9_isMost_2 : Dc KX9_isMost 2 (.bipush 16) 2 := by decide +kernel
theorem dX9_isMost_4 : Dc KX9_isMost 4 (.invokestatic 41) 3 := by decide +kernel
theorem dX9_isMost_7 : Dc KX9_isMost 7 (.ireturn) 1 := by decide +kernel
theorem dX9_isWidth_0 : Dc KX9_isWidth 0 (.iload_n 0) 1 := by decide +kernel
theorem dX9_isWidth_1 : Dc KX9_isWidth 1 (.iconst 1) 1 := by decide +kernel
theorem dX9_isWidth_2 : Dc KX9_isWidth 2 (.sipush 9999) 3 := by decide +kernel
theorem dX9_isWidth_5 : Dc KX9_isWidth 5 (.invokestatic 41) 3 := by decide +kernel
theorem dX9_isWidth_8 : Dc KX9_isWidth 8 (.ireturn) 1 := by decide +kernel
theorem dX9_set_0 : Dc KX9_set 0 (.aload_n 0) 1 := by decide +kernel
theorem dX9_set_1 : Dc KX9_set 1 (.iload_n 1) 1 := by decide +kernel
theorem dX9_set_2 : Dc KX9_set 2 (.iconst 0) 1 := by decide +kernel
theorem dX9_set_3 : Dc KX9_set 3 (.iconst 1) 1 := by decide +kernel
theorem dX9_set_4 : Dc KX9_set 4 (.invokestatic 41) 3 := by decide +kernel
theorem dX9_set_7 : Dc KX9_set 7 (.ifCond .ne 7) 3 := by decide +kernel
theorem dX9_set_10 : Dc KX9_set 10 (.iconst 1) 1 := by decide +kernel
theorem dX9_set_11 : Dc KX9_set 11 (.goto 29) 3 := by decide +kernel
theorem dX9_set_14 : Dc KX9_set 14 (.iload_n 1) 1 := by decide +kernel
theorem dX9_set_15 : Dc KX9_set 15 (.ifCond .ne 13) 3 := by decide +kernel
theorem dX9_set_18 : Dc KX9_set 18 (.iload_n 2) 1 := by decide +kernel
theorem dX9_set_19 : Dc KX9_set 19 (.invokestatic 121) 3 := by decide +kernel
theorem dX9_set_22 : Dc KX9_set 22 (.ifCond .eq 17) 3 := by decide +kernel
theorem dX9_set_25 : Dc KX9_set 25 (.goto 10) 3 := by decide +kernel
theorem dX9_set_28 : Dc KX9_set 28 (.iload_n 2) 1 := by decide +kernel
theorem dX9_set_29 : Dc KX9_set 29 (.invokestatic 124) 3 := by decide +kernel
theorem dX9_set_32 : Dc KX9_set 32 (.ifCond .eq 7) 3 := by decide +kernel
theorem dX9_set_35 : Dc KX9_set 35 (.iconst 0) 1 := by decide +kernel
theorem dX9_set_36 : Dc KX9_set 36 (.goto 4) 3 := by decide +kernel
theorem dX9_set_39 : Dc KX9_set 39 (.iconst 2) 1 := by decide +kernel
theorem dX9_set_40 : Dc KX9_set 40 (.putfield 34) 3 := by decide +kernel
theorem dX9_set_43 : Dc KX9_set 43 (.aload_n 0) 1 := by decide +kernel
theorem dX9_set_44 : Dc KX9_set 44 (.getfield 34) 3 := by decide +kernel
theorem dX9_set_47 : Dc KX9_set 47 (.ifCond .le 5) 3 := by decide +kernel
theorem dX9_set_50 : Dc KX9_set 50 (.iconst 0) 1 := by decide +kernel
theorem dX9_set_51 : Dc KX9_set 51 (.ireturn) 1 := by decide +kernel
theorem dX9_set_52 : Dc KX9_set 52 (.aload_n 0) 1 := by decide +kernel
theorem dX9_set_53 : Dc KX9_set 53 (.invokevirtual 92) 3 := by decide +kernel
theorem dX9_set_56 : Dc KX9_set 56 (.aload_n 0) 1 := by decide +kernel
theorem dX9_set_57 : Dc KX9_set 57 (.getfield 7) 3 := by decide +kernel
theorem dX9_set_60 : Dc KX9_set 60 (.iload_n 1) 1 := by decide +kernel
theorem dX9_set_61 : Dc KX9_set 61 (.iaload) 1 := by decide +kernel
theorem dX9_set_62 : Dc KX9_set 62 (.istore_n 3) 1 := by decide +kernel
theorem dX9_set_63 : Dc KX9_set 63 (.aload_n 0) 1 := by decide +kernel
theorem dX9_set_64 : Dc KX9_set 64 (.getfield 7) 3 := by decide +kernel
theorem dX9_set_67 : Dc KX9_set 67 (.iload_n 1) 1 := by decide +kernel
theorem dX9_set_68 : Dc KX9_set 68 (.iload_n 2) 1 := by decide +kernel
theorem dX9_set_69 : Dc KX9_set 69 (.iastore) 1 := by decide +kernel
theorem dX9_set_70 : Dc KX9_set 70 (.iload_n 3) 1 := by decide +kernel
theorem dX9_set_71 : Dc KX9_set 71 (.ireturn) 1 := by decide +kernel
theorem dX9_append_0 : Dc KX9_append 0 (.aload_n 0) 1 := by decide +kernel
theorem dX9_append_1 : Dc KX9_append 1 (.iload_n 1) 1 := by decide +kernel
theorem dX9_append_2 : Dc KX9_append 2 (.bipush 33) 2 := by decide +kernel
theorem dX9_append_4 : Dc KX9_append 4 (.bipush 126) 2 := by decide +kernel
theorem dX9_append_6 : Dc KX9_append 6 (.invokestatic 41) 3 := by decide +kernel
theorem dX9_append_9 : Dc KX9_append 9 (.ifCond .ne 7) 3 := by decide +kernel
theorem dX9_append_12 : Dc KX9_append 12 (.iconst 1) 1 := by decide +kernel
theorem dX9_append_13 : Dc KX9_append 13 (.goto 17) 3 := by decide +kernel
theorem dX9_append_16 : Dc KX9_append 16 (.aload_n 0) 1 := by decide +kernel
theorem dX9_append_17 : Dc KX9_append 17 (.getfield 127) 3 := by decide +kernel
theorem dX9_append_20 : Dc KX9_append 20 (.bipush 60) 2 := by decide +kernel
theorem dX9_append_22 : Dc KX9_append 22 (.if_icmp .ne 7) 3 := by decide +kernel
theorem dX9_append_25 : Dc KX9_append 25 (.iconst 2) 1 := by decide +kernel
theorem dX9_append_26 : Dc KX9_append 26 (.goto 4) 3 := by decide +kernel
theorem dX9_append_29 : Dc KX9_append 29 (.iconst 0) 1 := by decide +kernel
theorem dX9_append_30 : Dc KX9_append 30 (.putfield 34) 3 := by decide +kernel
theorem dX9_append_33 : Dc KX9_append 33 (.aload_n 0) 1 := by decide +kernel
theorem dX9_append_34 : Dc KX9_append 34 (.getfield 34) 3 := by decide +kernel
theorem dX9_append_37 : Dc KX9_append 37 (.ifCond .le 5) 3 := by decide +kernel
theorem dX9_append_40 : Dc KX9_append 40 (.iconst 0) 1 := by decide +kernel
theorem dX9_append_41 : Dc KX9_append 41 (.ireturn) 1 := by decide +kernel
theorem dX9_append_42 : Dc KX9_append 42 (.aload_n 0) 1 := by decide +kernel
theorem dX9_append_43 : Dc KX9_append 43 (.getfield 16) 3 := by decide +kernel
theorem dX9_append_46 : Dc KX9_append 46 (.aload_n 0) 1 := by decide +kernel
theorem dX9_append_47 : Dc KX9_append 47 (.getfield 127) 3 := by decide +kernel
theorem dX9_append_50 : Dc KX9_append 50 (.iload_n 1) 1 := by decide +kernel
theorem dX9_append_51 : Dc KX9_append 51 (.iastore) 1 := by decide +kernel
theorem dX9_append_52 : Dc KX9_append 52 (.aload_n 0) 1 := by decide +kernel
theorem dX9_append_53 : Dc KX9_append 53 (.dup) 1 := by decide +kernel
theorem dX9_append_54 : Dc KX9_append 54 (.getfield 127) 3 := by decide +kernel
theorem dX9_append_57 : Dc KX9_append 57 (.iconst 1) 1 := by decide +kernel
theorem dX9_append_58 : Dc KX9_append 58 (.iadd) 1 := by decide +kernel
theorem dX9_append_59 : Dc KX9_append 59 (.putfield 127) 3 := by decide +kernel
theorem dX9_append_62 : Dc KX9_append 62 (.aload_n 0) 1 := by decide +kernel
theorem dX9_append_63 : Dc KX9_append 63 (.getfield 127) 3 := by decide +kernel
theorem dX9_append_66 : Dc KX9_append 66 (.ireturn) 1 := by decide +kernel
theorem dX9_clearBuffer_0 : Dc KX9_clearBuffer 0 (.aload_n 0) 1 := by decide +kernel
theorem dX9_clearBuffer_1 : Dc KX9_clearBuffer 1 (.iconst 0) 1 := by decide +kernel
theorem dX9_clearBuffer_2 : Dc KX9_clearBuffer 2 (.putfield 34) 3 := by decide +kernel
theorem dX9_clearBuffer_5 : Dc KX9_clearBuffer 5 (.aload_n 0) 1 := by decide +kernel
theorem dX9_clearBuffer_6 : Dc KX9_clearBuffer 6 (.getfield 127) 3 := by decide +kernel
theorem dX9_clearBuffer_9 : Dc KX9_clearBuffer 9 (.istore_n 1) 1 := by decide +kernel
theorem dX9_clearBuffer_10 : Dc KX9_clearBuffer 10 (.aload_n 0) 1 := by decide +kernel
theorem dX9_clearBuffer_11 : Dc KX9_clearBuffer 11 (.iconst 0) 1 := by decide +kernel
theorem dX9_clearBuffer_12 : Dc KX9_clearBuffer 12 (.putfield 127) 3 := by decide +kernel
theorem dX9_clearBuffer_15 : Dc KX9_clearBuffer 15 (.iload_n 1) 1 := by decide +kernel
theorem dX9_clearBuffer_16 : Dc KX9_clearBuffer 16 (.ireturn) 1 := by decide +kernel
theorem dX9_greatestFrom_0 : Dc KX9_greatestFrom 0 (.iload_n 0) 1 := by decide +kernel
theorem dX9_greatestFrom_1 : Dc KX9_greatestFrom 1 (.istore_n 1) 1 := by decide +kernel
theorem dX9_greatestFrom_2 : Dc KX9_greatestFrom 2 (.iload_n 1) 1 := by decide +kernel
theorem dX9_greatestFrom_3 : Dc KX9_greatestFrom 3 (.ifCond .le 21) 3 := by decide +kernel
theorem dX9_greatestFrom_6 : Dc KX9_greatestFrom 6 (.iload_n 1) 1 := by decide +kernel
theorem dX9_greatestFrom_7 : Dc KX9_greatestFrom 7 (.sipush 1000) 3 := by decide +kernel
theorem dX9_greatestFrom_10 : Dc KX9_greatestFrom 10 (.if_icmp .ge 14) 3 := by decide +kernel
theorem dX9_greatestFrom_13 : Dc KX9_greatestFrom 13 (.bipush 10) 2 := by decide +kernel
theorem dX9_greatestFrom_15 : Dc KX9_greatestFrom 15 (.iload_n 1) 1 := by decide +kernel
theorem dX9_greatestFrom_16 : Dc KX9_greatestFrom 16 (.imul) 1 := by decide +kernel
theorem dX9_greatestFrom_17 : Dc KX9_greatestFrom 17 (.bipush 9) 2 := by decide +kernel
theorem dX9_greatestFrom_19 : Dc KX9_greatestFrom 19 (.iadd) 1 := by decide +kernel
theorem dX9_greatestFrom_20 : Dc KX9_greatestFrom 20 (.istore_n 1) 1 := by decide +kernel
theorem dX9_greatestFrom_21 : Dc KX9_greatestFrom 21 (.goto (-19)) 3 := by decide +kernel
theorem dX9_greatestFrom_24 : Dc KX9_greatestFrom 24 (.iload_n 1) 1 := by decide +kernel
theorem dX9_greatestFrom_25 : Dc KX9_greatestFrom 25 (.ireturn) 1 := by decide +kernel
theorem dX9_takesDigit_0 : Dc KX9_takesDigit 0 (.aload_n 0) 1 := by decide +kernel
theorem dX9_takesDigit_1 : Dc KX9_takesDigit 1 (.getfield 130) 3 := by decide +kernel
theorem dX9_takesDigit_4 : Dc KX9_takesDigit 4 (.iconst (-1)) 1 := by decide +kernel
theorem dX9_takesDigit_5 : Dc KX9_takesDigit 5 (.if_icmp .ne 7) 3 := by decide +kernel
theorem dX9_takesDigit_8 : Dc KX9_takesDigit 8 (.iload_n 1) 1 := by decide +kernel
theorem dX9_takesDigit_9 : Dc KX9_takesDigit 9 (.goto 12) 3 := by decide +kernel
theorem dX9_takesDigit_12 : Dc KX9_takesDigit 12 (.bipush 10) 2 := by decide +kernel
theorem dX9_takesDigit_14 : Dc KX9_takesDigit 14 (.aload_n 0) 1 := by decide +kernel
theorem dX9_takesDigit_15 : Dc KX9_takesDigit 15 (.getfield 130) 3 := by decide +kernel
theorem dX9_takesDigit_18 : Dc KX9_takesDigit 18 (.imul) 1 := by decide +kernel
theorem dX9_takesDigit_19 : Dc KX9_takesDigit 19 (.iload_n 1) 1 := by decide +kernel
theorem dX9_takesDigit_20 : Dc KX9_takesDigit 20 (.iadd) 1 := by decide +kernel
theorem dX9_takesDigit_21 : Dc KX9_takesDigit 21 (.istore_n 2) 1 := by decide +kernel
theorem dX9_takesDigit_22 : Dc KX9_takesDigit 22 (.iload_n 1) 1 := by decide +kernel
theorem dX9_takesDigit_23 : Dc KX9_takesDigit 23 (.iconst 0) 1 := by decide +kernel
theorem dX9_takesDigit_24 : Dc KX9_takesDigit 24 (.bipush 9) 2 := by decide +kernel
theorem dX9_takesDigit_26 : Dc KX9_takesDigit 26 (.invokestatic 41) 3 := by decide +kernel
theorem dX9_takesDigit_29 : Dc KX9_takesDigit 29 (.ifCond .eq 32) 3 := by decide +kernel
theorem dX9_takesDigit_32 : Dc KX9_takesDigit 32 (.aload_n 0) 1 := by decide +kernel
theorem dX9_takesDigit_33 : Dc KX9_takesDigit 33 (.getfield 130) 3 := by decide +kernel
theorem dX9_takesDigit_36 : Dc KX9_takesDigit 36 (.ifCond .eq 25) 3 := by decide +kernel
theorem dX9_takesDigit_39 : Dc KX9_takesDigit 39 (.iload_n 2) 1 := by decide +kernel
theorem dX9_takesDigit_40 : Dc KX9_takesDigit 40 (.sipush 9999) 3 := by decide +kernel
theorem dX9_takesDigit_43 : Dc KX9_takesDigit 43 (.if_icmp .gt 18) 3 := by decide +kernel
theorem dX9_takesDigit_46 : Dc KX9_takesDigit 46 (.iload_n 2) 1 := by decide +kernel
theorem dX9_takesDigit_47 : Dc KX9_takesDigit 47 (.invokestatic 133) 3 := by decide +kernel
theorem dX9_takesDigit_50 : Dc KX9_takesDigit 50 (.aload_n 0) 1 := by decide +kernel
theorem dX9_takesDigit_51 : Dc KX9_takesDigit 51 (.getfield 136) 3 := by decide +kernel
theorem dX9_takesDigit_54 : Dc KX9_takesDigit 54 (.if_icmp .lt 7) 3 := by decide +kernel
theorem dX9_takesDigit_57 : Dc KX9_takesDigit 57 (.iconst 1) 1 := by decide +kernel
theorem dX9_takesDigit_58 : Dc KX9_takesDigit 58 (.goto 4) 3 := by decide +kernel
theorem dX9_takesDigit_61 : Dc KX9_takesDigit 61 (.iconst 0) 1 := by decide +kernel
theorem dX9_takesDigit_62 : Dc KX9_takesDigit 62 (.istore_n 3) 1 := by decide +kernel
theorem dX9_takesDigit_63 : Dc KX9_takesDigit 63 (.aload_n 0) 1 := by decide +kernel
theorem dX9_takesDigit_64 : Dc KX9_takesDigit 64 (.iload_n 3) 1 := by decide +kernel
theorem dX9_takesDigit_65 : Dc KX9_takesDigit 65 (.ifCond .eq 7) 3 := by decide +kernel
theorem dX9_takesDigit_68 : Dc KX9_takesDigit 68 (.iload_n 2) 1 := by decide +kernel
theorem dX9_takesDigit_69 : Dc KX9_takesDigit 69 (.goto 7) 3 := by decide +kernel
theorem dX9_takesDigit_72 : Dc KX9_takesDigit 72 (.aload_n 0) 1 := by decide +kernel
theorem dX9_takesDigit_73 : Dc KX9_takesDigit 73 (.getfield 130) 3 := by decide +kernel
theorem dX9_takesDigit_76 : Dc KX9_takesDigit 76 (.putfield 130) 3 := by decide +kernel
theorem dX9_takesDigit_79 : Dc KX9_takesDigit 79 (.iload_n 3) 1 := by decide +kernel
theorem dX9_takesDigit_80 : Dc KX9_takesDigit 80 (.ireturn) 1 := by decide +kernel
theorem dX9_isEnded_0 : Dc KX9_isEnded 0 (.aload_n 0) 1 := by decide +kernel
theorem dX9_isEnded_1 : Dc KX9_isEnded 1 (.getfield 130) 3 := by decide +kernel
theorem dX9_isEnded_4 : Dc KX9_isEnded 4 (.iconst (-1)) 1 := by decide +kernel
theorem dX9_isEnded_5 : Dc KX9_isEnded 5 (.if_icmp .eq 18) 3 := by decide +kernel
theorem dX9_isEnded_8 : Dc KX9_isEnded 8 (.aload_n 0) 1 := by decide +kernel
theorem dX9_isEnded_9 : Dc KX9_isEnded 9 (.getfield 130) 3 := by decide +kernel
theorem dX9_isEnded_12 : Dc KX9_isEnded 12 (.aload_n 0) 1 := by decide +kernel
theorem dX9_isEnded_13 : Dc KX9_isEnded 13 (.getfield 136) 3 := by decide +kernel
theorem dX9_isEnded_16 : Dc KX9_isEnded 16 (.if_icmp .lt 7) 3 := by decide +kernel
theorem dX9_isEnded_19 : Dc KX9_isEnded 19 (.iconst 1) 1 := by decide +kernel
theorem dX9_isEnded_20 : Dc KX9_isEnded 20 (.goto 4) 3 := by decide +kernel
theorem dX9_isEnded_23 : Dc KX9_isEnded 23 (.iconst 0) 1 := by decide +kernel
theorem dX9_isEnded_24 : Dc KX9_isEnded 24 (.ireturn) 1 := by decide +kernel
theorem dX9_endNumber_0 : Dc KX9_endNumber 0 (.aload_n 0) 1 := by decide +kernel
theorem dX9_endNumber_1 : Dc KX9_endNumber 1 (.getfield 25) 3 := by decide +kernel
theorem dX9_endNumber_4 : Dc KX9_endNumber 4 (.iconst 2) 1 := by decide +kernel
theorem dX9_endNumber_5 : Dc KX9_endNumber 5 (.aload_n 0) 1 := by decide +kernel
theorem dX9_endNumber_6 : Dc KX9_endNumber 6 (.getfield 139) 3 := by decide +kernel
theorem dX9_endNumber_9 : Dc KX9_endNumber 9 (.imul) 1 := by decide +kernel
theorem dX9_endNumber_10 : Dc KX9_endNumber 10 (.aload_n 0) 1 := by decide +kernel
theorem dX9_endNumber_11 : Dc KX9_endNumber 11 (.getfield 142) 3 := by decide +kernel
theorem dX9_endNumber_14 : Dc KX9_endNumber 14 (.ifCond .eq 17) 3 := by decide +kernel
theorem dX9_endNumber_17 : Dc KX9_endNumber 17 (.aload_n 0) 1 := by decide +kernel
theorem dX9_endNumber_18 : Dc KX9_endNumber 18 (.getfield 25) 3 := by decide +kernel
theorem dX9_endNumber_21 : Dc KX9_endNumber 21 (.iconst 2) 1 := by decide +kernel
theorem dX9_endNumber_22 : Dc KX9_endNumber 22 (.aload_n 0) 1 := by decide +kernel
theorem dX9_endNumber_23 : Dc KX9_endNumber 23 (.getfield 139) 3 := by decide +kernel
theorem dX9_endNumber_26 : Dc KX9_endNumber 26 (.imul) 1 := by decide +kernel
theorem dX9_endNumber_27 : Dc KX9_endNumber 27 (.iaload) 1 := by decide +kernel
theorem dX9_endNumber_28 : Dc KX9_endNumber 28 (.goto 7) 3 := by decide +kernel
theorem dX9_endNumber_31 : Dc KX9_endNumber 31 (.aload_n 0) 1 := by decide +kernel
theorem dX9_endNumber_32 : Dc KX9_endNumber 32 (.getfield 130) 3 := by decide +kernel
theorem dX9_endNumber_35 : Dc KX9_endNumber 35 (.iastore) 1 := by decide +kernel
theorem dX9_endNumber_36 : Dc KX9_endNumber 36 (.aload_n 0) 1 := by decide +kernel
theorem dX9_endNumber_37 : Dc KX9_endNumber 37 (.getfield 25) 3 := by decide +kernel
theorem dX9_endNumber_40 : Dc KX9_endNumber 40 (.iconst 2) 1 := by decide +kernel
theorem dX9_endNumber_41 : Dc KX9_endNumber 41 (.aload_n 0) 1 := by decide +kernel
theorem dX9_endNumber_42 : Dc KX9_endNumber 42 (.getfield 139) 3 := by decide +kernel
theorem dX9_endNumber_45 : Dc KX9_endNumber 45 (.imul) 1 := by decide +kernel
theorem dX9_endNumber_46 : Dc KX9_endNumber 46 (.iconst 1) 1 := by decide +kernel
theorem dX9_endNumber_47 : Dc KX9_endNumber 47 (.iadd) 1 := by decide +kernel
theorem dX9_endNumber_48 : Dc KX9_endNumber 48 (.aload_n 0) 1 := by decide +kernel
theorem dX9_endNumber_49 : Dc KX9_endNumber 49 (.getfield 130) 3 := by decide +kernel
theorem dX9_endNumber_52 : Dc KX9_endNumber 52 (.iastore) 1 := by decide +kernel
theorem dX9_endNumber_53 : Dc KX9_endNumber 53 (.return_) 1 := by decide +kernel
theorem dX9_takes_0 : Dc KX9_takes 0 (.iload_n 1) 1 := by decide +kernel
theorem dX9_takes_1 : Dc KX9_takes 1 (.bipush 45) 2 := by decide +kernel
theorem dX9_takes_3 : Dc KX9_takes 3 (.if_icmp .ne 41) 3 := by decide +kernel
theorem dX9_takes_6 : Dc KX9_takes 6 (.aload_n 0) 1 := by decide +kernel
theorem dX9_takes_7 : Dc KX9_takes 7 (.invokevirtual 146) 3 := by decide +kernel
theorem dX9_takes_10 : Dc KX9_takes 10 (.ifCond .eq 34) 3 := by decide +kernel
theorem dX9_takes_13 : Dc KX9_takes 13 (.aload_n 0) 1 := by decide +kernel
theorem dX9_takes_14 : Dc KX9_takes 14 (.getfield 142) 3 := by decide +kernel
theorem dX9_takes_17 : Dc KX9_takes 17 (.ifCond .ne 27) 3 := by decide +kernel
theorem dX9_takes_20 : Dc KX9_takes 20 (.aload_n 0) 1 := by decide +kernel
theorem dX9_takes_21 : Dc KX9_takes 21 (.invokevirtual 150) 3 := by decide +kernel
theorem dX9_takes_24 : Dc KX9_takes 24 (.aload_n 0) 1 := by decide +kernel
theorem dX9_takes_25 : Dc KX9_takes 25 (.aload_n 0) 1 := by decide +kernel
theorem dX9_takes_26 : Dc KX9_takes 26 (.getfield 130) 3 := by decide +kernel
theorem dX9_takes_29 : Dc KX9_takes 29 (.putfield 136) 3 := by decide +kernel
theorem dX9_takes_32 : Dc KX9_takes 32 (.aload_n 0) 1 := by decide +kernel
theorem dX9_takes_33 : Dc KX9_takes 33 (.iconst (-1)) 1 := by decide +kernel
theorem dX9_takes_34 : Dc KX9_takes 34 (.putfield 130) 3 := by decide +kernel
theorem dX9_takes_37 : Dc KX9_takes 37 (.aload_n 0) 1 := by decide +kernel
theorem dX9_takes_38 : Dc KX9_takes 38 (.iconst 1) 1 := by decide +kernel
theorem dX9_takes_39 : Dc KX9_takes 39 (.putfield 142) 3 := by decide +kernel
theorem dX9_takes_42 : Dc KX9_takes 42 (.iconst 1) 1 := by decide +kernel
theorem dX9_takes_43 : Dc KX9_takes 43 (.ireturn) 1 := by decide +kernel
theorem dX9_takes_44 : Dc KX9_takes 44 (.iload_n 1) 1 := by decide +kernel
theorem dX9_takes_45 : Dc KX9_takes 45 (.bipush 44) 2 := by decide +kernel
theorem dX9_takes_47 : Dc KX9_takes 47 (.if_icmp .ne 56) 3 := by decide +kernel
theorem dX9_takes_50 : Dc KX9_takes 50 (.aload_n 0) 1 := by decide +kernel
theorem dX9_takes_51 : Dc KX9_takes 51 (.invokevirtual 146) 3 := by decide +kernel
theorem dX9_takes_54 : Dc KX9_takes 54 (.ifCond .eq 49) 3 := by decide +kernel
theorem dX9_takes_57 : Dc KX9_takes 57 (.aload_n 0) 1 := by decide +kernel
theorem dX9_takes_58 : Dc KX9_takes 58 (.getfield 130) 3 := by decide +kernel
theorem dX9_takes_61 : Dc KX9_takes 61 (.sipush 9999) 3 := by decide +kernel
theorem dX9_takes_64 : Dc KX9_takes 64 (.if_icmp .ge 39) 3 := by decide +kernel
theorem dX9_takes_67 : Dc KX9_takes 67 (.aload_n 0) 1 := by decide +kernel
theorem dX9_takes_68 : Dc KX9_takes 68 (.invokevirtual 150) 3 := by decide +kernel
theorem dX9_takes_71 : Dc KX9_takes 71 (.aload_n 0) 1 := by decide +kernel
theorem dX9_takes_72 : Dc KX9_takes 72 (.aload_n 0) 1 := by decide +kernel
theorem dX9_takes_73 : Dc KX9_takes 73 (.getfield 130) 3 := by decide +kernel
theorem dX9_takes_76 : Dc KX9_takes 76 (.iconst 1) 1 := by decide +kernel
theorem dX9_takes_77 : Dc KX9_takes 77 (.iadd) 1 := by decide +kernel
theorem dX9_takes_78 : Dc KX9_takes 78 (.putfield 136) 3 := by decide +kernel
theorem dX9_takes_81 : Dc KX9_takes 81 (.aload_n 0) 1 := by decide +kernel
theorem dX9_takes_82 : Dc KX9_takes 82 (.iconst (-1)) 1 := by decide +kernel
theorem dX9_takes_83 : Dc KX9_takes 83 (.putfield 130) 3 := by decide +kernel
theorem dX9_takes_86 : Dc KX9_takes 86 (.aload_n 0) 1 := by decide +kernel
theorem dX9_takes_87 : Dc KX9_takes 87 (.iconst 0) 1 := by decide +kernel
theorem dX9_takes_88 : Dc KX9_takes 88 (.putfield 142) 3 := by decide +kernel
theorem dX9_takes_91 : Dc KX9_takes 91 (.aload_n 0) 1 := by decide +kernel
theorem dX9_takes_92 : Dc KX9_takes 92 (.dup) 1 := by decide +kernel
theorem dX9_takes_93 : Dc KX9_takes 93 (.getfield 139) 3 := by decide +kernel
theorem dX9_takes_96 : Dc KX9_takes 96 (.iconst 1) 1 := by decide +kernel
theorem dX9_takes_97 : Dc KX9_takes 97 (.iadd) 1 := by decide +kernel
theorem dX9_takes_98 : Dc KX9_takes 98 (.putfield 139) 3 := by decide +kernel
theorem dX9_takes_101 : Dc KX9_takes 101 (.iconst 1) 1 := by decide +kernel
theorem dX9_takes_102 : Dc KX9_takes 102 (.ireturn) 1 := by decide +kernel
theorem dX9_takes_103 : Dc KX9_takes 103 (.aload_n 0) 1 := by decide +kernel
theorem dX9_takes_104 : Dc KX9_takes 104 (.iload_n 1) 1 := by decide +kernel
theorem dX9_takes_105 : Dc KX9_takes 105 (.bipush 48) 2 := by decide +kernel
theorem dX9_takes_107 : Dc KX9_takes 107 (.isub) 1 := by decide +kernel
theorem dX9_takes_108 : Dc KX9_takes 108 (.invokevirtual 153) 3 := by decide +kernel
theorem dX9_takes_111 : Dc KX9_takes 111 (.ireturn) 1 := by decide +kernel
theorem dX9_rightUpTo_0 : Dc KX9_rightUpTo 0 (.aload_n 0) 1 := by decide +kernel
theorem dX9_rightUpTo_1 : Dc KX9_rightUpTo 1 (.iconst 0) 1 := by decide +kernel
theorem dX9_rightUpTo_2 : Dc KX9_rightUpTo 2 (.putfield 139) 3 := by decide +kernel
theorem dX9_rightUpTo_5 : Dc KX9_rightUpTo 5 (.aload_n 0) 1 := by decide +kernel
theorem dX9_rightUpTo_6 : Dc KX9_rightUpTo 6 (.iconst (-1)) 1 := by decide +kernel
theorem dX9_rightUpTo_7 : Dc KX9_rightUpTo 7 (.putfield 130) 3 := by decide +kernel
theorem dX9_rightUpTo_10 : Dc KX9_rightUpTo 10 (.aload_n 0) 1 := by decide +kernel
theorem dX9_rightUpTo_11 : Dc KX9_rightUpTo 11 (.iconst 0) 1 := by decide +kernel
theorem dX9_rightUpTo_12 : Dc KX9_rightUpTo 12 (.putfield 136) 3 := by decide +kernel
theorem dX9_rightUpTo_15 : Dc KX9_rightUpTo 15 (.aload_n 0) 1 := by decide +kernel
theorem dX9_rightUpTo_16 : Dc KX9_rightUpTo 16 (.iconst 0) 1 := by decide +kernel
theorem dX9_rightUpTo_17 : Dc KX9_rightUpTo 17 (.putfield 142) 3 := by decide +kernel
theorem dX9_rightUpTo_20 : Dc KX9_rightUpTo 20 (.iconst 0) 1 := by decide +kernel
theorem dX9_rightUpTo_21 : Dc KX9_rightUpTo 21 (.istore_n 1) 1 := by decide +kernel
theorem dX9_rightUpTo_22 : Dc KX9_rightUpTo 22 (.iload_n 1) 1 := by decide +kernel
theorem dX9_rightUpTo_23 : Dc KX9_rightUpTo 23 (.aload_n 0) 1 := by decide +kernel
theorem dX9_rightUpTo_24 : Dc KX9_rightUpTo 24 (.getfield 127) 3 := by decide +kernel
theorem dX9_rightUpTo_27 : Dc KX9_rightUpTo 27 (.if_icmp .ge 22) 3 := by decide +kernel
theorem dX9_rightUpTo_30 : Dc KX9_rightUpTo 30 (.aload_n 0) 1 := by decide +kernel
theorem dX9_rightUpTo_31 : Dc KX9_rightUpTo 31 (.aload_n 0) 1 := by decide +kernel
theorem dX9_rightUpTo_32 : Dc KX9_rightUpTo 32 (.getfield 16) 3 := by decide +kernel
theorem dX9_rightUpTo_35 : Dc KX9_rightUpTo 35 (.iload_n 1) 1 := by decide +kernel
theorem dX9_rightUpTo_36 : Dc KX9_rightUpTo 36 (.iaload) 1 := by decide +kernel
theorem dX9_rightUpTo_37 : Dc KX9_rightUpTo 37 (.invokevirtual 156) 3 := by decide +kernel
theorem dX9_rightUpTo_40 : Dc KX9_rightUpTo 40 (.ifCond .eq 9) 3 := by decide +kernel
theorem dX9_rightUpTo_43 : Dc KX9_rightUpTo 43 (.iinc 1 1) 3 := by decide +kernel
theorem dX9_rightUpTo_46 : Dc KX9_rightUpTo 46 (.goto (-24)) 3 := by decide +kernel
theorem dX9_rightUpTo_49 : Dc KX9_rightUpTo 49 (.iload_n 1) 1 := by decide +kernel
theorem dX9_rightUpTo_50 : Dc KX9_rightUpTo 50 (.ireturn) 1 := by decide +kernel
theorem dX9_firstError_0 : Dc KX9_firstError 0 (.aload_n 0) 1 := by decide +kernel
theorem dX9_firstError_1 : Dc KX9_firstError 1 (.iconst 0) 1 := by decide +kernel
theorem dX9_firstError_2 : Dc KX9_firstError 2 (.putfield 34) 3 := by decide +kernel
theorem dX9_firstError_5 : Dc KX9_firstError 5 (.aload_n 0) 1 := by decide +kernel
theorem dX9_firstError_6 : Dc KX9_firstError 6 (.invokevirtual 159) 3 := by decide +kernel
theorem dX9_firstError_9 : Dc KX9_firstError 9 (.ireturn) 1 := by decide +kernel
theorem dX9_toldMany_0 : Dc KX9_toldMany 0 (.iconst 0) 1 := by decide +kernel
theorem dX9_toldMany_1 : Dc KX9_toldMany 1 (.istore_n 1) 1 := by decide +kernel
theorem dX9_toldMany_2 : Dc KX9_toldMany 2 (.iconst 0) 1 := by decide +kernel
theorem dX9_toldMany_3 : Dc KX9_toldMany 3 (.istore_n 2) 1 := by decide +kernel
theorem dX9_toldMany_4 : Dc KX9_toldMany 4 (.iload_n 2) 1 := by decide +kernel
theorem dX9_toldMany_5 : Dc KX9_toldMany 5 (.aload_n 0) 1 := by decide +kernel
theorem dX9_toldMany_6 : Dc KX9_toldMany 6 (.getfield 139) 3 := by decide +kernel
theorem dX9_toldMany_9 : Dc KX9_toldMany 9 (.if_icmp .gt 33) 3 := by decide +kernel
theorem dX9_toldMany_12 : Dc KX9_toldMany 12 (.iload_n 1) 1 := by decide +kernel
theorem dX9_toldMany_13 : Dc KX9_toldMany 13 (.aload_n 0) 1 := by decide +kernel
theorem dX9_toldMany_14 : Dc KX9_toldMany 14 (.getfield 25) 3 := by decide +kernel
theorem dX9_toldMany_17 : Dc KX9_toldMany 17 (.iconst 2) 1 := by decide +kernel
theorem dX9_toldMany_18 : Dc KX9_toldMany 18 (.iload_n 2) 1 := by decide +kernel
theorem dX9_toldMany_19 : Dc KX9_toldMany 19 (.imul) 1 := by decide +kernel
theorem dX9_toldMany_20 : Dc KX9_toldMany 20 (.iconst 1) 1 := by decide +kernel
theorem dX9_toldMany_21 : Dc KX9_toldMany 21 (.iadd) 1 := by decide +kernel
theorem dX9_toldMany_22 : Dc KX9_toldMany 22 (.iaload) 1 := by decide +kernel
theorem dX9_toldMany_23 : Dc KX9_toldMany 23 (.aload_n 0) 1 := by decide +kernel
theorem dX9_toldMany_24 : Dc KX9_toldMany 24 (.getfield 25) 3 := by decide +kernel
theorem dX9_toldMany_27 : Dc KX9_toldMany 27 (.iconst 2) 1 := by decide +kernel
theorem dX9_toldMany_28 : Dc KX9_toldMany 28 (.iload_n 2) 1 := by decide +kernel
theorem dX9_toldMany_29 : Dc KX9_toldMany 29 (.imul) 1 := by decide +kernel
theorem dX9_toldMany_30 : Dc KX9_toldMany 30 (.iaload) 1 := by decide +kernel
theorem dX9_toldMany_31 : Dc KX9_toldMany 31 (.isub) 1 := by decide +kernel
theorem dX9_toldMany_32 : Dc KX9_toldMany 32 (.iconst 1) 1 := by decide +kernel
theorem dX9_toldMany_33 : Dc KX9_toldMany 33 (.iadd) 1 := by decide +kernel
theorem dX9_toldMany_34 : Dc KX9_toldMany 34 (.iadd) 1 := by decide +kernel
theorem dX9_toldMany_35 : Dc KX9_toldMany 35 (.istore_n 1) 1 := by decide +kernel
theorem dX9_toldMany_36 : Dc KX9_toldMany 36 (.iinc 2 1) 3 := by decide +kernel
theorem dX9_toldMany_39 : Dc KX9_toldMany 39 (.goto (-35)) 3 := by decide +kernel
theorem dX9_toldMany_42 : Dc KX9_toldMany 42 (.iload_n 1) 1 := by decide +kernel
theorem dX9_toldMany_43 : Dc KX9_toldMany 43 (.ireturn) 1 := by decide +kernel
theorem dX9_read_0 : Dc KX9_read 0 (.aload_n 0) 1 := by decide +kernel
theorem dX9_read_1 : Dc KX9_read 1 (.invokevirtual 159) 3 := by decide +kernel
theorem dX9_read_4 : Dc KX9_read 4 (.aload_n 0) 1 := by decide +kernel
theorem dX9_read_5 : Dc KX9_read 5 (.getfield 127) 3 := by decide +kernel
theorem dX9_read_8 : Dc KX9_read 8 (.if_icmp .ne 14) 3 := by decide +kernel
theorem dX9_read_11 : Dc KX9_read 11 (.aload_n 0) 1 := by decide +kernel
theorem dX9_read_12 : Dc KX9_read 12 (.invokevirtual 146) 3 := by decide +kernel
theorem dX9_read_15 : Dc KX9_read 15 (.ifCond .eq 7) 3 := by decide +kernel
theorem dX9_read_18 : Dc KX9_read 18 (.iconst 1) 1 := by decide +kernel
theorem dX9_read_19 : Dc KX9_read 19 (.goto 4) 3 := by decide +kernel
theorem dX9_read_22 : Dc KX9_read 22 (.iconst 0) 1 := by decide +kernel
theorem dX9_read_23 : Dc KX9_read 23 (.istore_n 2) 1 := by decide +kernel
theorem dX9_read_24 : Dc KX9_read 24 (.iload_n 2) 1 := by decide +kernel
theorem dX9_read_25 : Dc KX9_read 25 (.ifCond .eq 7) 3 := by decide +kernel
theorem dX9_read_28 : Dc KX9_read 28 (.aload_n 0) 1 := by decide +kernel
theorem dX9_read_29 : Dc KX9_read 29 (.invokevirtual 150) 3 := by decide +kernel
theorem dX9_read_32 : Dc KX9_read 32 (.aload_n 0) 1 := by decide +kernel
theorem dX9_read_33 : Dc KX9_read 33 (.iload_n 1) 1 := by decide +kernel
theorem dX9_read_34 : Dc KX9_read 34 (.invokestatic 81) 3 := by decide +kernel
theorem dX9_read_37 : Dc KX9_read 37 (.ifCond .ne 7) 3 := by decide +kernel
theorem dX9_read_40 : Dc KX9_read 40 (.iconst 1) 1 := by decide +kernel
theorem dX9_read_41 : Dc KX9_read 41 (.goto 25) 3 := by decide +kernel
theorem dX9_read_44 : Dc KX9_read 44 (.iload_n 2) 1 := by decide +kernel
theorem dX9_read_45 : Dc KX9_read 45 (.ifCond .ne 7) 3 := by decide +kernel
theorem dX9_read_48 : Dc KX9_read 48 (.iconst 2) 1 := by decide +kernel
theorem dX9_read_49 : Dc KX9_read 49 (.goto 17) 3 := by decide +kernel
theorem dX9_read_52 : Dc KX9_read 52 (.aload_n 0) 1 := by decide +kernel
theorem dX9_read_53 : Dc KX9_read 53 (.invokevirtual 162) 3 := by decide +kernel
theorem dX9_read_56 : Dc KX9_read 56 (.bipush 60) 2 := by decide +kernel
theorem dX9_read_58 : Dc KX9_read 58 (.if_icmp .le 7) 3 := by decide +kernel
theorem dX9_read_61 : Dc KX9_read 61 (.iconst 3) 1 := by decide +kernel
theorem dX9_read_62 : Dc KX9_read 62 (.goto 4) 3 := by decide +kernel
theorem dX9_read_65 : Dc KX9_read 65 (.iconst 0) 1 := by decide +kernel
theorem dX9_read_66 : Dc KX9_read 66 (.putfield 34) 3 := by decide +kernel
theorem dX9_read_69 : Dc KX9_read 69 (.aload_n 0) 1 := by decide +kernel
theorem dX9_read_70 : Dc KX9_read 70 (.getfield 34) 3 := by decide +kernel
theorem dX9_read_73 : Dc KX9_read 73 (.ifCond .le 5) 3 := by decide +kernel
theorem dX9_read_76 : Dc KX9_read 76 (.iconst 0) 1 := by decide +kernel
theorem dX9_read_77 : Dc KX9_read 77 (.ireturn) 1 := by decide +kernel
theorem dX9_read_78 : Dc KX9_read 78 (.aload_n 0) 1 := by decide +kernel
theorem dX9_read_79 : Dc KX9_read 79 (.invokevirtual 92) 3 := by decide +kernel
theorem dX9_read_82 : Dc KX9_read 82 (.aload_n 0) 1 := by decide +kernel
theorem dX9_read_83 : Dc KX9_read 83 (.iconst 0) 1 := by decide +kernel
theorem dX9_read_84 : Dc KX9_read 84 (.putfield 127) 3 := by decide +kernel
theorem dX9_read_87 : Dc KX9_read 87 (.aload_n 0) 1 := by decide +kernel
theorem dX9_read_88 : Dc KX9_read 88 (.iconst 0) 1 := by decide +kernel
theorem dX9_read_89 : Dc KX9_read 89 (.putfield 56) 3 := by decide +kernel
theorem dX9_read_92 : Dc KX9_read 92 (.iconst 0) 1 := by decide +kernel
theorem dX9_read_93 : Dc KX9_read 93 (.istore_n 3) 1 := by decide +kernel
theorem dX9_read_94 : Dc KX9_read 94 (.iload_n 3) 1 := by decide +kernel
theorem dX9_read_95 : Dc KX9_read 95 (.aload_n 0) 1 := by decide +kernel
theorem dX9_read_96 : Dc KX9_read 96 (.getfield 139) 3 := by decide +kernel
theorem dX9_read_99 : Dc KX9_read 99 (.if_icmp .gt 61) 3 := by decide +kernel
theorem dX9_read_102 : Dc KX9_read 102 (.aload_n 0) 1 := by decide +kernel
theorem dX9_read_103 : Dc KX9_read 103 (.getfield 25) 3 := by decide +kernel
theorem dX9_read_106 : Dc KX9_read 106 (.iconst 2) 1 := by decide +kernel
theorem dX9_read_107 : Dc KX9_read 107 (.iload_n 3) 1 := by decide +kernel
theorem dX9_read_108 : Dc KX9_read 108 (.imul) 1 := by decide +kernel
theorem dX9_read_109 : Dc KX9_read 109 (.iaload) 1 := by decide +kernel
theorem dX9_read_110 : Dc KX9_read 110 (.istore 4) 2 := by decide +kernel
theorem dX9_read_112 : Dc KX9_read 112 (.iload 4) 2 := by decide +kernel
theorem dX9_read_114 : Dc KX9_read 114 (.aload_n 0) 1 := by decide +kernel
theorem dX9_read_115 : Dc KX9_read 115 (.getfield 25) 3 := by decide +kernel
theorem dX9_read_118 : Dc KX9_read 118 (.iconst 2) 1 := by decide +kernel
theorem dX9_read_119 : Dc KX9_read 119 (.iload_n 3) 1 := by decide +kernel
theorem dX9_read_120 : Dc KX9_read 120 (.imul) 1 := by decide +kernel
theorem dX9_read_121 : Dc KX9_read 121 (.iconst 1) 1 := by decide +kernel
theorem dX9_read_122 : Dc KX9_read 122 (.iadd) 1 := by decide +kernel
theorem dX9_read_123 : Dc KX9_read 123 (.iaload) 1 := by decide +kernel
theorem dX9_read_124 : Dc KX9_read 124 (.if_icmp .gt 30) 3 := by decide +kernel
theorem dX9_read_127 : Dc KX9_read 127 (.aload_n 0) 1 := by decide +kernel
theorem dX9_read_128 : Dc KX9_read 128 (.getfield 19) 3 := by decide +kernel
theorem dX9_read_131 : Dc KX9_read 131 (.aload_n 0) 1 := by decide +kernel
theorem dX9_read_132 : Dc KX9_read 132 (.getfield 56) 3 := by decide +kernel
theorem dX9_read_135 : Dc KX9_read 135 (.iload 4) 2 := by decide +kernel
theorem dX9_read_137 : Dc KX9_read 137 (.iastore) 1 := by decide +kernel
theorem dX9_read_138 : Dc KX9_read 138 (.aload_n 0) 1 := by decide +kernel
theorem dX9_read_139 : Dc KX9_read 139 (.dup) 1 := by decide +kernel
theorem dX9_read_140 : Dc KX9_read 140 (.getfield 56) 3 := by decide +kernel
theorem dX9_read_143 : Dc KX9_read 143 (.iconst 1) 1 := by decide +kernel
theorem dX9_read_144 : Dc KX9_read 144 (.iadd) 1 := by decide +kernel
theorem dX9_read_145 : Dc KX9_read 145 (.putfield 56) 3 := by decide +kernel
theorem dX9_read_148 : Dc KX9_read 148 (.iinc 4 1) 3 := by decide +kernel
theorem dX9_read_151 : Dc KX9_read 151 (.goto (-39)) 3 := by decide +kernel
theorem dX9_read_154 : Dc KX9_read 154 (.iinc 3 1) 3 := by decide +kernel
theorem dX9_read_157 : Dc KX9_read 157 (.goto (-63)) 3 := by decide +kernel
theorem dX9_read_160 : Dc KX9_read 160 (.aload_n 0) 1 := by decide +kernel
theorem dX9_read_161 : Dc KX9_read 161 (.iload_n 1) 1 := by decide +kernel
theorem dX9_read_162 : Dc KX9_read 162 (.invokevirtual 98) 3 := by decide +kernel
theorem dX9_read_165 : Dc KX9_read 165 (.aload_n 0) 1 := by decide +kernel
theorem dX9_read_166 : Dc KX9_read 166 (.getfield 56) 3 := by decide +kernel
theorem dX9_read_169 : Dc KX9_read 169 (.ireturn) 1 := by decide +kernel
theorem dX9_undo_0 : Dc KX9_undo 0 (.aload_n 0) 1 := by decide +kernel
theorem dX9_undo_1 : Dc KX9_undo 1 (.aload_n 0) 1 := by decide +kernel
theorem dX9_undo_2 : Dc KX9_undo 2 (.getfield 38) 3 := by decide +kernel
theorem dX9_undo_5 : Dc KX9_undo 5 (.ifCond .le 7) 3 := by decide +kernel
theorem dX9_undo_8 : Dc KX9_undo 8 (.iconst 0) 1 := by decide +kernel
theorem dX9_undo_9 : Dc KX9_undo 9 (.goto 4) 3 := by decide +kernel
theorem dX9_undo_12 : Dc KX9_undo 12 (.iconst 1) 1 := by decide +kernel
theorem dX9_undo_13 : Dc KX9_undo 13 (.putfield 34) 3 := by decide +kernel
theorem dX9_undo_16 : Dc KX9_undo 16 (.aload_n 0) 1 := by decide +kernel
theorem dX9_undo_17 : Dc KX9_undo 17 (.getfield 34) 3 := by decide +kernel
theorem dX9_undo_20 : Dc KX9_undo 20 (.ifCond .le 5) 3 := by decide +kernel
theorem dX9_undo_23 : Dc KX9_undo 23 (.iconst 0) 1 := by decide +kernel
theorem dX9_undo_24 : Dc KX9_undo 24 (.ireturn) 1 := by decide +kernel
theorem dX9_undo_25 : Dc KX9_undo 25 (.aload_n 0) 1 := by decide +kernel
theorem dX9_undo_26 : Dc KX9_undo 26 (.dup) 1 := by decide +kernel
theorem dX9_undo_27 : Dc KX9_undo 27 (.getfield 38) 3 := by decide +kernel
theorem dX9_undo_30 : Dc KX9_undo 30 (.iconst 1) 1 := by decide +kernel
theorem dX9_undo_31 : Dc KX9_undo 31 (.isub) 1 := by decide +kernel
theorem dX9_undo_32 : Dc KX9_undo 32 (.putfield 38) 3 := by decide +kernel
theorem dX9_undo_35 : Dc KX9_undo 35 (.iconst 0) 1 := by decide +kernel
theorem dX9_undo_36 : Dc KX9_undo 36 (.istore_n 1) 1 := by decide +kernel
theorem dX9_undo_37 : Dc KX9_undo 37 (.iload_n 1) 1 := by decide +kernel
theorem dX9_undo_38 : Dc KX9_undo 38 (.sipush 246) 3 := by decide +kernel
theorem dX9_undo_41 : Dc KX9_undo 41 (.if_icmp .ge 30) 3 := by decide +kernel
theorem dX9_undo_44 : Dc KX9_undo 44 (.aload_n 0) 1 := by decide +kernel
theorem dX9_undo_45 : Dc KX9_undo 45 (.getfield 7) 3 := by decide +kernel
theorem dX9_undo_48 : Dc KX9_undo 48 (.iload_n 1) 1 := by decide +kernel
theorem dX9_undo_49 : Dc KX9_undo 49 (.aload_n 0) 1 := by decide +kernel
theorem dX9_undo_50 : Dc KX9_undo 50 (.getfield 13) 3 := by decide +kernel
theorem dX9_undo_53 : Dc KX9_undo 53 (.sipush 246) 3 := by decide +kernel
theorem dX9_undo_56 : Dc KX9_undo 56 (.aload_n 0) 1 := by decide +kernel
theorem dX9_undo_57 : Dc KX9_undo 57 (.getfield 38) 3 := by decide +kernel
theorem dX9_undo_60 : Dc KX9_undo 60 (.imul) 1 := by decide +kernel
theorem dX9_undo_61 : Dc KX9_undo 61 (.iload_n 1) 1 := by decide +kernel
theorem dX9_undo_62 : Dc KX9_undo 62 (.iadd) 1 := by decide +kernel
theorem dX9_undo_63 : Dc KX9_undo 63 (.iaload) 1 := by decide +kernel
theorem dX9_undo_64 : Dc KX9_undo 64 (.iastore) 1 := by decide +kernel
theorem dX9_undo_65 : Dc KX9_undo 65 (.iinc 1 1) 3 := by decide +kernel
theorem dX9_undo_68 : Dc KX9_undo 68 (.goto (-31)) 3 := by decide +kernel
theorem dX9_undo_71 : Dc KX9_undo 71 (.aload_n 0) 1 := by decide +kernel
theorem dX9_undo_72 : Dc KX9_undo 72 (.getfield 38) 3 := by decide +kernel
theorem dX9_undo_75 : Dc KX9_undo 75 (.ireturn) 1 := by decide +kernel
theorem dX9_has_0 : Dc KX9_has 0 (.aload_n 0) 1 := by decide +kernel
theorem dX9_has_1 : Dc KX9_has 1 (.iload_n 1) 1 := by decide +kernel
theorem dX9_has_2 : Dc KX9_has 2 (.invokestatic 81) 3 := by decide +kernel
theorem dX9_has_5 : Dc KX9_has 5 (.ifCond .ne 7) 3 := by decide +kernel
theorem dX9_has_8 : Dc KX9_has 8 (.iconst 1) 1 := by decide +kernel
theorem dX9_has_9 : Dc KX9_has 9 (.goto 15) 3 := by decide +kernel
theorem dX9_has_12 : Dc KX9_has 12 (.iload_n 2) 1 := by decide +kernel
theorem dX9_has_13 : Dc KX9_has 13 (.invokestatic 85) 3 := by decide +kernel
theorem dX9_has_16 : Dc KX9_has 16 (.ifCond .eq 7) 3 := by decide +kernel
theorem dX9_has_19 : Dc KX9_has 19 (.iconst 0) 1 := by decide +kernel
theorem dX9_has_20 : Dc KX9_has 20 (.goto 4) 3 := by decide +kernel
theorem dX9_has_23 : Dc KX9_has 23 (.iconst 2) 1 := by decide +kernel
theorem dX9_has_24 : Dc KX9_has 24 (.putfield 34) 3 := by decide +kernel
theorem dX9_has_27 : Dc KX9_has 27 (.aload_n 0) 1 := by decide +kernel
theorem dX9_has_28 : Dc KX9_has 28 (.getfield 34) 3 := by decide +kernel
theorem dX9_has_31 : Dc KX9_has 31 (.ifCond .gt 12) 3 := by decide +kernel
theorem dX9_has_34 : Dc KX9_has 34 (.aload_n 0) 1 := by decide +kernel
theorem dX9_has_35 : Dc KX9_has 35 (.iload_n 1) 1 := by decide +kernel
theorem dX9_has_36 : Dc KX9_has 36 (.iload_n 2) 1 := by decide +kernel
theorem dX9_has_37 : Dc KX9_has 37 (.invokevirtual 88) 3 := by decide +kernel
theorem dX9_has_40 : Dc KX9_has 40 (.ifCond .ne 7) 3 := by decide +kernel
theorem dX9_has_43 : Dc KX9_has 43 (.iconst 0) 1 := by decide +kernel
theorem dX9_has_44 : Dc KX9_has 44 (.goto 4) 3 := by decide +kernel
theorem dX9_has_47 : Dc KX9_has 47 (.iconst 1) 1 := by decide +kernel
theorem dX9_has_48 : Dc KX9_has 48 (.ireturn) 1 := by decide +kernel
theorem dX9_member_0 : Dc KX9_member 0 (.aload_n 0) 1 := by decide +kernel
theorem dX9_member_1 : Dc KX9_member 1 (.iload_n 1) 1 := by decide +kernel
theorem dX9_member_2 : Dc KX9_member 2 (.invokestatic 81) 3 := by decide +kernel
theorem dX9_member_5 : Dc KX9_member 5 (.ifCond .ne 7) 3 := by decide +kernel
theorem dX9_member_8 : Dc KX9_member 8 (.iconst 1) 1 := by decide +kernel
theorem dX9_member_9 : Dc KX9_member 9 (.goto 12) 3 := by decide +kernel
theorem dX9_member_12 : Dc KX9_member 12 (.iload_n 2) 1 := by decide +kernel
theorem dX9_member_13 : Dc KX9_member 13 (.ifCond .ge 7) 3 := by decide +kernel
theorem dX9_member_16 : Dc KX9_member 16 (.iconst 2) 1 := by decide +kernel
theorem dX9_member_17 : Dc KX9_member 17 (.goto 4) 3 := by decide +kernel
theorem dX9_member_20 : Dc KX9_member 20 (.iconst 0) 1 := by decide +kernel
theorem dX9_member_21 : Dc KX9_member 21 (.putfield 34) 3 := by decide +kernel
theorem dX9_member_24 : Dc KX9_member 24 (.aload_n 0) 1 := by decide +kernel
theorem dX9_member_25 : Dc KX9_member 25 (.getfield 34) 3 := by decide +kernel
theorem dX9_member_28 : Dc KX9_member 28 (.ifCond .le 7) 3 := by decide +kernel
theorem dX9_member_31 : Dc KX9_member 31 (.iconst 0) 1 := by decide +kernel
theorem dX9_member_32 : Dc KX9_member 32 (.goto 22) 3 := by decide +kernel
theorem dX9_member_35 : Dc KX9_member 35 (.iload_n 2) 1 := by decide +kernel
theorem dX9_member_36 : Dc KX9_member 36 (.aload_n 0) 1 := by decide +kernel
theorem dX9_member_37 : Dc KX9_member 37 (.iload_n 1) 1 := by decide +kernel
theorem dX9_member_38 : Dc KX9_member 38 (.invokevirtual 45) 3 := by decide +kernel
theorem dX9_member_41 : Dc KX9_member 41 (.if_icmp .ge 12) 3 := by decide +kernel
theorem dX9_member_44 : Dc KX9_member 44 (.aload_n 0) 1 := by decide +kernel
theorem dX9_member_45 : Dc KX9_member 45 (.iload_n 1) 1 := by decide +kernel
theorem dX9_member_46 : Dc KX9_member 46 (.iload_n 2) 1 := by decide +kernel
theorem dX9_member_47 : Dc KX9_member 47 (.invokevirtual 49) 3 := by decide +kernel
theorem dX9_member_50 : Dc KX9_member 50 (.goto 4) 3 := by decide +kernel
theorem dX9_member_53 : Dc KX9_member 53 (.iconst (-1)) 1 := by decide +kernel
theorem dX9_member_54 : Dc KX9_member 54 (.ireturn) 1 := by decide +kernel
theorem dX9_less_0 : Dc KX9_less 0 (.aload_n 0) 1 := by decide +kernel
theorem dX9_less_1 : Dc KX9_less 1 (.iload_n 1) 1 := by decide +kernel
theorem dX9_less_2 : Dc KX9_less 2 (.invokestatic 81) 3 := by decide +kernel
theorem dX9_less_5 : Dc KX9_less 5 (.ifCond .ne 7) 3 := by decide +kernel
theorem dX9_less_8 : Dc KX9_less 8 (.iconst 1) 1 := by decide +kernel
theorem dX9_less_9 : Dc KX9_less 9 (.goto 15) 3 := by decide +kernel
theorem dX9_less_12 : Dc KX9_less 12 (.iload_n 2) 1 := by decide +kernel
theorem dX9_less_13 : Dc KX9_less 13 (.invokestatic 85) 3 := by decide +kernel
theorem dX9_less_16 : Dc KX9_less 16 (.ifCond .eq 7) 3 := by decide +kernel
theorem dX9_less_19 : Dc KX9_less 19 (.iconst 0) 1 := by decide +kernel
theorem dX9_less_20 : Dc KX9_less 20 (.goto 4) 3 := by decide +kernel
theorem dX9_less_23 : Dc KX9_less 23 (.iconst 2) 1 := by decide +kernel
theorem dX9_less_24 : Dc KX9_less 24 (.putfield 34) 3 := by decide +kernel
theorem dX9_less_27 : Dc KX9_less 27 (.aload_n 0) 1 := by decide +kernel
theorem dX9_less_28 : Dc KX9_less 28 (.getfield 34) 3 := by decide +kernel
theorem dX9_less_31 : Dc KX9_less 31 (.ifCond .le 7) 3 := by decide +kernel
theorem dX9_less_34 : Dc KX9_less 34 (.iconst 0) 1 := by decide +kernel
theorem dX9_less_35 : Dc KX9_less 35 (.goto 9) 3 := by decide +kernel
theorem dX9_less_38 : Dc KX9_less 38 (.aload_n 0) 1 := by decide +kernel
theorem dX9_less_39 : Dc KX9_less 39 (.iload_n 1) 1 := by decide +kernel
theorem dX9_less_40 : Dc KX9_less 40 (.iload_n 2) 1 := by decide +kernel
theorem dX9_less_41 : Dc KX9_less 41 (.invokevirtual 53) 3 := by decide +kernel
theorem dX9_less_44 : Dc KX9_less 44 (.ireturn) 1 := by decide +kernel
theorem dX9_nearestTo_0 : Dc KX9_nearestTo 0 (.iconst (-1)) 1 := by decide +kernel
theorem dX9_nearestTo_1 : Dc KX9_nearestTo 1 (.istore_n 3) 1 := by decide +kernel
theorem dX9_nearestTo_2 : Dc KX9_nearestTo 2 (.iconst 0) 1 := by decide +kernel
theorem dX9_nearestTo_3 : Dc KX9_nearestTo 3 (.istore 4) 2 := by decide +kernel
theorem dX9_nearestTo_5 : Dc KX9_nearestTo 5 (.iconst 0) 1 := by decide +kernel
theorem dX9_nearestTo_6 : Dc KX9_nearestTo 6 (.istore 5) 2 := by decide +kernel
theorem dX9_nearestTo_8 : Dc KX9_nearestTo 8 (.iload 5) 2 := by decide +kernel
theorem dX9_nearestTo_10 : Dc KX9_nearestTo 10 (.aload_n 0) 1 := by decide +kernel
theorem dX9_nearestTo_11 : Dc KX9_nearestTo 11 (.iload_n 1) 1 := by decide +kernel
theorem dX9_nearestTo_12 : Dc KX9_nearestTo 12 (.invokevirtual 45) 3 := by decide +kernel
theorem dX9_nearestTo_15 : Dc KX9_nearestTo 15 (.if_icmp .ge 93) 3 := by decide +kernel
theorem dX9_nearestTo_18 : Dc KX9_nearestTo 18 (.aload_n 0) 1 := by decide +kernel
theorem dX9_nearestTo_19 : Dc KX9_nearestTo 19 (.iload_n 1) 1 := by decide +kernel
theorem dX9_nearestTo_20 : Dc KX9_nearestTo 20 (.iload 5) 2 := by decide +kernel
theorem dX9_nearestTo_22 : Dc KX9_nearestTo 22 (.invokevirtual 49) 3 := by decide +kernel
theorem dX9_nearestTo_25 : Dc KX9_nearestTo 25 (.iload_n 2) 1 := by decide +kernel
theorem dX9_nearestTo_26 : Dc KX9_nearestTo 26 (.if_icmp .le 15) 3 := by decide +kernel
theorem dX9_nearestTo_29 : Dc KX9_nearestTo 29 (.aload_n 0) 1 := by decide +kernel
theorem dX9_nearestTo_30 : Dc KX9_nearestTo 30 (.iload_n 1) 1 := by decide +kernel
theorem dX9_nearestTo_31 : Dc KX9_nearestTo 31 (.iload 5) 2 := by decide +kernel
theorem dX9_nearestTo_33 : Dc KX9_nearestTo 33 (.invokevirtual 49) 3 := by decide +kernel
theorem dX9_nearestTo_36 : Dc KX9_nearestTo 36 (.iload_n 2) 1 := by decide +kernel
theorem dX9_nearestTo_37 : Dc KX9_nearestTo 37 (.isub) 1 := by decide +kernel
theorem dX9_nearestTo_38 : Dc KX9_nearestTo 38 (.goto 12) 3 := by decide +kernel
theorem dX9_nearestTo_41 : Dc KX9_nearestTo 41 (.iload_n 2) 1 := by decide +kernel
theorem dX9_nearestTo_42 : Dc KX9_nearestTo 42 (.aload_n 0) 1 := by decide +kernel
theorem dX9_nearestTo_43 : Dc KX9_nearestTo 43 (.iload_n 1) 1 := by decide +kernel
theorem dX9_nearestTo_44 : Dc KX9_nearestTo 44 (.iload 5) 2 := by decide +kernel
theorem dX9_nearestTo_46 : Dc KX9_nearestTo 46 (.invokevirtual 49) 3 := by decide +kernel
theorem dX9_nearestTo_49 : Dc KX9_nearestTo 49 (.isub) 1 := by decide +kernel
theorem dX9_nearestTo_50 : Dc KX9_nearestTo 50 (.istore 6) 2 := by decide +kernel
theorem dX9_nearestTo_52 : Dc KX9_nearestTo 52 (.iload_n 3) 1 := by decide +kernel
theorem dX9_nearestTo_53 : Dc KX9_nearestTo 53 (.iconst (-1)) 1 := by decide +kernel
theorem dX9_nearestTo_54 : Dc KX9_nearestTo 54 (.if_icmp .eq 10) 3 := by decide +kernel
theorem dX9_nearestTo_57 : Dc KX9_nearestTo 57 (.iload 6) 2 := by decide +kernel
theorem dX9_nearestTo_59 : Dc KX9_nearestTo 59 (.iload 4) 2 := by decide +kernel
theorem dX9_nearestTo_61 : Dc KX9_nearestTo 61 (.if_icmp .ge 7) 3 := by decide +kernel
theorem dX9_nearestTo_64 : Dc KX9_nearestTo 64 (.iconst 1) 1 := by decide +kernel
theorem dX9_nearestTo_65 : Dc KX9_nearestTo 65 (.goto 4) 3 := by decide +kernel
theorem dX9_nearestTo_68 : Dc KX9_nearestTo 68 (.iconst 0) 1 := by decide +kernel
theorem dX9_nearestTo_69 : Dc KX9_nearestTo 69 (.istore 7) 2 := by decide +kernel
theorem dX9_nearestTo_71 : Dc KX9_nearestTo 71 (.iload 7) 2 := by decide +kernel
theorem dX9_nearestTo_73 : Dc KX9_nearestTo 73 (.ifCond .eq 13) 3 := by decide +kernel
theorem dX9_nearestTo_76 : Dc KX9_nearestTo 76 (.aload_n 0) 1 := by decide +kernel
theorem dX9_nearestTo_77 : Dc KX9_nearestTo 77 (.iload_n 1) 1 := by decide +kernel
theorem dX9_nearestTo_78 : Dc KX9_nearestTo 78 (.iload 5) 2 := by decide +kernel
theorem dX9_nearestTo_80 : Dc KX9_nearestTo 80 (.invokevirtual 49) 3 := by decide +kernel
theorem dX9_nearestTo_83 : Dc KX9_nearestTo 83 (.goto 4) 3 := by decide +kernel
theorem dX9_nearestTo_86 : Dc KX9_nearestTo 86 (.iload_n 3) 1 := by decide +kernel
theorem dX9_nearestTo_87 : Dc KX9_nearestTo 87 (.istore_n 3) 1 := by decide +kernel
theorem dX9_nearestTo_88 : Dc KX9_nearestTo 88 (.iload 7) 2 := by decide +kernel
theorem dX9_nearestTo_90 : Dc KX9_nearestTo 90 (.ifCond .eq 8) 3 := by decide +kernel
theorem dX9_nearestTo_93 : Dc KX9_nearestTo 93 (.iload 6) 2 := by decide +kernel
theorem dX9_nearestTo_95 : Dc KX9_nearestTo 95 (.goto 5) 3 := by decide +kernel
theorem dX9_nearestTo_98 : Dc KX9_nearestTo 98 (.iload 4) 2 := by decide +kernel
theorem dX9_nearestTo_100 : Dc KX9_nearestTo 100 (.istore 4) 2 := by decide +kernel
theorem dX9_nearestTo_102 : Dc KX9_nearestTo 102 (.iinc 5 1) 3 := by decide +kernel
theorem dX9_nearestTo_105 : Dc KX9_nearestTo 105 (.goto (-97)) 3 := by decide +kernel
theorem dX9_nearestTo_108 : Dc KX9_nearestTo 108 (.iload_n 3) 1 := by decide +kernel
theorem dX9_nearestTo_109 : Dc KX9_nearestTo 109 (.ireturn) 1 := by decide +kernel
theorem dX9_nearest_0 : Dc KX9_nearest 0 (.aload_n 0) 1 := by decide +kernel
theorem dX9_nearest_1 : Dc KX9_nearest 1 (.iload_n 1) 1 := by decide +kernel
theorem dX9_nearest_2 : Dc KX9_nearest 2 (.invokestatic 81) 3 := by decide +kernel
theorem dX9_nearest_5 : Dc KX9_nearest 5 (.ifCond .ne 7) 3 := by decide +kernel
theorem dX9_nearest_8 : Dc KX9_nearest 8 (.iconst 1) 1 := by decide +kernel
theorem dX9_nearest_9 : Dc KX9_nearest 9 (.goto 15) 3 := by decide +kernel
theorem dX9_nearest_12 : Dc KX9_nearest 12 (.iload_n 2) 1 := by decide +kernel
theorem dX9_nearest_13 : Dc KX9_nearest 13 (.invokestatic 85) 3 := by decide +kernel
theorem dX9_nearest_16 : Dc KX9_nearest 16 (.ifCond .eq 7) 3 := by decide +kernel
theorem dX9_nearest_19 : Dc KX9_nearest 19 (.iconst 0) 1 := by decide +kernel
theorem dX9_nearest_20 : Dc KX9_nearest 20 (.goto 4) 3 := by decide +kernel
theorem dX9_nearest_23 : Dc KX9_nearest 23 (.iconst 2) 1 := by decide +kernel
theorem dX9_nearest_24 : Dc KX9_nearest 24 (.putfield 34) 3 := by decide +kernel
theorem dX9_nearest_27 : Dc KX9_nearest 27 (.aload_n 0) 1 := by decide +kernel
theorem dX9_nearest_28 : Dc KX9_nearest 28 (.getfield 34) 3 := by decide +kernel
theorem dX9_nearest_31 : Dc KX9_nearest 31 (.ifCond .le 7) 3 := by decide +kernel
theorem dX9_nearest_34 : Dc KX9_nearest 34 (.iconst 0) 1 := by decide +kernel
theorem dX9_nearest_35 : Dc KX9_nearest 35 (.goto 9) 3 := by decide +kernel
theorem dX9_nearest_38 : Dc KX9_nearest 38 (.aload_n 0) 1 := by decide +kernel
theorem dX9_nearest_39 : Dc KX9_nearest 39 (.iload_n 1) 1 := by decide +kernel
theorem dX9_nearest_40 : Dc KX9_nearest 40 (.iload_n 2) 1 := by decide +kernel
theorem dX9_nearest_41 : Dc KX9_nearest 41 (.invokevirtual 165) 3 := by decide +kernel
theorem dX9_nearest_44 : Dc KX9_nearest 44 (.ireturn) 1 := by decide +kernel
theorem dX9_greatestGap_0 : Dc KX9_greatestGap 0 (.iconst 0) 1 := by decide +kernel
theorem dX9_greatestGap_1 : Dc KX9_greatestGap 1 (.istore_n 2) 1 := by decide +kernel
theorem dX9_greatestGap_2 : Dc KX9_greatestGap 2 (.aload_n 0) 1 := by decide +kernel
theorem dX9_greatestGap_3 : Dc KX9_greatestGap 3 (.getfield 22) 3 := by decide +kernel
theorem dX9_greatestGap_6 : Dc KX9_greatestGap 6 (.iload_n 1) 1 := by decide +kernel
theorem dX9_greatestGap_7 : Dc KX9_greatestGap 7 (.iaload) 1 := by decide +kernel
theorem dX9_greatestGap_8 : Dc KX9_greatestGap 8 (.iconst 1) 1 := by decide +kernel
theorem dX9_greatestGap_9 : Dc KX9_greatestGap 9 (.iadd) 1 := by decide +kernel
theorem dX9_greatestGap_10 : Dc KX9_greatestGap 10 (.istore_n 3) 1 := by decide +kernel
theorem dX9_greatestGap_11 : Dc KX9_greatestGap 11 (.iload_n 3) 1 := by decide +kernel
theorem dX9_greatestGap_12 : Dc KX9_greatestGap 12 (.aload_n 0) 1 := by decide +kernel
theorem dX9_greatestGap_13 : Dc KX9_greatestGap 13 (.getfield 22) 3 := by decide +kernel
theorem dX9_greatestGap_16 : Dc KX9_greatestGap 16 (.iload_n 1) 1 := by decide +kernel
theorem dX9_greatestGap_17 : Dc KX9_greatestGap 17 (.iconst 1) 1 := by decide +kernel
theorem dX9_greatestGap_18 : Dc KX9_greatestGap 18 (.iadd) 1 := by decide +kernel
theorem dX9_greatestGap_19 : Dc KX9_greatestGap 19 (.iaload) 1 := by decide +kernel
theorem dX9_greatestGap_20 : Dc KX9_greatestGap 20 (.if_icmp .ge 39) 3 := by decide +kernel
theorem dX9_greatestGap_23 : Dc KX9_greatestGap 23 (.aload_n 0) 1 := by decide +kernel
theorem dX9_greatestGap_24 : Dc KX9_greatestGap 24 (.getfield 19) 3 := by decide +kernel
theorem dX9_greatestGap_27 : Dc KX9_greatestGap 27 (.iload_n 3) 1 := by decide +kernel
theorem dX9_greatestGap_28 : Dc KX9_greatestGap 28 (.iaload) 1 := by decide +kernel
theorem dX9_greatestGap_29 : Dc KX9_greatestGap 29 (.aload_n 0) 1 := by decide +kernel
theorem dX9_greatestGap_30 : Dc KX9_greatestGap 30 (.getfield 19) 3 := by decide +kernel
theorem dX9_greatestGap_33 : Dc KX9_greatestGap 33 (.iload_n 3) 1 := by decide +kernel
theorem dX9_greatestGap_34 : Dc KX9_greatestGap 34 (.iconst 1) 1 := by decide +kernel
theorem dX9_greatestGap_35 : Dc KX9_greatestGap 35 (.isub) 1 := by decide +kernel
theorem dX9_greatestGap_36 : Dc KX9_greatestGap 36 (.iaload) 1 := by decide +kernel
theorem dX9_greatestGap_37 : Dc KX9_greatestGap 37 (.isub) 1 := by decide +kernel
theorem dX9_greatestGap_38 : Dc KX9_greatestGap 38 (.istore 4) 2 := by decide +kernel
theorem dX9_greatestGap_40 : Dc KX9_greatestGap 40 (.iload 4) 2 := by decide +kernel
theorem dX9_greatestGap_42 : Dc KX9_greatestGap 42 (.iload_n 2) 1 := by decide +kernel
theorem dX9_greatestGap_43 : Dc KX9_greatestGap 43 (.if_icmp .le 8) 3 := by decide +kernel
theorem dX9_greatestGap_46 : Dc KX9_greatestGap 46 (.iload 4) 2 := by decide +kernel
theorem dX9_greatestGap_48 : Dc KX9_greatestGap 48 (.goto 4) 3 := by decide +kernel
theorem dX9_greatestGap_51 : Dc KX9_greatestGap 51 (.iload_n 2) 1 := by decide +kernel
theorem dX9_greatestGap_52 : Dc KX9_greatestGap 52 (.istore_n 2) 1 := by decide +kernel
theorem dX9_greatestGap_53 : Dc KX9_greatestGap 53 (.iinc 3 1) 3 := by decide +kernel
theorem dX9_greatestGap_56 : Dc KX9_greatestGap 56 (.goto (-45)) 3 := by decide +kernel
theorem dX9_greatestGap_59 : Dc KX9_greatestGap 59 (.iload_n 2) 1 := by decide +kernel
theorem dX9_greatestGap_60 : Dc KX9_greatestGap 60 (.ireturn) 1 := by decide +kernel
theorem dX9_blockNow_0 : Dc KX9_blockNow 0 (.aload_n 0) 1 := by decide +kernel
theorem dX9_blockNow_1 : Dc KX9_blockNow 1 (.iload_n 1) 1 := by decide +kernel
theorem dX9_blockNow_2 : Dc KX9_blockNow 2 (.invokevirtual 168) 3 := by decide +kernel
theorem dX9_blockNow_5 : Dc KX9_blockNow 5 (.iload_n 2) 1 := by decide +kernel
theorem dX9_blockNow_6 : Dc KX9_blockNow 6 (.aload_n 0) 1 := by decide +kernel
theorem dX9_blockNow_7 : Dc KX9_blockNow 7 (.getfield 59) 3 := by decide +kernel
theorem dX9_blockNow_10 : Dc KX9_blockNow 10 (.if_icmp .lt 5) 3 := by decide +kernel
theorem dX9_blockNow_13 : Dc KX9_blockNow 13 (.iconst (-1)) 1 := by decide +kernel
theorem dX9_blockNow_14 : Dc KX9_blockNow 14 (.ireturn) 1 := by decide +kernel
theorem dX9_blockNow_15 : Dc KX9_blockNow 15 (.iload_n 3) 1 := by decide +kernel
theorem dX9_blockNow_16 : Dc KX9_blockNow 16 (.tableswitch 92 0 4 #[36, 48, 64, 80, 86]) 36 := by decide +kernel
theorem dX9_blockNow_52 : Dc KX9_blockNow 52 (.aload_n 0) 1 := by decide +kernel
theorem dX9_blockNow_53 : Dc KX9_blockNow 53 (.getfield 19) 3 := by decide +kernel
theorem dX9_blockNow_56 : Dc KX9_blockNow 56 (.aload_n 0) 1 := by decide +kernel
theorem dX9_blockNow_57 : Dc KX9_blockNow 57 (.getfield 22) 3 := by decide +kernel
theorem dX9_blockNow_60 : Dc KX9_blockNow 60 (.iload_n 2) 1 := by decide +kernel
theorem dX9_blockNow_61 : Dc KX9_blockNow 61 (.iaload) 1 := by decide +kernel
theorem dX9_blockNow_62 : Dc KX9_blockNow 62 (.iaload) 1 := by decide +kernel
theorem dX9_blockNow_63 : Dc KX9_blockNow 63 (.ireturn) 1 := by decide +kernel
theorem dX9_blockNow_64 : Dc KX9_blockNow 64 (.aload_n 0) 1 := by decide +kernel
theorem dX9_blockNow_65 : Dc KX9_blockNow 65 (.getfield 22) 3 := by decide +kernel
theorem dX9_blockNow_68 : Dc KX9_blockNow 68 (.iload_n 2) 1 := by decide +kernel
theorem dX9_blockNow_69 : Dc KX9_blockNow 69 (.iconst 1) 1 := by decide +kernel
theorem dX9_blockNow_70 : Dc KX9_blockNow 70 (.iadd) 1 := by decide +kernel
theorem dX9_blockNow_71 : Dc KX9_blockNow 71 (.iaload) 1 := by decide +kernel
theorem dX9_blockNow_72 : Dc KX9_blockNow 72 (.aload_n 0) 1 := by decide +kernel
theorem dX9_blockNow_73 : Dc KX9_blockNow 73 (.getfield 22) 3 := by decide +kernel
theorem dX9_blockNow_76 : Dc KX9_blockNow 76 (.iload_n 2) 1 := by decide +kernel
theorem dX9_blockNow_77 : Dc KX9_blockNow 77 (.iaload) 1 := by decide +kernel
theorem dX9_blockNow_78 : Dc KX9_blockNow 78 (.isub) 1 := by decide +kernel
theorem dX9_blockNow_79 : Dc KX9_blockNow 79 (.ireturn) 1 := by decide +kernel
theorem dX9_blockNow_80 : Dc KX9_blockNow 80 (.aload_n 0) 1 := by decide +kernel
theorem dX9_blockNow_81 : Dc KX9_blockNow 81 (.getfield 19) 3 := by decide +kernel
theorem dX9_blockNow_84 : Dc KX9_blockNow 84 (.aload_n 0) 1 := by decide +kernel
theorem dX9_blockNow_85 : Dc KX9_blockNow 85 (.getfield 22) 3 := by decide +kernel
theorem dX9_blockNow_88 : Dc KX9_blockNow 88 (.iload_n 2) 1 := by decide +kernel
theorem dX9_blockNow_89 : Dc KX9_blockNow 89 (.iconst 1) 1 := by decide +kernel
theorem dX9_blockNow_90 : Dc KX9_blockNow 90 (.iadd) 1 := by decide +kernel
theorem dX9_blockNow_91 : Dc KX9_blockNow 91 (.iaload) 1 := by decide +kernel
theorem dX9_blockNow_92 : Dc KX9_blockNow 92 (.iconst 1) 1 := by decide +kernel
theorem dX9_blockNow_93 : Dc KX9_blockNow 93 (.isub) 1 := by decide +kernel
theorem dX9_blockNow_94 : Dc KX9_blockNow 94 (.iaload) 1 := by decide +kernel
theorem dX9_blockNow_95 : Dc KX9_blockNow 95 (.ireturn) 1 := by decide +kernel
theorem dX9_blockNow_96 : Dc KX9_blockNow 96 (.aload_n 0) 1 := by decide +kernel
theorem dX9_blockNow_97 : Dc KX9_blockNow 97 (.iload_n 2) 1 := by decide +kernel
theorem dX9_blockNow_98 : Dc KX9_blockNow 98 (.invokevirtual 70) 3 := by decide +kernel
theorem dX9_blockNow_101 : Dc KX9_blockNow 101 (.ireturn) 1 := by decide +kernel
theorem dX9_blockNow_102 : Dc KX9_blockNow 102 (.aload_n 0) 1 := by decide +kernel
theorem dX9_blockNow_103 : Dc KX9_blockNow 103 (.iload_n 2) 1 := by decide +kernel
theorem dX9_blockNow_104 : Dc KX9_blockNow 104 (.invokevirtual 171) 3 := by decide +kernel
theorem dX9_blockNow_107 : Dc KX9_blockNow 107 (.ireturn) 1 := by decide +kernel
theorem dX9_blockNow_108 : Dc KX9_blockNow 108 (.aload_n 0) 1 := by decide +kernel
theorem dX9_blockNow_109 : Dc KX9_blockNow 109 (.getfield 22) 3 := by decide +kernel
theorem dX9_blockNow_112 : Dc KX9_blockNow 112 (.iload_n 2) 1 := by decide +kernel
theorem dX9_blockNow_113 : Dc KX9_blockNow 113 (.iaload) 1 := by decide +kernel
theorem dX9_blockNow_114 : Dc KX9_blockNow 114 (.ireturn) 1 := by decide +kernel
theorem dX9_block_0 : Dc KX9_block 0 (.aload_n 0) 1 := by decide +kernel
theorem dX9_block_1 : Dc KX9_block 1 (.iload_n 1) 1 := by decide +kernel
theorem dX9_block_2 : Dc KX9_block 2 (.invokestatic 81) 3 := by decide +kernel
theorem dX9_block_5 : Dc KX9_block 5 (.ifCond .ne 7) 3 := by decide +kernel
theorem dX9_block_8 : Dc KX9_block 8 (.iconst 1) 1 := by decide +kernel
theorem dX9_block_9 : Dc KX9_block 9 (.goto 21) 3 := by decide +kernel
theorem dX9_block_12 : Dc KX9_block 12 (.iload_n 2) 1 := by decide +kernel
theorem dX9_block_13 : Dc KX9_block 13 (.ifCond .lt 16) 3 := by decide +kernel
theorem dX9_block_16 : Dc KX9_block 16 (.iload_n 3) 1 := by decide +kernel
theorem dX9_block_17 : Dc KX9_block 17 (.iconst 0) 1 := by decide +kernel
theorem dX9_block_18 : Dc KX9_block 18 (.iconst 5) 1 := by decide +kernel
theorem dX9_block_19 : Dc KX9_block 19 (.invokestatic 41) 3 := by decide +kernel
theorem dX9_block_22 : Dc KX9_block 22 (.ifCond .eq 7) 3 := by decide +kernel
theorem dX9_block_25 : Dc KX9_block 25 (.iconst 0) 1 := by decide +kernel
theorem dX9_block_26 : Dc KX9_block 26 (.goto 4) 3 := by decide +kernel
theorem dX9_block_29 : Dc KX9_block 29 (.iconst 2) 1 := by decide +kernel
theorem dX9_block_30 : Dc KX9_block 30 (.putfield 34) 3 := by decide +kernel
theorem dX9_block_33 : Dc KX9_block 33 (.aload_n 0) 1 := by decide +kernel
theorem dX9_block_34 : Dc KX9_block 34 (.getfield 34) 3 := by decide +kernel
theorem dX9_block_37 : Dc KX9_block 37 (.ifCond .le 7) 3 := by decide +kernel
theorem dX9_block_40 : Dc KX9_block 40 (.iconst 0) 1 := by decide +kernel
theorem dX9_block_41 : Dc KX9_block 41 (.goto 10) 3 := by decide +kernel
theorem dX9_block_44 : Dc KX9_block 44 (.aload_n 0) 1 := by decide +kernel
theorem dX9_block_45 : Dc KX9_block 45 (.iload_n 1) 1 := by decide +kernel
theorem dX9_block_46 : Dc KX9_block 46 (.iload_n 2) 1 := by decide +kernel
theorem dX9_block_47 : Dc KX9_block 47 (.iload_n 3) 1 := by decide +kernel
theorem dX9_block_48 : Dc KX9_block 48 (.invokevirtual 174) 3 := by decide +kernel
theorem dX9_block_51 : Dc KX9_block 51 (.ireturn) 1 := by decide +kernel
theorem dX9_longestRun_0 : Dc KX9_longestRun 0 (.iconst 0) 1 := by decide +kernel
theorem dX9_longestRun_1 : Dc KX9_longestRun 1 (.istore_n 2) 1 := by decide +kernel
theorem dX9_longestRun_2 : Dc KX9_longestRun 2 (.iconst 0) 1 := by decide +kernel
theorem dX9_longestRun_3 : Dc KX9_longestRun 3 (.istore_n 3) 1 := by decide +kernel
theorem dX9_longestRun_4 : Dc KX9_longestRun 4 (.iconst 0) 1 := by decide +kernel
theorem dX9_longestRun_5 : Dc KX9_longestRun 5 (.istore 4) 2 := by decide +kernel
theorem dX9_longestRun_7 : Dc KX9_longestRun 7 (.iload 4) 2 := by decide +kernel
theorem dX9_longestRun_9 : Dc KX9_longestRun 9 (.aload_n 0) 1 := by decide +kernel
theorem dX9_longestRun_10 : Dc KX9_longestRun 10 (.iload_n 1) 1 := by decide +kernel
theorem dX9_longestRun_11 : Dc KX9_longestRun 11 (.invokevirtual 45) 3 := by decide +kernel
theorem dX9_longestRun_14 : Dc KX9_longestRun 14 (.if_icmp .ge 66) 3 := by decide +kernel
theorem dX9_longestRun_17 : Dc KX9_longestRun 17 (.iload 4) 2 := by decide +kernel
theorem dX9_longestRun_19 : Dc KX9_longestRun 19 (.ifCond .le 28) 3 := by decide +kernel
theorem dX9_longestRun_22 : Dc KX9_longestRun 22 (.aload_n 0) 1 := by decide +kernel
theorem dX9_longestRun_23 : Dc KX9_longestRun 23 (.iload_n 1) 1 := by decide +kernel
theorem dX9_longestRun_24 : Dc KX9_longestRun 24 (.iload 4) 2 := by decide +kernel
theorem dX9_longestRun_26 : Dc KX9_longestRun 26 (.invokevirtual 49) 3 := by decide +kernel
theorem dX9_longestRun_29 : Dc KX9_longestRun 29 (.aload_n 0) 1 := by decide +kernel
theorem dX9_longestRun_30 : Dc KX9_longestRun 30 (.iload_n 1) 1 := by decide +kernel
theorem dX9_longestRun_31 : Dc KX9_longestRun 31 (.iload 4) 2 := by decide +kernel
theorem dX9_longestRun_33 : Dc KX9_longestRun 33 (.iconst 1) 1 := by decide +kernel
theorem dX9_longestRun_34 : Dc KX9_longestRun 34 (.isub) 1 := by decide +kernel
theorem dX9_longestRun_35 : Dc KX9_longestRun 35 (.invokevirtual 49) 3 := by decide +kernel
theorem dX9_longestRun_38 : Dc KX9_longestRun 38 (.iconst 1) 1 := by decide +kernel
theorem dX9_longestRun_39 : Dc KX9_longestRun 39 (.iadd) 1 := by decide +kernel
theorem dX9_longestRun_40 : Dc KX9_longestRun 40 (.if_icmp .ne 7) 3 := by decide +kernel
theorem dX9_longestRun_43 : Dc KX9_longestRun 43 (.iconst 1) 1 := by decide +kernel
theorem dX9_longestRun_44 : Dc KX9_longestRun 44 (.goto 4) 3 := by decide +kernel
theorem dX9_longestRun_47 : Dc KX9_longestRun 47 (.iconst 0) 1 := by decide +kernel
theorem dX9_longestRun_48 : Dc KX9_longestRun 48 (.istore 5) 2 := by decide +kernel
theorem dX9_longestRun_50 : Dc KX9_longestRun 50 (.iload 5) 2 := by decide +kernel
theorem dX9_longestRun_52 : Dc KX9_longestRun 52 (.ifCond .eq 9) 3 := by decide +kernel
theorem dX9_longestRun_55 : Dc KX9_longestRun 55 (.iload_n 3) 1 := by decide +kernel
theorem dX9_longestRun_56 : Dc KX9_longestRun 56 (.iconst 1) 1 := by decide +kernel
theorem dX9_longestRun_57 : Dc KX9_longestRun 57 (.iadd) 1 := by decide +kernel
theorem dX9_longestRun_58 : Dc KX9_longestRun 58 (.goto 4) 3 := by decide +kernel
theorem dX9_longestRun_61 : Dc KX9_longestRun 61 (.iconst 1) 1 := by decide +kernel
theorem dX9_longestRun_62 : Dc KX9_longestRun 62 (.istore_n 3) 1 := by decide +kernel
theorem dX9_longestRun_63 : Dc KX9_longestRun 63 (.iload_n 3) 1 := by decide +kernel
theorem dX9_longestRun_64 : Dc KX9_longestRun 64 (.iload_n 2) 1 := by decide +kernel
theorem dX9_longestRun_65 : Dc KX9_longestRun 65 (.if_icmp .le 7) 3 := by decide +kernel
theorem dX9_longestRun_68 : Dc KX9_longestRun 68 (.iload_n 3) 1 := by decide +kernel
theorem dX9_longestRun_69 : Dc KX9_longestRun 69 (.goto 4) 3 := by decide +kernel
theorem dX9_longestRun_72 : Dc KX9_longestRun 72 (.iload_n 2) 1 := by decide +kernel
theorem dX9_longestRun_73 : Dc KX9_longestRun 73 (.istore_n 2) 1 := by decide +kernel
theorem dX9_longestRun_74 : Dc KX9_longestRun 74 (.iinc 4 1) 3 := by decide +kernel
theorem dX9_longestRun_77 : Dc KX9_longestRun 77 (.goto (-70)) 3 := by decide +kernel
theorem dX9_longestRun_80 : Dc KX9_longestRun 80 (.iload_n 2) 1 := by decide +kernel
theorem dX9_longestRun_81 : Dc KX9_longestRun 81 (.ireturn) 1 := by decide +kernel
theorem dX9_wideGaps_0 : Dc KX9_wideGaps 0 (.aload_n 0) 1 := by decide +kernel
theorem dX9_wideGaps_1 : Dc KX9_wideGaps 1 (.iload_n 1) 1 := by decide +kernel
theorem dX9_wideGaps_2 : Dc KX9_wideGaps 2 (.invokevirtual 168) 3 := by decide +kernel
theorem dX9_wideGaps_5 : Dc KX9_wideGaps 5 (.iconst 0) 1 := by decide +kernel
theorem dX9_wideGaps_6 : Dc KX9_wideGaps 6 (.istore_n 2) 1 := by decide +kernel
theorem dX9_wideGaps_7 : Dc KX9_wideGaps 7 (.iconst 0) 1 := by decide +kernel
theorem dX9_wideGaps_8 : Dc KX9_wideGaps 8 (.istore_n 3) 1 := by decide +kernel
theorem dX9_wideGaps_9 : Dc KX9_wideGaps 9 (.iload_n 3) 1 := by decide +kernel
theorem dX9_wideGaps_10 : Dc KX9_wideGaps 10 (.aload_n 0) 1 := by decide +kernel
theorem dX9_wideGaps_11 : Dc KX9_wideGaps 11 (.getfield 59) 3 := by decide +kernel
theorem dX9_wideGaps_14 : Dc KX9_wideGaps 14 (.if_icmp .ge 69) 3 := by decide +kernel
theorem dX9_wideGaps_17 : Dc KX9_wideGaps 17 (.aload_n 0) 1 := by decide +kernel
theorem dX9_wideGaps_18 : Dc KX9_wideGaps 18 (.getfield 22) 3 := by decide +kernel
theorem dX9_wideGaps_21 : Dc KX9_wideGaps 21 (.iload_n 3) 1 := by decide +kernel
theorem dX9_wideGaps_22 : Dc KX9_wideGaps 22 (.iaload) 1 := by decide +kernel
theorem dX9_wideGaps_23 : Dc KX9_wideGaps 23 (.iconst 1) 1 := by decide +kernel
theorem dX9_wideGaps_24 : Dc KX9_wideGaps 24 (.iadd) 1 := by decide +kernel
theorem dX9_wideGaps_25 : Dc KX9_wideGaps 25 (.istore 4) 2 := by decide +kernel
theorem dX9_wideGaps_27 : Dc KX9_wideGaps 27 (.iload 4) 2 := by decide +kernel
theorem dX9_wideGaps_29 : Dc KX9_wideGaps 29 (.aload_n 0) 1 := by decide +kernel
theorem dX9_wideGaps_30 : Dc KX9_wideGaps 30 (.getfield 22) 3 := by decide +kernel
theorem dX9_wideGaps_33 : Dc KX9_wideGaps 33 (.iload_n 3) 1 := by decide +kernel
theorem dX9_wideGaps_34 : Dc KX9_wideGaps 34 (.iconst 1) 1 := by decide +kernel
theorem dX9_wideGaps_35 : Dc KX9_wideGaps 35 (.iadd) 1 := by decide +kernel
theorem dX9_wideGaps_36 : Dc KX9_wideGaps 36 (.iaload) 1 := by decide +kernel
theorem dX9_wideGaps_37 : Dc KX9_wideGaps 37 (.if_icmp .ge 40) 3 := by decide +kernel
theorem dX9_wideGaps_40 : Dc KX9_wideGaps 40 (.iload_n 2) 1 := by decide +kernel
theorem dX9_wideGaps_41 : Dc KX9_wideGaps 41 (.aload_n 0) 1 := by decide +kernel
theorem dX9_wideGaps_42 : Dc KX9_wideGaps 42 (.getfield 19) 3 := by decide +kernel
theorem dX9_wideGaps_45 : Dc KX9_wideGaps 45 (.iload 4) 2 := by decide +kernel
theorem dX9_wideGaps_47 : Dc KX9_wideGaps 47 (.iaload) 1 := by decide +kernel
theorem dX9_wideGaps_48 : Dc KX9_wideGaps 48 (.aload_n 0) 1 := by decide +kernel
theorem dX9_wideGaps_49 : Dc KX9_wideGaps 49 (.getfield 19) 3 := by decide +kernel
theorem dX9_wideGaps_52 : Dc KX9_wideGaps 52 (.iload 4) 2 := by decide +kernel
theorem dX9_wideGaps_54 : Dc KX9_wideGaps 54 (.iconst 1) 1 := by decide +kernel
theorem dX9_wideGaps_55 : Dc KX9_wideGaps 55 (.isub) 1 := by decide +kernel
theorem dX9_wideGaps_56 : Dc KX9_wideGaps 56 (.iaload) 1 := by decide +kernel
theorem dX9_wideGaps_57 : Dc KX9_wideGaps 57 (.isub) 1 := by decide +kernel
theorem dX9_wideGaps_58 : Dc KX9_wideGaps 58 (.sipush 128) 3 := by decide +kernel
theorem dX9_wideGaps_61 : Dc KX9_wideGaps 61 (.if_icmp .ge 7) 3 := by decide +kernel
theorem dX9_wideGaps_64 : Dc KX9_wideGaps 64 (.iconst 0) 1 := by decide +kernel
theorem dX9_wideGaps_65 : Dc KX9_wideGaps 65 (.goto 4) 3 := by decide +kernel
theorem dX9_wideGaps_68 : Dc KX9_wideGaps 68 (.iconst 1) 1 := by decide +kernel
theorem dX9_wideGaps_69 : Dc KX9_wideGaps 69 (.iadd) 1 := by decide +kernel
theorem dX9_wideGaps_70 : Dc KX9_wideGaps 70 (.istore_n 2) 1 := by decide +kernel
theorem dX9_wideGaps_71 : Dc KX9_wideGaps 71 (.iinc 4 1) 3 := by decide +kernel
theorem dX9_wideGaps_74 : Dc KX9_wideGaps 74 (.goto (-47)) 3 := by decide +kernel
theorem dX9_wideGaps_77 : Dc KX9_wideGaps 77 (.iinc 3 1) 3 := by decide +kernel
theorem dX9_wideGaps_80 : Dc KX9_wideGaps 80 (.goto (-71)) 3 := by decide +kernel
theorem dX9_wideGaps_83 : Dc KX9_wideGaps 83 (.iload_n 2) 1 := by decide +kernel
theorem dX9_wideGaps_84 : Dc KX9_wideGaps 84 (.ireturn) 1 := by decide +kernel
theorem dX9_blockCount_0 : Dc KX9_blockCount 0 (.aload_n 0) 1 := by decide +kernel
theorem dX9_blockCount_1 : Dc KX9_blockCount 1 (.iload_n 1) 1 := by decide +kernel
theorem dX9_blockCount_2 : Dc KX9_blockCount 2 (.invokevirtual 168) 3 := by decide +kernel
theorem dX9_blockCount_5 : Dc KX9_blockCount 5 (.aload_n 0) 1 := by decide +kernel
theorem dX9_blockCount_6 : Dc KX9_blockCount 6 (.getfield 59) 3 := by decide +kernel
theorem dX9_blockCount_9 : Dc KX9_blockCount 9 (.ireturn) 1 := by decide +kernel
theorem dX9_setNow_0 : Dc KX9_setNow 0 (.iload_n 2) 1 := by decide +kernel
theorem dX9_setNow_1 : Dc KX9_setNow 1 (.tableswitch 87 0 6 #[43, 49, 55, 61, 69, 75, 81]) 43 := by decide +kernel
theorem dX9_setNow_44 : Dc KX9_setNow 44 (.aload_n 0) 1 := by decide +kernel
theorem dX9_setNow_45 : Dc KX9_setNow 45 (.iload_n 1) 1 := by decide +kernel
theorem dX9_setNow_46 : Dc KX9_setNow 46 (.invokevirtual 45) 3 := by decide +kernel
theorem dX9_setNow_49 : Dc KX9_setNow 49 (.ireturn) 1 := by decide +kernel
theorem dX9_setNow_50 : Dc KX9_setNow 50 (.aload_n 0) 1 := by decide +kernel
theorem dX9_setNow_51 : Dc KX9_setNow 51 (.iload_n 1) 1 := by decide +kernel
theorem dX9_setNow_52 : Dc KX9_setNow 52 (.invokevirtual 177) 3 := by decide +kernel
theorem dX9_setNow_55 : Dc KX9_setNow 55 (.ireturn) 1 := by decide +kernel
theorem dX9_setNow_56 : Dc KX9_setNow 56 (.aload_n 0) 1 := by decide +kernel
theorem dX9_setNow_57 : Dc KX9_setNow 57 (.iload_n 1) 1 := by decide +kernel
theorem dX9_setNow_58 : Dc KX9_setNow 58 (.invokevirtual 180) 3 := by decide +kernel
theorem dX9_setNow_61 : Dc KX9_setNow 61 (.ireturn) 1 := by decide +kernel
theorem dX9_setNow_62 : Dc KX9_setNow 62 (.iconst 2) 1 := by decide +kernel
theorem dX9_setNow_63 : Dc KX9_setNow 63 (.aload_n 0) 1 := by decide +kernel
theorem dX9_setNow_64 : Dc KX9_setNow 64 (.iload_n 1) 1 := by decide +kernel
theorem dX9_setNow_65 : Dc KX9_setNow 65 (.invokevirtual 45) 3 := by decide +kernel
theorem dX9_setNow_68 : Dc KX9_setNow 68 (.imul) 1 := by decide +kernel
theorem dX9_setNow_69 : Dc KX9_setNow 69 (.ireturn) 1 := by decide +kernel
theorem dX9_setNow_70 : Dc KX9_setNow 70 (.aload_n 0) 1 := by decide +kernel
theorem dX9_setNow_71 : Dc KX9_setNow 71 (.iload_n 1) 1 := by decide +kernel
theorem dX9_setNow_72 : Dc KX9_setNow 72 (.invokevirtual 104) 3 := by decide +kernel
theorem dX9_setNow_75 : Dc KX9_setNow 75 (.ireturn) 1 := by decide +kernel
theorem dX9_setNow_76 : Dc KX9_setNow 76 (.aload_n 0) 1 := by decide +kernel
theorem dX9_setNow_77 : Dc KX9_setNow 77 (.iload_n 1) 1 := by decide +kernel
theorem dX9_setNow_78 : Dc KX9_setNow 78 (.invokevirtual 107) 3 := by decide +kernel
theorem dX9_setNow_81 : Dc KX9_setNow 81 (.ireturn) 1 := by decide +kernel
theorem dX9_setNow_82 : Dc KX9_setNow 82 (.aload_n 0) 1 := by decide +kernel
theorem dX9_setNow_83 : Dc KX9_setNow 83 (.iload_n 1) 1 := by decide +kernel
theorem dX9_setNow_84 : Dc KX9_setNow 84 (.invokevirtual 183) 3 := by decide +kernel
theorem dX9_setNow_87 : Dc KX9_setNow 87 (.ireturn) 1 := by decide +kernel
theorem dX9_setNow_88 : Dc KX9_setNow 88 (.aload_n 0) 1 := by decide +kernel
theorem dX9_setNow_89 : Dc KX9_setNow 89 (.iload_n 1) 1 := by decide +kernel
theorem dX9_setNow_90 : Dc KX9_setNow 90 (.invokevirtual 186) 3 := by decide +kernel
theorem dX9_setNow_93 : Dc KX9_setNow 93 (.ireturn) 1 := by decide +kernel
theorem dX9_of_0 : Dc KX9_of 0 (.aload_n 0) 1 := by decide +kernel
theorem dX9_of_1 : Dc KX9_of 1 (.iload_n 1) 1 := by decide +kernel
theorem dX9_of_2 : Dc KX9_of 2 (.invokestatic 81) 3 := by decide +kernel
theorem dX9_of_5 : Dc KX9_of 5 (.ifCond .ne 7) 3 := by decide +kernel
theorem dX9_of_8 : Dc KX9_of 8 (.iconst 1) 1 := by decide +kernel
theorem dX9_of_9 : Dc KX9_of 9 (.goto 18) 3 := by decide +kernel
theorem dX9_of_12 : Dc KX9_of 12 (.iload_n 2) 1 := by decide +kernel
theorem dX9_of_13 : Dc KX9_of 13 (.iconst 0) 1 := by decide +kernel
theorem dX9_of_14 : Dc KX9_of 14 (.bipush 7) 2 := by decide +kernel
theorem dX9_of_16 : Dc KX9_of 16 (.invokestatic 41) 3 := by decide +kernel
theorem dX9_of_19 : Dc KX9_of 19 (.ifCond .eq 7) 3 := by decide +kernel
theorem dX9_of_22 : Dc KX9_of 22 (.iconst 0) 1 := by decide +kernel
theorem dX9_of_23 : Dc KX9_of 23 (.goto 4) 3 := by decide +kernel
theorem dX9_of_26 : Dc KX9_of 26 (.iconst 2) 1 := by decide +kernel
theorem dX9_of_27 : Dc KX9_of 27 (.putfield 34) 3 := by decide +kernel
theorem dX9_of_30 : Dc KX9_of 30 (.aload_n 0) 1 := by decide +kernel
theorem dX9_of_31 : Dc KX9_of 31 (.getfield 34) 3 := by decide +kernel
theorem dX9_of_34 : Dc KX9_of 34 (.ifCond .le 7) 3 := by decide +kernel
theorem dX9_of_37 : Dc KX9_of 37 (.iconst 0) 1 := by decide +kernel
theorem dX9_of_38 : Dc KX9_of 38 (.goto 9) 3 := by decide +kernel
theorem dX9_of_41 : Dc KX9_of 41 (.aload_n 0) 1 := by decide +kernel
theorem dX9_of_42 : Dc KX9_of 42 (.iload_n 1) 1 := by decide +kernel
theorem dX9_of_43 : Dc KX9_of 43 (.iload_n 2) 1 := by decide +kernel
theorem dX9_of_44 : Dc KX9_of 44 (.invokevirtual 189) 3 := by decide +kernel
theorem dX9_of_47 : Dc KX9_of 47 (.ireturn) 1 := by decide +kernel
theorem dX9_leap_0 : Dc KX9_leap 0 (.aload_n 0) 1 := by decide +kernel
theorem dX9_leap_1 : Dc KX9_leap 1 (.getfield 31) 3 := by decide +kernel
theorem dX9_leap_4 : Dc KX9_leap 4 (.iconst 1) 1 := by decide +kernel
theorem dX9_leap_5 : Dc KX9_leap 5 (.iload_n 2) 1 := by decide +kernel
theorem dX9_leap_6 : Dc KX9_leap 6 (.iadd) 1 := by decide +kernel
theorem dX9_leap_7 : Dc KX9_leap 7 (.dup2) 1 := by decide +kernel
theorem dX9_leap_8 : Dc KX9_leap 8 (.iaload) 1 := by decide +kernel
theorem dX9_leap_9 : Dc KX9_leap 9 (.iconst 1) 1 := by decide +kernel
theorem dX9_leap_10 : Dc KX9_leap 10 (.iadd) 1 := by decide +kernel
theorem dX9_leap_11 : Dc KX9_leap 11 (.iastore) 1 := by decide +kernel
theorem dX9_leap_12 : Dc KX9_leap 12 (.aload_n 0) 1 := by decide +kernel
theorem dX9_leap_13 : Dc KX9_leap 13 (.iload_n 1) 1 := by decide +kernel
theorem dX9_leap_14 : Dc KX9_leap 14 (.invokevirtual 168) 3 := by decide +kernel
theorem dX9_leap_17 : Dc KX9_leap 17 (.aload_n 0) 1 := by decide +kernel
theorem dX9_leap_18 : Dc KX9_leap 18 (.getfield 59) 3 := by decide +kernel
theorem dX9_leap_21 : Dc KX9_leap 21 (.ifCond .ne 5) 3 := by decide +kernel
theorem dX9_leap_24 : Dc KX9_leap 24 (.iconst (-1)) 1 := by decide +kernel
theorem dX9_leap_25 : Dc KX9_leap 25 (.ireturn) 1 := by decide +kernel
theorem dX9_leap_26 : Dc KX9_leap 26 (.aload_n 0) 1 := by decide +kernel
theorem dX9_leap_27 : Dc KX9_leap 27 (.getfield 28) 3 := by decide +kernel
theorem dX9_leap_30 : Dc KX9_leap 30 (.iload_n 2) 1 := by decide +kernel
theorem dX9_leap_31 : Dc KX9_leap 31 (.iaload) 1 := by decide +kernel
theorem dX9_leap_32 : Dc KX9_leap 32 (.istore 4) 2 := by decide +kernel
theorem dX9_leap_34 : Dc KX9_leap 34 (.iconst 1) 1 := by decide +kernel
theorem dX9_leap_35 : Dc KX9_leap 35 (.istore 5) 2 := by decide +kernel
theorem dX9_leap_37 : Dc KX9_leap 37 (.iload 5) 2 := by decide +kernel
theorem dX9_leap_39 : Dc KX9_leap 39 (.ifCond .eq 67) 3 := by decide +kernel
theorem dX9_leap_42 : Dc KX9_leap 42 (.iload 4) 2 := by decide +kernel
theorem dX9_leap_44 : Dc KX9_leap 44 (.iconst 1) 1 := by decide +kernel
theorem dX9_leap_45 : Dc KX9_leap 45 (.iadd) 1 := by decide +kernel
theorem dX9_leap_46 : Dc KX9_leap 46 (.aload_n 0) 1 := by decide +kernel
theorem dX9_leap_47 : Dc KX9_leap 47 (.getfield 59) 3 := by decide +kernel
theorem dX9_leap_50 : Dc KX9_leap 50 (.if_icmp .ge 56) 3 := by decide +kernel
theorem dX9_leap_53 : Dc KX9_leap 53 (.aload_n 0) 1 := by decide +kernel
theorem dX9_leap_54 : Dc KX9_leap 54 (.getfield 31) 3 := by decide +kernel
theorem dX9_leap_57 : Dc KX9_leap 57 (.iconst 3) 1 := by decide +kernel
theorem dX9_leap_58 : Dc KX9_leap 58 (.dup2) 1 := by decide +kernel
theorem dX9_leap_59 : Dc KX9_leap 59 (.iaload) 1 := by decide +kernel
theorem dX9_leap_60 : Dc KX9_leap 60 (.iconst 1) 1 := by decide +kernel
theorem dX9_leap_61 : Dc KX9_leap 61 (.iadd) 1 := by decide +kernel
theorem dX9_leap_62 : Dc KX9_leap 62 (.iastore) 1 := by decide +kernel
theorem dX9_leap_63 : Dc KX9_leap 63 (.aload_n 0) 1 := by decide +kernel
theorem dX9_leap_64 : Dc KX9_leap 64 (.getfield 19) 3 := by decide +kernel
theorem dX9_leap_67 : Dc KX9_leap 67 (.aload_n 0) 1 := by decide +kernel
theorem dX9_leap_68 : Dc KX9_leap 68 (.getfield 22) 3 := by decide +kernel
theorem dX9_leap_71 : Dc KX9_leap 71 (.iload 4) 2 := by decide +kernel
theorem dX9_leap_73 : Dc KX9_leap 73 (.iconst 1) 1 := by decide +kernel
theorem dX9_leap_74 : Dc KX9_leap 74 (.iadd) 1 := by decide +kernel
theorem dX9_leap_75 : Dc KX9_leap 75 (.iaload) 1 := by decide +kernel
theorem dX9_leap_76 : Dc KX9_leap 76 (.iaload) 1 := by decide +kernel
theorem dX9_leap_77 : Dc KX9_leap 77 (.iload_n 3) 1 := by decide +kernel
theorem dX9_leap_78 : Dc KX9_leap 78 (.if_icmp .gt 7) 3 := by decide +kernel
theorem dX9_leap_81 : Dc KX9_leap 81 (.iconst 1) 1 := by decide +kernel
theorem dX9_leap_82 : Dc KX9_leap 82 (.goto 4) 3 := by decide +kernel
theorem dX9_leap_85 : Dc KX9_leap 85 (.iconst 0) 1 := by decide +kernel
theorem dX9_leap_86 : Dc KX9_leap 86 (.istore 5) 2 := by decide +kernel
theorem dX9_leap_88 : Dc KX9_leap 88 (.iload 4) 2 := by decide +kernel
theorem dX9_leap_90 : Dc KX9_leap 90 (.iload 5) 2 := by decide +kernel
theorem dX9_leap_92 : Dc KX9_leap 92 (.ifCond .eq 7) 3 := by decide +kernel
theorem dX9_leap_95 : Dc KX9_leap 95 (.iconst 1) 1 := by decide +kernel
theorem dX9_leap_96 : Dc KX9_leap 96 (.goto 4) 3 := by decide +kernel
theorem dX9_leap_99 : Dc KX9_leap 99 (.iconst 0) 1 := by decide +kernel
theorem dX9_leap_100 : Dc KX9_leap 100 (.iadd) 1 := by decide +kernel
theorem dX9_leap_101 : Dc KX9_leap 101 (.istore 4) 2 := by decide +kernel
theorem dX9_leap_103 : Dc KX9_leap 103 (.goto (-66)) 3 := by decide +kernel
theorem dX9_leap_106 : Dc KX9_leap 106 (.aload_n 0) 1 := by decide +kernel
theorem dX9_leap_107 : Dc KX9_leap 107 (.getfield 22) 3 := by decide +kernel
theorem dX9_leap_110 : Dc KX9_leap 110 (.iload 4) 2 := by decide +kernel
theorem dX9_leap_112 : Dc KX9_leap 112 (.iaload) 1 := by decide +kernel
theorem dX9_leap_113 : Dc KX9_leap 113 (.istore 6) 2 := by decide +kernel
theorem dX9_leap_115 : Dc KX9_leap 115 (.iload 6) 2 := by decide +kernel
theorem dX9_leap_117 : Dc KX9_leap 117 (.aload_n 0) 1 := by decide +kernel
theorem dX9_leap_118 : Dc KX9_leap 118 (.getfield 22) 3 := by decide +kernel
theorem dX9_leap_121 : Dc KX9_leap 121 (.iload 4) 2 := by decide +kernel
theorem dX9_leap_123 : Dc KX9_leap 123 (.iconst 1) 1 := by decide +kernel
theorem dX9_leap_124 : Dc KX9_leap 124 (.iadd) 1 := by decide +kernel
theorem dX9_leap_125 : Dc KX9_leap 125 (.iaload) 1 := by decide +kernel
theorem dX9_leap_126 : Dc KX9_leap 126 (.if_icmp .ge 41) 3 := by decide +kernel
theorem dX9_leap_129 : Dc KX9_leap 129 (.aload_n 0) 1 := by decide +kernel
theorem dX9_leap_130 : Dc KX9_leap 130 (.getfield 31) 3 := by decide +kernel
theorem dX9_leap_133 : Dc KX9_leap 133 (.iconst 3) 1 := by decide +kernel
theorem dX9_leap_134 : Dc KX9_leap 134 (.dup2) 1 := by decide +kernel
theorem dX9_leap_135 : Dc KX9_leap 135 (.iaload) 1 := by decide +kernel
theorem dX9_leap_136 : Dc KX9_leap 136 (.iconst 1) 1 := by decide +kernel
theorem dX9_leap_137 : Dc KX9_leap 137 (.iadd) 1 := by decide +kernel
theorem dX9_leap_138 : Dc KX9_leap 138 (.iastore) 1 := by decide +kernel
theorem dX9_leap_139 : Dc KX9_leap 139 (.aload_n 0) 1 := by decide +kernel
theorem dX9_leap_140 : Dc KX9_leap 140 (.getfield 19) 3 := by decide +kernel
theorem dX9_leap_143 : Dc KX9_leap 143 (.iload 6) 2 := by decide +kernel
theorem dX9_leap_145 : Dc KX9_leap 145 (.iaload) 1 := by decide +kernel
theorem dX9_leap_146 : Dc KX9_leap 146 (.iload_n 3) 1 := by decide +kernel
theorem dX9_leap_147 : Dc KX9_leap 147 (.if_icmp .lt 14) 3 := by decide +kernel
theorem dX9_leap_150 : Dc KX9_leap 150 (.aload_n 0) 1 := by decide +kernel
theorem dX9_leap_151 : Dc KX9_leap 151 (.getfield 28) 3 := by decide +kernel
theorem dX9_leap_154 : Dc KX9_leap 154 (.iload_n 2) 1 := by decide +kernel
theorem dX9_leap_155 : Dc KX9_leap 155 (.iload 4) 2 := by decide +kernel
theorem dX9_leap_157 : Dc KX9_leap 157 (.iastore) 1 := by decide +kernel
theorem dX9_leap_158 : Dc KX9_leap 158 (.iload 6) 2 := by decide +kernel
theorem dX9_leap_160 : Dc KX9_leap 160 (.ireturn) 1 := by decide +kernel
theorem dX9_leap_161 : Dc KX9_leap 161 (.iinc 6 1) 3 := by decide +kernel
theorem dX9_leap_164 : Dc KX9_leap 164 (.goto (-49)) 3 := by decide +kernel
theorem dX9_leap_167 : Dc KX9_leap 167 (.iload 4) 2 := by decide +kernel
theorem dX9_leap_169 : Dc KX9_leap 169 (.iconst 1) 1 := by decide +kernel
theorem dX9_leap_170 : Dc KX9_leap 170 (.iadd) 1 := by decide +kernel
theorem dX9_leap_171 : Dc KX9_leap 171 (.aload_n 0) 1 := by decide +kernel
theorem dX9_leap_172 : Dc KX9_leap 172 (.getfield 59) 3 := by decide +kernel
theorem dX9_leap_175 : Dc KX9_leap 175 (.if_icmp .ne 5) 3 := by decide +kernel
theorem dX9_leap_178 : Dc KX9_leap 178 (.iconst (-1)) 1 := by decide +kernel
theorem dX9_leap_179 : Dc KX9_leap 179 (.ireturn) 1 := by decide +kernel
theorem dX9_leap_180 : Dc KX9_leap 180 (.aload_n 0) 1 := by decide +kernel
theorem dX9_leap_181 : Dc KX9_leap 181 (.getfield 31) 3 := by decide +kernel
theorem dX9_leap_184 : Dc KX9_leap 184 (.iconst 3) 1 := by decide +kernel
theorem dX9_leap_185 : Dc KX9_leap 185 (.dup2) 1 := by decide +kernel
theorem dX9_leap_186 : Dc KX9_leap 186 (.iaload) 1 := by decide +kernel
theorem dX9_leap_187 : Dc KX9_leap 187 (.iconst 1) 1 := by decide +kernel
theorem dX9_leap_188 : Dc KX9_leap 188 (.iadd) 1 := by decide +kernel
theorem dX9_leap_189 : Dc KX9_leap 189 (.iastore) 1 := by decide +kernel
theorem dX9_leap_190 : Dc KX9_leap 190 (.aload_n 0) 1 := by decide +kernel
theorem dX9_leap_191 : Dc KX9_leap 191 (.getfield 28) 3 := by decide +kernel
theorem dX9_leap_194 : Dc KX9_leap 194 (.iload_n 2) 1 := by decide +kernel
theorem dX9_leap_195 : Dc KX9_leap 195 (.iload 4) 2 := by decide +kernel
theorem dX9_leap_197 : Dc KX9_leap 197 (.iconst 1) 1 := by decide +kernel
theorem dX9_leap_198 : Dc KX9_leap 198 (.iadd) 1 := by decide +kernel
theorem dX9_leap_199 : Dc KX9_leap 199 (.iastore) 1 := by decide +kernel
theorem dX9_leap_200 : Dc KX9_leap 200 (.aload_n 0) 1 := by decide +kernel
theorem dX9_leap_201 : Dc KX9_leap 201 (.getfield 22) 3 := by decide +kernel
theorem dX9_leap_204 : Dc KX9_leap 204 (.iload 4) 2 := by decide +kernel
theorem dX9_leap_206 : Dc KX9_leap 206 (.iconst 1) 1 := by decide +kernel
theorem dX9_leap_207 : Dc KX9_leap 207 (.iadd) 1 := by decide +kernel
theorem dX9_leap_208 : Dc KX9_leap 208 (.iaload) 1 := by decide +kernel
theorem dX9_leap_209 : Dc KX9_leap 209 (.ireturn) 1 := by decide +kernel
theorem dX9_blockWith_0 : Dc KX9_blockWith 0 (.aload_n 0) 1 := by decide +kernel
theorem dX9_blockWith_1 : Dc KX9_blockWith 1 (.iload_n 1) 1 := by decide +kernel
theorem dX9_blockWith_2 : Dc KX9_blockWith 2 (.invokevirtual 168) 3 := by decide +kernel
theorem dX9_blockWith_5 : Dc KX9_blockWith 5 (.iconst 0) 1 := by decide +kernel
theorem dX9_blockWith_6 : Dc KX9_blockWith 6 (.istore_n 3) 1 := by decide +kernel
theorem dX9_blockWith_7 : Dc KX9_blockWith 7 (.aload_n 0) 1 := by decide +kernel
theorem dX9_blockWith_8 : Dc KX9_blockWith 8 (.getfield 22) 3 := by decide +kernel
theorem dX9_blockWith_11 : Dc KX9_blockWith 11 (.iload_n 3) 1 := by decide +kernel
theorem dX9_blockWith_12 : Dc KX9_blockWith 12 (.iconst 1) 1 := by decide +kernel
theorem dX9_blockWith_13 : Dc KX9_blockWith 13 (.iadd) 1 := by decide +kernel
theorem dX9_blockWith_14 : Dc KX9_blockWith 14 (.iaload) 1 := by decide +kernel
theorem dX9_blockWith_15 : Dc KX9_blockWith 15 (.iload_n 2) 1 := by decide +kernel
theorem dX9_blockWith_16 : Dc KX9_blockWith 16 (.if_icmp .gt 9) 3 := by decide +kernel
theorem dX9_blockWith_19 : Dc KX9_blockWith 19 (.iinc 3 1) 3 := by decide +kernel
theorem dX9_blockWith_22 : Dc KX9_blockWith 22 (.goto (-15)) 3 := by decide +kernel
theorem dX9_blockWith_25 : Dc KX9_blockWith 25 (.iload_n 3) 1 := by decide +kernel
theorem dX9_blockWith_26 : Dc KX9_blockWith 26 (.ireturn) 1 := by decide +kernel
theorem dX9_goThrough_0 : Dc KX9_goThrough 0 (.iconst 0) 1 := by decide +kernel
theorem dX9_goThrough_1 : Dc KX9_goThrough 1 (.istore_n 3) 1 := by decide +kernel
theorem dX9_goThrough_2 : Dc KX9_goThrough 2 (.iload_n 3) 1 := by decide +kernel
theorem dX9_goThrough_3 : Dc KX9_goThrough 3 (.iconst 4) 1 := by decide +kernel
theorem dX9_goThrough_4 : Dc KX9_goThrough 4 (.if_icmp .ge 16) 3 := by decide +kernel
theorem dX9_goThrough_7 : Dc KX9_goThrough 7 (.aload_n 0) 1 := by decide +kernel
theorem dX9_goThrough_8 : Dc KX9_goThrough 8 (.getfield 31) 3 := by decide +kernel
theorem dX9_goThrough_11 : Dc KX9_goThrough 11 (.iload_n 3) 1 := by decide +kernel
theorem dX9_goThrough_12 : Dc KX9_goThrough 12 (.iconst 0) 1 := by decide +kernel
theorem dX9_goThrough_13 : Dc KX9_goThrough 13 (.iastore) 1 := by decide +kernel
theorem dX9_goThrough_14 : Dc KX9_goThrough 14 (.iinc 3 1) 3 := by decide +kernel
theorem dX9_goThrough_17 : Dc KX9_goThrough 17 (.goto (-15)) 3 := by decide +kernel
theorem dX9_goThrough_20 : Dc KX9_goThrough 20 (.aload_n 0) 1 := by decide +kernel
theorem dX9_goThrough_21 : Dc KX9_goThrough 21 (.getfield 28) 3 := by decide +kernel
theorem dX9_goThrough_24 : Dc KX9_goThrough 24 (.iconst 0) 1 := by decide +kernel
theorem dX9_goThrough_25 : Dc KX9_goThrough 25 (.iconst 0) 1 := by decide +kernel
theorem dX9_goThrough_26 : Dc KX9_goThrough 26 (.iastore) 1 := by decide +kernel
theorem dX9_goThrough_27 : Dc KX9_goThrough 27 (.aload_n 0) 1 := by decide +kernel
theorem dX9_goThrough_28 : Dc KX9_goThrough 28 (.getfield 28) 3 := by decide +kernel
theorem dX9_goThrough_31 : Dc KX9_goThrough 31 (.iconst 1) 1 := by decide +kernel
theorem dX9_goThrough_32 : Dc KX9_goThrough 32 (.iconst 0) 1 := by decide +kernel
theorem dX9_goThrough_33 : Dc KX9_goThrough 33 (.iastore) 1 := by decide +kernel
theorem dX9_goThrough_34 : Dc KX9_goThrough 34 (.aload_n 0) 1 := by decide +kernel
theorem dX9_goThrough_35 : Dc KX9_goThrough 35 (.iload_n 1) 1 := by decide +kernel
theorem dX9_goThrough_36 : Dc KX9_goThrough 36 (.invokevirtual 45) 3 := by decide +kernel
theorem dX9_goThrough_39 : Dc KX9_goThrough 39 (.ifCond .ne 7) 3 := by decide +kernel
theorem dX9_goThrough_42 : Dc KX9_goThrough 42 (.iconst (-1)) 1 := by decide +kernel
theorem dX9_goThrough_43 : Dc KX9_goThrough 43 (.goto 4) 3 := by decide +kernel
theorem dX9_goThrough_46 : Dc KX9_goThrough 46 (.iconst 0) 1 := by decide +kernel
theorem dX9_goThrough_47 : Dc KX9_goThrough 47 (.istore_n 3) 1 := by decide +kernel
theorem dX9_goThrough_48 : Dc KX9_goThrough 48 (.iload_n 3) 1 := by decide +kernel
theorem dX9_goThrough_49 : Dc KX9_goThrough 49 (.iconst (-1)) 1 := by decide +kernel
theorem dX9_goThrough_50 : Dc KX9_goThrough 50 (.if_icmp .eq 105) 3 := by decide +kernel
theorem dX9_goThrough_53 : Dc KX9_goThrough 53 (.aload_n 0) 1 := by decide +kernel
theorem dX9_goThrough_54 : Dc KX9_goThrough 54 (.iload_n 1) 1 := by decide +kernel
theorem dX9_goThrough_55 : Dc KX9_goThrough 55 (.iload_n 3) 1 := by decide +kernel
theorem dX9_goThrough_56 : Dc KX9_goThrough 56 (.invokevirtual 49) 3 := by decide +kernel
theorem dX9_goThrough_59 : Dc KX9_goThrough 59 (.istore 4) 2 := by decide +kernel
theorem dX9_goThrough_61 : Dc KX9_goThrough 61 (.aload_n 0) 1 := by decide +kernel
theorem dX9_goThrough_62 : Dc KX9_goThrough 62 (.iload_n 2) 1 := by decide +kernel
theorem dX9_goThrough_63 : Dc KX9_goThrough 63 (.iconst 1) 1 := by decide +kernel
theorem dX9_goThrough_64 : Dc KX9_goThrough 64 (.iload 4) 2 := by decide +kernel
theorem dX9_goThrough_66 : Dc KX9_goThrough 66 (.invokevirtual 192) 3 := by decide +kernel
theorem dX9_goThrough_69 : Dc KX9_goThrough 69 (.istore 5) 2 := by decide +kernel
theorem dX9_goThrough_71 : Dc KX9_goThrough 71 (.iload 5) 2 := by decide +kernel
theorem dX9_goThrough_73 : Dc KX9_goThrough 73 (.iconst (-1)) 1 := by decide +kernel
theorem dX9_goThrough_74 : Dc KX9_goThrough 74 (.if_icmp .ne 8) 3 := by decide +kernel
theorem dX9_goThrough_77 : Dc KX9_goThrough 77 (.iconst (-1)) 1 := by decide +kernel
theorem dX9_goThrough_78 : Dc KX9_goThrough 78 (.istore_n 3) 1 := by decide +kernel
theorem dX9_goThrough_79 : Dc KX9_goThrough 79 (.goto 73) 3 := by decide +kernel
theorem dX9_goThrough_82 : Dc KX9_goThrough 82 (.aload_n 0) 1 := by decide +kernel
theorem dX9_goThrough_83 : Dc KX9_goThrough 83 (.iload_n 2) 1 := by decide +kernel
theorem dX9_goThrough_84 : Dc KX9_goThrough 84 (.iload 5) 2 := by decide +kernel
theorem dX9_goThrough_86 : Dc KX9_goThrough 86 (.invokevirtual 49) 3 := by decide +kernel
theorem dX9_goThrough_89 : Dc KX9_goThrough 89 (.iload 4) 2 := by decide +kernel
theorem dX9_goThrough_91 : Dc KX9_goThrough 91 (.if_icmp .ne 35) 3 := by decide +kernel
theorem dX9_goThrough_94 : Dc KX9_goThrough 94 (.aload_n 0) 1 := by decide +kernel
theorem dX9_goThrough_95 : Dc KX9_goThrough 95 (.getfield 31) 3 := by decide +kernel
theorem dX9_goThrough_98 : Dc KX9_goThrough 98 (.iconst 0) 1 := by decide +kernel
theorem dX9_goThrough_99 : Dc KX9_goThrough 99 (.dup2) 1 := by decide +kernel
theorem dX9_goThrough_100 : Dc KX9_goThrough 100 (.iaload) 1 := by decide +kernel
theorem dX9_goThrough_101 : Dc KX9_goThrough 101 (.iconst 1) 1 := by decide +kernel
theorem dX9_goThrough_102 : Dc KX9_goThrough 102 (.iadd) 1 := by decide +kernel
theorem dX9_goThrough_103 : Dc KX9_goThrough 103 (.iastore) 1 := by decide +kernel
theorem dX9_goThrough_104 : Dc KX9_goThrough 104 (.iload_n 3) 1 := by decide +kernel
theorem dX9_goThrough_105 : Dc KX9_goThrough 105 (.iconst 1) 1 := by decide +kernel
theorem dX9_goThrough_106 : Dc KX9_goThrough 106 (.iadd) 1 := by decide +kernel
theorem dX9_goThrough_107 : Dc KX9_goThrough 107 (.aload_n 0) 1 := by decide +kernel
theorem dX9_goThrough_108 : Dc KX9_goThrough 108 (.iload_n 1) 1 := by decide +kernel
theorem dX9_goThrough_109 : Dc KX9_goThrough 109 (.invokevirtual 45) 3 := by decide +kernel
theorem dX9_goThrough_112 : Dc KX9_goThrough 112 (.if_icmp .ge 9) 3 := by decide +kernel
theorem dX9_goThrough_115 : Dc KX9_goThrough 115 (.iload_n 3) 1 := by decide +kernel
theorem dX9_goThrough_116 : Dc KX9_goThrough 116 (.iconst 1) 1 := by decide +kernel
theorem dX9_goThrough_117 : Dc KX9_goThrough 117 (.iadd) 1 := by decide +kernel
theorem dX9_goThrough_118 : Dc KX9_goThrough 118 (.goto 4) 3 := by decide +kernel
theorem dX9_goThrough_121 : Dc KX9_goThrough 121 (.iconst (-1)) 1 := by decide +kernel
theorem dX9_goThrough_122 : Dc KX9_goThrough 122 (.istore_n 3) 1 := by decide +kernel
theorem dX9_goThrough_123 : Dc KX9_goThrough 123 (.goto 29) 3 := by decide +kernel
theorem dX9_goThrough_126 : Dc KX9_goThrough 126 (.aload_n 0) 1 := by decide +kernel
theorem dX9_goThrough_127 : Dc KX9_goThrough 127 (.getfield 28) 3 := by decide +kernel
theorem dX9_goThrough_130 : Dc KX9_goThrough 130 (.iconst 0) 1 := by decide +kernel
theorem dX9_goThrough_131 : Dc KX9_goThrough 131 (.aload_n 0) 1 := by decide +kernel
theorem dX9_goThrough_132 : Dc KX9_goThrough 132 (.iload_n 1) 1 := by decide +kernel
theorem dX9_goThrough_133 : Dc KX9_goThrough 133 (.iload_n 3) 1 := by decide +kernel
theorem dX9_goThrough_134 : Dc KX9_goThrough 134 (.invokevirtual 195) 3 := by decide +kernel
theorem dX9_goThrough_137 : Dc KX9_goThrough 137 (.iastore) 1 := by decide +kernel
theorem dX9_goThrough_138 : Dc KX9_goThrough 138 (.aload_n 0) 1 := by decide +kernel
theorem dX9_goThrough_139 : Dc KX9_goThrough 139 (.iload_n 1) 1 := by decide +kernel
theorem dX9_goThrough_140 : Dc KX9_goThrough 140 (.iconst 0) 1 := by decide +kernel
theorem dX9_goThrough_141 : Dc KX9_goThrough 141 (.aload_n 0) 1 := by decide +kernel
theorem dX9_goThrough_142 : Dc KX9_goThrough 142 (.iload_n 2) 1 := by decide +kernel
theorem dX9_goThrough_143 : Dc KX9_goThrough 143 (.iload 5) 2 := by decide +kernel
theorem dX9_goThrough_145 : Dc KX9_goThrough 145 (.invokevirtual 49) 3 := by decide +kernel
theorem dX9_goThrough_148 : Dc KX9_goThrough 148 (.invokevirtual 192) 3 := by decide +kernel
theorem dX9_goThrough_151 : Dc KX9_goThrough 151 (.istore_n 3) 1 := by decide +kernel
theorem dX9_goThrough_152 : Dc KX9_goThrough 152 (.goto (-104)) 3 := by decide +kernel
theorem dX9_goThrough_155 : Dc KX9_goThrough 155 (.return_) 1 := by decide +kernel
theorem dX9_leapsNow_0 : Dc KX9_leapsNow 0 (.aload_n 0) 1 := by decide +kernel
theorem dX9_leapsNow_1 : Dc KX9_leapsNow 1 (.iload_n 1) 1 := by decide +kernel
theorem dX9_leapsNow_2 : Dc KX9_leapsNow 2 (.iload_n 2) 1 := by decide +kernel
theorem dX9_leapsNow_3 : Dc KX9_leapsNow 3 (.invokevirtual 198) 3 := by decide +kernel
theorem dX9_leapsNow_6 : Dc KX9_leapsNow 6 (.aload_n 0) 1 := by decide +kernel
theorem dX9_leapsNow_7 : Dc KX9_leapsNow 7 (.getfield 31) 3 := by decide +kernel
theorem dX9_leapsNow_10 : Dc KX9_leapsNow 10 (.iload_n 3) 1 := by decide +kernel
theorem dX9_leapsNow_11 : Dc KX9_leapsNow 11 (.iaload) 1 := by decide +kernel
theorem dX9_leapsNow_12 : Dc KX9_leapsNow 12 (.ireturn) 1 := by decide +kernel
theorem dX9_leaps_0 : Dc KX9_leaps 0 (.aload_n 0) 1 := by decide +kernel
theorem dX9_leaps_1 : Dc KX9_leaps 1 (.iload_n 1) 1 := by decide +kernel
theorem dX9_leaps_2 : Dc KX9_leaps 2 (.invokestatic 81) 3 := by decide +kernel
theorem dX9_leaps_5 : Dc KX9_leaps 5 (.ifCond .eq 10) 3 := by decide +kernel
theorem dX9_leaps_8 : Dc KX9_leaps 8 (.iload_n 2) 1 := by decide +kernel
theorem dX9_leaps_9 : Dc KX9_leaps 9 (.invokestatic 81) 3 := by decide +kernel
theorem dX9_leaps_12 : Dc KX9_leaps 12 (.ifCond .ne 7) 3 := by decide +kernel
theorem dX9_leaps_15 : Dc KX9_leaps 15 (.iconst 1) 1 := by decide +kernel
theorem dX9_leaps_16 : Dc KX9_leaps 16 (.goto 17) 3 := by decide +kernel
theorem dX9_leaps_19 : Dc KX9_leaps 19 (.iload_n 3) 1 := by decide +kernel
theorem dX9_leaps_20 : Dc KX9_leaps 20 (.iconst 0) 1 := by decide +kernel
theorem dX9_leaps_21 : Dc KX9_leaps 21 (.iconst 3) 1 := by decide +kernel
theorem dX9_leaps_22 : Dc KX9_leaps 22 (.invokestatic 41) 3 := by decide +kernel
theorem dX9_leaps_25 : Dc KX9_leaps 25 (.ifCond .eq 7) 3 := by decide +kernel
theorem dX9_leaps_28 : Dc KX9_leaps 28 (.iconst 0) 1 := by decide +kernel
theorem dX9_leaps_29 : Dc KX9_leaps 29 (.goto 4) 3 := by decide +kernel
theorem dX9_leaps_32 : Dc KX9_leaps 32 (.iconst 2) 1 := by decide +kernel
theorem dX9_leaps_33 : Dc KX9_leaps 33 (.putfield 34) 3 := by decide +kernel
theorem dX9_leaps_36 : Dc KX9_leaps 36 (.aload_n 0) 1 := by decide +kernel
theorem dX9_leaps_37 : Dc KX9_leaps 37 (.getfield 34) 3 := by decide +kernel
theorem dX9_leaps_40 : Dc KX9_leaps 40 (.ifCond .le 7) 3 := by decide +kernel
theorem dX9_leaps_43 : Dc KX9_leaps 43 (.iconst 0) 1 := by decide +kernel
theorem dX9_leaps_44 : Dc KX9_leaps 44 (.goto 10) 3 := by decide +kernel
theorem dX9_leaps_47 : Dc KX9_leaps 47 (.aload_n 0) 1 := by decide +kernel
theorem dX9_leaps_48 : Dc KX9_leaps 48 (.iload_n 1) 1 := by decide +kernel
theorem dX9_leaps_49 : Dc KX9_leaps 49 (.iload_n 2) 1 := by decide +kernel
theorem dX9_leaps_50 : Dc KX9_leaps 50 (.iload_n 3) 1 := by decide +kernel
theorem dX9_leaps_51 : Dc KX9_leaps 51 (.invokevirtual 201) 3 := by decide +kernel
theorem dX9_leaps_54 : Dc KX9_leaps 54 (.ireturn) 1 := by decide +kernel
theorem dX9_setsWith_0 : Dc KX9_setsWith 0 (.iconst 0) 1 := by decide +kernel
theorem dX9_setsWith_1 : Dc KX9_setsWith 1 (.istore_n 3) 1 := by decide +kernel
theorem dX9_setsWith_2 : Dc KX9_setsWith 2 (.iconst 0) 1 := by decide +kernel
theorem dX9_setsWith_3 : Dc KX9_setsWith 3 (.istore 4) 2 := by decide +kernel
theorem dX9_setsWith_5 : Dc KX9_setsWith 5 (.iload 4) 2 := by decide +kernel
theorem dX9_setsWith_7 : Dc KX9_setsWith 7 (.iload_n 2) 1 := by decide +kernel
theorem dX9_setsWith_8 : Dc KX9_setsWith 8 (.if_icmp .ge 27) 3 := by decide +kernel
theorem dX9_setsWith_11 : Dc KX9_setsWith 11 (.iload_n 3) 1 := by decide +kernel
theorem dX9_setsWith_12 : Dc KX9_setsWith 12 (.aload_n 0) 1 := by decide +kernel
theorem dX9_setsWith_13 : Dc KX9_setsWith 13 (.iload 4) 2 := by decide +kernel
theorem dX9_setsWith_15 : Dc KX9_setsWith 15 (.iload_n 1) 1 := by decide +kernel
theorem dX9_setsWith_16 : Dc KX9_setsWith 16 (.invokevirtual 88) 3 := by decide +kernel
theorem dX9_setsWith_19 : Dc KX9_setsWith 19 (.ifCond .eq 7) 3 := by decide +kernel
theorem dX9_setsWith_22 : Dc KX9_setsWith 22 (.iconst 1) 1 := by decide +kernel
theorem dX9_setsWith_23 : Dc KX9_setsWith 23 (.goto 4) 3 := by decide +kernel
theorem dX9_setsWith_26 : Dc KX9_setsWith 26 (.iconst 0) 1 := by decide +kernel
theorem dX9_setsWith_27 : Dc KX9_setsWith 27 (.iadd) 1 := by decide +kernel
theorem dX9_setsWith_28 : Dc KX9_setsWith 28 (.istore_n 3) 1 := by decide +kernel
theorem dX9_setsWith_29 : Dc KX9_setsWith 29 (.iinc 4 1) 3 := by decide +kernel
theorem dX9_setsWith_32 : Dc KX9_setsWith 32 (.goto (-27)) 3 := by decide +kernel
theorem dX9_setsWith_35 : Dc KX9_setsWith 35 (.iload_n 3) 1 := by decide +kernel
theorem dX9_setsWith_36 : Dc KX9_setsWith 36 (.ireturn) 1 := by decide +kernel
theorem dX9_membersOfAll_0 : Dc KX9_membersOfAll 0 (.iconst 0) 1 := by decide +kernel
theorem dX9_membersOfAll_1 : Dc KX9_membersOfAll 1 (.istore_n 2) 1 := by decide +kernel
theorem dX9_membersOfAll_2 : Dc KX9_membersOfAll 2 (.iconst 0) 1 := by decide +kernel
theorem dX9_membersOfAll_3 : Dc KX9_membersOfAll 3 (.istore_n 3) 1 := by decide +kernel
theorem dX9_membersOfAll_4 : Dc KX9_membersOfAll 4 (.iload_n 3) 1 := by decide +kernel
theorem dX9_membersOfAll_5 : Dc KX9_membersOfAll 5 (.iconst 4) 1 := by decide +kernel
theorem dX9_membersOfAll_6 : Dc KX9_membersOfAll 6 (.if_icmp .ge 83) 3 := by decide +kernel
theorem dX9_membersOfAll_9 : Dc KX9_membersOfAll 9 (.iconst 0) 1 := by decide +kernel
theorem dX9_membersOfAll_10 : Dc KX9_membersOfAll 10 (.istore 4) 2 := by decide +kernel
theorem dX9_membersOfAll_12 : Dc KX9_membersOfAll 12 (.iload 4) 2 := by decide +kernel
theorem dX9_membersOfAll_14 : Dc KX9_membersOfAll 14 (.aload_n 0) 1 := by decide +kernel
theorem dX9_membersOfAll_15 : Dc KX9_membersOfAll 15 (.iload_n 3) 1 := by decide +kernel
theorem dX9_membersOfAll_16 : Dc KX9_membersOfAll 16 (.invokevirtual 45) 3 := by decide +kernel
theorem dX9_membersOfAll_19 : Dc KX9_membersOfAll 19 (.if_icmp .ge 64) 3 := by decide +kernel
theorem dX9_membersOfAll_22 : Dc KX9_membersOfAll 22 (.aload_n 0) 1 := by decide +kernel
theorem dX9_membersOfAll_23 : Dc KX9_membersOfAll 23 (.aload_n 0) 1 := by decide +kernel
theorem dX9_membersOfAll_24 : Dc KX9_membersOfAll 24 (.iload_n 3) 1 := by decide +kernel
theorem dX9_membersOfAll_25 : Dc KX9_membersOfAll 25 (.iload 4) 2 := by decide +kernel
theorem dX9_membersOfAll_27 : Dc KX9_membersOfAll 27 (.invokevirtual 49) 3 := by decide +kernel
theorem dX9_membersOfAll_30 : Dc KX9_membersOfAll 30 (.iload_n 3) 1 := by decide +kernel
theorem dX9_membersOfAll_31 : Dc KX9_membersOfAll 31 (.invokevirtual 204) 3 := by decide +kernel
theorem dX9_membersOfAll_34 : Dc KX9_membersOfAll 34 (.ifCond .ne 7) 3 := by decide +kernel
theorem dX9_membersOfAll_37 : Dc KX9_membersOfAll 37 (.iconst 1) 1 := by decide +kernel
theorem dX9_membersOfAll_38 : Dc KX9_membersOfAll 38 (.goto 4) 3 := by decide +kernel
theorem dX9_membersOfAll_41 : Dc KX9_membersOfAll 41 (.iconst 0) 1 := by decide +kernel
theorem dX9_membersOfAll_42 : Dc KX9_membersOfAll 42 (.istore 5) 2 := by decide +kernel
theorem dX9_membersOfAll_44 : Dc KX9_membersOfAll 44 (.iload_n 2) 1 := by decide +kernel
theorem dX9_membersOfAll_45 : Dc KX9_membersOfAll 45 (.iload 5) 2 := by decide +kernel
theorem dX9_membersOfAll_47 : Dc KX9_membersOfAll 47 (.ifCond .eq 27) 3 := by decide +kernel
theorem dX9_membersOfAll_50 : Dc KX9_membersOfAll 50 (.iload_n 1) 1 := by decide +kernel
theorem dX9_membersOfAll_51 : Dc KX9_membersOfAll 51 (.ifCond .eq 19) 3 := by decide +kernel
theorem dX9_membersOfAll_54 : Dc KX9_membersOfAll 54 (.aload_n 0) 1 := by decide +kernel
theorem dX9_membersOfAll_55 : Dc KX9_membersOfAll 55 (.aload_n 0) 1 := by decide +kernel
theorem dX9_membersOfAll_56 : Dc KX9_membersOfAll 56 (.iload_n 3) 1 := by decide +kernel
theorem dX9_membersOfAll_57 : Dc KX9_membersOfAll 57 (.iload 4) 2 := by decide +kernel
theorem dX9_membersOfAll_59 : Dc KX9_membersOfAll 59 (.invokevirtual 49) 3 := by decide +kernel
theorem dX9_membersOfAll_62 : Dc KX9_membersOfAll 62 (.iconst 4) 1 := by decide +kernel
theorem dX9_membersOfAll_63 : Dc KX9_membersOfAll 63 (.invokevirtual 204) 3 := by decide +kernel
theorem dX9_membersOfAll_66 : Dc KX9_membersOfAll 66 (.iconst 4) 1 := by decide +kernel
theorem dX9_membersOfAll_67 : Dc KX9_membersOfAll 67 (.if_icmp .ne 7) 3 := by decide +kernel
theorem dX9_membersOfAll_70 : Dc KX9_membersOfAll 70 (.iconst 1) 1 := by decide +kernel
theorem dX9_membersOfAll_71 : Dc KX9_membersOfAll 71 (.goto 4) 3 := by decide +kernel
theorem dX9_membersOfAll_74 : Dc KX9_membersOfAll 74 (.iconst 0) 1 := by decide +kernel
theorem dX9_membersOfAll_75 : Dc KX9_membersOfAll 75 (.iadd) 1 := by decide +kernel
theorem dX9_membersOfAll_76 : Dc KX9_membersOfAll 76 (.istore_n 2) 1 := by decide +kernel
theorem dX9_membersOfAll_77 : Dc KX9_membersOfAll 77 (.iinc 4 1) 3 := by decide +kernel
theorem dX9_membersOfAll_80 : Dc KX9_membersOfAll 80 (.goto (-68)) 3 := by decide +kernel
theorem dX9_membersOfAll_83 : Dc KX9_membersOfAll 83 (.iinc 3 1) 3 := by decide +kernel
theorem dX9_membersOfAll_86 : Dc KX9_membersOfAll 86 (.goto (-82)) 3 := by decide +kernel
theorem dX9_membersOfAll_89 : Dc KX9_membersOfAll 89 (.iload_n 2) 1 := by decide +kernel
theorem dX9_membersOfAll_90 : Dc KX9_membersOfAll 90 (.ireturn) 1 := by decide +kernel
theorem dX9_sumOf_0 : Dc KX9_sumOf 0 (.iconst 0) 1 := by decide +kernel
theorem dX9_sumOf_1 : Dc KX9_sumOf 1 (.istore_n 2) 1 := by decide +kernel
theorem dX9_sumOf_2 : Dc KX9_sumOf 2 (.iconst 0) 1 := by decide +kernel
theorem dX9_sumOf_3 : Dc KX9_sumOf 3 (.istore_n 3) 1 := by decide +kernel
theorem dX9_sumOf_4 : Dc KX9_sumOf 4 (.iload_n 3) 1 := by decide +kernel
theorem dX9_sumOf_5 : Dc KX9_sumOf 5 (.iconst 4) 1 := by decide +kernel
theorem dX9_sumOf_6 : Dc KX9_sumOf 6 (.if_icmp .ge 22) 3 := by decide +kernel
theorem dX9_sumOf_9 : Dc KX9_sumOf 9 (.aload_n 0) 1 := by decide +kernel
theorem dX9_sumOf_10 : Dc KX9_sumOf 10 (.iload_n 3) 1 := by decide +kernel
theorem dX9_sumOf_11 : Dc KX9_sumOf 11 (.iload_n 1) 1 := by decide +kernel
theorem dX9_sumOf_12 : Dc KX9_sumOf 12 (.invokevirtual 189) 3 := by decide +kernel
theorem dX9_sumOf_15 : Dc KX9_sumOf 15 (.istore 4) 2 := by decide +kernel
theorem dX9_sumOf_17 : Dc KX9_sumOf 17 (.iload_n 2) 1 := by decide +kernel
theorem dX9_sumOf_18 : Dc KX9_sumOf 18 (.iload 4) 2 := by decide +kernel
theorem dX9_sumOf_20 : Dc KX9_sumOf 20 (.iadd) 1 := by decide +kernel
theorem dX9_sumOf_21 : Dc KX9_sumOf 21 (.istore_n 2) 1 := by decide +kernel
theorem dX9_sumOf_22 : Dc KX9_sumOf 22 (.iinc 3 1) 3 := by decide +kernel
theorem dX9_sumOf_25 : Dc KX9_sumOf 25 (.goto (-21)) 3 := by decide +kernel
theorem dX9_sumOf_28 : Dc KX9_sumOf 28 (.iload_n 2) 1 := by decide +kernel
theorem dX9_sumOf_29 : Dc KX9_sumOf 29 (.ireturn) 1 := by decide +kernel
theorem dX9_areAlike_0 : Dc KX9_areAlike 0 (.aload_n 0) 1 := by decide +kernel
theorem dX9_areAlike_1 : Dc KX9_areAlike 1 (.iload_n 1) 1 := by decide +kernel
theorem dX9_areAlike_2 : Dc KX9_areAlike 2 (.invokevirtual 45) 3 := by decide +kernel
theorem dX9_areAlike_5 : Dc KX9_areAlike 5 (.aload_n 0) 1 := by decide +kernel
theorem dX9_areAlike_6 : Dc KX9_areAlike 6 (.iload_n 2) 1 := by decide +kernel
theorem dX9_areAlike_7 : Dc KX9_areAlike 7 (.invokevirtual 45) 3 := by decide +kernel
theorem dX9_areAlike_10 : Dc KX9_areAlike 10 (.if_icmp .ne 7) 3 := by decide +kernel
theorem dX9_areAlike_13 : Dc KX9_areAlike 13 (.iconst 1) 1 := by decide +kernel
theorem dX9_areAlike_14 : Dc KX9_areAlike 14 (.goto 4) 3 := by decide +kernel
theorem dX9_areAlike_17 : Dc KX9_areAlike 17 (.iconst 0) 1 := by decide +kernel
theorem dX9_areAlike_18 : Dc KX9_areAlike 18 (.istore_n 3) 1 := by decide +kernel
theorem dX9_areAlike_19 : Dc KX9_areAlike 19 (.iconst 0) 1 := by decide +kernel
theorem dX9_areAlike_20 : Dc KX9_areAlike 20 (.istore 4) 2 := by decide +kernel
theorem dX9_areAlike_22 : Dc KX9_areAlike 22 (.iload_n 3) 1 := by decide +kernel
theorem dX9_areAlike_23 : Dc KX9_areAlike 23 (.ifCond .eq 42) 3 := by decide +kernel
theorem dX9_areAlike_26 : Dc KX9_areAlike 26 (.iload 4) 2 := by decide +kernel
theorem dX9_areAlike_28 : Dc KX9_areAlike 28 (.aload_n 0) 1 := by decide +kernel
theorem dX9_areAlike_29 : Dc KX9_areAlike 29 (.iload_n 1) 1 := by decide +kernel
theorem dX9_areAlike_30 : Dc KX9_areAlike 30 (.invokevirtual 45) 3 := by decide +kernel
theorem dX9_areAlike_33 : Dc KX9_areAlike 33 (.if_icmp .ge 32) 3 := by decide +kernel
theorem dX9_areAlike_36 : Dc KX9_areAlike 36 (.aload_n 0) 1 := by decide +kernel
theorem dX9_areAlike_37 : Dc KX9_areAlike 37 (.iload_n 1) 1 := by decide +kernel
theorem dX9_areAlike_38 : Dc KX9_areAlike 38 (.iload 4) 2 := by decide +kernel
theorem dX9_areAlike_40 : Dc KX9_areAlike 40 (.invokevirtual 49) 3 := by decide +kernel
theorem dX9_areAlike_43 : Dc KX9_areAlike 43 (.aload_n 0) 1 := by decide +kernel
theorem dX9_areAlike_44 : Dc KX9_areAlike 44 (.iload_n 2) 1 := by decide +kernel
theorem dX9_areAlike_45 : Dc KX9_areAlike 45 (.iload 4) 2 := by decide +kernel
theorem dX9_areAlike_47 : Dc KX9_areAlike 47 (.invokevirtual 49) 3 := by decide +kernel
theorem dX9_areAlike_50 : Dc KX9_areAlike 50 (.if_icmp .ne 7) 3 := by decide +kernel
theorem dX9_areAlike_53 : Dc KX9_areAlike 53 (.iconst 1) 1 := by decide +kernel
theorem dX9_areAlike_54 : Dc KX9_areAlike 54 (.goto 4) 3 := by decide +kernel
theorem dX9_areAlike_57 : Dc KX9_areAlike 57 (.iconst 0) 1 := by decide +kernel
theorem dX9_areAlike_58 : Dc KX9_areAlike 58 (.istore_n 3) 1 := by decide +kernel
theorem dX9_areAlike_59 : Dc KX9_areAlike 59 (.iinc 4 1) 3 := by decide +kernel
theorem dX9_areAlike_62 : Dc KX9_areAlike 62 (.goto (-40)) 3 := by decide +kernel
theorem dX9_areAlike_65 : Dc KX9_areAlike 65 (.iload_n 3) 1 := by decide +kernel
theorem dX9_areAlike_66 : Dc KX9_areAlike 66 (.ireturn) 1 := by decide +kernel
theorem dX9_alikePairs_0 : Dc KX9_alikePairs 0 (.iconst 0) 1 := by decide +kernel
theorem dX9_alikePairs_1 : Dc KX9_alikePairs 1 (.istore_n 1) 1 := by decide +kernel
theorem dX9_alikePairs_2 : Dc KX9_alikePairs 2 (.iconst 0) 1 := by decide +kernel
theorem dX9_alikePairs_3 : Dc KX9_alikePairs 3 (.istore_n 2) 1 := by decide +kernel
theorem dX9_alikePairs_4 : Dc KX9_alikePairs 4 (.iload_n 2) 1 := by decide +kernel
theorem dX9_alikePairs_5 : Dc KX9_alikePairs 5 (.iconst 4) 1 := by decide +kernel
theorem dX9_alikePairs_6 : Dc KX9_alikePairs 6 (.if_icmp .ge 39) 3 := by decide +kernel
theorem dX9_alikePairs_9 : Dc KX9_alikePairs 9 (.iconst 0) 1 := by decide +kernel
theorem dX9_alikePairs_10 : Dc KX9_alikePairs 10 (.istore_n 3) 1 := by decide +kernel
theorem dX9_alikePairs_11 : Dc KX9_alikePairs 11 (.iload_n 3) 1 := by decide +kernel
theorem dX9_alikePairs_12 : Dc KX9_alikePairs 12 (.iload_n 2) 1 := by decide +kernel
theorem dX9_alikePairs_13 : Dc KX9_alikePairs 13 (.if_icmp .ge 26) 3 := by decide +kernel
theorem dX9_alikePairs_16 : Dc KX9_alikePairs 16 (.iload_n 1) 1 := by decide +kernel
theorem dX9_alikePairs_17 : Dc KX9_alikePairs 17 (.aload_n 0) 1 := by decide +kernel
theorem dX9_alikePairs_18 : Dc KX9_alikePairs 18 (.iload_n 2) 1 := by decide +kernel
theorem dX9_alikePairs_19 : Dc KX9_alikePairs 19 (.iload_n 3) 1 := by decide +kernel
theorem dX9_alikePairs_20 : Dc KX9_alikePairs 20 (.invokevirtual 207) 3 := by decide +kernel
theorem dX9_alikePairs_23 : Dc KX9_alikePairs 23 (.ifCond .eq 7) 3 := by decide +kernel
theorem dX9_alikePairs_26 : Dc KX9_alikePairs 26 (.iconst 1) 1 := by decide +kernel
theorem dX9_alikePairs_27 : Dc KX9_alikePairs 27 (.goto 4) 3 := by decide +kernel
theorem dX9_alikePairs_30 : Dc KX9_alikePairs 30 (.iconst 0) 1 := by decide +kernel
theorem dX9_alikePairs_31 : Dc KX9_alikePairs 31 (.iadd) 1 := by decide +kernel
theorem dX9_alikePairs_32 : Dc KX9_alikePairs 32 (.istore_n 1) 1 := by decide +kernel
theorem dX9_alikePairs_33 : Dc KX9_alikePairs 33 (.iinc 3 1) 3 := by decide +kernel
theorem dX9_alikePairs_36 : Dc KX9_alikePairs 36 (.goto (-25)) 3 := by decide +kernel
theorem dX9_alikePairs_39 : Dc KX9_alikePairs 39 (.iinc 2 1) 3 := by decide +kernel
theorem dX9_alikePairs_42 : Dc KX9_alikePairs 42 (.goto (-38)) 3 := by decide +kernel
theorem dX9_alikePairs_45 : Dc KX9_alikePairs 45 (.iload_n 1) 1 := by decide +kernel
theorem dX9_alikePairs_46 : Dc KX9_alikePairs 46 (.ireturn) 1 := by decide +kernel
theorem dX9_counted_0 : Dc KX9_counted 0 (.iload_n 1) 1 := by decide +kernel
theorem dX9_counted_1 : Dc KX9_counted 1 (.tableswitch 77 0 5 #[39, 45, 45, 60, 66, 72]) 39 := by decide +kernel
theorem dX9_counted_40 : Dc KX9_counted 40 (.aload_n 0) 1 := by decide +kernel
theorem dX9_counted_41 : Dc KX9_counted 41 (.iconst 0) 1 := by decide +kernel
theorem dX9_counted_42 : Dc KX9_counted 42 (.invokevirtual 210) 3 := by decide +kernel
theorem dX9_counted_45 : Dc KX9_counted 45 (.ireturn) 1 := by decide +kernel
theorem dX9_counted_46 : Dc KX9_counted 46 (.aload_n 0) 1 := by decide +kernel
theorem dX9_counted_47 : Dc KX9_counted 47 (.iload_n 1) 1 := by decide +kernel
theorem dX9_counted_48 : Dc KX9_counted 48 (.iconst 2) 1 := by decide +kernel
theorem dX9_counted_49 : Dc KX9_counted 49 (.if_icmp .ne 7) 3 := by decide +kernel
theorem dX9_counted_52 : Dc KX9_counted 52 (.iconst 1) 1 := by decide +kernel
theorem dX9_counted_53 : Dc KX9_counted 53 (.goto 4) 3 := by decide +kernel
theorem dX9_counted_56 : Dc KX9_counted 56 (.iconst 0) 1 := by decide +kernel
theorem dX9_counted_57 : Dc KX9_counted 57 (.invokevirtual 213) 3 := by decide +kernel
theorem dX9_counted_60 : Dc KX9_counted 60 (.ireturn) 1 := by decide +kernel
theorem dX9_counted_61 : Dc KX9_counted 61 (.aload_n 0) 1 := by decide +kernel
theorem dX9_counted_62 : Dc KX9_counted 62 (.iconst 2) 1 := by decide +kernel
theorem dX9_counted_63 : Dc KX9_counted 63 (.invokevirtual 210) 3 := by decide +kernel
theorem dX9_counted_66 : Dc KX9_counted 66 (.ireturn) 1 := by decide +kernel
theorem dX9_counted_67 : Dc KX9_counted 67 (.aload_n 0) 1 := by decide +kernel
theorem dX9_counted_68 : Dc KX9_counted 68 (.iconst 1) 1 := by decide +kernel
theorem dX9_counted_69 : Dc KX9_counted 69 (.invokevirtual 210) 3 := by decide +kernel
theorem dX9_counted_72 : Dc KX9_counted 72 (.ireturn) 1 := by decide +kernel
theorem dX9_counted_73 : Dc KX9_counted 73 (.aload_n 0) 1 := by decide +kernel
theorem dX9_counted_74 : Dc KX9_counted 74 (.invokevirtual 217) 3 := by decide +kernel
theorem dX9_counted_77 : Dc KX9_counted 77 (.ireturn) 1 := by decide +kernel
theorem dX9_counted_78 : Dc KX9_counted 78 (.aload_n 0) 1 := by decide +kernel
theorem dX9_counted_79 : Dc KX9_counted 79 (.getfield 38) 3 := by decide +kernel
theorem dX9_counted_82 : Dc KX9_counted 82 (.ireturn) 1 := by decide +kernel
theorem dX9_count_0 : Dc KX9_count 0 (.aload_n 0) 1 := by decide +kernel
theorem dX9_count_1 : Dc KX9_count 1 (.iload_n 1) 1 := by decide +kernel
theorem dX9_count_2 : Dc KX9_count 2 (.iconst 0) 1 := by decide +kernel
theorem dX9_count_3 : Dc KX9_count 3 (.bipush 6) 2 := by decide +kernel
theorem dX9_count_5 : Dc KX9_count 5 (.invokestatic 41) 3 := by decide +kernel
theorem dX9_count_8 : Dc KX9_count 8 (.ifCond .eq 7) 3 := by decide +kernel
theorem dX9_count_11 : Dc KX9_count 11 (.iconst 0) 1 := by decide +kernel
theorem dX9_count_12 : Dc KX9_count 12 (.goto 4) 3 := by decide +kernel
theorem dX9_count_15 : Dc KX9_count 15 (.iconst 1) 1 := by decide +kernel
theorem dX9_count_16 : Dc KX9_count 16 (.putfield 34) 3 := by decide +kernel
theorem dX9_count_19 : Dc KX9_count 19 (.aload_n 0) 1 := by decide +kernel
theorem dX9_count_20 : Dc KX9_count 20 (.getfield 34) 3 := by decide +kernel
theorem dX9_count_23 : Dc KX9_count 23 (.ifCond .le 7) 3 := by decide +kernel
theorem dX9_count_26 : Dc KX9_count 26 (.iconst 0) 1 := by decide +kernel
theorem dX9_count_27 : Dc KX9_count 27 (.goto 8) 3 := by decide +kernel
theorem dX9_count_30 : Dc KX9_count 30 (.aload_n 0) 1 := by decide +kernel
theorem dX9_count_31 : Dc KX9_count 31 (.iload_n 1) 1 := by decide +kernel
theorem dX9_count_32 : Dc KX9_count 32 (.invokevirtual 220) 3 := by decide +kernel
theorem dX9_count_35 : Dc KX9_count 35 (.ireturn) 1 := by decide +kernel
theorem dX9_setting_0 : Dc KX9_setting 0 (.aload_n 0) 1 := by decide +kernel
theorem dX9_setting_1 : Dc KX9_setting 1 (.iload_n 1) 1 := by decide +kernel
theorem dX9_setting_2 : Dc KX9_setting 2 (.iconst 0) 1 := by decide +kernel
theorem dX9_setting_3 : Dc KX9_setting 3 (.iconst 1) 1 := by decide +kernel
theorem dX9_setting_4 : Dc KX9_setting 4 (.invokestatic 41) 3 := by decide +kernel
theorem dX9_setting_7 : Dc KX9_setting 7 (.ifCond .eq 7) 3 := by decide +kernel
theorem dX9_setting_10 : Dc KX9_setting 10 (.iconst 0) 1 := by decide +kernel
theorem dX9_setting_11 : Dc KX9_setting 11 (.goto 4) 3 := by decide +kernel
theorem dX9_setting_14 : Dc KX9_setting 14 (.iconst 1) 1 := by decide +kernel
theorem dX9_setting_15 : Dc KX9_setting 15 (.putfield 34) 3 := by decide +kernel
theorem dX9_setting_18 : Dc KX9_setting 18 (.aload_n 0) 1 := by decide +kernel
theorem dX9_setting_19 : Dc KX9_setting 19 (.getfield 34) 3 := by decide +kernel
theorem dX9_setting_22 : Dc KX9_setting 22 (.ifCond .le 7) 3 := by decide +kernel
theorem dX9_setting_25 : Dc KX9_setting 25 (.iconst 0) 1 := by decide +kernel
theorem dX9_setting_26 : Dc KX9_setting 26 (.goto 9) 3 := by decide +kernel
theorem dX9_setting_29 : Dc KX9_setting 29 (.aload_n 0) 1 := by decide +kernel
theorem dX9_setting_30 : Dc KX9_setting 30 (.getfield 7) 3 := by decide +kernel
theorem dX9_setting_33 : Dc KX9_setting 33 (.iload_n 1) 1 := by decide +kernel
theorem dX9_setting_34 : Dc KX9_setting 34 (.iaload) 1 := by decide +kernel
theorem dX9_setting_35 : Dc KX9_setting 35 (.ireturn) 1 := by decide +kernel
theorem dX9_ifSet_0 : Dc KX9_ifSet 0 (.aload_n 0) 1 := by decide +kernel
theorem dX9_ifSet_1 : Dc KX9_ifSet 1 (.iload_n 1) 1 := by decide +kernel
theorem dX9_ifSet_2 : Dc KX9_ifSet 2 (.invokestatic 81) 3 := by decide +kernel
theorem dX9_ifSet_5 : Dc KX9_ifSet 5 (.ifCond .ne 7) 3 := by decide +kernel
theorem dX9_ifSet_8 : Dc KX9_ifSet 8 (.iconst 1) 1 := by decide +kernel
theorem dX9_ifSet_9 : Dc KX9_ifSet 9 (.goto 22) 3 := by decide +kernel
theorem dX9_ifSet_12 : Dc KX9_ifSet 12 (.iload_n 2) 1 := by decide +kernel
theorem dX9_ifSet_13 : Dc KX9_ifSet 13 (.invokestatic 121) 3 := by decide +kernel
theorem dX9_ifSet_16 : Dc KX9_ifSet 16 (.ifCond .eq 14) 3 := by decide +kernel
theorem dX9_ifSet_19 : Dc KX9_ifSet 19 (.iload_n 3) 1 := by decide +kernel
theorem dX9_ifSet_20 : Dc KX9_ifSet 20 (.invokestatic 124) 3 := by decide +kernel
theorem dX9_ifSet_23 : Dc KX9_ifSet 23 (.ifCond .eq 7) 3 := by decide +kernel
theorem dX9_ifSet_26 : Dc KX9_ifSet 26 (.iconst 0) 1 := by decide +kernel
theorem dX9_ifSet_27 : Dc KX9_ifSet 27 (.goto 4) 3 := by decide +kernel
theorem dX9_ifSet_30 : Dc KX9_ifSet 30 (.iconst 2) 1 := by decide +kernel
theorem dX9_ifSet_31 : Dc KX9_ifSet 31 (.putfield 34) 3 := by decide +kernel
theorem dX9_ifSet_34 : Dc KX9_ifSet 34 (.aload_n 0) 1 := by decide +kernel
theorem dX9_ifSet_35 : Dc KX9_ifSet 35 (.getfield 34) 3 := by decide +kernel
theorem dX9_ifSet_38 : Dc KX9_ifSet 38 (.ifCond .le 7) 3 := by decide +kernel
theorem dX9_ifSet_41 : Dc KX9_ifSet 41 (.iconst 0) 1 := by decide +kernel
theorem dX9_ifSet_42 : Dc KX9_ifSet 42 (.goto 10) 3 := by decide +kernel
theorem dX9_ifSet_45 : Dc KX9_ifSet 45 (.aload_n 0) 1 := by decide +kernel
theorem dX9_ifSet_46 : Dc KX9_ifSet 46 (.iload_n 1) 1 := by decide +kernel
theorem dX9_ifSet_47 : Dc KX9_ifSet 47 (.iload_n 2) 1 := by decide +kernel
theorem dX9_ifSet_48 : Dc KX9_ifSet 48 (.iload_n 3) 1 := by decide +kernel
theorem dX9_ifSet_49 : Dc KX9_ifSet 49 (.invokevirtual 77) 3 := by decide +kernel
theorem dX9_ifSet_52 : Dc KX9_ifSet 52 (.ireturn) 1 := by decide +kernel
theorem dX9_addedThen_0 : Dc KX9_addedThen 0 (.aload_n 0) 1 := by decide +kernel
theorem dX9_addedThen_1 : Dc KX9_addedThen 1 (.iload_n 1) 1 := by decide +kernel
theorem dX9_addedThen_2 : Dc KX9_addedThen 2 (.iload_n 2) 1 := by decide +kernel
theorem dX9_addedThen_3 : Dc KX9_addedThen 3 (.invokevirtual 88) 3 := by decide +kernel
theorem dX9_addedThen_6 : Dc KX9_addedThen 6 (.ifCond .eq 5) 3 := by decide +kernel
theorem dX9_addedThen_9 : Dc KX9_addedThen 9 (.iconst 0) 1 := by decide +kernel
theorem dX9_addedThen_10 : Dc KX9_addedThen 10 (.ireturn) 1 := by decide +kernel
theorem dX9_addedThen_11 : Dc KX9_addedThen 11 (.aload_n 0) 1 := by decide +kernel
theorem dX9_addedThen_12 : Dc KX9_addedThen 12 (.iload_n 1) 1 := by decide +kernel
theorem dX9_addedThen_13 : Dc KX9_addedThen 13 (.invokevirtual 180) 3 := by decide +kernel
theorem dX9_addedThen_16 : Dc KX9_addedThen 16 (.istore_n 3) 1 := by decide +kernel
theorem dX9_addedThen_17 : Dc KX9_addedThen 17 (.aload_n 0) 1 := by decide +kernel
theorem dX9_addedThen_18 : Dc KX9_addedThen 18 (.iload_n 1) 1 := by decide +kernel
theorem dX9_addedThen_19 : Dc KX9_addedThen 19 (.invokevirtual 62) 3 := by decide +kernel
theorem dX9_addedThen_22 : Dc KX9_addedThen 22 (.aload_n 0) 1 := by decide +kernel
theorem dX9_addedThen_23 : Dc KX9_addedThen 23 (.getfield 56) 3 := by decide +kernel
theorem dX9_addedThen_26 : Dc KX9_addedThen 26 (.istore 4) 2 := by decide +kernel
theorem dX9_addedThen_28 : Dc KX9_addedThen 28 (.iload 4) 2 := by decide +kernel
theorem dX9_addedThen_30 : Dc KX9_addedThen 30 (.ifCond .le 38) 3 := by decide +kernel
theorem dX9_addedThen_33 : Dc KX9_addedThen 33 (.aload_n 0) 1 := by decide +kernel
theorem dX9_addedThen_34 : Dc KX9_addedThen 34 (.getfield 19) 3 := by decide +kernel
theorem dX9_addedThen_37 : Dc KX9_addedThen 37 (.iload 4) 2 := by decide +kernel
theorem dX9_addedThen_39 : Dc KX9_addedThen 39 (.iconst 1) 1 := by decide +kernel
theorem dX9_addedThen_40 : Dc KX9_addedThen 40 (.isub) 1 := by decide +kernel
theorem dX9_addedThen_41 : Dc KX9_addedThen 41 (.iaload) 1 := by decide +kernel
theorem dX9_addedThen_42 : Dc KX9_addedThen 42 (.iload_n 2) 1 := by decide +kernel
theorem dX9_addedThen_43 : Dc KX9_addedThen 43 (.if_icmp .le 25) 3 := by decide +kernel
theorem dX9_addedThen_46 : Dc KX9_addedThen 46 (.aload_n 0) 1 := by decide +kernel
theorem dX9_addedThen_47 : Dc KX9_addedThen 47 (.getfield 19) 3 := by decide +kernel
theorem dX9_addedThen_50 : Dc KX9_addedThen 50 (.iload 4) 2 := by decide +kernel
theorem dX9_addedThen_52 : Dc KX9_addedThen 52 (.aload_n 0) 1 := by decide +kernel
theorem dX9_addedThen_53 : Dc KX9_addedThen 53 (.getfield 19) 3 := by decide +kernel
theorem dX9_addedThen_56 : Dc KX9_addedThen 56 (.iload 4) 2 := by decide +kernel
theorem dX9_addedThen_58 : Dc KX9_addedThen 58 (.iconst 1) 1 := by decide +kernel
theorem dX9_addedThen_59 : Dc KX9_addedThen 59 (.isub) 1 := by decide +kernel
theorem dX9_addedThen_60 : Dc KX9_addedThen 60 (.iaload) 1 := by decide +kernel
theorem dX9_addedThen_61 : Dc KX9_addedThen 61 (.iastore) 1 := by decide +kernel
theorem dX9_addedThen_62 : Dc KX9_addedThen 62 (.iinc 4 (-1)) 3 := by decide +kernel
theorem dX9_addedThen_65 : Dc KX9_addedThen 65 (.goto (-37)) 3 := by decide +kernel
theorem dX9_addedThen_68 : Dc KX9_addedThen 68 (.aload_n 0) 1 := by decide +kernel
theorem dX9_addedThen_69 : Dc KX9_addedThen 69 (.getfield 19) 3 := by decide +kernel
theorem dX9_addedThen_72 : Dc KX9_addedThen 72 (.iload 4) 2 := by decide +kernel
theorem dX9_addedThen_74 : Dc KX9_addedThen 74 (.iload_n 2) 1 := by decide +kernel
theorem dX9_addedThen_75 : Dc KX9_addedThen 75 (.iastore) 1 := by decide +kernel
theorem dX9_addedThen_76 : Dc KX9_addedThen 76 (.aload_n 0) 1 := by decide +kernel
theorem dX9_addedThen_77 : Dc KX9_addedThen 77 (.dup) 1 := by decide +kernel
theorem dX9_addedThen_78 : Dc KX9_addedThen 78 (.getfield 56) 3 := by decide +kernel
theorem dX9_addedThen_81 : Dc KX9_addedThen 81 (.iconst 1) 1 := by decide +kernel
theorem dX9_addedThen_82 : Dc KX9_addedThen 82 (.iadd) 1 := by decide +kernel
theorem dX9_addedThen_83 : Dc KX9_addedThen 83 (.putfield 56) 3 := by decide +kernel
theorem dX9_addedThen_86 : Dc KX9_addedThen 86 (.aload_n 0) 1 := by decide +kernel
theorem dX9_addedThen_87 : Dc KX9_addedThen 87 (.aload_n 0) 1 := by decide +kernel
theorem dX9_addedThen_88 : Dc KX9_addedThen 88 (.getfield 7) 3 := by decide +kernel
theorem dX9_addedThen_91 : Dc KX9_addedThen 91 (.iconst 0) 1 := by decide +kernel
theorem dX9_addedThen_92 : Dc KX9_addedThen 92 (.iaload) 1 := by decide +kernel
theorem dX9_addedThen_93 : Dc KX9_addedThen 93 (.aload_n 0) 1 := by decide +kernel
theorem dX9_addedThen_94 : Dc KX9_addedThen 94 (.getfield 7) 3 := by decide +kernel
theorem dX9_addedThen_97 : Dc KX9_addedThen 97 (.iconst 1) 1 := by decide +kernel
theorem dX9_addedThen_98 : Dc KX9_addedThen 98 (.iaload) 1 := by decide +kernel
theorem dX9_addedThen_99 : Dc KX9_addedThen 99 (.invokevirtual 66) 3 := by decide +kernel
theorem dX9_addedThen_102 : Dc KX9_addedThen 102 (.aload_n 0) 1 := by decide +kernel
theorem dX9_addedThen_103 : Dc KX9_addedThen 103 (.invokevirtual 73) 3 := by decide +kernel
theorem dX9_addedThen_106 : Dc KX9_addedThen 106 (.iload_n 3) 1 := by decide +kernel
theorem dX9_addedThen_107 : Dc KX9_addedThen 107 (.isub) 1 := by decide +kernel
theorem dX9_addedThen_108 : Dc KX9_addedThen 108 (.ireturn) 1 := by decide +kernel
theorem dX9_ifAdded_0 : Dc KX9_ifAdded 0 (.aload_n 0) 1 := by decide +kernel
theorem dX9_ifAdded_1 : Dc KX9_ifAdded 1 (.iload_n 1) 1 := by decide +kernel
theorem dX9_ifAdded_2 : Dc KX9_ifAdded 2 (.invokestatic 81) 3 := by decide +kernel
theorem dX9_ifAdded_5 : Dc KX9_ifAdded 5 (.ifCond .ne 7) 3 := by decide +kernel
theorem dX9_ifAdded_8 : Dc KX9_ifAdded 8 (.iconst 1) 1 := by decide +kernel
theorem dX9_ifAdded_9 : Dc KX9_ifAdded 9 (.goto 15) 3 := by decide +kernel
theorem dX9_ifAdded_12 : Dc KX9_ifAdded 12 (.iload_n 2) 1 := by decide +kernel
theorem dX9_ifAdded_13 : Dc KX9_ifAdded 13 (.invokestatic 85) 3 := by decide +kernel
theorem dX9_ifAdded_16 : Dc KX9_ifAdded 16 (.ifCond .eq 7) 3 := by decide +kernel
theorem dX9_ifAdded_19 : Dc KX9_ifAdded 19 (.iconst 0) 1 := by decide +kernel
theorem dX9_ifAdded_20 : Dc KX9_ifAdded 20 (.goto 4) 3 := by decide +kernel
theorem dX9_ifAdded_23 : Dc KX9_ifAdded 23 (.iconst 2) 1 := by decide +kernel
theorem dX9_ifAdded_24 : Dc KX9_ifAdded 24 (.putfield 34) 3 := by decide +kernel
theorem dX9_ifAdded_27 : Dc KX9_ifAdded 27 (.aload_n 0) 1 := by decide +kernel
theorem dX9_ifAdded_28 : Dc KX9_ifAdded 28 (.getfield 34) 3 := by decide +kernel
theorem dX9_ifAdded_31 : Dc KX9_ifAdded 31 (.ifCond .le 7) 3 := by decide +kernel
theorem dX9_ifAdded_34 : Dc KX9_ifAdded 34 (.iconst 0) 1 := by decide +kernel
theorem dX9_ifAdded_35 : Dc KX9_ifAdded 35 (.goto 9) 3 := by decide +kernel
theorem dX9_ifAdded_38 : Dc KX9_ifAdded 38 (.aload_n 0) 1 := by decide +kernel
theorem dX9_ifAdded_39 : Dc KX9_ifAdded 39 (.iload_n 1) 1 := by decide +kernel
theorem dX9_ifAdded_40 : Dc KX9_ifAdded 40 (.iload_n 2) 1 := by decide +kernel
theorem dX9_ifAdded_41 : Dc KX9_ifAdded 41 (.invokevirtual 223) 3 := by decide +kernel
theorem dX9_ifAdded_44 : Dc KX9_ifAdded 44 (.ireturn) 1 := by decide +kernel
theorem dX9_sizeWithout_0 : Dc KX9_sizeWithout 0 (.aload_n 0) 1 := by decide +kernel
theorem dX9_sizeWithout_1 : Dc KX9_sizeWithout 1 (.iload_n 1) 1 := by decide +kernel
theorem dX9_sizeWithout_2 : Dc KX9_sizeWithout 2 (.invokevirtual 62) 3 := by decide +kernel
theorem dX9_sizeWithout_5 : Dc KX9_sizeWithout 5 (.aload_n 0) 1 := by decide +kernel
theorem dX9_sizeWithout_6 : Dc KX9_sizeWithout 6 (.dup) 1 := by decide +kernel
theorem dX9_sizeWithout_7 : Dc KX9_sizeWithout 7 (.getfield 56) 3 := by decide +kernel
theorem dX9_sizeWithout_10 : Dc KX9_sizeWithout 10 (.iconst 1) 1 := by decide +kernel
theorem dX9_sizeWithout_11 : Dc KX9_sizeWithout 11 (.isub) 1 := by decide +kernel
theorem dX9_sizeWithout_12 : Dc KX9_sizeWithout 12 (.putfield 56) 3 := by decide +kernel
theorem dX9_sizeWithout_15 : Dc KX9_sizeWithout 15 (.iload_n 2) 1 := by decide +kernel
theorem dX9_sizeWithout_16 : Dc KX9_sizeWithout 16 (.istore_n 3) 1 := by decide +kernel
theorem dX9_sizeWithout_17 : Dc KX9_sizeWithout 17 (.iload_n 3) 1 := by decide +kernel
theorem dX9_sizeWithout_18 : Dc KX9_sizeWithout 18 (.aload_n 0) 1 := by decide +kernel
theorem dX9_sizeWithout_19 : Dc KX9_sizeWithout 19 (.getfield 56) 3 := by decide +kernel
theorem dX9_sizeWithout_22 : Dc KX9_sizeWithout 22 (.if_icmp .ge 23) 3 := by decide +kernel
theorem dX9_sizeWithout_25 : Dc KX9_sizeWithout 25 (.aload_n 0) 1 := by decide +kernel
theorem dX9_sizeWithout_26 : Dc KX9_sizeWithout 26 (.getfield 19) 3 := by decide +kernel
theorem dX9_sizeWithout_29 : Dc KX9_sizeWithout 29 (.iload_n 3) 1 := by decide +kernel
theorem dX9_sizeWithout_30 : Dc KX9_sizeWithout 30 (.aload_n 0) 1 := by decide +kernel
theorem dX9_sizeWithout_31 : Dc KX9_sizeWithout 31 (.getfield 19) 3 := by decide +kernel
theorem dX9_sizeWithout_34 : Dc KX9_sizeWithout 34 (.iload_n 3) 1 := by decide +kernel
theorem dX9_sizeWithout_35 : Dc KX9_sizeWithout 35 (.iconst 1) 1 := by decide +kernel
theorem dX9_sizeWithout_36 : Dc KX9_sizeWithout 36 (.iadd) 1 := by decide +kernel
theorem dX9_sizeWithout_37 : Dc KX9_sizeWithout 37 (.iaload) 1 := by decide +kernel
theorem dX9_sizeWithout_38 : Dc KX9_sizeWithout 38 (.iastore) 1 := by decide +kernel
theorem dX9_sizeWithout_39 : Dc KX9_sizeWithout 39 (.iinc 3 1) 3 := by decide +kernel
theorem dX9_sizeWithout_42 : Dc KX9_sizeWithout 42 (.goto (-25)) 3 := by decide +kernel
theorem dX9_sizeWithout_45 : Dc KX9_sizeWithout 45 (.aload_n 0) 1 := by decide +kernel
theorem dX9_sizeWithout_46 : Dc KX9_sizeWithout 46 (.aload_n 0) 1 := by decide +kernel
theorem dX9_sizeWithout_47 : Dc KX9_sizeWithout 47 (.getfield 7) 3 := by decide +kernel
theorem dX9_sizeWithout_50 : Dc KX9_sizeWithout 50 (.iconst 0) 1 := by decide +kernel
theorem dX9_sizeWithout_51 : Dc KX9_sizeWithout 51 (.iaload) 1 := by decide +kernel
theorem dX9_sizeWithout_52 : Dc KX9_sizeWithout 52 (.aload_n 0) 1 := by decide +kernel
theorem dX9_sizeWithout_53 : Dc KX9_sizeWithout 53 (.getfield 7) 3 := by decide +kernel
theorem dX9_sizeWithout_56 : Dc KX9_sizeWithout 56 (.iconst 1) 1 := by decide +kernel
theorem dX9_sizeWithout_57 : Dc KX9_sizeWithout 57 (.iaload) 1 := by decide +kernel
theorem dX9_sizeWithout_58 : Dc KX9_sizeWithout 58 (.invokevirtual 66) 3 := by decide +kernel
theorem dX9_sizeWithout_61 : Dc KX9_sizeWithout 61 (.aload_n 0) 1 := by decide +kernel
theorem dX9_sizeWithout_62 : Dc KX9_sizeWithout 62 (.invokevirtual 73) 3 := by decide +kernel
theorem dX9_sizeWithout_65 : Dc KX9_sizeWithout 65 (.ireturn) 1 := by decide +kernel
theorem dX9_dearestNow_0 : Dc KX9_dearestNow 0 (.iconst (-1)) 1 := by decide +kernel
theorem dX9_dearestNow_1 : Dc KX9_dearestNow 1 (.istore_n 3) 1 := by decide +kernel
theorem dX9_dearestNow_2 : Dc KX9_dearestNow 2 (.iconst (-1)) 1 := by decide +kernel
theorem dX9_dearestNow_3 : Dc KX9_dearestNow 3 (.istore 4) 2 := by decide +kernel
theorem dX9_dearestNow_5 : Dc KX9_dearestNow 5 (.iconst 0) 1 := by decide +kernel
theorem dX9_dearestNow_6 : Dc KX9_dearestNow 6 (.istore 5) 2 := by decide +kernel
theorem dX9_dearestNow_8 : Dc KX9_dearestNow 8 (.iload 5) 2 := by decide +kernel
theorem dX9_dearestNow_10 : Dc KX9_dearestNow 10 (.aload_n 0) 1 := by decide +kernel
theorem dX9_dearestNow_11 : Dc KX9_dearestNow 11 (.iload_n 1) 1 := by decide +kernel
theorem dX9_dearestNow_12 : Dc KX9_dearestNow 12 (.invokevirtual 45) 3 := by decide +kernel
theorem dX9_dearestNow_15 : Dc KX9_dearestNow 15 (.if_icmp .ge 68) 3 := by decide +kernel
theorem dX9_dearestNow_18 : Dc KX9_dearestNow 18 (.aload_n 0) 1 := by decide +kernel
theorem dX9_dearestNow_19 : Dc KX9_dearestNow 19 (.iload_n 1) 1 := by decide +kernel
theorem dX9_dearestNow_20 : Dc KX9_dearestNow 20 (.iload 5) 2 := by decide +kernel
theorem dX9_dearestNow_22 : Dc KX9_dearestNow 22 (.invokevirtual 226) 3 := by decide +kernel
theorem dX9_dearestNow_25 : Dc KX9_dearestNow 25 (.istore 6) 2 := by decide +kernel
theorem dX9_dearestNow_27 : Dc KX9_dearestNow 27 (.iload_n 3) 1 := by decide +kernel
theorem dX9_dearestNow_28 : Dc KX9_dearestNow 28 (.iconst (-1)) 1 := by decide +kernel
theorem dX9_dearestNow_29 : Dc KX9_dearestNow 29 (.if_icmp .eq 10) 3 := by decide +kernel
theorem dX9_dearestNow_32 : Dc KX9_dearestNow 32 (.iload 6) 2 := by decide +kernel
theorem dX9_dearestNow_34 : Dc KX9_dearestNow 34 (.iload 4) 2 := by decide +kernel
theorem dX9_dearestNow_36 : Dc KX9_dearestNow 36 (.if_icmp .ge 7) 3 := by decide +kernel
theorem dX9_dearestNow_39 : Dc KX9_dearestNow 39 (.iconst 1) 1 := by decide +kernel
theorem dX9_dearestNow_40 : Dc KX9_dearestNow 40 (.goto 4) 3 := by decide +kernel
theorem dX9_dearestNow_43 : Dc KX9_dearestNow 43 (.iconst 0) 1 := by decide +kernel
theorem dX9_dearestNow_44 : Dc KX9_dearestNow 44 (.istore 7) 2 := by decide +kernel
theorem dX9_dearestNow_46 : Dc KX9_dearestNow 46 (.iload 7) 2 := by decide +kernel
theorem dX9_dearestNow_48 : Dc KX9_dearestNow 48 (.ifCond .eq 13) 3 := by decide +kernel
theorem dX9_dearestNow_51 : Dc KX9_dearestNow 51 (.aload_n 0) 1 := by decide +kernel
theorem dX9_dearestNow_52 : Dc KX9_dearestNow 52 (.iload_n 1) 1 := by decide +kernel
theorem dX9_dearestNow_53 : Dc KX9_dearestNow 53 (.iload 5) 2 := by decide +kernel
theorem dX9_dearestNow_55 : Dc KX9_dearestNow 55 (.invokevirtual 49) 3 := by decide +kernel
theorem dX9_dearestNow_58 : Dc KX9_dearestNow 58 (.goto 4) 3 := by decide +kernel
theorem dX9_dearestNow_61 : Dc KX9_dearestNow 61 (.iload_n 3) 1 := by decide +kernel
theorem dX9_dearestNow_62 : Dc KX9_dearestNow 62 (.istore_n 3) 1 := by decide +kernel
theorem dX9_dearestNow_63 : Dc KX9_dearestNow 63 (.iload 7) 2 := by decide +kernel
theorem dX9_dearestNow_65 : Dc KX9_dearestNow 65 (.ifCond .eq 8) 3 := by decide +kernel
theorem dX9_dearestNow_68 : Dc KX9_dearestNow 68 (.iload 6) 2 := by decide +kernel
theorem dX9_dearestNow_70 : Dc KX9_dearestNow 70 (.goto 5) 3 := by decide +kernel
theorem dX9_dearestNow_73 : Dc KX9_dearestNow 73 (.iload 4) 2 := by decide +kernel
theorem dX9_dearestNow_75 : Dc KX9_dearestNow 75 (.istore 4) 2 := by decide +kernel
theorem dX9_dearestNow_77 : Dc KX9_dearestNow 77 (.iinc 5 1) 3 := by decide +kernel
theorem dX9_dearestNow_80 : Dc KX9_dearestNow 80 (.goto (-72)) 3 := by decide +kernel
theorem dX9_dearestNow_83 : Dc KX9_dearestNow 83 (.iload_n 2) 1 := by decide +kernel
theorem dX9_dearestNow_84 : Dc KX9_dearestNow 84 (.ifCond .ne 7) 3 := by decide +kernel
theorem dX9_dearestNow_87 : Dc KX9_dearestNow 87 (.iload_n 3) 1 := by decide +kernel
theorem dX9_dearestNow_88 : Dc KX9_dearestNow 88 (.goto 5) 3 := by decide +kernel
theorem dX9_dearestNow_91 : Dc KX9_dearestNow 91 (.iload 4) 2 := by decide +kernel
theorem dX9_dearestNow_93 : Dc KX9_dearestNow 93 (.ireturn) 1 := by decide +kernel
theorem dX9_dearest_0 : Dc KX9_dearest 0 (.aload_n 0) 1 := by decide +kernel
theorem dX9_dearest_1 : Dc KX9_dearest 1 (.iload_n 1) 1 := by decide +kernel
theorem dX9_dearest_2 : Dc KX9_dearest 2 (.invokestatic 81) 3 := by decide +kernel
theorem dX9_dearest_5 : Dc KX9_dearest 5 (.ifCond .ne 7) 3 := by decide +kernel
theorem dX9_dearest_8 : Dc KX9_dearest 8 (.iconst 1) 1 := by decide +kernel
theorem dX9_dearest_9 : Dc KX9_dearest 9 (.goto 17) 3 := by decide +kernel
theorem dX9_dearest_12 : Dc KX9_dearest 12 (.iload_n 2) 1 := by decide +kernel
theorem dX9_dearest_13 : Dc KX9_dearest 13 (.iconst 0) 1 := by decide +kernel
theorem dX9_dearest_14 : Dc KX9_dearest 14 (.iconst 1) 1 := by decide +kernel
theorem dX9_dearest_15 : Dc KX9_dearest 15 (.invokestatic 41) 3 := by decide +kernel
theorem dX9_dearest_18 : Dc KX9_dearest 18 (.ifCond .eq 7) 3 := by decide +kernel
theorem dX9_dearest_21 : Dc KX9_dearest 21 (.iconst 0) 1 := by decide +kernel
theorem dX9_dearest_22 : Dc KX9_dearest 22 (.goto 4) 3 := by decide +kernel
theorem dX9_dearest_25 : Dc KX9_dearest 25 (.iconst 2) 1 := by decide +kernel
theorem dX9_dearest_26 : Dc KX9_dearest 26 (.putfield 34) 3 := by decide +kernel
theorem dX9_dearest_29 : Dc KX9_dearest 29 (.aload_n 0) 1 := by decide +kernel
theorem dX9_dearest_30 : Dc KX9_dearest 30 (.getfield 34) 3 := by decide +kernel
theorem dX9_dearest_33 : Dc KX9_dearest 33 (.ifCond .le 7) 3 := by decide +kernel
theorem dX9_dearest_36 : Dc KX9_dearest 36 (.iconst 0) 1 := by decide +kernel
theorem dX9_dearest_37 : Dc KX9_dearest 37 (.goto 9) 3 := by decide +kernel
theorem dX9_dearest_40 : Dc KX9_dearest 40 (.aload_n 0) 1 := by decide +kernel
theorem dX9_dearest_41 : Dc KX9_dearest 41 (.iload_n 1) 1 := by decide +kernel
theorem dX9_dearest_42 : Dc KX9_dearest 42 (.iload_n 2) 1 := by decide +kernel
theorem dX9_dearest_43 : Dc KX9_dearest 43 (.invokevirtual 229) 3 := by decide +kernel
theorem dX9_dearest_46 : Dc KX9_dearest 46 (.ireturn) 1 := by decide +kernel
theorem dX9_sizesBy_0 : Dc KX9_sizesBy 0 (.iconst 0) 1 := by decide +kernel
theorem dX9_sizesBy_1 : Dc KX9_sizesBy 1 (.istore_n 2) 1 := by decide +kernel
theorem dX9_sizesBy_2 : Dc KX9_sizesBy 2 (.iconst 0) 1 := by decide +kernel
theorem dX9_sizesBy_3 : Dc KX9_sizesBy 3 (.istore_n 3) 1 := by decide +kernel
theorem dX9_sizesBy_4 : Dc KX9_sizesBy 4 (.iload_n 3) 1 := by decide +kernel
theorem dX9_sizesBy_5 : Dc KX9_sizesBy 5 (.iconst 4) 1 := by decide +kernel
theorem dX9_sizesBy_6 : Dc KX9_sizesBy 6 (.if_icmp .ge 28) 3 := by decide +kernel
theorem dX9_sizesBy_9 : Dc KX9_sizesBy 9 (.aload_n 0) 1 := by decide +kernel
theorem dX9_sizesBy_10 : Dc KX9_sizesBy 10 (.iload_n 3) 1 := by decide +kernel
theorem dX9_sizesBy_11 : Dc KX9_sizesBy 11 (.aload_n 0) 1 := by decide +kernel
theorem dX9_sizesBy_12 : Dc KX9_sizesBy 12 (.getfield 7) 3 := by decide +kernel
theorem dX9_sizesBy_15 : Dc KX9_sizesBy 15 (.iconst 0) 1 := by decide +kernel
theorem dX9_sizesBy_16 : Dc KX9_sizesBy 16 (.iaload) 1 := by decide +kernel
theorem dX9_sizesBy_17 : Dc KX9_sizesBy 17 (.iload_n 1) 1 := by decide +kernel
theorem dX9_sizesBy_18 : Dc KX9_sizesBy 18 (.invokevirtual 77) 3 := by decide +kernel
theorem dX9_sizesBy_21 : Dc KX9_sizesBy 21 (.istore 4) 2 := by decide +kernel
theorem dX9_sizesBy_23 : Dc KX9_sizesBy 23 (.iload_n 2) 1 := by decide +kernel
theorem dX9_sizesBy_24 : Dc KX9_sizesBy 24 (.iload 4) 2 := by decide +kernel
theorem dX9_sizesBy_26 : Dc KX9_sizesBy 26 (.iadd) 1 := by decide +kernel
theorem dX9_sizesBy_27 : Dc KX9_sizesBy 27 (.istore_n 2) 1 := by decide +kernel
theorem dX9_sizesBy_28 : Dc KX9_sizesBy 28 (.iinc 3 1) 3 := by decide +kernel
theorem dX9_sizesBy_31 : Dc KX9_sizesBy 31 (.goto (-27)) 3 := by decide +kernel
theorem dX9_sizesBy_34 : Dc KX9_sizesBy 34 (.iload_n 2) 1 := by decide +kernel
theorem dX9_sizesBy_35 : Dc KX9_sizesBy 35 (.ireturn) 1 := by decide +kernel
theorem dX9_bestNow_0 : Dc KX9_bestNow 0 (.iconst 1) 1 := by decide +kernel
theorem dX9_bestNow_1 : Dc KX9_bestNow 1 (.istore_n 1) 1 := by decide +kernel
theorem dX9_bestNow_2 : Dc KX9_bestNow 2 (.aload_n 0) 1 := by decide +kernel
theorem dX9_bestNow_3 : Dc KX9_bestNow 3 (.iconst 1) 1 := by decide +kernel
theorem dX9_bestNow_4 : Dc KX9_bestNow 4 (.invokevirtual 232) 3 := by decide +kernel
theorem dX9_bestNow_7 : Dc KX9_bestNow 7 (.istore_n 2) 1 := by decide +kernel
theorem dX9_bestNow_8 : Dc KX9_bestNow 8 (.iconst 0) 1 := by decide +kernel
theorem dX9_bestNow_9 : Dc KX9_bestNow 9 (.istore_n 3) 1 := by decide +kernel
theorem dX9_bestNow_10 : Dc KX9_bestNow 10 (.iload_n 3) 1 := by decide +kernel
theorem dX9_bestNow_11 : Dc KX9_bestNow 11 (.iconst 4) 1 := by decide +kernel
theorem dX9_bestNow_12 : Dc KX9_bestNow 12 (.if_icmp .ge 104) 3 := by decide +kernel
theorem dX9_bestNow_15 : Dc KX9_bestNow 15 (.iconst 1) 1 := by decide +kernel
theorem dX9_bestNow_16 : Dc KX9_bestNow 16 (.istore 4) 2 := by decide +kernel
theorem dX9_bestNow_18 : Dc KX9_bestNow 18 (.iload 4) 2 := by decide +kernel
theorem dX9_bestNow_20 : Dc KX9_bestNow 20 (.aload_n 0) 1 := by decide +kernel
theorem dX9_bestNow_21 : Dc KX9_bestNow 21 (.iload_n 3) 1 := by decide +kernel
theorem dX9_bestNow_22 : Dc KX9_bestNow 22 (.invokevirtual 45) 3 := by decide +kernel
theorem dX9_bestNow_25 : Dc KX9_bestNow 25 (.if_icmp .ge 85) 3 := by decide +kernel
theorem dX9_bestNow_28 : Dc KX9_bestNow 28 (.aload_n 0) 1 := by decide +kernel
theorem dX9_bestNow_29 : Dc KX9_bestNow 29 (.iload_n 3) 1 := by decide +kernel
theorem dX9_bestNow_30 : Dc KX9_bestNow 30 (.iload 4) 2 := by decide +kernel
theorem dX9_bestNow_32 : Dc KX9_bestNow 32 (.invokevirtual 49) 3 := by decide +kernel
theorem dX9_bestNow_35 : Dc KX9_bestNow 35 (.aload_n 0) 1 := by decide +kernel
theorem dX9_bestNow_36 : Dc KX9_bestNow 36 (.iload_n 3) 1 := by decide +kernel
theorem dX9_bestNow_37 : Dc KX9_bestNow 37 (.iload 4) 2 := by decide +kernel
theorem dX9_bestNow_39 : Dc KX9_bestNow 39 (.iconst 1) 1 := by decide +kernel
theorem dX9_bestNow_40 : Dc KX9_bestNow 40 (.isub) 1 := by decide +kernel
theorem dX9_bestNow_41 : Dc KX9_bestNow 41 (.invokevirtual 49) 3 := by decide +kernel
theorem dX9_bestNow_44 : Dc KX9_bestNow 44 (.isub) 1 := by decide +kernel
theorem dX9_bestNow_45 : Dc KX9_bestNow 45 (.istore 5) 2 := by decide +kernel
theorem dX9_bestNow_47 : Dc KX9_bestNow 47 (.aload_n 0) 1 := by decide +kernel
theorem dX9_bestNow_48 : Dc KX9_bestNow 48 (.iload 5) 2 := by decide +kernel
theorem dX9_bestNow_50 : Dc KX9_bestNow 50 (.invokevirtual 232) 3 := by decide +kernel
theorem dX9_bestNow_53 : Dc KX9_bestNow 53 (.istore 6) 2 := by decide +kernel
theorem dX9_bestNow_55 : Dc KX9_bestNow 55 (.iload 6) 2 := by decide +kernel
theorem dX9_bestNow_57 : Dc KX9_bestNow 57 (.iload_n 2) 1 := by decide +kernel
theorem dX9_bestNow_58 : Dc KX9_bestNow 58 (.if_icmp .lt 15) 3 := by decide +kernel
theorem dX9_bestNow_61 : Dc KX9_bestNow 61 (.iload 6) 2 := by decide +kernel
theorem dX9_bestNow_63 : Dc KX9_bestNow 63 (.iload_n 2) 1 := by decide +kernel
theorem dX9_bestNow_64 : Dc KX9_bestNow 64 (.if_icmp .ne 13) 3 := by decide +kernel
theorem dX9_bestNow_67 : Dc KX9_bestNow 67 (.iload 5) 2 := by decide +kernel
theorem dX9_bestNow_69 : Dc KX9_bestNow 69 (.iload_n 1) 1 := by decide +kernel
theorem dX9_bestNow_70 : Dc KX9_bestNow 70 (.if_icmp .ge 7) 3 := by decide +kernel
theorem dX9_bestNow_73 : Dc KX9_bestNow 73 (.iconst 1) 1 := by decide +kernel
theorem dX9_bestNow_74 : Dc KX9_bestNow 74 (.goto 4) 3 := by decide +kernel
theorem dX9_bestNow_77 : Dc KX9_bestNow 77 (.iconst 0) 1 := by decide +kernel
theorem dX9_bestNow_78 : Dc KX9_bestNow 78 (.istore 7) 2 := by decide +kernel
theorem dX9_bestNow_80 : Dc KX9_bestNow 80 (.iload 7) 2 := by decide +kernel
theorem dX9_bestNow_82 : Dc KX9_bestNow 82 (.ifCond .eq 8) 3 := by decide +kernel
theorem dX9_bestNow_85 : Dc KX9_bestNow 85 (.iload 5) 2 := by decide +kernel
theorem dX9_bestNow_87 : Dc KX9_bestNow 87 (.goto 4) 3 := by decide +kernel
theorem dX9_bestNow_90 : Dc KX9_bestNow 90 (.iload_n 1) 1 := by decide +kernel
theorem dX9_bestNow_91 : Dc KX9_bestNow 91 (.istore_n 1) 1 := by decide +kernel
theorem dX9_bestNow_92 : Dc KX9_bestNow 92 (.iload 7) 2 := by decide +kernel
theorem dX9_bestNow_94 : Dc KX9_bestNow 94 (.ifCond .eq 8) 3 := by decide +kernel
theorem dX9_bestNow_97 : Dc KX9_bestNow 97 (.iload 6) 2 := by decide +kernel
theorem dX9_bestNow_99 : Dc KX9_bestNow 99 (.goto 4) 3 := by decide +kernel
theorem dX9_bestNow_102 : Dc KX9_bestNow 102 (.iload_n 2) 1 := by decide +kernel
theorem dX9_bestNow_103 : Dc KX9_bestNow 103 (.istore_n 2) 1 := by decide +kernel
theorem dX9_bestNow_104 : Dc KX9_bestNow 104 (.iinc 4 1) 3 := by decide +kernel
theorem dX9_bestNow_107 : Dc KX9_bestNow 107 (.goto (-89)) 3 := by decide +kernel
theorem dX9_bestNow_110 : Dc KX9_bestNow 110 (.iinc 3 1) 3 := by decide +kernel
theorem dX9_bestNow_113 : Dc KX9_bestNow 113 (.goto (-103)) 3 := by decide +kernel
theorem dX9_bestNow_116 : Dc KX9_bestNow 116 (.iload_n 1) 1 := by decide +kernel
theorem dX9_bestNow_117 : Dc KX9_bestNow 117 (.ireturn) 1 := by decide +kernel
theorem dX9_bestWidth_0 : Dc KX9_bestWidth 0 (.aload_n 0) 1 := by decide +kernel
theorem dX9_bestWidth_1 : Dc KX9_bestWidth 1 (.iconst 0) 1 := by decide +kernel
theorem dX9_bestWidth_2 : Dc KX9_bestWidth 2 (.putfield 34) 3 := by decide +kernel
theorem dX9_bestWidth_5 : Dc KX9_bestWidth 5 (.aload_n 0) 1 := by decide +kernel
theorem dX9_bestWidth_6 : Dc KX9_bestWidth 6 (.invokevirtual 235) 3 := by decide +kernel
theorem dX9_bestWidth_9 : Dc KX9_bestWidth 9 (.ireturn) 1 := by decide +kernel
theorem dX9_small_0 : Dc KX9_small 0 (.iconst 2) 1 := by decide +kernel
theorem dX9_small_1 : Dc KX9_small 1 (.aload_n 0) 1 := by decide +kernel
theorem dX9_small_2 : Dc KX9_small 2 (.iconst 0) 1 := by decide +kernel
theorem dX9_small_3 : Dc KX9_small 3 (.invokevirtual 210) 3 := by decide +kernel
theorem dX9_small_6 : Dc KX9_small 6 (.imul) 1 := by decide +kernel
theorem dX9_small_7 : Dc KX9_small 7 (.istore_n 1) 1 := by decide +kernel
theorem dX9_small_8 : Dc KX9_small 8 (.iload_n 1) 1 := by decide +kernel
theorem dX9_small_9 : Dc KX9_small 9 (.ifCond .ne 7) 3 := by decide +kernel
theorem dX9_small_12 : Dc KX9_small 12 (.dconst 1) 1 := by decide +kernel
theorem dX9_small_13 : Dc KX9_small 13 (.goto 12) 3 := by decide +kernel
theorem dX9_small_16 : Dc KX9_small 16 (.aload_n 0) 1 := by decide +kernel
theorem dX9_small_17 : Dc KX9_small 17 (.iconst 2) 1 := by decide +kernel
theorem dX9_small_18 : Dc KX9_small 18 (.invokevirtual 210) 3 := by decide +kernel
theorem dX9_small_21 : Dc KX9_small 21 (.i2d) 1 := by decide +kernel
theorem dX9_small_22 : Dc KX9_small 22 (.iload_n 1) 1 := by decide +kernel
theorem dX9_small_23 : Dc KX9_small 23 (.i2d) 1 := by decide +kernel
theorem dX9_small_24 : Dc KX9_small 24 (.ddiv) 1 := by decide +kernel
theorem dX9_small_25 : Dc KX9_small 25 (.dreturn) 1 := by decide +kernel
theorem dX9_smallness_0 : Dc KX9_smallness 0 (.aload_n 0) 1 := by decide +kernel
theorem dX9_smallness_1 : Dc KX9_smallness 1 (.iconst 0) 1 := by decide +kernel
theorem dX9_smallness_2 : Dc KX9_smallness 2 (.putfield 34) 3 := by decide +kernel
theorem dX9_smallness_5 : Dc KX9_smallness 5 (.aload_n 0) 1 := by decide +kernel
theorem dX9_smallness_6 : Dc KX9_smallness 6 (.invokevirtual 238) 3 := by decide +kernel
theorem dX9_smallness_9 : Dc KX9_smallness 9 (.dreturn) 1 := by decide +kernel
theorem dX9_mix_0 : Dc KX9_mix 0 (.aload_n 0) 1 := by decide +kernel
theorem dX9_mix_1 : Dc KX9_mix 1 (.ldc2_w 242) 3 := by decide +kernel
theorem dX9_mix_4 : Dc KX9_mix 4 (.aload_n 0) 1 := by decide +kernel
theorem dX9_mix_5 : Dc KX9_mix 5 (.getfield 244) 3 := by decide +kernel
theorem dX9_mix_8 : Dc KX9_mix 8 (.lmul) 1 := by decide +kernel
theorem dX9_mix_9 : Dc KX9_mix 9 (.lload_n 1) 1 := by decide +kernel
theorem dX9_mix_10 : Dc KX9_mix 10 (.ladd) 1 := by decide +kernel
theorem dX9_mix_11 : Dc KX9_mix 11 (.putfield 244) 3 := by decide +kernel
theorem dX9_mix_14 : Dc KX9_mix 14 (.return_) 1 := by decide +kernel
theorem dX9_mixSet_0 : Dc KX9_mixSet 0 (.iconst 0) 1 := by decide +kernel
theorem dX9_mixSet_1 : Dc KX9_mixSet 1 (.istore_n 2) 1 := by decide +kernel
theorem dX9_mixSet_2 : Dc KX9_mixSet 2 (.iload_n 2) 1 := by decide +kernel
theorem dX9_mixSet_3 : Dc KX9_mixSet 3 (.bipush 8) 2 := by decide +kernel
theorem dX9_mixSet_5 : Dc KX9_mixSet 5 (.if_icmp .ge 20) 3 := by decide +kernel
theorem dX9_mixSet_8 : Dc KX9_mixSet 8 (.aload_n 0) 1 := by decide +kernel
theorem dX9_mixSet_9 : Dc KX9_mixSet 9 (.aload_n 0) 1 := by decide +kernel
theorem dX9_mixSet_10 : Dc KX9_mixSet 10 (.iload_n 1) 1 := by decide +kernel
theorem dX9_mixSet_11 : Dc KX9_mixSet 11 (.iload_n 2) 1 := by decide +kernel
theorem dX9_mixSet_12 : Dc KX9_mixSet 12 (.invokevirtual 189) 3 := by decide +kernel
theorem dX9_mixSet_15 : Dc KX9_mixSet 15 (.i2l) 1 := by decide +kernel
theorem dX9_mixSet_16 : Dc KX9_mixSet 16 (.invokevirtual 248) 3 := by decide +kernel
theorem dX9_mixSet_19 : Dc KX9_mixSet 19 (.iinc 2 1) 3 := by decide +kernel
theorem dX9_mixSet_22 : Dc KX9_mixSet 22 (.goto (-20)) 3 := by decide +kernel
theorem dX9_mixSet_25 : Dc KX9_mixSet 25 (.iconst 0) 1 := by decide +kernel
theorem dX9_mixSet_26 : Dc KX9_mixSet 26 (.istore_n 2) 1 := by decide +kernel
theorem dX9_mixSet_27 : Dc KX9_mixSet 27 (.iload_n 2) 1 := by decide +kernel
theorem dX9_mixSet_28 : Dc KX9_mixSet 28 (.aload_n 0) 1 := by decide +kernel
theorem dX9_mixSet_29 : Dc KX9_mixSet 29 (.iload_n 1) 1 := by decide +kernel
theorem dX9_mixSet_30 : Dc KX9_mixSet 30 (.invokevirtual 45) 3 := by decide +kernel
theorem dX9_mixSet_33 : Dc KX9_mixSet 33 (.if_icmp .ge 20) 3 := by decide +kernel
theorem dX9_mixSet_36 : Dc KX9_mixSet 36 (.aload_n 0) 1 := by decide +kernel
theorem dX9_mixSet_37 : Dc KX9_mixSet 37 (.aload_n 0) 1 := by decide +kernel
theorem dX9_mixSet_38 : Dc KX9_mixSet 38 (.iload_n 1) 1 := by decide +kernel
theorem dX9_mixSet_39 : Dc KX9_mixSet 39 (.iload_n 2) 1 := by decide +kernel
theorem dX9_mixSet_40 : Dc KX9_mixSet 40 (.invokevirtual 49) 3 := by decide +kernel
theorem dX9_mixSet_43 : Dc KX9_mixSet 43 (.i2l) 1 := by decide +kernel
theorem dX9_mixSet_44 : Dc KX9_mixSet 44 (.invokevirtual 248) 3 := by decide +kernel
theorem dX9_mixSet_47 : Dc KX9_mixSet 47 (.iinc 2 1) 3 := by decide +kernel
theorem dX9_mixSet_50 : Dc KX9_mixSet 50 (.goto (-23)) 3 := by decide +kernel
theorem dX9_mixSet_53 : Dc KX9_mixSet 53 (.aload_n 0) 1 := by decide +kernel
theorem dX9_mixSet_54 : Dc KX9_mixSet 54 (.iload_n 1) 1 := by decide +kernel
theorem dX9_mixSet_55 : Dc KX9_mixSet 55 (.invokevirtual 177) 3 := by decide +kernel
theorem dX9_mixSet_58 : Dc KX9_mixSet 58 (.istore_n 2) 1 := by decide +kernel
theorem dX9_mixSet_59 : Dc KX9_mixSet 59 (.iconst 0) 1 := by decide +kernel
theorem dX9_mixSet_60 : Dc KX9_mixSet 60 (.istore_n 3) 1 := by decide +kernel
theorem dX9_mixSet_61 : Dc KX9_mixSet 61 (.iload_n 3) 1 := by decide +kernel
theorem dX9_mixSet_62 : Dc KX9_mixSet 62 (.bipush 6) 2 := by decide +kernel
theorem dX9_mixSet_64 : Dc KX9_mixSet 64 (.iload_n 2) 1 := by decide +kernel
theorem dX9_mixSet_65 : Dc KX9_mixSet 65 (.imul) 1 := by decide +kernel
theorem dX9_mixSet_66 : Dc KX9_mixSet 66 (.if_icmp .ge 27) 3 := by decide +kernel
theorem dX9_mixSet_69 : Dc KX9_mixSet 69 (.aload_n 0) 1 := by decide +kernel
theorem dX9_mixSet_70 : Dc KX9_mixSet 70 (.aload_n 0) 1 := by decide +kernel
theorem dX9_mixSet_71 : Dc KX9_mixSet 71 (.iload_n 1) 1 := by decide +kernel
theorem dX9_mixSet_72 : Dc KX9_mixSet 72 (.iload_n 3) 1 := by decide +kernel
theorem dX9_mixSet_73 : Dc KX9_mixSet 73 (.bipush 6) 2 := by decide +kernel
theorem dX9_mixSet_75 : Dc KX9_mixSet 75 (.idiv) 1 := by decide +kernel
theorem dX9_mixSet_76 : Dc KX9_mixSet 76 (.iload_n 3) 1 := by decide +kernel
theorem dX9_mixSet_77 : Dc KX9_mixSet 77 (.bipush 6) 2 := by decide +kernel
theorem dX9_mixSet_79 : Dc KX9_mixSet 79 (.irem) 1 := by decide +kernel
theorem dX9_mixSet_80 : Dc KX9_mixSet 80 (.invokevirtual 174) 3 := by decide +kernel
theorem dX9_mixSet_83 : Dc KX9_mixSet 83 (.i2l) 1 := by decide +kernel
theorem dX9_mixSet_84 : Dc KX9_mixSet 84 (.invokevirtual 248) 3 := by decide +kernel
theorem dX9_mixSet_87 : Dc KX9_mixSet 87 (.iinc 3 1) 3 := by decide +kernel
theorem dX9_mixSet_90 : Dc KX9_mixSet 90 (.goto (-29)) 3 := by decide +kernel
theorem dX9_mixSet_93 : Dc KX9_mixSet 93 (.aload_n 0) 1 := by decide +kernel
theorem dX9_mixSet_94 : Dc KX9_mixSet 94 (.aload_n 0) 1 := by decide +kernel
theorem dX9_mixSet_95 : Dc KX9_mixSet 95 (.iload_n 1) 1 := by decide +kernel
theorem dX9_mixSet_96 : Dc KX9_mixSet 96 (.iconst 0) 1 := by decide +kernel
theorem dX9_mixSet_97 : Dc KX9_mixSet 97 (.invokevirtual 229) 3 := by decide +kernel
theorem dX9_mixSet_100 : Dc KX9_mixSet 100 (.i2l) 1 := by decide +kernel
theorem dX9_mixSet_101 : Dc KX9_mixSet 101 (.invokevirtual 248) 3 := by decide +kernel
theorem dX9_mixSet_104 : Dc KX9_mixSet 104 (.aload_n 0) 1 := by decide +kernel
theorem dX9_mixSet_105 : Dc KX9_mixSet 105 (.aload_n 0) 1 := by decide +kernel
theorem dX9_mixSet_106 : Dc KX9_mixSet 106 (.iload_n 1) 1 := by decide +kernel
theorem dX9_mixSet_107 : Dc KX9_mixSet 107 (.iconst 1) 1 := by decide +kernel
theorem dX9_mixSet_108 : Dc KX9_mixSet 108 (.invokevirtual 229) 3 := by decide +kernel
theorem dX9_mixSet_111 : Dc KX9_mixSet 111 (.i2l) 1 := by decide +kernel
theorem dX9_mixSet_112 : Dc KX9_mixSet 112 (.invokevirtual 248) 3 := by decide +kernel
theorem dX9_mixSet_115 : Dc KX9_mixSet 115 (.aload_n 0) 1 := by decide +kernel
theorem dX9_mixSet_116 : Dc KX9_mixSet 116 (.aload_n 0) 1 := by decide +kernel
theorem dX9_mixSet_117 : Dc KX9_mixSet 117 (.iload_n 1) 1 := by decide +kernel
theorem dX9_mixSet_118 : Dc KX9_mixSet 118 (.sipush 5000) 3 := by decide +kernel
theorem dX9_mixSet_121 : Dc KX9_mixSet 121 (.invokevirtual 223) 3 := by decide +kernel
theorem dX9_mixSet_124 : Dc KX9_mixSet 124 (.i2l) 1 := by decide +kernel
theorem dX9_mixSet_125 : Dc KX9_mixSet 125 (.invokevirtual 248) 3 := by decide +kernel
theorem dX9_mixSet_128 : Dc KX9_mixSet 128 (.aload_n 0) 1 := by decide +kernel
theorem dX9_mixSet_129 : Dc KX9_mixSet 129 (.aload_n 0) 1 := by decide +kernel
theorem dX9_mixSet_130 : Dc KX9_mixSet 130 (.iload_n 1) 1 := by decide +kernel
theorem dX9_mixSet_131 : Dc KX9_mixSet 131 (.sipush 5000) 3 := by decide +kernel
theorem dX9_mixSet_134 : Dc KX9_mixSet 134 (.invokevirtual 165) 3 := by decide +kernel
theorem dX9_mixSet_137 : Dc KX9_mixSet 137 (.i2l) 1 := by decide +kernel
theorem dX9_mixSet_138 : Dc KX9_mixSet 138 (.invokevirtual 248) 3 := by decide +kernel
theorem dX9_mixSet_141 : Dc KX9_mixSet 141 (.iconst 0) 1 := by decide +kernel
theorem dX9_mixSet_142 : Dc KX9_mixSet 142 (.istore_n 3) 1 := by decide +kernel
theorem dX9_mixSet_143 : Dc KX9_mixSet 143 (.iload_n 3) 1 := by decide +kernel
theorem dX9_mixSet_144 : Dc KX9_mixSet 144 (.iconst 4) 1 := by decide +kernel
theorem dX9_mixSet_145 : Dc KX9_mixSet 145 (.if_icmp .ge 21) 3 := by decide +kernel
theorem dX9_mixSet_148 : Dc KX9_mixSet 148 (.aload_n 0) 1 := by decide +kernel
theorem dX9_mixSet_149 : Dc KX9_mixSet 149 (.aload_n 0) 1 := by decide +kernel
theorem dX9_mixSet_150 : Dc KX9_mixSet 150 (.iload_n 1) 1 := by decide +kernel
theorem dX9_mixSet_151 : Dc KX9_mixSet 151 (.iconst 0) 1 := by decide +kernel
theorem dX9_mixSet_152 : Dc KX9_mixSet 152 (.iload_n 3) 1 := by decide +kernel
theorem dX9_mixSet_153 : Dc KX9_mixSet 153 (.invokevirtual 201) 3 := by decide +kernel
theorem dX9_mixSet_156 : Dc KX9_mixSet 156 (.i2l) 1 := by decide +kernel
theorem dX9_mixSet_157 : Dc KX9_mixSet 157 (.invokevirtual 248) 3 := by decide +kernel
theorem dX9_mixSet_160 : Dc KX9_mixSet 160 (.iinc 3 1) 3 := by decide +kernel
theorem dX9_mixSet_163 : Dc KX9_mixSet 163 (.goto (-20)) 3 := by decide +kernel
theorem dX9_mixSet_166 : Dc KX9_mixSet 166 (.return_) 1 := by decide +kernel
theorem dX9_digest_0 : Dc KX9_digest 0 (.aload_n 0) 1 := by decide +kernel
theorem dX9_digest_1 : Dc KX9_digest 1 (.iconst 0) 1 := by decide +kernel
theorem dX9_digest_2 : Dc KX9_digest 2 (.putfield 34) 3 := by decide +kernel
theorem dX9_digest_5 : Dc KX9_digest 5 (.aload_n 0) 1 := by decide +kernel
theorem dX9_digest_6 : Dc KX9_digest 6 (.ldc2_w 252) 3 := by decide +kernel
theorem dX9_digest_9 : Dc KX9_digest 9 (.putfield 244) 3 := by decide +kernel
theorem dX9_digest_12 : Dc KX9_digest 12 (.iconst 0) 1 := by decide +kernel
theorem dX9_digest_13 : Dc KX9_digest 13 (.istore_n 1) 1 := by decide +kernel
theorem dX9_digest_14 : Dc KX9_digest 14 (.iload_n 1) 1 := by decide +kernel
theorem dX9_digest_15 : Dc KX9_digest 15 (.bipush 7) 2 := by decide +kernel
theorem dX9_digest_17 : Dc KX9_digest 17 (.if_icmp .ge 19) 3 := by decide +kernel
theorem dX9_digest_20 : Dc KX9_digest 20 (.aload_n 0) 1 := by decide +kernel
theorem dX9_digest_21 : Dc KX9_digest 21 (.aload_n 0) 1 := by decide +kernel
theorem dX9_digest_22 : Dc KX9_digest 22 (.iload_n 1) 1 := by decide +kernel
theorem dX9_digest_23 : Dc KX9_digest 23 (.invokevirtual 220) 3 := by decide +kernel
theorem dX9_digest_26 : Dc KX9_digest 26 (.i2l) 1 := by decide +kernel
theorem dX9_digest_27 : Dc KX9_digest 27 (.invokevirtual 248) 3 := by decide +kernel
theorem dX9_digest_30 : Dc KX9_digest 30 (.iinc 1 1) 3 := by decide +kernel
theorem dX9_digest_33 : Dc KX9_digest 33 (.goto (-19)) 3 := by decide +kernel
theorem dX9_digest_36 : Dc KX9_digest 36 (.aload_n 0) 1 := by decide +kernel
theorem dX9_digest_37 : Dc KX9_digest 37 (.aload_n 0) 1 := by decide +kernel
theorem dX9_digest_38 : Dc KX9_digest 38 (.getfield 7) 3 := by decide +kernel
theorem dX9_digest_41 : Dc KX9_digest 41 (.iconst 0) 1 := by decide +kernel
theorem dX9_digest_42 : Dc KX9_digest 42 (.iaload) 1 := by decide +kernel
theorem dX9_digest_43 : Dc KX9_digest 43 (.i2l) 1 := by decide +kernel
theorem dX9_digest_44 : Dc KX9_digest 44 (.invokevirtual 248) 3 := by decide +kernel
theorem dX9_digest_47 : Dc KX9_digest 47 (.aload_n 0) 1 := by decide +kernel
theorem dX9_digest_48 : Dc KX9_digest 48 (.aload_n 0) 1 := by decide +kernel
theorem dX9_digest_49 : Dc KX9_digest 49 (.getfield 7) 3 := by decide +kernel
theorem dX9_digest_52 : Dc KX9_digest 52 (.iconst 1) 1 := by decide +kernel
theorem dX9_digest_53 : Dc KX9_digest 53 (.iaload) 1 := by decide +kernel
theorem dX9_digest_54 : Dc KX9_digest 54 (.i2l) 1 := by decide +kernel
theorem dX9_digest_55 : Dc KX9_digest 55 (.invokevirtual 248) 3 := by decide +kernel
theorem dX9_digest_58 : Dc KX9_digest 58 (.iconst 0) 1 := by decide +kernel
theorem dX9_digest_59 : Dc KX9_digest 59 (.istore_n 1) 1 := by decide +kernel
theorem dX9_digest_60 : Dc KX9_digest 60 (.iload_n 1) 1 := by decide +kernel
theorem dX9_digest_61 : Dc KX9_digest 61 (.iconst 4) 1 := by decide +kernel
theorem dX9_digest_62 : Dc KX9_digest 62 (.if_icmp .ge 14) 3 := by decide +kernel
theorem dX9_digest_65 : Dc KX9_digest 65 (.aload_n 0) 1 := by decide +kernel
theorem dX9_digest_66 : Dc KX9_digest 66 (.iload_n 1) 1 := by decide +kernel
theorem dX9_digest_67 : Dc KX9_digest 67 (.invokevirtual 254) 3 := by decide +kernel
theorem dX9_digest_70 : Dc KX9_digest 70 (.iinc 1 1) 3 := by decide +kernel
theorem dX9_digest_73 : Dc KX9_digest 73 (.goto (-13)) 3 := by decide +kernel
theorem dX9_digest_76 : Dc KX9_digest 76 (.aload_n 0) 1 := by decide +kernel
theorem dX9_digest_77 : Dc KX9_digest 77 (.aload_n 0) 1 := by decide +kernel
theorem dX9_digest_78 : Dc KX9_digest 78 (.invokevirtual 235) 3 := by decide +kernel
theorem dX9_digest_81 : Dc KX9_digest 81 (.i2l) 1 := by decide +kernel
theorem dX9_digest_82 : Dc KX9_digest 82 (.invokevirtual 248) 3 := by decide +kernel
theorem dX9_digest_85 : Dc KX9_digest 85 (.aload_n 0) 1 := by decide +kernel
theorem dX9_digest_86 : Dc KX9_digest 86 (.aload_n 0) 1 := by decide +kernel
theorem dX9_digest_87 : Dc KX9_digest 87 (.invokevirtual 238) 3 := by decide +kernel
theorem dX9_digest_90 : Dc KX9_digest 90 (.invokestatic 257) 3 := by decide +kernel
theorem dX9_digest_93 : Dc KX9_digest 93 (.invokevirtual 248) 3 := by decide +kernel
theorem dX9_digest_96 : Dc KX9_digest 96 (.aload_n 0) 1 := by decide +kernel
theorem dX9_digest_97 : Dc KX9_digest 97 (.aload_n 0) 1 := by decide +kernel
theorem dX9_digest_98 : Dc KX9_digest 98 (.getfield 127) 3 := by decide +kernel
theorem dX9_digest_101 : Dc KX9_digest 101 (.i2l) 1 := by decide +kernel
theorem dX9_digest_102 : Dc KX9_digest 102 (.invokevirtual 248) 3 := by decide +kernel
theorem dX9_digest_105 : Dc KX9_digest 105 (.iconst 0) 1 := by decide +kernel
theorem dX9_digest_106 : Dc KX9_digest 106 (.istore_n 1) 1 := by decide +kernel
theorem dX9_digest_107 : Dc KX9_digest 107 (.iload_n 1) 1 := by decide +kernel
theorem dX9_digest_108 : Dc KX9_digest 108 (.aload_n 0) 1 := by decide +kernel
theorem dX9_digest_109 : Dc KX9_digest 109 (.getfield 127) 3 := by decide +kernel
theorem dX9_digest_112 : Dc KX9_digest 112 (.if_icmp .ge 20) 3 := by decide +kernel
theorem dX9_digest_115 : Dc KX9_digest 115 (.aload_n 0) 1 := by decide +kernel
theorem dX9_digest_116 : Dc KX9_digest 116 (.aload_n 0) 1 := by decide +kernel
theorem dX9_digest_117 : Dc KX9_digest 117 (.getfield 16) 3 := by decide +kernel
theorem dX9_digest_120 : Dc KX9_digest 120 (.iload_n 1) 1 := by decide +kernel
theorem dX9_digest_121 : Dc KX9_digest 121 (.iaload) 1 := by decide +kernel
theorem dX9_digest_122 : Dc KX9_digest 122 (.i2l) 1 := by decide +kernel
theorem dX9_digest_123 : Dc KX9_digest 123 (.invokevirtual 248) 3 := by decide +kernel
theorem dX9_digest_126 : Dc KX9_digest 126 (.iinc 1 1) 3 := by decide +kernel
theorem dX9_digest_129 : Dc KX9_digest 129 (.goto (-22)) 3 := by decide +kernel
theorem dX9_digest_132 : Dc KX9_digest 132 (.aload_n 0) 1 := by decide +kernel
theorem dX9_digest_133 : Dc KX9_digest 133 (.getfield 244) 3 := by decide +kernel
theorem dX9_digest_136 : Dc KX9_digest 136 (.lreturn) 1 := by decide +kernel
end
section
/-! decode rows -/
theorem dL_add_0 : Dc KL_add 0 (.aload_n 3) 1 := by decide +kernel
theorem dL_add_1 : Dc KL_add 1 (.iconst 0) 1 := by decide +kernel
theorem dL_add_2 : Dc KL_add 2 (.aload_n 0) 1 := by decide +kernel
theorem dL_add_3 : Dc KL_add 3 (.iload_n 1) 1 := by decide +kernel
theorem dL_add_4 : Dc KL_add 4 (.iload_n 2) 1 := by decide +kernel
theorem dL_add_5 : Dc KL_add 5 (.invokevirtual 7) 3 := by decide +kernel
theorem dL_add_8 : Dc KL_add 8 (.i2l) 1 := by decide +kernel
theorem dL_add_9 : Dc KL_add 9 (.lastore) 1 := by decide +kernel
theorem dL_add_10 : Dc KL_add 10 (.goto 15) 3 := by decide +kernel
theorem dL_add_13 : Dc KL_add 13 (.astore 4) 2 := by decide +kernel
theorem dL_add_15 : Dc KL_add 15 (.iconst 1) 1 := by decide +kernel
theorem dL_add_16 : Dc KL_add 16 (.ireturn) 1 := by decide +kernel
theorem dL_add_17 : Dc KL_add 17 (.astore 4) 2 := by decide +kernel
theorem dL_add_19 : Dc KL_add 19 (.iconst 2) 1 := by decide +kernel
theorem dL_add_20 : Dc KL_add 20 (.ireturn) 1 := by decide +kernel
theorem dL_add_21 : Dc KL_add 21 (.astore 4) 2 := by decide +kernel
theorem dL_add_23 : Dc KL_add 23 (.iconst 3) 1 := by decide +kernel
theorem dL_add_24 : Dc KL_add 24 (.ireturn) 1 := by decide +kernel
theorem dL_add_25 : Dc KL_add 25 (.iconst 0) 1 := by decide +kernel
theorem dL_add_26 : Dc KL_add 26 (.ireturn) 1 := by decide +kernel
theorem dL_remove_0 : Dc KL_remove 0 (.aload_n 3) 1 := by decide +kernel
theorem dL_remove_1 : Dc KL_remove 1 (.iconst 0) 1 := by decide +kernel
theorem dL_remove_2 : Dc KL_remove 2 (.aload_n 0) 1 := by decide +kernel
theorem dL_remove_3 : Dc KL_remove 3 (.iload_n 1) 1 := by decide +kernel
theorem dL_remove_4 : Dc KL_remove 4 (.iload_n 2) 1 := by decide +kernel
theorem dL_remove_5 : Dc KL_remove 5 (.invokevirtual 19) 3 := by decide +kernel
theorem dL_remove_8 : Dc KL_remove 8 (.i2l) 1 := by decide +kernel
theorem dL_remove_9 : Dc KL_remove 9 (.lastore) 1 := by decide +kernel
theorem dL_remove_10 : Dc KL_remove 10 (.goto 11) 3 := by decide +kernel
theorem dL_remove_13 : Dc KL_remove 13 (.astore 4) 2 := by decide +kernel
theorem dL_remove_15 : Dc KL_remove 15 (.iconst 1) 1 := by decide +kernel
theorem dL_remove_16 : Dc KL_remove 16 (.ireturn) 1 := by decide +kernel
theorem dL_remove_17 : Dc KL_remove 17 (.astore 4) 2 := by decide +kernel
theorem dL_remove_19 : Dc KL_remove 19 (.iconst 2) 1 := by decide +kernel
theorem dL_remove_20 : Dc KL_remove 20 (.ireturn) 1 := by decide +kernel
theorem dL_remove_21 : Dc KL_remove 21 (.iconst 0) 1 := by decide +kernel
theorem dL_remove_22 : Dc KL_remove 22 (.ireturn) 1 := by decide +kernel
theorem dL_removeRange_0 : Dc KL_removeRange 0 (.aload 4) 2 := by decide +kernel
theorem dL_removeRange_2 : Dc KL_removeRange 2 (.iconst 0) 1 := by decide +kernel
theorem dL_removeRange_3 : Dc KL_removeRange 3 (.aload_n 0) 1 := by decide +kernel
theorem dL_removeRange_4 : Dc KL_removeRange 4 (.iload_n 1) 1 := by decide +kernel
theorem dL_removeRange_5 : Dc KL_removeRange 5 (.iload_n 2) 1 := by decide +kernel
theorem dL_removeRange_6 : Dc KL_removeRange 6 (.iload_n 3) 1 := by decide +kernel
theorem dL_removeRange_7 : Dc KL_removeRange 7 (.invokevirtual 22) 3 := by decide +kernel
theorem dL_removeRange_10 : Dc KL_removeRange 10 (.i2l) 1 := by decide +kernel
theorem dL_removeRange_11 : Dc KL_removeRange 11 (.lastore) 1 := by decide +kernel
theorem dL_removeRange_12 : Dc KL_removeRange 12 (.goto 11) 3 := by decide +kernel
theorem dL_removeRange_15 : Dc KL_removeRange 15 (.astore 5) 2 := by decide +kernel
theorem dL_removeRange_17 : Dc KL_removeRange 17 (.iconst 1) 1 := by decide +kernel
theorem dL_removeRange_18 : Dc KL_removeRange 18 (.ireturn) 1 := by decide +kernel
theorem dL_removeRange_19 : Dc KL_removeRange 19 (.astore 5) 2 := by decide +kernel
theorem dL_removeRange_21 : Dc KL_removeRange 21 (.iconst 2) 1 := by decide +kernel
theorem dL_removeRange_22 : Dc KL_removeRange 22 (.ireturn) 1 := by decide +kernel
theorem dL_removeRange_23 : Dc KL_removeRange 23 (.iconst 0) 1 := by decide +kernel
theorem dL_removeRange_24 : Dc KL_removeRange 24 (.ireturn) 1 := by decide +kernel
theorem dL_shift_0 : Dc KL_shift 0 (.aload_n 3) 1 := by decide +kernel
theorem dL_shift_1 : Dc KL_shift 1 (.iconst 0) 1 := by decide +kernel
theorem dL_shift_2 : Dc KL_shift 2 (.aload_n 0) 1 := by decide +kernel
theorem dL_shift_3 : Dc KL_shift 3 (.iload_n 1) 1 := by decide +kernel
theorem dL_shift_4 : Dc KL_shift 4 (.iload_n 2) 1 := by decide +kernel
theorem dL_shift_5 : Dc KL_shift 5 (.invokevirtual 26) 3 := by decide +kernel
theorem dL_shift_8 : Dc KL_shift 8 (.i2l) 1 := by decide +kernel
theorem dL_shift_9 : Dc KL_shift 9 (.lastore) 1 := by decide +kernel
theorem dL_shift_10 : Dc KL_shift 10 (.goto 15) 3 := by decide +kernel
theorem dL_shift_13 : Dc KL_shift 13 (.astore 4) 2 := by decide +kernel
theorem dL_shift_15 : Dc KL_shift 15 (.iconst 1) 1 := by decide +kernel
theorem dL_shift_16 : Dc KL_shift 16 (.ireturn) 1 := by decide +kernel
theorem dL_shift_17 : Dc KL_shift 17 (.astore 4) 2 := by decide +kernel
theorem dL_shift_19 : Dc KL_shift 19 (.iconst 2) 1 := by decide +kernel
theorem dL_shift_20 : Dc KL_shift 20 (.ireturn) 1 := by decide +kernel
theorem dL_shift_21 : Dc KL_shift 21 (.astore 4) 2 := by decide +kernel
theorem dL_shift_23 : Dc KL_shift 23 (.iconst 3) 1 := by decide +kernel
theorem dL_shift_24 : Dc KL_shift 24 (.ireturn) 1 := by decide +kernel
theorem dL_shift_25 : Dc KL_shift 25 (.iconst 0) 1 := by decide +kernel
theorem dL_shift_26 : Dc KL_shift 26 (.ireturn) 1 := by decide +kernel
theorem dL_combine_0 : Dc KL_combine 0 (.aload 5) 2 := by decide +kernel
theorem dL_combine_2 : Dc KL_combine 2 (.iconst 0) 1 := by decide +kernel
theorem dL_combine_3 : Dc KL_combine 3 (.aload_n 0) 1 := by decide +kernel
theorem dL_combine_4 : Dc KL_combine 4 (.iload_n 1) 1 := by decide +kernel
theorem dL_combine_5 : Dc KL_combine 5 (.iload_n 2) 1 := by decide +kernel
theorem dL_combine_6 : Dc KL_combine 6 (.iload_n 3) 1 := by decide +kernel
theorem dL_combine_7 : Dc KL_combine 7 (.iload 4) 2 := by decide +kernel
theorem dL_combine_9 : Dc KL_combine 9 (.invokevirtual 29) 3 := by decide +kernel
theorem dL_combine_12 : Dc KL_combine 12 (.i2l) 1 := by decide +kernel
theorem dL_combine_13 : Dc KL_combine 13 (.lastore) 1 := by decide +kernel
theorem dL_combine_14 : Dc KL_combine 14 (.goto 15) 3 := by decide +kernel
theorem dL_combine_17 : Dc KL_combine 17 (.astore 6) 2 := by decide +kernel
theorem dL_combine_19 : Dc KL_combine 19 (.iconst 1) 1 := by decide +kernel
theorem dL_combine_20 : Dc KL_combine 20 (.ireturn) 1 := by decide +kernel
theorem dL_combine_21 : Dc KL_combine 21 (.astore 6) 2 := by decide +kernel
theorem dL_combine_23 : Dc KL_combine 23 (.iconst 2) 1 := by decide +kernel
theorem dL_combine_24 : Dc KL_combine 24 (.ireturn) 1 := by decide +kernel
theorem dL_combine_25 : Dc KL_combine 25 (.astore 6) 2 := by decide +kernel
theorem dL_combine_27 : Dc KL_combine 27 (.iconst 3) 1 := by decide +kernel
theorem dL_combine_28 : Dc KL_combine 28 (.ireturn) 1 := by decide +kernel
theorem dL_combine_29 : Dc KL_combine 29 (.iconst 0) 1 := by decide +kernel
theorem dL_combine_30 : Dc KL_combine 30 (.ireturn) 1 := by decide +kernel
theorem dL_set_0 : Dc KL_set 0 (.aload_n 3) 1 := by decide +kernel
theorem dL_set_1 : Dc KL_set 1 (.iconst 0) 1 := by decide +kernel
theorem dL_set_2 : Dc KL_set 2 (.aload_n 0) 1 := by decide +kernel
theorem dL_set_3 : Dc KL_set 3 (.iload_n 1) 1 := by decide +kernel
theorem dL_set_4 : Dc KL_set 4 (.iload_n 2) 1 := by decide +kernel
theorem dL_set_5 : Dc KL_set 5 (.invokevirtual 33) 3 := by decide +kernel
theorem dL_set_8 : Dc KL_set 8 (.i2l) 1 := by decide +kernel
theorem dL_set_9 : Dc KL_set 9 (.lastore) 1 := by decide +kernel
theorem dL_set_10 : Dc KL_set 10 (.goto 11) 3 := by decide +kernel
theorem dL_set_13 : Dc KL_set 13 (.astore 4) 2 := by decide +kernel
theorem dL_set_15 : Dc KL_set 15 (.iconst 1) 1 := by decide +kernel
theorem dL_set_16 : Dc KL_set 16 (.ireturn) 1 := by decide +kernel
theorem dL_set_17 : Dc KL_set 17 (.astore 4) 2 := by decide +kernel
theorem dL_set_19 : Dc KL_set 19 (.iconst 2) 1 := by decide +kernel
theorem dL_set_20 : Dc KL_set 20 (.ireturn) 1 := by decide +kernel
theorem dL_set_21 : Dc KL_set 21 (.iconst 0) 1 := by decide +kernel
theorem dL_set_22 : Dc KL_set 22 (.ireturn) 1 := by decide +kernel
theorem dL_append_0 : Dc KL_append 0 (.aload_n 2) 1 := by decide +kernel
theorem dL_append_1 : Dc KL_append 1 (.iconst 0) 1 := by decide +kernel
theorem dL_append_2 : Dc KL_append 2 (.aload_n 0) 1 := by decide +kernel
theorem dL_append_3 : Dc KL_append 3 (.iload_n 1) 1 := by decide +kernel
theorem dL_append_4 : Dc KL_append 4 (.invokevirtual 36) 3 := by decide +kernel
theorem dL_append_7 : Dc KL_append 7 (.i2l) 1 := by decide +kernel
theorem dL_append_8 : Dc KL_append 8 (.lastore) 1 := by decide +kernel
theorem dL_append_9 : Dc KL_append 9 (.goto 9) 3 := by decide +kernel
theorem dL_append_12 : Dc KL_append 12 (.astore_n 3) 1 := by decide +kernel
theorem dL_append_13 : Dc KL_append 13 (.iconst 1) 1 := by decide +kernel
theorem dL_append_14 : Dc KL_append 14 (.ireturn) 1 := by decide +kernel
theorem dL_append_15 : Dc KL_append 15 (.astore_n 3) 1 := by decide +kernel
theorem dL_append_16 : Dc KL_append 16 (.iconst 2) 1 := by decide +kernel
theorem dL_append_17 : Dc KL_append 17 (.ireturn) 1 := by decide +kernel
theorem dL_append_18 : Dc KL_append 18 (.iconst 0) 1 := by decide +kernel
theorem dL_append_19 : Dc KL_append 19 (.ireturn) 1 := by decide +kernel
theorem dL_read_0 : Dc KL_read 0 (.aload_n 2) 1 := by decide +kernel
theorem dL_read_1 : Dc KL_read 1 (.iconst 0) 1 := by decide +kernel
theorem dL_read_2 : Dc KL_read 2 (.aload_n 0) 1 := by decide +kernel
theorem dL_read_3 : Dc KL_read 3 (.iload_n 1) 1 := by decide +kernel
theorem dL_read_4 : Dc KL_read 4 (.invokevirtual 40) 3 := by decide +kernel
theorem dL_read_7 : Dc KL_read 7 (.i2l) 1 := by decide +kernel
theorem dL_read_8 : Dc KL_read 8 (.lastore) 1 := by decide +kernel
theorem dL_read_9 : Dc KL_read 9 (.goto 12) 3 := by decide +kernel
theorem dL_read_12 : Dc KL_read 12 (.astore_n 3) 1 := by decide +kernel
theorem dL_read_13 : Dc KL_read 13 (.iconst 1) 1 := by decide +kernel
theorem dL_read_14 : Dc KL_read 14 (.ireturn) 1 := by decide +kernel
theorem dL_read_15 : Dc KL_read 15 (.astore_n 3) 1 := by decide +kernel
theorem dL_read_16 : Dc KL_read 16 (.iconst 2) 1 := by decide +kernel
theorem dL_read_17 : Dc KL_read 17 (.ireturn) 1 := by decide +kernel
theorem dL_read_18 : Dc KL_read 18 (.astore_n 3) 1 := by decide +kernel
theorem dL_read_19 : Dc KL_read 19 (.iconst 3) 1 := by decide +kernel
theorem dL_read_20 : Dc KL_read 20 (.ireturn) 1 := by decide +kernel
theorem dL_read_21 : Dc KL_read 21 (.iconst 0) 1 := by decide +kernel
theorem dL_read_22 : Dc KL_read 22 (.ireturn) 1 := by decide +kernel
theorem dL_undo_0 : Dc KL_undo 0 (.aload_n 1) 1 := by decide +kernel
theorem dL_undo_1 : Dc KL_undo 1 (.iconst 0) 1 := by decide +kernel
theorem dL_undo_2 : Dc KL_undo 2 (.aload_n 0) 1 := by decide +kernel
theorem dL_undo_3 : Dc KL_undo 3 (.invokevirtual 43) 3 := by decide +kernel
theorem dL_undo_6 : Dc KL_undo 6 (.i2l) 1 := by decide +kernel
theorem dL_undo_7 : Dc KL_undo 7 (.lastore) 1 := by decide +kernel
theorem dL_undo_8 : Dc KL_undo 8 (.goto 6) 3 := by decide +kernel
theorem dL_undo_11 : Dc KL_undo 11 (.astore_n 2) 1 := by decide +kernel
theorem dL_undo_12 : Dc KL_undo 12 (.iconst 1) 1 := by decide +kernel
theorem dL_undo_13 : Dc KL_undo 13 (.ireturn) 1 := by decide +kernel
theorem dL_undo_14 : Dc KL_undo 14 (.iconst 0) 1 := by decide +kernel
theorem dL_undo_15 : Dc KL_undo 15 (.ireturn) 1 := by decide +kernel
theorem dL_has_0 : Dc KL_has 0 (.aload_n 3) 1 := by decide +kernel
theorem dL_has_1 : Dc KL_has 1 (.iconst 0) 1 := by decide +kernel
theorem dL_has_2 : Dc KL_has 2 (.aload_n 0) 1 := by decide +kernel
theorem dL_has_3 : Dc KL_has 3 (.iload_n 1) 1 := by decide +kernel
theorem dL_has_4 : Dc KL_has 4 (.iload_n 2) 1 := by decide +kernel
theorem dL_has_5 : Dc KL_has 5 (.invokevirtual 47) 3 := by decide +kernel
theorem dL_has_8 : Dc KL_has 8 (.i2l) 1 := by decide +kernel
theorem dL_has_9 : Dc KL_has 9 (.lastore) 1 := by decide +kernel
theorem dL_has_10 : Dc KL_has 10 (.goto 11) 3 := by decide +kernel
theorem dL_has_13 : Dc KL_has 13 (.astore 4) 2 := by decide +kernel
theorem dL_has_15 : Dc KL_has 15 (.iconst 1) 1 := by decide +kernel
theorem dL_has_16 : Dc KL_has 16 (.ireturn) 1 := by decide +kernel
theorem dL_has_17 : Dc KL_has 17 (.astore 4) 2 := by decide +kernel
theorem dL_has_19 : Dc KL_has 19 (.iconst 2) 1 := by decide +kernel
theorem dL_has_20 : Dc KL_has 20 (.ireturn) 1 := by decide +kernel
theorem dL_has_21 : Dc KL_has 21 (.iconst 0) 1 := by decide +kernel
theorem dL_has_22 : Dc KL_has 22 (.ireturn) 1 := by decide +kernel
theorem dL_member_0 : Dc KL_member 0 (.aload_n 3) 1 := by decide +kernel
theorem dL_member_1 : Dc KL_member 1 (.iconst 0) 1 := by decide +kernel
theorem dL_member_2 : Dc KL_member 2 (.aload_n 0) 1 := by decide +kernel
theorem dL_member_3 : Dc KL_member 3 (.iload_n 1) 1 := by decide +kernel
theorem dL_member_4 : Dc KL_member 4 (.iload_n 2) 1 := by decide +kernel
theorem dL_member_5 : Dc KL_member 5 (.invokevirtual 50) 3 := by decide +kernel
theorem dL_member_8 : Dc KL_member 8 (.i2l) 1 := by decide +kernel
theorem dL_member_9 : Dc KL_member 9 (.lastore) 1 := by decide +kernel
theorem dL_member_10 : Dc KL_member 10 (.goto 11) 3 := by decide +kernel
theorem dL_member_13 : Dc KL_member 13 (.astore 4) 2 := by decide +kernel
theorem dL_member_15 : Dc KL_member 15 (.iconst 1) 1 := by decide +kernel
theorem dL_member_16 : Dc KL_member 16 (.ireturn) 1 := by decide +kernel
theorem dL_member_17 : Dc KL_member 17 (.astore 4) 2 := by decide +kernel
theorem dL_member_19 : Dc KL_member 19 (.iconst 2) 1 := by decide +kernel
theorem dL_member_20 : Dc KL_member 20 (.ireturn) 1 := by decide +kernel
theorem dL_member_21 : Dc KL_member 21 (.iconst 0) 1 := by decide +kernel
theorem dL_member_22 : Dc KL_member 22 (.ireturn) 1 := by decide +kernel
theorem dL_less_0 : Dc KL_less 0 (.aload_n 3) 1 := by decide +kernel
theorem dL_less_1 : Dc KL_less 1 (.iconst 0) 1 := by decide +kernel
theorem dL_less_2 : Dc KL_less 2 (.aload_n 0) 1 := by decide +kernel
theorem dL_less_3 : Dc KL_less 3 (.iload_n 1) 1 := by decide +kernel
theorem dL_less_4 : Dc KL_less 4 (.iload_n 2) 1 := by decide +kernel
theorem dL_less_5 : Dc KL_less 5 (.invokevirtual 53) 3 := by decide +kernel
theorem dL_less_8 : Dc KL_less 8 (.i2l) 1 := by decide +kernel
theorem dL_less_9 : Dc KL_less 9 (.lastore) 1 := by decide +kernel
theorem dL_less_10 : Dc KL_less 10 (.goto 11) 3 := by decide +kernel
theorem dL_less_13 : Dc KL_less 13 (.astore 4) 2 := by decide +kernel
theorem dL_less_15 : Dc KL_less 15 (.iconst 1) 1 := by decide +kernel
theorem dL_less_16 : Dc KL_less 16 (.ireturn) 1 := by decide +kernel
theorem dL_less_17 : Dc KL_less 17 (.astore 4) 2 := by decide +kernel
theorem dL_less_19 : Dc KL_less 19 (.iconst 2) 1 := by decide +kernel
theorem dL_less_20 : Dc KL_less 20 (.ireturn) 1 := by decide +kernel
theorem dL_less_21 : Dc KL_less 21 (.iconst 0) 1 := by decide +kernel
theorem dL_less_22 : Dc KL_less 22 (.ireturn) 1 := by decide +kernel
theorem dL_nearest_0 : Dc KL_nearest 0 (.aload_n 3) 1 := by decide +kernel
theorem dL_nearest_1 : Dc KL_nearest 1 (.iconst 0) 1 := by decide +kernel
theorem dL_nearest_2 : Dc KL_nearest 2 (.aload_n 0) 1 := by decide +kernel
theorem dL_nearest_3 : Dc KL_nearest 3 (.iload_n 1) 1 := by decide +kernel
theorem dL_nearest_4 : Dc KL_nearest 4 (.iload_n 2) 1 := by decide +kernel
theorem dL_nearest_5 : Dc KL_nearest 5 (.invokevirtual 56) 3 := by decide +kernel
theorem dL_nearest_8 : Dc KL_nearest 8 (.i2l) 1 := by decide +kernel
theorem dL_nearest_9 : Dc KL_nearest 9 (.lastore) 1 := by decide +kernel
theorem dL_nearest_10 : Dc KL_nearest 10 (.goto 11) 3 := by decide +kernel
theorem dL_nearest_13 : Dc KL_nearest 13 (.astore 4) 2 := by decide +kernel
theorem dL_nearest_15 : Dc KL_nearest 15 (.iconst 1) 1 := by decide +kernel
theorem dL_nearest_16 : Dc KL_nearest 16 (.ireturn) 1 := by decide +kernel
theorem dL_nearest_17 : Dc KL_nearest 17 (.astore 4) 2 := by decide +kernel
theorem dL_nearest_19 : Dc KL_nearest 19 (.iconst 2) 1 := by decide +kernel
theorem dL_nearest_20 : Dc KL_nearest 20 (.ireturn) 1 := by decide +kernel
theorem dL_nearest_21 : Dc KL_nearest 21 (.iconst 0) 1 := by decide +kernel
theorem dL_nearest_22 : Dc KL_nearest 22 (.ireturn) 1 := by decide +kernel
theorem dL_block_0 : Dc KL_block 0 (.aload 4) 2 := by decide +kernel
theorem dL_block_2 : Dc KL_block 2 (.iconst 0) 1 := by decide +kernel
theorem dL_block_3 : Dc KL_block 3 (.aload_n 0) 1 := by decide +kernel
theorem dL_block_4 : Dc KL_block 4 (.iload_n 1) 1 := by decide +kernel
theorem dL_block_5 : Dc KL_block 5 (.iload_n 2) 1 := by decide +kernel
theorem dL_block_6 : Dc KL_block 6 (.iload_n 3) 1 := by decide +kernel
theorem dL_block_7 : Dc KL_block 7 (.invokevirtual 59) 3 := by decide +kernel
theorem dL_block_10 : Dc KL_block 10 (.i2l) 1 := by decide +kernel
theorem dL_block_11 : Dc KL_block 11 (.lastore) 1 := by decide +kernel
theorem dL_block_12 : Dc KL_block 12 (.goto 11) 3 := by decide +kernel
theorem dL_block_15 : Dc KL_block 15 (.astore 5) 2 := by decide +kernel
theorem dL_block_17 : Dc KL_block 17 (.iconst 1) 1 := by decide +kernel
theorem dL_block_18 : Dc KL_block 18 (.ireturn) 1 := by decide +kernel
theorem dL_block_19 : Dc KL_block 19 (.astore 5) 2 := by decide +kernel
theorem dL_block_21 : Dc KL_block 21 (.iconst 2) 1 := by decide +kernel
theorem dL_block_22 : Dc KL_block 22 (.ireturn) 1 := by decide +kernel
theorem dL_block_23 : Dc KL_block 23 (.iconst 0) 1 := by decide +kernel
theorem dL_block_24 : Dc KL_block 24 (.ireturn) 1 := by decide +kernel
theorem dL_of_0 : Dc KL_of 0 (.aload_n 3) 1 := by decide +kernel
theorem dL_of_1 : Dc KL_of 1 (.iconst 0) 1 := by decide +kernel
theorem dL_of_2 : Dc KL_of 2 (.aload_n 0) 1 := by decide +kernel
theorem dL_of_3 : Dc KL_of 3 (.iload_n 1) 1 := by decide +kernel
theorem dL_of_4 : Dc KL_of 4 (.iload_n 2) 1 := by decide +kernel
theorem dL_of_5 : Dc KL_of 5 (.invokevirtual 62) 3 := by decide +kernel
theorem dL_of_8 : Dc KL_of 8 (.i2l) 1 := by decide +kernel
theorem dL_of_9 : Dc KL_of 9 (.lastore) 1 := by decide +kernel
theorem dL_of_10 : Dc KL_of 10 (.goto 11) 3 := by decide +kernel
theorem dL_of_13 : Dc KL_of 13 (.astore 4) 2 := by decide +kernel
theorem dL_of_15 : Dc KL_of 15 (.iconst 1) 1 := by decide +kernel
theorem dL_of_16 : Dc KL_of 16 (.ireturn) 1 := by decide +kernel
theorem dL_of_17 : Dc KL_of 17 (.astore 4) 2 := by decide +kernel
theorem dL_of_19 : Dc KL_of 19 (.iconst 2) 1 := by decide +kernel
theorem dL_of_20 : Dc KL_of 20 (.ireturn) 1 := by decide +kernel
theorem dL_of_21 : Dc KL_of 21 (.iconst 0) 1 := by decide +kernel
theorem dL_of_22 : Dc KL_of 22 (.ireturn) 1 := by decide +kernel
theorem dL_leaps_0 : Dc KL_leaps 0 (.aload 4) 2 := by decide +kernel
theorem dL_leaps_2 : Dc KL_leaps 2 (.iconst 0) 1 := by decide +kernel
theorem dL_leaps_3 : Dc KL_leaps 3 (.aload_n 0) 1 := by decide +kernel
theorem dL_leaps_4 : Dc KL_leaps 4 (.iload_n 1) 1 := by decide +kernel
theorem dL_leaps_5 : Dc KL_leaps 5 (.iload_n 2) 1 := by decide +kernel
theorem dL_leaps_6 : Dc KL_leaps 6 (.iload_n 3) 1 := by decide +kernel
theorem dL_leaps_7 : Dc KL_leaps 7 (.invokevirtual 65) 3 := by decide +kernel
theorem dL_leaps_10 : Dc KL_leaps 10 (.i2l) 1 := by decide +kernel
theorem dL_leaps_11 : Dc KL_leaps 11 (.lastore) 1 := by decide +kernel
theorem dL_leaps_12 : Dc KL_leaps 12 (.goto 11) 3 := by decide +kernel
theorem dL_leaps_15 : Dc KL_leaps 15 (.astore 5) 2 := by decide +kernel
theorem dL_leaps_17 : Dc KL_leaps 17 (.iconst 1) 1 := by decide +kernel
theorem dL_leaps_18 : Dc KL_leaps 18 (.ireturn) 1 := by decide +kernel
theorem dL_leaps_19 : Dc KL_leaps 19 (.astore 5) 2 := by decide +kernel
theorem dL_leaps_21 : Dc KL_leaps 21 (.iconst 2) 1 := by decide +kernel
theorem dL_leaps_22 : Dc KL_leaps 22 (.ireturn) 1 := by decide +kernel
theorem dL_leaps_23 : Dc KL_leaps 23 (.iconst 0) 1 := by decide +kernel
theorem dL_leaps_24 : Dc KL_leaps 24 (.ireturn) 1 := by decide +kernel
theorem dL_count_0 : Dc KL_count 0 (.aload_n 2) 1 := by decide +kernel
theorem dL_count_1 : Dc KL_count 1 (.iconst 0) 1 := by decide +kernel
theorem dL_count_2 : Dc KL_count 2 (.aload_n 0) 1 := by decide +kernel
theorem dL_count_3 : Dc KL_count 3 (.iload_n 1) 1 := by decide +kernel
theorem dL_count_4 : Dc KL_count 4 (.invokevirtual 68) 3 := by decide +kernel
theorem dL_count_7 : Dc KL_count 7 (.i2l) 1 := by decide +kernel
theorem dL_count_8 : Dc KL_count 8 (.lastore) 1 := by decide +kernel
theorem dL_count_9 : Dc KL_count 9 (.goto 6) 3 := by decide +kernel
theorem dL_count_12 : Dc KL_count 12 (.astore_n 3) 1 := by decide +kernel
theorem dL_count_13 : Dc KL_count 13 (.iconst 1) 1 := by decide +kernel
theorem dL_count_14 : Dc KL_count 14 (.ireturn) 1 := by decide +kernel
theorem dL_count_15 : Dc KL_count 15 (.iconst 0) 1 := by decide +kernel
theorem dL_count_16 : Dc KL_count 16 (.ireturn) 1 := by decide +kernel
theorem dL_setting_0 : Dc KL_setting 0 (.aload_n 2) 1 := by decide +kernel
theorem dL_setting_1 : Dc KL_setting 1 (.iconst 0) 1 := by decide +kernel
theorem dL_setting_2 : Dc KL_setting 2 (.aload_n 0) 1 := by decide +kernel
theorem dL_setting_3 : Dc KL_setting 3 (.iload_n 1) 1 := by decide +kernel
theorem dL_setting_4 : Dc KL_setting 4 (.invokevirtual 71) 3 := by decide +kernel
theorem dL_setting_7 : Dc KL_setting 7 (.i2l) 1 := by decide +kernel
theorem dL_setting_8 : Dc KL_setting 8 (.lastore) 1 := by decide +kernel
theorem dL_setting_9 : Dc KL_setting 9 (.goto 6) 3 := by decide +kernel
theorem dL_setting_12 : Dc KL_setting 12 (.astore_n 3) 1 := by decide +kernel
theorem dL_setting_13 : Dc KL_setting 13 (.iconst 1) 1 := by decide +kernel
theorem dL_setting_14 : Dc KL_setting 14 (.ireturn) 1 := by decide +kernel
theorem dL_setting_15 : Dc KL_setting 15 (.iconst 0) 1 := by decide +kernel
theorem dL_setting_16 : Dc KL_setting 16 (.ireturn) 1 := by decide +kernel
theorem dL_ifSet_0 : Dc KL_ifSet 0 (.aload 4) 2 := by decide +kernel
theorem dL_ifSet_2 : Dc KL_ifSet 2 (.iconst 0) 1 := by decide +kernel
theorem dL_ifSet_3 : Dc KL_ifSet 3 (.aload_n 0) 1 := by decide +kernel
theorem dL_ifSet_4 : Dc KL_ifSet 4 (.iload_n 1) 1 := by decide +kernel
theorem dL_ifSet_5 : Dc KL_ifSet 5 (.iload_n 2) 1 := by decide +kernel
theorem dL_ifSet_6 : Dc KL_ifSet 6 (.iload_n 3) 1 := by decide +kernel
theorem dL_ifSet_7 : Dc KL_ifSet 7 (.invokevirtual 74) 3 := by decide +kernel
theorem dL_ifSet_10 : Dc KL_ifSet 10 (.i2l) 1 := by decide +kernel
theorem dL_ifSet_11 : Dc KL_ifSet 11 (.lastore) 1 := by decide +kernel
theorem dL_ifSet_12 : Dc KL_ifSet 12 (.goto 11) 3 := by decide +kernel
theorem dL_ifSet_15 : Dc KL_ifSet 15 (.astore 5) 2 := by decide +kernel
theorem dL_ifSet_17 : Dc KL_ifSet 17 (.iconst 1) 1 := by decide +kernel
theorem dL_ifSet_18 : Dc KL_ifSet 18 (.ireturn) 1 := by decide +kernel
theorem dL_ifSet_19 : Dc KL_ifSet 19 (.astore 5) 2 := by decide +kernel
theorem dL_ifSet_21 : Dc KL_ifSet 21 (.iconst 2) 1 := by decide +kernel
theorem dL_ifSet_22 : Dc KL_ifSet 22 (.ireturn) 1 := by decide +kernel
theorem dL_ifSet_23 : Dc KL_ifSet 23 (.iconst 0) 1 := by decide +kernel
theorem dL_ifSet_24 : Dc KL_ifSet 24 (.ireturn) 1 := by decide +kernel
theorem dL_ifAdded_0 : Dc KL_ifAdded 0 (.aload_n 3) 1 := by decide +kernel
theorem dL_ifAdded_1 : Dc KL_ifAdded 1 (.iconst 0) 1 := by decide +kernel
theorem dL_ifAdded_2 : Dc KL_ifAdded 2 (.aload_n 0) 1 := by decide +kernel
theorem dL_ifAdded_3 : Dc KL_ifAdded 3 (.iload_n 1) 1 := by decide +kernel
theorem dL_ifAdded_4 : Dc KL_ifAdded 4 (.iload_n 2) 1 := by decide +kernel
theorem dL_ifAdded_5 : Dc KL_ifAdded 5 (.invokevirtual 77) 3 := by decide +kernel
theorem dL_ifAdded_8 : Dc KL_ifAdded 8 (.i2l) 1 := by decide +kernel
theorem dL_ifAdded_9 : Dc KL_ifAdded 9 (.lastore) 1 := by decide +kernel
theorem dL_ifAdded_10 : Dc KL_ifAdded 10 (.goto 11) 3 := by decide +kernel
theorem dL_ifAdded_13 : Dc KL_ifAdded 13 (.astore 4) 2 := by decide +kernel
theorem dL_ifAdded_15 : Dc KL_ifAdded 15 (.iconst 1) 1 := by decide +kernel
theorem dL_ifAdded_16 : Dc KL_ifAdded 16 (.ireturn) 1 := by decide +kernel
theorem dL_ifAdded_17 : Dc KL_ifAdded 17 (.astore 4) 2 := by decide +kernel
theorem dL_ifAdded_19 : Dc KL_ifAdded 19 (.iconst 2) 1 := by decide +kernel
theorem dL_ifAdded_20 : Dc KL_ifAdded 20 (.ireturn) 1 := by decide +kernel
theorem dL_ifAdded_21 : Dc KL_ifAdded 21 (.iconst 0) 1 := by decide +kernel
theorem dL_ifAdded_22 : Dc KL_ifAdded 22 (.ireturn) 1 := by decide +kernel
theorem dL_dearest_0 : Dc KL_dearest 0 (.aload_n 3) 1 := by decide +kernel
theorem dL_dearest_1 : Dc KL_dearest 1 (.iconst 0) 1 := by decide +kernel
theorem dL_dearest_2 : Dc KL_dearest 2 (.aload_n 0) 1 := by decide +kernel
theorem dL_dearest_3 : Dc KL_dearest 3 (.iload_n 1) 1 := by decide +kernel
theorem dL_dearest_4 : Dc KL_dearest 4 (.iload_n 2) 1 := by decide +kernel
theorem dL_dearest_5 : Dc KL_dearest 5 (.invokevirtual 80) 3 := by decide +kernel
theorem dL_dearest_8 : Dc KL_dearest 8 (.i2l) 1 := by decide +kernel
theorem dL_dearest_9 : Dc KL_dearest 9 (.lastore) 1 := by decide +kernel
theorem dL_dearest_10 : Dc KL_dearest 10 (.goto 11) 3 := by decide +kernel
theorem dL_dearest_13 : Dc KL_dearest 13 (.astore 4) 2 := by decide +kernel
theorem dL_dearest_15 : Dc KL_dearest 15 (.iconst 1) 1 := by decide +kernel
theorem dL_dearest_16 : Dc KL_dearest 16 (.ireturn) 1 := by decide +kernel
theorem dL_dearest_17 : Dc KL_dearest 17 (.astore 4) 2 := by decide +kernel
theorem dL_dearest_19 : Dc KL_dearest 19 (.iconst 2) 1 := by decide +kernel
theorem dL_dearest_20 : Dc KL_dearest 20 (.ireturn) 1 := by decide +kernel
theorem dL_dearest_21 : Dc KL_dearest 21 (.iconst 0) 1 := by decide +kernel
theorem dL_dearest_22 : Dc KL_dearest 22 (.ireturn) 1 := by decide +kernel
theorem dL_law_0 : Dc KL_law 0 (.new 8) 3 := by decide +kernel
theorem dL_law_3 : Dc KL_law 3 (.dup) 1 := by decide +kernel
theorem dL_law_4 : Dc KL_law 4 (.invokespecial 83) 3 := by decide +kernel
theorem dL_law_7 : Dc KL_law 7 (.astore_n 1) 1 := by decide +kernel
theorem dL_law_8 : Dc KL_law 8 (.new 84) 3 := by decide +kernel
theorem dL_law_11 : Dc KL_law 11 (.dup) 1 := by decide +kernel
theorem dL_law_12 : Dc KL_law 12 (.invokespecial 86) 3 := by decide +kernel
theorem dL_law_15 : Dc KL_law 15 (.astore_n 2) 1 := by decide +kernel
theorem dL_law_16 : Dc KL_law 16 (.iconst 1) 1 := by decide +kernel
theorem dL_law_17 : Dc KL_law 17 (.newarray .long) 2 := by decide +kernel
theorem dL_law_19 : Dc KL_law 19 (.astore_n 3) 1 := by decide +kernel
theorem dL_law_20 : Dc KL_law 20 (.iconst 0) 1 := by decide +kernel
theorem dL_law_21 : Dc KL_law 21 (.istore 4) 2 := by decide +kernel
theorem dL_law_23 : Dc KL_law 23 (.iload 4) 2 := by decide +kernel
theorem dL_law_25 : Dc KL_law 25 (.aload_n 0) 1 := by decide +kernel
theorem dL_law_26 : Dc KL_law 26 (.arraylength) 1 := by decide +kernel
theorem dL_law_27 : Dc KL_law 27 (.iconst 5) 1 := by decide +kernel
theorem dL_law_28 : Dc KL_law 28 (.isub) 1 := by decide +kernel
theorem dL_law_29 : Dc KL_law 29 (.if_icmp .gt 1655) 3 := by decide +kernel
theorem dL_law_32 : Dc KL_law 32 (.aload_n 0) 1 := by decide +kernel
theorem dL_law_33 : Dc KL_law 33 (.iload 4) 2 := by decide +kernel
theorem dL_law_35 : Dc KL_law 35 (.iaload) 1 := by decide +kernel
theorem dL_law_36 : Dc KL_law 36 (.bipush 31) 2 := by decide +kernel
theorem dL_law_38 : Dc KL_law 38 (.iand) 1 := by decide +kernel
theorem dL_law_39 : Dc KL_law 39 (.tableswitch 1639 0 25 #[117, 185, 253, 333, 401, 493, 561, 617, 630, 643, 699, 743, 811, 879, 947, 1015, 1095, 1163, 1243, 1299, 1355, 1435, 1503, 1571, 1584, 1625]) 117 := by decide +kernel
theorem dL_law_156 : Dc KL_law 156 (.aload_n 1) 1 := by decide +kernel
theorem dL_law_157 : Dc KL_law 157 (.aload_n 0) 1 := by decide +kernel
theorem dL_law_158 : Dc KL_law 158 (.iload 4) 2 := by decide +kernel
theorem dL_law_160 : Dc KL_law 160 (.iconst 1) 1 := by decide +kernel
theorem dL_law_161 : Dc KL_law 161 (.iadd) 1 := by decide +kernel
theorem dL_law_162 : Dc KL_law 162 (.iaload) 1 := by decide +kernel
theorem dL_law_163 : Dc KL_law 163 (.aload_n 0) 1 := by decide +kernel
theorem dL_law_164 : Dc KL_law 164 (.iload 4) 2 := by decide +kernel
theorem dL_law_166 : Dc KL_law 166 (.iconst 2) 1 := by decide +kernel
theorem dL_law_167 : Dc KL_law 167 (.iadd) 1 := by decide +kernel
theorem dL_law_168 : Dc KL_law 168 (.iaload) 1 := by decide +kernel
theorem dL_law_169 : Dc KL_law 169 (.aload_n 3) 1 := by decide +kernel
theorem dL_law_170 : Dc KL_law 170 (.invokestatic 87) 3 := by decide +kernel
theorem dL_law_173 : Dc KL_law 173 (.istore 5) 2 := by decide +kernel
theorem dL_law_175 : Dc KL_law 175 (.aload_n 2) 1 := by decide +kernel
theorem dL_law_176 : Dc KL_law 176 (.aload_n 0) 1 := by decide +kernel
theorem dL_law_177 : Dc KL_law 177 (.iload 4) 2 := by decide +kernel
theorem dL_law_179 : Dc KL_law 179 (.iconst 1) 1 := by decide +kernel
theorem dL_law_180 : Dc KL_law 180 (.iadd) 1 := by decide +kernel
theorem dL_law_181 : Dc KL_law 181 (.iaload) 1 := by decide +kernel
theorem dL_law_182 : Dc KL_law 182 (.aload_n 0) 1 := by decide +kernel
theorem dL_law_183 : Dc KL_law 183 (.iload 4) 2 := by decide +kernel
theorem dL_law_185 : Dc KL_law 185 (.iconst 2) 1 := by decide +kernel
theorem dL_law_186 : Dc KL_law 186 (.iadd) 1 := by decide +kernel
theorem dL_law_187 : Dc KL_law 187 (.iaload) 1 := by decide +kernel
theorem dL_law_188 : Dc KL_law 188 (.invokevirtual 92) 3 := by decide +kernel
theorem dL_law_191 : Dc KL_law 191 (.istore 6) 2 := by decide +kernel
theorem dL_law_193 : Dc KL_law 193 (.aload_n 2) 1 := by decide +kernel
theorem dL_law_194 : Dc KL_law 194 (.invokevirtual 93) 3 := by decide +kernel
theorem dL_law_197 : Dc KL_law 197 (.iload 5) 2 := by decide +kernel
theorem dL_law_199 : Dc KL_law 199 (.if_icmp .eq 5) 3 := by decide +kernel
theorem dL_law_202 : Dc KL_law 202 (.iconst 0) 1 := by decide +kernel
theorem dL_law_203 : Dc KL_law 203 (.ireturn) 1 := by decide +kernel
theorem dL_law_204 : Dc KL_law 204 (.iload 5) 2 := by decide +kernel
theorem dL_law_206 : Dc KL_law 206 (.ifCond .ne 15) 3 := by decide +kernel
theorem dL_law_209 : Dc KL_law 209 (.aload_n 3) 1 := by decide +kernel
theorem dL_law_210 : Dc KL_law 210 (.iconst 0) 1 := by decide +kernel
theorem dL_law_211 : Dc KL_law 211 (.laload) 1 := by decide +kernel
theorem dL_law_212 : Dc KL_law 212 (.iload 6) 2 := by decide +kernel
theorem dL_law_214 : Dc KL_law 214 (.i2l) 1 := by decide +kernel
theorem dL_law_215 : Dc KL_law 215 (.lcmp) 1 := by decide +kernel
theorem dL_law_216 : Dc KL_law 216 (.ifCond .eq 5) 3 := by decide +kernel
theorem dL_law_219 : Dc KL_law 219 (.iconst 0) 1 := by decide +kernel
theorem dL_law_220 : Dc KL_law 220 (.ireturn) 1 := by decide +kernel
theorem dL_law_221 : Dc KL_law 221 (.goto 1457) 3 := by decide +kernel
theorem dL_law_224 : Dc KL_law 224 (.aload_n 1) 1 := by decide +kernel
theorem dL_law_225 : Dc KL_law 225 (.aload_n 0) 1 := by decide +kernel
theorem dL_law_226 : Dc KL_law 226 (.iload 4) 2 := by decide +kernel
theorem dL_law_228 : Dc KL_law 228 (.iconst 1) 1 := by decide +kernel
theorem dL_law_229 : Dc KL_law 229 (.iadd) 1 := by decide +kernel
theorem dL_law_230 : Dc KL_law 230 (.iaload) 1 := by decide +kernel
theorem dL_law_231 : Dc KL_law 231 (.aload_n 0) 1 := by decide +kernel
theorem dL_law_232 : Dc KL_law 232 (.iload 4) 2 := by decide +kernel
theorem dL_law_234 : Dc KL_law 234 (.iconst 2) 1 := by decide +kernel
theorem dL_law_235 : Dc KL_law 235 (.iadd) 1 := by decide +kernel
theorem dL_law_236 : Dc KL_law 236 (.iaload) 1 := by decide +kernel
theorem dL_law_237 : Dc KL_law 237 (.aload_n 3) 1 := by decide +kernel
theorem dL_law_238 : Dc KL_law 238 (.invokestatic 96) 3 := by decide +kernel
theorem dL_law_241 : Dc KL_law 241 (.istore 5) 2 := by decide +kernel
theorem dL_law_243 : Dc KL_law 243 (.aload_n 2) 1 := by decide +kernel
theorem dL_law_244 : Dc KL_law 244 (.aload_n 0) 1 := by decide +kernel
theorem dL_law_245 : Dc KL_law 245 (.iload 4) 2 := by decide +kernel
theorem dL_law_247 : Dc KL_law 247 (.iconst 1) 1 := by decide +kernel
theorem dL_law_248 : Dc KL_law 248 (.iadd) 1 := by decide +kernel
theorem dL_law_249 : Dc KL_law 249 (.iaload) 1 := by decide +kernel
theorem dL_law_250 : Dc KL_law 250 (.aload_n 0) 1 := by decide +kernel
theorem dL_law_251 : Dc KL_law 251 (.iload 4) 2 := by decide +kernel
theorem dL_law_253 : Dc KL_law 253 (.iconst 2) 1 := by decide +kernel
theorem dL_law_254 : Dc KL_law 254 (.iadd) 1 := by decide +kernel
theorem dL_law_255 : Dc KL_law 255 (.iaload) 1 := by decide +kernel
theorem dL_law_256 : Dc KL_law 256 (.invokevirtual 98) 3 := by decide +kernel
theorem dL_law_259 : Dc KL_law 259 (.istore 6) 2 := by decide +kernel
theorem dL_law_261 : Dc KL_law 261 (.aload_n 2) 1 := by decide +kernel
theorem dL_law_262 : Dc KL_law 262 (.invokevirtual 93) 3 := by decide +kernel
theorem dL_law_265 : Dc KL_law 265 (.iload 5) 2 := by decide +kernel
theorem dL_law_267 : Dc KL_law 267 (.if_icmp .eq 5) 3 := by decide +kernel
theorem dL_law_270 : Dc KL_law 270 (.iconst 0) 1 := by decide +kernel
theorem dL_law_271 : Dc KL_law 271 (.ireturn) 1 := by decide +kernel
theorem dL_law_272 : Dc KL_law 272 (.iload 5) 2 := by decide +kernel
theorem dL_law_274 : Dc KL_law 274 (.ifCond .ne 15) 3 := by decide +kernel
theorem dL_law_277 : Dc KL_law 277 (.aload_n 3) 1 := by decide +kernel
theorem dL_law_278 : Dc KL_law 278 (.iconst 0) 1 := by decide +kernel
theorem dL_law_279 : Dc KL_law 279 (.laload) 1 := by decide +kernel
theorem dL_law_280 : Dc KL_law 280 (.iload 6) 2 := by decide +kernel
theorem dL_law_282 : Dc KL_law 282 (.i2l) 1 := by decide +kernel
theorem dL_law_283 : Dc KL_law 283 (.lcmp) 1 := by decide +kernel
theorem dL_law_284 : Dc KL_law 284 (.ifCond .eq 5) 3 := by decide +kernel
theorem dL_law_287 : Dc KL_law 287 (.iconst 0) 1 := by decide +kernel
theorem dL_law_288 : Dc KL_law 288 (.ireturn) 1 := by decide +kernel
theorem dL_law_289 : Dc KL_law 289 (.goto 1389) 3 := by decide +kernel
theorem dL_law_292 : Dc KL_law 292 (.aload_n 1) 1 := by decide +kernel
theorem dL_law_293 : Dc KL_law 293 (.aload_n 0) 1 := by decide +kernel
theorem dL_law_294 : Dc KL_law 294 (.iload 4) 2 := by decide +kernel
theorem dL_law_296 : Dc KL_law 296 (.iconst 1) 1 := by decide +kernel
theorem dL_law_297 : Dc KL_law 297 (.iadd) 1 := by decide +kernel
theorem dL_law_298 : Dc KL_law 298 (.iaload) 1 := by decide +kernel
theorem dL_law_299 : Dc KL_law 299 (.aload_n 0) 1 := by decide +kernel
theorem dL_law_300 : Dc KL_law 300 (.iload 4) 2 := by decide +kernel
theorem dL_law_302 : Dc KL_law 302 (.iconst 2) 1 := by decide +kernel
theorem dL_law_303 : Dc KL_law 303 (.iadd) 1 := by decide +kernel
theorem dL_law_304 : Dc KL_law 304 (.iaload) 1 := by decide +kernel
theorem dL_law_305 : Dc KL_law 305 (.aload_n 0) 1 := by decide +kernel
theorem dL_law_306 : Dc KL_law 306 (.iload 4) 2 := by decide +kernel
theorem dL_law_308 : Dc KL_law 308 (.iconst 3) 1 := by decide +kernel
theorem dL_law_309 : Dc KL_law 309 (.iadd) 1 := by decide +kernel
theorem dL_law_310 : Dc KL_law 310 (.iaload) 1 := by decide +kernel
theorem dL_law_311 : Dc KL_law 311 (.aload_n 3) 1 := by decide +kernel
theorem dL_law_312 : Dc KL_law 312 (.invokestatic 99) 3 := by decide +kernel
theorem dL_law_315 : Dc KL_law 315 (.istore 5) 2 := by decide +kernel
theorem dL_law_317 : Dc KL_law 317 (.aload_n 2) 1 := by decide +kernel
theorem dL_law_318 : Dc KL_law 318 (.aload_n 0) 1 := by decide +kernel
theorem dL_law_319 : Dc KL_law 319 (.iload 4) 2 := by decide +kernel
theorem dL_law_321 : Dc KL_law 321 (.iconst 1) 1 := by decide +kernel
theorem dL_law_322 : Dc KL_law 322 (.iadd) 1 := by decide +kernel
theorem dL_law_323 : Dc KL_law 323 (.iaload) 1 := by decide +kernel
theorem dL_law_324 : Dc KL_law 324 (.aload_n 0) 1 := by decide +kernel
theorem dL_law_325 : Dc KL_law 325 (.iload 4) 2 := by decide +kernel
theorem dL_law_327 : Dc KL_law 327 (.iconst 2) 1 := by decide +kernel
theorem dL_law_328 : Dc KL_law 328 (.iadd) 1 := by decide +kernel
theorem dL_law_329 : Dc KL_law 329 (.iaload) 1 := by decide +kernel
theorem dL_law_330 : Dc KL_law 330 (.aload_n 0) 1 := by decide +kernel
theorem dL_law_331 : Dc KL_law 331 (.iload 4) 2 := by decide +kernel
theorem dL_law_333 : Dc KL_law 333 (.iconst 3) 1 := by decide +kernel
theorem dL_law_334 : Dc KL_law 334 (.iadd) 1 := by decide +kernel
theorem dL_law_335 : Dc KL_law 335 (.iaload) 1 := by decide +kernel
theorem dL_law_336 : Dc KL_law 336 (.invokevirtual 102) 3 := by decide +kernel
theorem dL_law_339 : Dc KL_law 339 (.istore 6) 2 := by decide +kernel
theorem dL_law_341 : Dc KL_law 341 (.aload_n 2) 1 := by decide +kernel
theorem dL_law_342 : Dc KL_law 342 (.invokevirtual 93) 3 := by decide +kernel
theorem dL_law_345 : Dc KL_law 345 (.iload 5) 2 := by decide +kernel
theorem dL_law_347 : Dc KL_law 347 (.if_icmp .eq 5) 3 := by decide +kernel
theorem dL_law_350 : Dc KL_law 350 (.iconst 0) 1 := by decide +kernel
theorem dL_law_351 : Dc KL_law 351 (.ireturn) 1 := by decide +kernel
theorem dL_law_352 : Dc KL_law 352 (.iload 5) 2 := by decide +kernel
theorem dL_law_354 : Dc KL_law 354 (.ifCond .ne 15) 3 := by decide +kernel
theorem dL_law_357 : Dc KL_law 357 (.aload_n 3) 1 := by decide +kernel
theorem dL_law_358 : Dc KL_law 358 (.iconst 0) 1 := by decide +kernel
theorem dL_law_359 : Dc KL_law 359 (.laload) 1 := by decide +kernel
theorem dL_law_360 : Dc KL_law 360 (.iload 6) 2 := by decide +kernel
theorem dL_law_362 : Dc KL_law 362 (.i2l) 1 := by decide +kernel
theorem dL_law_363 : Dc KL_law 363 (.lcmp) 1 := by decide +kernel
theorem dL_law_364 : Dc KL_law 364 (.ifCond .eq 5) 3 := by decide +kernel
theorem dL_law_367 : Dc KL_law 367 (.iconst 0) 1 := by decide +kernel
theorem dL_law_368 : Dc KL_law 368 (.ireturn) 1 := by decide +kernel
theorem dL_law_369 : Dc KL_law 369 (.goto 1309) 3 := by decide +kernel
theorem dL_law_372 : Dc KL_law 372 (.aload_n 1) 1 := by decide +kernel
theorem dL_law_373 : Dc KL_law 373 (.aload_n 0) 1 := by decide +kernel
theorem dL_law_374 : Dc KL_law 374 (.iload 4) 2 := by decide +kernel
theorem dL_law_376 : Dc KL_law 376 (.iconst 1) 1 := by decide +kernel
theorem dL_law_377 : Dc KL_law 377 (.iadd) 1 := by decide +kernel
theorem dL_law_378 : Dc KL_law 378 (.iaload) 1 := by decide +kernel
theorem dL_law_379 : Dc KL_law 379 (.aload_n 0) 1 := by decide +kernel
theorem dL_law_380 : Dc KL_law 380 (.iload 4) 2 := by decide +kernel
theorem dL_law_382 : Dc KL_law 382 (.iconst 2) 1 := by decide +kernel
theorem dL_law_383 : Dc KL_law 383 (.iadd) 1 := by decide +kernel
theorem dL_law_384 : Dc KL_law 384 (.iaload) 1 := by decide +kernel
theorem dL_law_385 : Dc KL_law 385 (.aload_n 3) 1 := by decide +kernel
theorem dL_law_386 : Dc KL_law 386 (.invokestatic 103) 3 := by decide +kernel
theorem dL_law_389 : Dc KL_law 389 (.istore 5) 2 := by decide +kernel
theorem dL_law_391 : Dc KL_law 391 (.aload_n 2) 1 := by decide +kernel
theorem dL_law_392 : Dc KL_law 392 (.aload_n 0) 1 := by decide +kernel
theorem dL_law_393 : Dc KL_law 393 (.iload 4) 2 := by decide +kernel
theorem dL_law_395 : Dc KL_law 395 (.iconst 1) 1 := by decide +kernel
theorem dL_law_396 : Dc KL_law 396 (.iadd) 1 := by decide +kernel
theorem dL_law_397 : Dc KL_law 397 (.iaload) 1 := by decide +kernel
theorem dL_law_398 : Dc KL_law 398 (.aload_n 0) 1 := by decide +kernel
theorem dL_law_399 : Dc KL_law 399 (.iload 4) 2 := by decide +kernel
theorem dL_law_401 : Dc KL_law 401 (.iconst 2) 1 := by decide +kernel
theorem dL_law_402 : Dc KL_law 402 (.iadd) 1 := by decide +kernel
theorem dL_law_403 : Dc KL_law 403 (.iaload) 1 := by decide +kernel
theorem dL_law_404 : Dc KL_law 404 (.invokevirtual 105) 3 := by decide +kernel
theorem dL_law_407 : Dc KL_law 407 (.istore 6) 2 := by decide +kernel
theorem dL_law_409 : Dc KL_law 409 (.aload_n 2) 1 := by decide +kernel
theorem dL_law_410 : Dc KL_law 410 (.invokevirtual 93) 3 := by decide +kernel
theorem dL_law_413 : Dc KL_law 413 (.iload 5) 2 := by decide +kernel
theorem dL_law_415 : Dc KL_law 415 (.if_icmp .eq 5) 3 := by decide +kernel
theorem dL_law_418 : Dc KL_law 418 (.iconst 0) 1 := by decide +kernel
theorem dL_law_419 : Dc KL_law 419 (.ireturn) 1 := by decide +kernel
theorem dL_law_420 : Dc KL_law 420 (.iload 5) 2 := by decide +kernel
theorem dL_law_422 : Dc KL_law 422 (.ifCond .ne 15) 3 := by decide +kernel
theorem dL_law_425 : Dc KL_law 425 (.aload_n 3) 1 := by decide +kernel
theorem dL_law_426 : Dc KL_law 426 (.iconst 0) 1 := by decide +kernel
theorem dL_law_427 : Dc KL_law 427 (.laload) 1 := by decide +kernel
theorem dL_law_428 : Dc KL_law 428 (.iload 6) 2 := by decide +kernel
theorem dL_law_430 : Dc KL_law 430 (.i2l) 1 := by decide +kernel
theorem dL_law_431 : Dc KL_law 431 (.lcmp) 1 := by decide +kernel
theorem dL_law_432 : Dc KL_law 432 (.ifCond .eq 5) 3 := by decide +kernel
theorem dL_law_435 : Dc KL_law 435 (.iconst 0) 1 := by decide +kernel
theorem dL_law_436 : Dc KL_law 436 (.ireturn) 1 := by decide +kernel
theorem dL_law_437 : Dc KL_law 437 (.goto 1241) 3 := by decide +kernel
theorem dL_law_440 : Dc KL_law 440 (.aload_n 1) 1 := by decide +kernel
theorem dL_law_441 : Dc KL_law 441 (.aload_n 0) 1 := by decide +kernel
theorem dL_law_442 : Dc KL_law 442 (.iload 4) 2 := by decide +kernel
theorem dL_law_444 : Dc KL_law 444 (.iconst 1) 1 := by decide +kernel
theorem dL_law_445 : Dc KL_law 445 (.iadd) 1 := by decide +kernel
theorem dL_law_446 : Dc KL_law 446 (.iaload) 1 := by decide +kernel
theorem dL_law_447 : Dc KL_law 447 (.aload_n 0) 1 := by decide +kernel
theorem dL_law_448 : Dc KL_law 448 (.iload 4) 2 := by decide +kernel
theorem dL_law_450 : Dc KL_law 450 (.iconst 2) 1 := by decide +kernel
theorem dL_law_451 : Dc KL_law 451 (.iadd) 1 := by decide +kernel
theorem dL_law_452 : Dc KL_law 452 (.iaload) 1 := by decide +kernel
theorem dL_law_453 : Dc KL_law 453 (.aload_n 0) 1 := by decide +kernel
theorem dL_law_454 : Dc KL_law 454 (.iload 4) 2 := by decide +kernel
theorem dL_law_456 : Dc KL_law 456 (.iconst 3) 1 := by decide +kernel
theorem dL_law_457 : Dc KL_law 457 (.iadd) 1 := by decide +kernel
theorem dL_law_458 : Dc KL_law 458 (.iaload) 1 := by decide +kernel
theorem dL_law_459 : Dc KL_law 459 (.aload_n 0) 1 := by decide +kernel
theorem dL_law_460 : Dc KL_law 460 (.iload 4) 2 := by decide +kernel
theorem dL_law_462 : Dc KL_law 462 (.iconst 4) 1 := by decide +kernel
theorem dL_law_463 : Dc KL_law 463 (.iadd) 1 := by decide +kernel
theorem dL_law_464 : Dc KL_law 464 (.iaload) 1 := by decide +kernel
theorem dL_law_465 : Dc KL_law 465 (.aload_n 3) 1 := by decide +kernel
theorem dL_law_466 : Dc KL_law 466 (.invokestatic 106) 3 := by decide +kernel
theorem dL_law_469 : Dc KL_law 469 (.istore 5) 2 := by decide +kernel
theorem dL_law_471 : Dc KL_law 471 (.aload_n 2) 1 := by decide +kernel
theorem dL_law_472 : Dc KL_law 472 (.aload_n 0) 1 := by decide +kernel
theorem dL_law_473 : Dc KL_law 473 (.iload 4) 2 := by decide +kernel
theorem dL_law_475 : Dc KL_law 475 (.iconst 1) 1 := by decide +kernel
theorem dL_law_476 : Dc KL_law 476 (.iadd) 1 := by decide +kernel
theorem dL_law_477 : Dc KL_law 477 (.iaload) 1 := by decide +kernel
theorem dL_law_478 : Dc KL_law 478 (.aload_n 0) 1 := by decide +kernel
theorem dL_law_479 : Dc KL_law 479 (.iload 4) 2 := by decide +kernel
theorem dL_law_481 : Dc KL_law 481 (.iconst 2) 1 := by decide +kernel
theorem dL_law_482 : Dc KL_law 482 (.iadd) 1 := by decide +kernel
theorem dL_law_483 : Dc KL_law 483 (.iaload) 1 := by decide +kernel
theorem dL_law_484 : Dc KL_law 484 (.aload_n 0) 1 := by decide +kernel
theorem dL_law_485 : Dc KL_law 485 (.iload 4) 2 := by decide +kernel
theorem dL_law_487 : Dc KL_law 487 (.iconst 3) 1 := by decide +kernel
theorem dL_law_488 : Dc KL_law 488 (.iadd) 1 := by decide +kernel
theorem dL_law_489 : Dc KL_law 489 (.iaload) 1 := by decide +kernel
theorem dL_law_490 : Dc KL_law 490 (.aload_n 0) 1 := by decide +kernel
theorem dL_law_491 : Dc KL_law 491 (.iload 4) 2 := by decide +kernel
theorem dL_law_493 : Dc KL_law 493 (.iconst 4) 1 := by decide +kernel
theorem dL_law_494 : Dc KL_law 494 (.iadd) 1 := by decide +kernel
theorem dL_law_495 : Dc KL_law 495 (.iaload) 1 := by decide +kernel
theorem dL_law_496 : Dc KL_law 496 (.invokevirtual 109) 3 := by decide +kernel
theorem dL_law_499 : Dc KL_law 499 (.istore 6) 2 := by decide +kernel
theorem dL_law_501 : Dc KL_law 501 (.aload_n 2) 1 := by decide +kernel
theorem dL_law_502 : Dc KL_law 502 (.invokevirtual 93) 3 := by decide +kernel
theorem dL_law_505 : Dc KL_law 505 (.iload 5) 2 := by decide +kernel
theorem dL_law_507 : Dc KL_law 507 (.if_icmp .eq 5) 3 := by decide +kernel
theorem dL_law_510 : Dc KL_law 510 (.iconst 0) 1 := by decide +kernel
theorem dL_law_511 : Dc KL_law 511 (.ireturn) 1 := by decide +kernel
theorem dL_law_512 : Dc KL_law 512 (.iload 5) 2 := by decide +kernel
theorem dL_law_514 : Dc KL_law 514 (.ifCond .ne 15) 3 := by decide +kernel
theorem dL_law_517 : Dc KL_law 517 (.aload_n 3) 1 := by decide +kernel
theorem dL_law_518 : Dc KL_law 518 (.iconst 0) 1 := by decide +kernel
theorem dL_law_519 : Dc KL_law 519 (.laload) 1 := by decide +kernel
theorem dL_law_520 : Dc KL_law 520 (.iload 6) 2 := by decide +kernel
theorem dL_law_522 : Dc KL_law 522 (.i2l) 1 := by decide +kernel
theorem dL_law_523 : Dc KL_law 523 (.lcmp) 1 := by decide +kernel
theorem dL_law_524 : Dc KL_law 524 (.ifCond .eq 5) 3 := by decide +kernel
theorem dL_law_527 : Dc KL_law 527 (.iconst 0) 1 := by decide +kernel
theorem dL_law_528 : Dc KL_law 528 (.ireturn) 1 := by decide +kernel
theorem dL_law_529 : Dc KL_law 529 (.goto 1149) 3 := by decide +kernel
theorem dL_law_532 : Dc KL_law 532 (.aload_n 1) 1 := by decide +kernel
theorem dL_law_533 : Dc KL_law 533 (.aload_n 0) 1 := by decide +kernel
theorem dL_law_534 : Dc KL_law 534 (.iload 4) 2 := by decide +kernel
theorem dL_law_536 : Dc KL_law 536 (.iconst 1) 1 := by decide +kernel
theorem dL_law_537 : Dc KL_law 537 (.iadd) 1 := by decide +kernel
theorem dL_law_538 : Dc KL_law 538 (.iaload) 1 := by decide +kernel
theorem dL_law_539 : Dc KL_law 539 (.aload_n 0) 1 := by decide +kernel
theorem dL_law_540 : Dc KL_law 540 (.iload 4) 2 := by decide +kernel
theorem dL_law_542 : Dc KL_law 542 (.iconst 2) 1 := by decide +kernel
theorem dL_law_543 : Dc KL_law 543 (.iadd) 1 := by decide +kernel
theorem dL_law_544 : Dc KL_law 544 (.iaload) 1 := by decide +kernel
theorem dL_law_545 : Dc KL_law 545 (.aload_n 3) 1 := by decide +kernel
theorem dL_law_546 : Dc KL_law 546 (.invokestatic 110) 3 := by decide +kernel
theorem dL_law_549 : Dc KL_law 549 (.istore 5) 2 := by decide +kernel
theorem dL_law_551 : Dc KL_law 551 (.aload_n 2) 1 := by decide +kernel
theorem dL_law_552 : Dc KL_law 552 (.aload_n 0) 1 := by decide +kernel
theorem dL_law_553 : Dc KL_law 553 (.iload 4) 2 := by decide +kernel
theorem dL_law_555 : Dc KL_law 555 (.iconst 1) 1 := by decide +kernel
theorem dL_law_556 : Dc KL_law 556 (.iadd) 1 := by decide +kernel
theorem dL_law_557 : Dc KL_law 557 (.iaload) 1 := by decide +kernel
theorem dL_law_558 : Dc KL_law 558 (.aload_n 0) 1 := by decide +kernel
theorem dL_law_559 : Dc KL_law 559 (.iload 4) 2 := by decide +kernel
theorem dL_law_561 : Dc KL_law 561 (.iconst 2) 1 := by decide +kernel
theorem dL_law_562 : Dc KL_law 562 (.iadd) 1 := by decide +kernel
theorem dL_law_563 : Dc KL_law 563 (.iaload) 1 := by decide +kernel
theorem dL_law_564 : Dc KL_law 564 (.invokevirtual 112) 3 := by decide +kernel
theorem dL_law_567 : Dc KL_law 567 (.istore 6) 2 := by decide +kernel
theorem dL_law_569 : Dc KL_law 569 (.aload_n 2) 1 := by decide +kernel
theorem dL_law_570 : Dc KL_law 570 (.invokevirtual 93) 3 := by decide +kernel
theorem dL_law_573 : Dc KL_law 573 (.iload 5) 2 := by decide +kernel
theorem dL_law_575 : Dc KL_law 575 (.if_icmp .eq 5) 3 := by decide +kernel
theorem dL_law_578 : Dc KL_law 578 (.iconst 0) 1 := by decide +kernel
theorem dL_law_579 : Dc KL_law 579 (.ireturn) 1 := by decide +kernel
theorem dL_law_580 : Dc KL_law 580 (.iload 5) 2 := by decide +kernel
theorem dL_law_582 : Dc KL_law 582 (.ifCond .ne 15) 3 := by decide +kernel
theorem dL_law_585 : Dc KL_law 585 (.aload_n 3) 1 := by decide +kernel
theorem dL_law_586 : Dc KL_law 586 (.iconst 0) 1 := by decide +kernel
theorem dL_law_587 : Dc KL_law 587 (.laload) 1 := by decide +kernel
theorem dL_law_588 : Dc KL_law 588 (.iload 6) 2 := by decide +kernel
theorem dL_law_590 : Dc KL_law 590 (.i2l) 1 := by decide +kernel
theorem dL_law_591 : Dc KL_law 591 (.lcmp) 1 := by decide +kernel
theorem dL_law_592 : Dc KL_law 592 (.ifCond .eq 5) 3 := by decide +kernel
theorem dL_law_595 : Dc KL_law 595 (.iconst 0) 1 := by decide +kernel
theorem dL_law_596 : Dc KL_law 596 (.ireturn) 1 := by decide +kernel
theorem dL_law_597 : Dc KL_law 597 (.goto 1081) 3 := by decide +kernel
theorem dL_law_600 : Dc KL_law 600 (.aload_n 1) 1 := by decide +kernel
theorem dL_law_601 : Dc KL_law 601 (.aload_n 0) 1 := by decide +kernel
theorem dL_law_602 : Dc KL_law 602 (.iload 4) 2 := by decide +kernel
theorem dL_law_604 : Dc KL_law 604 (.iconst 1) 1 := by decide +kernel
theorem dL_law_605 : Dc KL_law 605 (.iadd) 1 := by decide +kernel
theorem dL_law_606 : Dc KL_law 606 (.iaload) 1 := by decide +kernel
theorem dL_law_607 : Dc KL_law 607 (.aload_n 3) 1 := by decide +kernel
theorem dL_law_608 : Dc KL_law 608 (.invokestatic 113) 3 := by decide +kernel
theorem dL_law_611 : Dc KL_law 611 (.istore 5) 2 := by decide +kernel
theorem dL_law_613 : Dc KL_law 613 (.aload_n 2) 1 := by decide +kernel
theorem dL_law_614 : Dc KL_law 614 (.aload_n 0) 1 := by decide +kernel
theorem dL_law_615 : Dc KL_law 615 (.iload 4) 2 := by decide +kernel
theorem dL_law_617 : Dc KL_law 617 (.iconst 1) 1 := by decide +kernel
theorem dL_law_618 : Dc KL_law 618 (.iadd) 1 := by decide +kernel
theorem dL_law_619 : Dc KL_law 619 (.iaload) 1 := by decide +kernel
theorem dL_law_620 : Dc KL_law 620 (.invokevirtual 116) 3 := by decide +kernel
theorem dL_law_623 : Dc KL_law 623 (.istore 6) 2 := by decide +kernel
theorem dL_law_625 : Dc KL_law 625 (.aload_n 2) 1 := by decide +kernel
theorem dL_law_626 : Dc KL_law 626 (.invokevirtual 93) 3 := by decide +kernel
theorem dL_law_629 : Dc KL_law 629 (.iload 5) 2 := by decide +kernel
theorem dL_law_631 : Dc KL_law 631 (.if_icmp .eq 5) 3 := by decide +kernel
theorem dL_law_634 : Dc KL_law 634 (.iconst 0) 1 := by decide +kernel
theorem dL_law_635 : Dc KL_law 635 (.ireturn) 1 := by decide +kernel
theorem dL_law_636 : Dc KL_law 636 (.iload 5) 2 := by decide +kernel
theorem dL_law_638 : Dc KL_law 638 (.ifCond .ne 15) 3 := by decide +kernel
theorem dL_law_641 : Dc KL_law 641 (.aload_n 3) 1 := by decide +kernel
theorem dL_law_642 : Dc KL_law 642 (.iconst 0) 1 := by decide +kernel
theorem dL_law_643 : Dc KL_law 643 (.laload) 1 := by decide +kernel
theorem dL_law_644 : Dc KL_law 644 (.iload 6) 2 := by decide +kernel
theorem dL_law_646 : Dc KL_law 646 (.i2l) 1 := by decide +kernel
theorem dL_law_647 : Dc KL_law 647 (.lcmp) 1 := by decide +kernel
theorem dL_law_648 : Dc KL_law 648 (.ifCond .eq 5) 3 := by decide +kernel
theorem dL_law_651 : Dc KL_law 651 (.iconst 0) 1 := by decide +kernel
theorem dL_law_652 : Dc KL_law 652 (.ireturn) 1 := by decide +kernel
theorem dL_law_653 : Dc KL_law 653 (.goto 1025) 3 := by decide +kernel
theorem dL_law_656 : Dc KL_law 656 (.aload_n 1) 1 := by decide +kernel
theorem dL_law_657 : Dc KL_law 657 (.invokevirtual 117) 3 := by decide +kernel
theorem dL_law_660 : Dc KL_law 660 (.aload_n 2) 1 := by decide +kernel
theorem dL_law_661 : Dc KL_law 661 (.invokevirtual 120) 3 := by decide +kernel
theorem dL_law_664 : Dc KL_law 664 (.if_icmp .eq 1014) 3 := by decide +kernel
theorem dL_law_667 : Dc KL_law 667 (.iconst 0) 1 := by decide +kernel
theorem dL_law_668 : Dc KL_law 668 (.ireturn) 1 := by decide +kernel
theorem dL_law_669 : Dc KL_law 669 (.aload_n 1) 1 := by decide +kernel
theorem dL_law_670 : Dc KL_law 670 (.invokevirtual 121) 3 := by decide +kernel
theorem dL_law_673 : Dc KL_law 673 (.aload_n 2) 1 := by decide +kernel
theorem dL_law_674 : Dc KL_law 674 (.invokevirtual 124) 3 := by decide +kernel
theorem dL_law_677 : Dc KL_law 677 (.if_icmp .eq 1001) 3 := by decide +kernel
theorem dL_law_680 : Dc KL_law 680 (.iconst 0) 1 := by decide +kernel
theorem dL_law_681 : Dc KL_law 681 (.ireturn) 1 := by decide +kernel
theorem dL_law_682 : Dc KL_law 682 (.aload_n 1) 1 := by decide +kernel
theorem dL_law_683 : Dc KL_law 683 (.aload_n 0) 1 := by decide +kernel
theorem dL_law_684 : Dc KL_law 684 (.iload 4) 2 := by decide +kernel
theorem dL_law_686 : Dc KL_law 686 (.iconst 1) 1 := by decide +kernel
theorem dL_law_687 : Dc KL_law 687 (.iadd) 1 := by decide +kernel
theorem dL_law_688 : Dc KL_law 688 (.iaload) 1 := by decide +kernel
theorem dL_law_689 : Dc KL_law 689 (.aload_n 3) 1 := by decide +kernel
theorem dL_law_690 : Dc KL_law 690 (.invokestatic 125) 3 := by decide +kernel
theorem dL_law_693 : Dc KL_law 693 (.istore 5) 2 := by decide +kernel
theorem dL_law_695 : Dc KL_law 695 (.aload_n 2) 1 := by decide +kernel
theorem dL_law_696 : Dc KL_law 696 (.aload_n 0) 1 := by decide +kernel
theorem dL_law_697 : Dc KL_law 697 (.iload 4) 2 := by decide +kernel
theorem dL_law_699 : Dc KL_law 699 (.iconst 1) 1 := by decide +kernel
theorem dL_law_700 : Dc KL_law 700 (.iadd) 1 := by decide +kernel
theorem dL_law_701 : Dc KL_law 701 (.iaload) 1 := by decide +kernel
theorem dL_law_702 : Dc KL_law 702 (.invokevirtual 127) 3 := by decide +kernel
theorem dL_law_705 : Dc KL_law 705 (.istore 6) 2 := by decide +kernel
theorem dL_law_707 : Dc KL_law 707 (.aload_n 2) 1 := by decide +kernel
theorem dL_law_708 : Dc KL_law 708 (.invokevirtual 93) 3 := by decide +kernel
theorem dL_law_711 : Dc KL_law 711 (.iload 5) 2 := by decide +kernel
theorem dL_law_713 : Dc KL_law 713 (.if_icmp .eq 5) 3 := by decide +kernel
theorem dL_law_716 : Dc KL_law 716 (.iconst 0) 1 := by decide +kernel
theorem dL_law_717 : Dc KL_law 717 (.ireturn) 1 := by decide +kernel
theorem dL_law_718 : Dc KL_law 718 (.iload 5) 2 := by decide +kernel
theorem dL_law_720 : Dc KL_law 720 (.ifCond .ne 15) 3 := by decide +kernel
theorem dL_law_723 : Dc KL_law 723 (.aload_n 3) 1 := by decide +kernel
theorem dL_law_724 : Dc KL_law 724 (.iconst 0) 1 := by decide +kernel
theorem dL_law_725 : Dc KL_law 725 (.laload) 1 := by decide +kernel
theorem dL_law_726 : Dc KL_law 726 (.iload 6) 2 := by decide +kernel
theorem dL_law_728 : Dc KL_law 728 (.i2l) 1 := by decide +kernel
theorem dL_law_729 : Dc KL_law 729 (.lcmp) 1 := by decide +kernel
theorem dL_law_730 : Dc KL_law 730 (.ifCond .eq 5) 3 := by decide +kernel
theorem dL_law_733 : Dc KL_law 733 (.iconst 0) 1 := by decide +kernel
theorem dL_law_734 : Dc KL_law 734 (.ireturn) 1 := by decide +kernel
theorem dL_law_735 : Dc KL_law 735 (.goto 943) 3 := by decide +kernel
theorem dL_law_738 : Dc KL_law 738 (.aload_n 1) 1 := by decide +kernel
theorem dL_law_739 : Dc KL_law 739 (.aload_n 3) 1 := by decide +kernel
theorem dL_law_740 : Dc KL_law 740 (.invokestatic 128) 3 := by decide +kernel
theorem dL_law_743 : Dc KL_law 743 (.istore 5) 2 := by decide +kernel
theorem dL_law_745 : Dc KL_law 745 (.aload_n 2) 1 := by decide +kernel
theorem dL_law_746 : Dc KL_law 746 (.invokevirtual 131) 3 := by decide +kernel
theorem dL_law_749 : Dc KL_law 749 (.istore 6) 2 := by decide +kernel
theorem dL_law_751 : Dc KL_law 751 (.aload_n 2) 1 := by decide +kernel
theorem dL_law_752 : Dc KL_law 752 (.invokevirtual 93) 3 := by decide +kernel
theorem dL_law_755 : Dc KL_law 755 (.iload 5) 2 := by decide +kernel
theorem dL_law_757 : Dc KL_law 757 (.if_icmp .eq 5) 3 := by decide +kernel
theorem dL_law_760 : Dc KL_law 760 (.iconst 0) 1 := by decide +kernel
theorem dL_law_761 : Dc KL_law 761 (.ireturn) 1 := by decide +kernel
theorem dL_law_762 : Dc KL_law 762 (.iload 5) 2 := by decide +kernel
theorem dL_law_764 : Dc KL_law 764 (.ifCond .ne 15) 3 := by decide +kernel
theorem dL_law_767 : Dc KL_law 767 (.aload_n 3) 1 := by decide +kernel
theorem dL_law_768 : Dc KL_law 768 (.iconst 0) 1 := by decide +kernel
theorem dL_law_769 : Dc KL_law 769 (.laload) 1 := by decide +kernel
theorem dL_law_770 : Dc KL_law 770 (.iload 6) 2 := by decide +kernel
theorem dL_law_772 : Dc KL_law 772 (.i2l) 1 := by decide +kernel
theorem dL_law_773 : Dc KL_law 773 (.lcmp) 1 := by decide +kernel
theorem dL_law_774 : Dc KL_law 774 (.ifCond .eq 5) 3 := by decide +kernel
theorem dL_law_777 : Dc KL_law 777 (.iconst 0) 1 := by decide +kernel
theorem dL_law_778 : Dc KL_law 778 (.ireturn) 1 := by decide +kernel
theorem dL_law_779 : Dc KL_law 779 (.goto 899) 3 := by decide +kernel
theorem dL_law_782 : Dc KL_law 782 (.aload_n 1) 1 := by decide +kernel
theorem dL_law_783 : Dc KL_law 783 (.aload_n 0) 1 := by decide +kernel
theorem dL_law_784 : Dc KL_law 784 (.iload 4) 2 := by decide +kernel
theorem dL_law_786 : Dc KL_law 786 (.iconst 1) 1 := by decide +kernel
theorem dL_law_787 : Dc KL_law 787 (.iadd) 1 := by decide +kernel
theorem dL_law_788 : Dc KL_law 788 (.iaload) 1 := by decide +kernel
theorem dL_law_789 : Dc KL_law 789 (.aload_n 0) 1 := by decide +kernel
theorem dL_law_790 : Dc KL_law 790 (.iload 4) 2 := by decide +kernel
theorem dL_law_792 : Dc KL_law 792 (.iconst 2) 1 := by decide +kernel
theorem dL_law_793 : Dc KL_law 793 (.iadd) 1 := by decide +kernel
theorem dL_law_794 : Dc KL_law 794 (.iaload) 1 := by decide +kernel
theorem dL_law_795 : Dc KL_law 795 (.aload_n 3) 1 := by decide +kernel
theorem dL_law_796 : Dc KL_law 796 (.invokestatic 132) 3 := by decide +kernel
theorem dL_law_799 : Dc KL_law 799 (.istore 5) 2 := by decide +kernel
theorem dL_law_801 : Dc KL_law 801 (.aload_n 2) 1 := by decide +kernel
theorem dL_law_802 : Dc KL_law 802 (.aload_n 0) 1 := by decide +kernel
theorem dL_law_803 : Dc KL_law 803 (.iload 4) 2 := by decide +kernel
theorem dL_law_805 : Dc KL_law 805 (.iconst 1) 1 := by decide +kernel
theorem dL_law_806 : Dc KL_law 806 (.iadd) 1 := by decide +kernel
theorem dL_law_807 : Dc KL_law 807 (.iaload) 1 := by decide +kernel
theorem dL_law_808 : Dc KL_law 808 (.aload_n 0) 1 := by decide +kernel
theorem dL_law_809 : Dc KL_law 809 (.iload 4) 2 := by decide +kernel
theorem dL_law_811 : Dc KL_law 811 (.iconst 2) 1 := by decide +kernel
theorem dL_law_812 : Dc KL_law 812 (.iadd) 1 := by decide +kernel
theorem dL_law_813 : Dc KL_law 813 (.iaload) 1 := by decide +kernel
theorem dL_law_814 : Dc KL_law 814 (.invokevirtual 134) 3 := by decide +kernel
theorem dL_law_817 : Dc KL_law 817 (.istore 6) 2 := by decide +kernel
theorem dL_law_819 : Dc KL_law 819 (.aload_n 2) 1 := by decide +kernel
theorem dL_law_820 : Dc KL_law 820 (.invokevirtual 93) 3 := by decide +kernel
theorem dL_law_823 : Dc KL_law 823 (.iload 5) 2 := by decide +kernel
theorem dL_law_825 : Dc KL_law 825 (.if_icmp .eq 5) 3 := by decide +kernel
theorem dL_law_828 : Dc KL_law 828 (.iconst 0) 1 := by decide +kernel
theorem dL_law_829 : Dc KL_law 829 (.ireturn) 1 := by decide +kernel
theorem dL_law_830 : Dc KL_law 830 (.iload 5) 2 := by decide +kernel
theorem dL_law_832 : Dc KL_law 832 (.ifCond .ne 15) 3 := by decide +kernel
theorem dL_law_835 : Dc KL_law 835 (.aload_n 3) 1 := by decide +kernel
theorem dL_law_836 : Dc KL_law 836 (.iconst 0) 1 := by decide +kernel
theorem dL_law_837 : Dc KL_law 837 (.laload) 1 := by decide +kernel
theorem dL_law_838 : Dc KL_law 838 (.iload 6) 2 := by decide +kernel
theorem dL_law_840 : Dc KL_law 840 (.i2l) 1 := by decide +kernel
theorem dL_law_841 : Dc KL_law 841 (.lcmp) 1 := by decide +kernel
theorem dL_law_842 : Dc KL_law 842 (.ifCond .eq 5) 3 := by decide +kernel
theorem dL_law_845 : Dc KL_law 845 (.iconst 0) 1 := by decide +kernel
theorem dL_law_846 : Dc KL_law 846 (.ireturn) 1 := by decide +kernel
theorem dL_law_847 : Dc KL_law 847 (.goto 831) 3 := by decide +kernel
theorem dL_law_850 : Dc KL_law 850 (.aload_n 1) 1 := by decide +kernel
theorem dL_law_851 : Dc KL_law 851 (.aload_n 0) 1 := by decide +kernel
theorem dL_law_852 : Dc KL_law 852 (.iload 4) 2 := by decide +kernel
theorem dL_law_854 : Dc KL_law 854 (.iconst 1) 1 := by decide +kernel
theorem dL_law_855 : Dc KL_law 855 (.iadd) 1 := by decide +kernel
theorem dL_law_856 : Dc KL_law 856 (.iaload) 1 := by decide +kernel
theorem dL_law_857 : Dc KL_law 857 (.aload_n 0) 1 := by decide +kernel
theorem dL_law_858 : Dc KL_law 858 (.iload 4) 2 := by decide +kernel
theorem dL_law_860 : Dc KL_law 860 (.iconst 2) 1 := by decide +kernel
theorem dL_law_861 : Dc KL_law 861 (.iadd) 1 := by decide +kernel
theorem dL_law_862 : Dc KL_law 862 (.iaload) 1 := by decide +kernel
theorem dL_law_863 : Dc KL_law 863 (.aload_n 3) 1 := by decide +kernel
theorem dL_law_864 : Dc KL_law 864 (.invokestatic 135) 3 := by decide +kernel
theorem dL_law_867 : Dc KL_law 867 (.istore 5) 2 := by decide +kernel
theorem dL_law_869 : Dc KL_law 869 (.aload_n 2) 1 := by decide +kernel
theorem dL_law_870 : Dc KL_law 870 (.aload_n 0) 1 := by decide +kernel
theorem dL_law_871 : Dc KL_law 871 (.iload 4) 2 := by decide +kernel
theorem dL_law_873 : Dc KL_law 873 (.iconst 1) 1 := by decide +kernel
theorem dL_law_874 : Dc KL_law 874 (.iadd) 1 := by decide +kernel
theorem dL_law_875 : Dc KL_law 875 (.iaload) 1 := by decide +kernel
theorem dL_law_876 : Dc KL_law 876 (.aload_n 0) 1 := by decide +kernel
theorem dL_law_877 : Dc KL_law 877 (.iload 4) 2 := by decide +kernel
theorem dL_law_879 : Dc KL_law 879 (.iconst 2) 1 := by decide +kernel
theorem dL_law_880 : Dc KL_law 880 (.iadd) 1 := by decide +kernel
theorem dL_law_881 : Dc KL_law 881 (.iaload) 1 := by decide +kernel
theorem dL_law_882 : Dc KL_law 882 (.invokevirtual 137) 3 := by decide +kernel
theorem dL_law_885 : Dc KL_law 885 (.istore 6) 2 := by decide +kernel
theorem dL_law_887 : Dc KL_law 887 (.aload_n 2) 1 := by decide +kernel
theorem dL_law_888 : Dc KL_law 888 (.invokevirtual 93) 3 := by decide +kernel
theorem dL_law_891 : Dc KL_law 891 (.iload 5) 2 := by decide +kernel
theorem dL_law_893 : Dc KL_law 893 (.if_icmp .eq 5) 3 := by decide +kernel
theorem dL_law_896 : Dc KL_law 896 (.iconst 0) 1 := by decide +kernel
theorem dL_law_897 : Dc KL_law 897 (.ireturn) 1 := by decide +kernel
theorem dL_law_898 : Dc KL_law 898 (.iload 5) 2 := by decide +kernel
theorem dL_law_900 : Dc KL_law 900 (.ifCond .ne 15) 3 := by decide +kernel
theorem dL_law_903 : Dc KL_law 903 (.aload_n 3) 1 := by decide +kernel
theorem dL_law_904 : Dc KL_law 904 (.iconst 0) 1 := by decide +kernel
theorem dL_law_905 : Dc KL_law 905 (.laload) 1 := by decide +kernel
theorem dL_law_906 : Dc KL_law 906 (.iload 6) 2 := by decide +kernel
theorem dL_law_908 : Dc KL_law 908 (.i2l) 1 := by decide +kernel
theorem dL_law_909 : Dc KL_law 909 (.lcmp) 1 := by decide +kernel
theorem dL_law_910 : Dc KL_law 910 (.ifCond .eq 5) 3 := by decide +kernel
theorem dL_law_913 : Dc KL_law 913 (.iconst 0) 1 := by decide +kernel
theorem dL_law_914 : Dc KL_law 914 (.ireturn) 1 := by decide +kernel
theorem dL_law_915 : Dc KL_law 915 (.goto 763) 3 := by decide +kernel
theorem dL_law_918 : Dc KL_law 918 (.aload_n 1) 1 := by decide +kernel
theorem dL_law_919 : Dc KL_law 919 (.aload_n 0) 1 := by decide +kernel
theorem dL_law_920 : Dc KL_law 920 (.iload 4) 2 := by decide +kernel
theorem dL_law_922 : Dc KL_law 922 (.iconst 1) 1 := by decide +kernel
theorem dL_law_923 : Dc KL_law 923 (.iadd) 1 := by decide +kernel
theorem dL_law_924 : Dc KL_law 924 (.iaload) 1 := by decide +kernel
theorem dL_law_925 : Dc KL_law 925 (.aload_n 0) 1 := by decide +kernel
theorem dL_law_926 : Dc KL_law 926 (.iload 4) 2 := by decide +kernel
theorem dL_law_928 : Dc KL_law 928 (.iconst 2) 1 := by decide +kernel
theorem dL_law_929 : Dc KL_law 929 (.iadd) 1 := by decide +kernel
theorem dL_law_930 : Dc KL_law 930 (.iaload) 1 := by decide +kernel
theorem dL_law_931 : Dc KL_law 931 (.aload_n 3) 1 := by decide +kernel
theorem dL_law_932 : Dc KL_law 932 (.invokestatic 138) 3 := by decide +kernel
theorem dL_law_935 : Dc KL_law 935 (.istore 5) 2 := by decide +kernel
theorem dL_law_937 : Dc KL_law 937 (.aload_n 2) 1 := by decide +kernel
theorem dL_law_938 : Dc KL_law 938 (.aload_n 0) 1 := by decide +kernel
theorem dL_law_939 : Dc KL_law 939 (.iload 4) 2 := by decide +kernel
theorem dL_law_941 : Dc KL_law 941 (.iconst 1) 1 := by decide +kernel
theorem dL_law_942 : Dc KL_law 942 (.iadd) 1 := by decide +kernel
theorem dL_law_943 : Dc KL_law 943 (.iaload) 1 := by decide +kernel
theorem dL_law_944 : Dc KL_law 944 (.aload_n 0) 1 := by decide +kernel
theorem dL_law_945 : Dc KL_law 945 (.iload 4) 2 := by decide +kernel
theorem dL_law_947 : Dc KL_law 947 (.iconst 2) 1 := by decide +kernel
theorem dL_law_948 : Dc KL_law 948 (.iadd) 1 := by decide +kernel
theorem dL_law_949 : Dc KL_law 949 (.iaload) 1 := by decide +kernel
theorem dL_law_950 : Dc KL_law 950 (.invokevirtual 140) 3 := by decide +kernel
theorem dL_law_953 : Dc KL_law 953 (.istore 6) 2 := by decide +kernel
theorem dL_law_955 : Dc KL_law 955 (.aload_n 2) 1 := by decide +kernel
theorem dL_law_956 : Dc KL_law 956 (.invokevirtual 93) 3 := by decide +kernel
theorem dL_law_959 : Dc KL_law 959 (.iload 5) 2 := by decide +kernel
theorem dL_law_961 : Dc KL_law 961 (.if_icmp .eq 5) 3 := by decide +kernel
theorem dL_law_964 : Dc KL_law 964 (.iconst 0) 1 := by decide +kernel
theorem dL_law_965 : Dc KL_law 965 (.ireturn) 1 := by decide +kernel
theorem dL_law_966 : Dc KL_law 966 (.iload 5) 2 := by decide +kernel
theorem dL_law_968 : Dc KL_law 968 (.ifCond .ne 15) 3 := by decide +kernel
theorem dL_law_971 : Dc KL_law 971 (.aload_n 3) 1 := by decide +kernel
theorem dL_law_972 : Dc KL_law 972 (.iconst 0) 1 := by decide +kernel
theorem dL_law_973 : Dc KL_law 973 (.laload) 1 := by decide +kernel
theorem dL_law_974 : Dc KL_law 974 (.iload 6) 2 := by decide +kernel
theorem dL_law_976 : Dc KL_law 976 (.i2l) 1 := by decide +kernel
theorem dL_law_977 : Dc KL_law 977 (.lcmp) 1 := by decide +kernel
theorem dL_law_978 : Dc KL_law 978 (.ifCond .eq 5) 3 := by decide +kernel
theorem dL_law_981 : Dc KL_law 981 (.iconst 0) 1 := by decide +kernel
theorem dL_law_982 : Dc KL_law 982 (.ireturn) 1 := by decide +kernel
theorem dL_law_983 : Dc KL_law 983 (.goto 695) 3 := by decide +kernel
theorem dL_law_986 : Dc KL_law 986 (.aload_n 1) 1 := by decide +kernel
theorem dL_law_987 : Dc KL_law 987 (.aload_n 0) 1 := by decide +kernel
theorem dL_law_988 : Dc KL_law 988 (.iload 4) 2 := by decide +kernel
theorem dL_law_990 : Dc KL_law 990 (.iconst 1) 1 := by decide +kernel
theorem dL_law_991 : Dc KL_law 991 (.iadd) 1 := by decide +kernel
theorem dL_law_992 : Dc KL_law 992 (.iaload) 1 := by decide +kernel
theorem dL_law_993 : Dc KL_law 993 (.aload_n 0) 1 := by decide +kernel
theorem dL_law_994 : Dc KL_law 994 (.iload 4) 2 := by decide +kernel
theorem dL_law_996 : Dc KL_law 996 (.iconst 2) 1 := by decide +kernel
theorem dL_law_997 : Dc KL_law 997 (.iadd) 1 := by decide +kernel
theorem dL_law_998 : Dc KL_law 998 (.iaload) 1 := by decide +kernel
theorem dL_law_999 : Dc KL_law 999 (.aload_n 3) 1 := by decide +kernel
theorem dL_law_1000 : Dc KL_law 1000 (.invokestatic 141) 3 := by decide +kernel
theorem dL_law_1003 : Dc KL_law 1003 (.istore 5) 2 := by decide +kernel
theorem dL_law_1005 : Dc KL_law 1005 (.aload_n 2) 1 := by decide +kernel
theorem dL_law_1006 : Dc KL_law 1006 (.aload_n 0) 1 := by decide +kernel
theorem dL_law_1007 : Dc KL_law 1007 (.iload 4) 2 := by decide +kernel
theorem dL_law_1009 : Dc KL_law 1009 (.iconst 1) 1 := by decide +kernel
theorem dL_law_1010 : Dc KL_law 1010 (.iadd) 1 := by decide +kernel
theorem dL_law_1011 : Dc KL_law 1011 (.iaload) 1 := by decide +kernel
theorem dL_law_1012 : Dc KL_law 1012 (.aload_n 0) 1 := by decide +kernel
theorem dL_law_1013 : Dc KL_law 1013 (.iload 4) 2 := by decide +kernel
theorem dL_law_1015 : Dc KL_law 1015 (.iconst 2) 1 := by decide +kernel
theorem dL_law_1016 : Dc KL_law 1016 (.iadd) 1 := by decide +kernel
theorem dL_law_1017 : Dc KL_law 1017 (.iaload) 1 := by decide +kernel
theorem dL_law_1018 : Dc KL_law 1018 (.invokevirtual 143) 3 := by decide +kernel
theorem dL_law_1021 : Dc KL_law 1021 (.istore 6) 2 := by decide +kernel
theorem dL_law_1023 : Dc KL_law 1023 (.aload_n 2) 1 := by decide +kernel
theorem dL_law_1024 : Dc KL_law 1024 (.invokevirtual 93) 3 := by decide +kernel
theorem dL_law_1027 : Dc KL_law 1027 (.iload 5) 2 := by decide +kernel
theorem dL_law_1029 : Dc KL_law 1029 (.if_icmp .eq 5) 3 := by decide +kernel
theorem dL_law_1032 : Dc KL_law 1032 (.iconst 0) 1 := by decide +kernel
theorem dL_law_1033 : Dc KL_law 1033 (.ireturn) 1 := by decide +kernel
theorem dL_law_1034 : Dc KL_law 1034 (.iload 5) 2 := by decide +kernel
theorem dL_law_1036 : Dc KL_law 1036 (.ifCond .ne 15) 3 := by decide +kernel
theorem dL_law_1039 : Dc KL_law 1039 (.aload_n 3) 1 := by decide +kernel
theorem dL_law_1040 : Dc KL_law 1040 (.iconst 0) 1 := by decide +kernel
theorem dL_law_1041 : Dc KL_law 1041 (.laload) 1 := by decide +kernel
theorem dL_law_1042 : Dc KL_law 1042 (.iload 6) 2 := by decide +kernel
theorem dL_law_1044 : Dc KL_law 1044 (.i2l) 1 := by decide +kernel
theorem dL_law_1045 : Dc KL_law 1045 (.lcmp) 1 := by decide +kernel
theorem dL_law_1046 : Dc KL_law 1046 (.ifCond .eq 5) 3 := by decide +kernel
theorem dL_law_1049 : Dc KL_law 1049 (.iconst 0) 1 := by decide +kernel
theorem dL_law_1050 : Dc KL_law 1050 (.ireturn) 1 := by decide +kernel
theorem dL_law_1051 : Dc KL_law 1051 (.goto 627) 3 := by decide +kernel
theorem dL_law_1054 : Dc KL_law 1054 (.aload_n 1) 1 := by decide +kernel
theorem dL_law_1055 : Dc KL_law 1055 (.aload_n 0) 1 := by decide +kernel
theorem dL_law_1056 : Dc KL_law 1056 (.iload 4) 2 := by decide +kernel
theorem dL_law_1058 : Dc KL_law 1058 (.iconst 1) 1 := by decide +kernel
theorem dL_law_1059 : Dc KL_law 1059 (.iadd) 1 := by decide +kernel
theorem dL_law_1060 : Dc KL_law 1060 (.iaload) 1 := by decide +kernel
theorem dL_law_1061 : Dc KL_law 1061 (.aload_n 0) 1 := by decide +kernel
theorem dL_law_1062 : Dc KL_law 1062 (.iload 4) 2 := by decide +kernel
theorem dL_law_1064 : Dc KL_law 1064 (.iconst 2) 1 := by decide +kernel
theorem dL_law_1065 : Dc KL_law 1065 (.iadd) 1 := by decide +kernel
theorem dL_law_1066 : Dc KL_law 1066 (.iaload) 1 := by decide +kernel
theorem dL_law_1067 : Dc KL_law 1067 (.aload_n 0) 1 := by decide +kernel
theorem dL_law_1068 : Dc KL_law 1068 (.iload 4) 2 := by decide +kernel
theorem dL_law_1070 : Dc KL_law 1070 (.iconst 3) 1 := by decide +kernel
theorem dL_law_1071 : Dc KL_law 1071 (.iadd) 1 := by decide +kernel
theorem dL_law_1072 : Dc KL_law 1072 (.iaload) 1 := by decide +kernel
theorem dL_law_1073 : Dc KL_law 1073 (.aload_n 3) 1 := by decide +kernel
theorem dL_law_1074 : Dc KL_law 1074 (.invokestatic 144) 3 := by decide +kernel
theorem dL_law_1077 : Dc KL_law 1077 (.istore 5) 2 := by decide +kernel
theorem dL_law_1079 : Dc KL_law 1079 (.aload_n 2) 1 := by decide +kernel
theorem dL_law_1080 : Dc KL_law 1080 (.aload_n 0) 1 := by decide +kernel
theorem dL_law_1081 : Dc KL_law 1081 (.iload 4) 2 := by decide +kernel
theorem dL_law_1083 : Dc KL_law 1083 (.iconst 1) 1 := by decide +kernel
theorem dL_law_1084 : Dc KL_law 1084 (.iadd) 1 := by decide +kernel
theorem dL_law_1085 : Dc KL_law 1085 (.iaload) 1 := by decide +kernel
theorem dL_law_1086 : Dc KL_law 1086 (.aload_n 0) 1 := by decide +kernel
theorem dL_law_1087 : Dc KL_law 1087 (.iload 4) 2 := by decide +kernel
theorem dL_law_1089 : Dc KL_law 1089 (.iconst 2) 1 := by decide +kernel
theorem dL_law_1090 : Dc KL_law 1090 (.iadd) 1 := by decide +kernel
theorem dL_law_1091 : Dc KL_law 1091 (.iaload) 1 := by decide +kernel
theorem dL_law_1092 : Dc KL_law 1092 (.aload_n 0) 1 := by decide +kernel
theorem dL_law_1093 : Dc KL_law 1093 (.iload 4) 2 := by decide +kernel
theorem dL_law_1095 : Dc KL_law 1095 (.iconst 3) 1 := by decide +kernel
theorem dL_law_1096 : Dc KL_law 1096 (.iadd) 1 := by decide +kernel
theorem dL_law_1097 : Dc KL_law 1097 (.iaload) 1 := by decide +kernel
theorem dL_law_1098 : Dc KL_law 1098 (.invokevirtual 146) 3 := by decide +kernel
theorem dL_law_1101 : Dc KL_law 1101 (.istore 6) 2 := by decide +kernel
theorem dL_law_1103 : Dc KL_law 1103 (.aload_n 2) 1 := by decide +kernel
theorem dL_law_1104 : Dc KL_law 1104 (.invokevirtual 93) 3 := by decide +kernel
theorem dL_law_1107 : Dc KL_law 1107 (.iload 5) 2 := by decide +kernel
theorem dL_law_1109 : Dc KL_law 1109 (.if_icmp .eq 5) 3 := by decide +kernel
theorem dL_law_1112 : Dc KL_law 1112 (.iconst 0) 1 := by decide +kernel
theorem dL_law_1113 : Dc KL_law 1113 (.ireturn) 1 := by decide +kernel
theorem dL_law_1114 : Dc KL_law 1114 (.iload 5) 2 := by decide +kernel
theorem dL_law_1116 : Dc KL_law 1116 (.ifCond .ne 15) 3 := by decide +kernel
theorem dL_law_1119 : Dc KL_law 1119 (.aload_n 3) 1 := by decide +kernel
theorem dL_law_1120 : Dc KL_law 1120 (.iconst 0) 1 := by decide +kernel
theorem dL_law_1121 : Dc KL_law 1121 (.laload) 1 := by decide +kernel
theorem dL_law_1122 : Dc KL_law 1122 (.iload 6) 2 := by decide +kernel
theorem dL_law_1124 : Dc KL_law 1124 (.i2l) 1 := by decide +kernel
theorem dL_law_1125 : Dc KL_law 1125 (.lcmp) 1 := by decide +kernel
theorem dL_law_1126 : Dc KL_law 1126 (.ifCond .eq 5) 3 := by decide +kernel
theorem dL_law_1129 : Dc KL_law 1129 (.iconst 0) 1 := by decide +kernel
theorem dL_law_1130 : Dc KL_law 1130 (.ireturn) 1 := by decide +kernel
theorem dL_law_1131 : Dc KL_law 1131 (.goto 547) 3 := by decide +kernel
theorem dL_law_1134 : Dc KL_law 1134 (.aload_n 1) 1 := by decide +kernel
theorem dL_law_1135 : Dc KL_law 1135 (.aload_n 0) 1 := by decide +kernel
theorem dL_law_1136 : Dc KL_law 1136 (.iload 4) 2 := by decide +kernel
theorem dL_law_1138 : Dc KL_law 1138 (.iconst 1) 1 := by decide +kernel
theorem dL_law_1139 : Dc KL_law 1139 (.iadd) 1 := by decide +kernel
theorem dL_law_1140 : Dc KL_law 1140 (.iaload) 1 := by decide +kernel
theorem dL_law_1141 : Dc KL_law 1141 (.aload_n 0) 1 := by decide +kernel
theorem dL_law_1142 : Dc KL_law 1142 (.iload 4) 2 := by decide +kernel
theorem dL_law_1144 : Dc KL_law 1144 (.iconst 2) 1 := by decide +kernel
theorem dL_law_1145 : Dc KL_law 1145 (.iadd) 1 := by decide +kernel
theorem dL_law_1146 : Dc KL_law 1146 (.iaload) 1 := by decide +kernel
theorem dL_law_1147 : Dc KL_law 1147 (.aload_n 3) 1 := by decide +kernel
theorem dL_law_1148 : Dc KL_law 1148 (.invokestatic 147) 3 := by decide +kernel
theorem dL_law_1151 : Dc KL_law 1151 (.istore 5) 2 := by decide +kernel
theorem dL_law_1153 : Dc KL_law 1153 (.aload_n 2) 1 := by decide +kernel
theorem dL_law_1154 : Dc KL_law 1154 (.aload_n 0) 1 := by decide +kernel
theorem dL_law_1155 : Dc KL_law 1155 (.iload 4) 2 := by decide +kernel
theorem dL_law_1157 : Dc KL_law 1157 (.iconst 1) 1 := by decide +kernel
theorem dL_law_1158 : Dc KL_law 1158 (.iadd) 1 := by decide +kernel
theorem dL_law_1159 : Dc KL_law 1159 (.iaload) 1 := by decide +kernel
theorem dL_law_1160 : Dc KL_law 1160 (.aload_n 0) 1 := by decide +kernel
theorem dL_law_1161 : Dc KL_law 1161 (.iload 4) 2 := by decide +kernel
theorem dL_law_1163 : Dc KL_law 1163 (.iconst 2) 1 := by decide +kernel
theorem dL_law_1164 : Dc KL_law 1164 (.iadd) 1 := by decide +kernel
theorem dL_law_1165 : Dc KL_law 1165 (.iaload) 1 := by decide +kernel
theorem dL_law_1166 : Dc KL_law 1166 (.invokevirtual 149) 3 := by decide +kernel
theorem dL_law_1169 : Dc KL_law 1169 (.istore 6) 2 := by decide +kernel
theorem dL_law_1171 : Dc KL_law 1171 (.aload_n 2) 1 := by decide +kernel
theorem dL_law_1172 : Dc KL_law 1172 (.invokevirtual 93) 3 := by decide +kernel
theorem dL_law_1175 : Dc KL_law 1175 (.iload 5) 2 := by decide +kernel
theorem dL_law_1177 : Dc KL_law 1177 (.if_icmp .eq 5) 3 := by decide +kernel
theorem dL_law_1180 : Dc KL_law 1180 (.iconst 0) 1 := by decide +kernel
theorem dL_law_1181 : Dc KL_law 1181 (.ireturn) 1 := by decide +kernel
theorem dL_law_1182 : Dc KL_law 1182 (.iload 5) 2 := by decide +kernel
theorem dL_law_1184 : Dc KL_law 1184 (.ifCond .ne 15) 3 := by decide +kernel
theorem dL_law_1187 : Dc KL_law 1187 (.aload_n 3) 1 := by decide +kernel
theorem dL_law_1188 : Dc KL_law 1188 (.iconst 0) 1 := by decide +kernel
theorem dL_law_1189 : Dc KL_law 1189 (.laload) 1 := by decide +kernel
theorem dL_law_1190 : Dc KL_law 1190 (.iload 6) 2 := by decide +kernel
theorem dL_law_1192 : Dc KL_law 1192 (.i2l) 1 := by decide +kernel
theorem dL_law_1193 : Dc KL_law 1193 (.lcmp) 1 := by decide +kernel
theorem dL_law_1194 : Dc KL_law 1194 (.ifCond .eq 5) 3 := by decide +kernel
theorem dL_law_1197 : Dc KL_law 1197 (.iconst 0) 1 := by decide +kernel
theorem dL_law_1198 : Dc KL_law 1198 (.ireturn) 1 := by decide +kernel
theorem dL_law_1199 : Dc KL_law 1199 (.goto 479) 3 := by decide +kernel
theorem dL_law_1202 : Dc KL_law 1202 (.aload_n 1) 1 := by decide +kernel
theorem dL_law_1203 : Dc KL_law 1203 (.aload_n 0) 1 := by decide +kernel
theorem dL_law_1204 : Dc KL_law 1204 (.iload 4) 2 := by decide +kernel
theorem dL_law_1206 : Dc KL_law 1206 (.iconst 1) 1 := by decide +kernel
theorem dL_law_1207 : Dc KL_law 1207 (.iadd) 1 := by decide +kernel
theorem dL_law_1208 : Dc KL_law 1208 (.iaload) 1 := by decide +kernel
theorem dL_law_1209 : Dc KL_law 1209 (.aload_n 0) 1 := by decide +kernel
theorem dL_law_1210 : Dc KL_law 1210 (.iload 4) 2 := by decide +kernel
theorem dL_law_1212 : Dc KL_law 1212 (.iconst 2) 1 := by decide +kernel
theorem dL_law_1213 : Dc KL_law 1213 (.iadd) 1 := by decide +kernel
theorem dL_law_1214 : Dc KL_law 1214 (.iaload) 1 := by decide +kernel
theorem dL_law_1215 : Dc KL_law 1215 (.aload_n 0) 1 := by decide +kernel
theorem dL_law_1216 : Dc KL_law 1216 (.iload 4) 2 := by decide +kernel
theorem dL_law_1218 : Dc KL_law 1218 (.iconst 3) 1 := by decide +kernel
theorem dL_law_1219 : Dc KL_law 1219 (.iadd) 1 := by decide +kernel
theorem dL_law_1220 : Dc KL_law 1220 (.iaload) 1 := by decide +kernel
theorem dL_law_1221 : Dc KL_law 1221 (.aload_n 3) 1 := by decide +kernel
theorem dL_law_1222 : Dc KL_law 1222 (.invokestatic 150) 3 := by decide +kernel
theorem dL_law_1225 : Dc KL_law 1225 (.istore 5) 2 := by decide +kernel
theorem dL_law_1227 : Dc KL_law 1227 (.aload_n 2) 1 := by decide +kernel
theorem dL_law_1228 : Dc KL_law 1228 (.aload_n 0) 1 := by decide +kernel
theorem dL_law_1229 : Dc KL_law 1229 (.iload 4) 2 := by decide +kernel
theorem dL_law_1231 : Dc KL_law 1231 (.iconst 1) 1 := by decide +kernel
theorem dL_law_1232 : Dc KL_law 1232 (.iadd) 1 := by decide +kernel
theorem dL_law_1233 : Dc KL_law 1233 (.iaload) 1 := by decide +kernel
theorem dL_law_1234 : Dc KL_law 1234 (.aload_n 0) 1 := by decide +kernel
theorem dL_law_1235 : Dc KL_law 1235 (.iload 4) 2 := by decide +kernel
theorem dL_law_1237 : Dc KL_law 1237 (.iconst 2) 1 := by decide +kernel
theorem dL_law_1238 : Dc KL_law 1238 (.iadd) 1 := by decide +kernel
theorem dL_law_1239 : Dc KL_law 1239 (.iaload) 1 := by decide +kernel
theorem dL_law_1240 : Dc KL_law 1240 (.aload_n 0) 1 := by decide +kernel
theorem dL_law_1241 : Dc KL_law 1241 (.iload 4) 2 := by decide +kernel
theorem dL_law_1243 : Dc KL_law 1243 (.iconst 3) 1 := by decide +kernel
theorem dL_law_1244 : Dc KL_law 1244 (.iadd) 1 := by decide +kernel
theorem dL_law_1245 : Dc KL_law 1245 (.iaload) 1 := by decide +kernel
theorem dL_law_1246 : Dc KL_law 1246 (.invokevirtual 152) 3 := by decide +kernel
theorem dL_law_1249 : Dc KL_law 1249 (.istore 6) 2 := by decide +kernel
theorem dL_law_1251 : Dc KL_law 1251 (.aload_n 2) 1 := by decide +kernel
theorem dL_law_1252 : Dc KL_law 1252 (.invokevirtual 93) 3 := by decide +kernel
theorem dL_law_1255 : Dc KL_law 1255 (.iload 5) 2 := by decide +kernel
theorem dL_law_1257 : Dc KL_law 1257 (.if_icmp .eq 5) 3 := by decide +kernel
theorem dL_law_1260 : Dc KL_law 1260 (.iconst 0) 1 := by decide +kernel
theorem dL_law_1261 : Dc KL_law 1261 (.ireturn) 1 := by decide +kernel
theorem dL_law_1262 : Dc KL_law 1262 (.iload 5) 2 := by decide +kernel
theorem dL_law_1264 : Dc KL_law 1264 (.ifCond .ne 15) 3 := by decide +kernel
theorem dL_law_1267 : Dc KL_law 1267 (.aload_n 3) 1 := by decide +kernel
theorem dL_law_1268 : Dc KL_law 1268 (.iconst 0) 1 := by decide +kernel
theorem dL_law_1269 : Dc KL_law 1269 (.laload) 1 := by decide +kernel
theorem dL_law_1270 : Dc KL_law 1270 (.iload 6) 2 := by decide +kernel
theorem dL_law_1272 : Dc KL_law 1272 (.i2l) 1 := by decide +kernel
theorem dL_law_1273 : Dc KL_law 1273 (.lcmp) 1 := by decide +kernel
theorem dL_law_1274 : Dc KL_law 1274 (.ifCond .eq 5) 3 := by decide +kernel
theorem dL_law_1277 : Dc KL_law 1277 (.iconst 0) 1 := by decide +kernel
theorem dL_law_1278 : Dc KL_law 1278 (.ireturn) 1 := by decide +kernel
theorem dL_law_1279 : Dc KL_law 1279 (.goto 399) 3 := by decide +kernel
theorem dL_law_1282 : Dc KL_law 1282 (.aload_n 1) 1 := by decide +kernel
theorem dL_law_1283 : Dc KL_law 1283 (.aload_n 0) 1 := by decide +kernel
theorem dL_law_1284 : Dc KL_law 1284 (.iload 4) 2 := by decide +kernel
theorem dL_law_1286 : Dc KL_law 1286 (.iconst 1) 1 := by decide +kernel
theorem dL_law_1287 : Dc KL_law 1287 (.iadd) 1 := by decide +kernel
theorem dL_law_1288 : Dc KL_law 1288 (.iaload) 1 := by decide +kernel
theorem dL_law_1289 : Dc KL_law 1289 (.aload_n 3) 1 := by decide +kernel
theorem dL_law_1290 : Dc KL_law 1290 (.invokestatic 153) 3 := by decide +kernel
theorem dL_law_1293 : Dc KL_law 1293 (.istore 5) 2 := by decide +kernel
theorem dL_law_1295 : Dc KL_law 1295 (.aload_n 2) 1 := by decide +kernel
theorem dL_law_1296 : Dc KL_law 1296 (.aload_n 0) 1 := by decide +kernel
theorem dL_law_1297 : Dc KL_law 1297 (.iload 4) 2 := by decide +kernel
theorem dL_law_1299 : Dc KL_law 1299 (.iconst 1) 1 := by decide +kernel
theorem dL_law_1300 : Dc KL_law 1300 (.iadd) 1 := by decide +kernel
theorem dL_law_1301 : Dc KL_law 1301 (.iaload) 1 := by decide +kernel
theorem dL_law_1302 : Dc KL_law 1302 (.invokevirtual 155) 3 := by decide +kernel
theorem dL_law_1305 : Dc KL_law 1305 (.istore 6) 2 := by decide +kernel
theorem dL_law_1307 : Dc KL_law 1307 (.aload_n 2) 1 := by decide +kernel
theorem dL_law_1308 : Dc KL_law 1308 (.invokevirtual 93) 3 := by decide +kernel
theorem dL_law_1311 : Dc KL_law 1311 (.iload 5) 2 := by decide +kernel
theorem dL_law_1313 : Dc KL_law 1313 (.if_icmp .eq 5) 3 := by decide +kernel
theorem dL_law_1316 : Dc KL_law 1316 (.iconst 0) 1 := by decide +kernel
theorem dL_law_1317 : Dc KL_law 1317 (.ireturn) 1 := by decide +kernel
theorem dL_law_1318 : Dc KL_law 1318 (.iload 5) 2 := by decide +kernel
theorem dL_law_1320 : Dc KL_law 1320 (.ifCond .ne 15) 3 := by decide +kernel
theorem dL_law_1323 : Dc KL_law 1323 (.aload_n 3) 1 := by decide +kernel
theorem dL_law_1324 : Dc KL_law 1324 (.iconst 0) 1 := by decide +kernel
theorem dL_law_1325 : Dc KL_law 1325 (.laload) 1 := by decide +kernel
theorem dL_law_1326 : Dc KL_law 1326 (.iload 6) 2 := by decide +kernel
theorem dL_law_1328 : Dc KL_law 1328 (.i2l) 1 := by decide +kernel
theorem dL_law_1329 : Dc KL_law 1329 (.lcmp) 1 := by decide +kernel
theorem dL_law_1330 : Dc KL_law 1330 (.ifCond .eq 5) 3 := by decide +kernel
theorem dL_law_1333 : Dc KL_law 1333 (.iconst 0) 1 := by decide +kernel
theorem dL_law_1334 : Dc KL_law 1334 (.ireturn) 1 := by decide +kernel
theorem dL_law_1335 : Dc KL_law 1335 (.goto 343) 3 := by decide +kernel
theorem dL_law_1338 : Dc KL_law 1338 (.aload_n 1) 1 := by decide +kernel
theorem dL_law_1339 : Dc KL_law 1339 (.aload_n 0) 1 := by decide +kernel
theorem dL_law_1340 : Dc KL_law 1340 (.iload 4) 2 := by decide +kernel
theorem dL_law_1342 : Dc KL_law 1342 (.iconst 1) 1 := by decide +kernel
theorem dL_law_1343 : Dc KL_law 1343 (.iadd) 1 := by decide +kernel
theorem dL_law_1344 : Dc KL_law 1344 (.iaload) 1 := by decide +kernel
theorem dL_law_1345 : Dc KL_law 1345 (.aload_n 3) 1 := by decide +kernel
theorem dL_law_1346 : Dc KL_law 1346 (.invokestatic 156) 3 := by decide +kernel
theorem dL_law_1349 : Dc KL_law 1349 (.istore 5) 2 := by decide +kernel
theorem dL_law_1351 : Dc KL_law 1351 (.aload_n 2) 1 := by decide +kernel
theorem dL_law_1352 : Dc KL_law 1352 (.aload_n 0) 1 := by decide +kernel
theorem dL_law_1353 : Dc KL_law 1353 (.iload 4) 2 := by decide +kernel
theorem dL_law_1355 : Dc KL_law 1355 (.iconst 1) 1 := by decide +kernel
theorem dL_law_1356 : Dc KL_law 1356 (.iadd) 1 := by decide +kernel
theorem dL_law_1357 : Dc KL_law 1357 (.iaload) 1 := by decide +kernel
theorem dL_law_1358 : Dc KL_law 1358 (.invokevirtual 158) 3 := by decide +kernel
theorem dL_law_1361 : Dc KL_law 1361 (.istore 6) 2 := by decide +kernel
theorem dL_law_1363 : Dc KL_law 1363 (.aload_n 2) 1 := by decide +kernel
theorem dL_law_1364 : Dc KL_law 1364 (.invokevirtual 93) 3 := by decide +kernel
theorem dL_law_1367 : Dc KL_law 1367 (.iload 5) 2 := by decide +kernel
theorem dL_law_1369 : Dc KL_law 1369 (.if_icmp .eq 5) 3 := by decide +kernel
theorem dL_law_1372 : Dc KL_law 1372 (.iconst 0) 1 := by decide +kernel
theorem dL_law_1373 : Dc KL_law 1373 (.ireturn) 1 := by decide +kernel
theorem dL_law_1374 : Dc KL_law 1374 (.iload 5) 2 := by decide +kernel
theorem dL_law_1376 : Dc KL_law 1376 (.ifCond .ne 15) 3 := by decide +kernel
theorem dL_law_1379 : Dc KL_law 1379 (.aload_n 3) 1 := by decide +kernel
theorem dL_law_1380 : Dc KL_law 1380 (.iconst 0) 1 := by decide +kernel
theorem dL_law_1381 : Dc KL_law 1381 (.laload) 1 := by decide +kernel
theorem dL_law_1382 : Dc KL_law 1382 (.iload 6) 2 := by decide +kernel
theorem dL_law_1384 : Dc KL_law 1384 (.i2l) 1 := by decide +kernel
theorem dL_law_1385 : Dc KL_law 1385 (.lcmp) 1 := by decide +kernel
theorem dL_law_1386 : Dc KL_law 1386 (.ifCond .eq 5) 3 := by decide +kernel
theorem dL_law_1389 : Dc KL_law 1389 (.iconst 0) 1 := by decide +kernel
theorem dL_law_1390 : Dc KL_law 1390 (.ireturn) 1 := by decide +kernel
theorem dL_law_1391 : Dc KL_law 1391 (.goto 287) 3 := by decide +kernel
theorem dL_law_1394 : Dc KL_law 1394 (.aload_n 1) 1 := by decide +kernel
theorem dL_law_1395 : Dc KL_law 1395 (.aload_n 0) 1 := by decide +kernel
theorem dL_law_1396 : Dc KL_law 1396 (.iload 4) 2 := by decide +kernel
theorem dL_law_1398 : Dc KL_law 1398 (.iconst 1) 1 := by decide +kernel
theorem dL_law_1399 : Dc KL_law 1399 (.iadd) 1 := by decide +kernel
theorem dL_law_1400 : Dc KL_law 1400 (.iaload) 1 := by decide +kernel
theorem dL_law_1401 : Dc KL_law 1401 (.aload_n 0) 1 := by decide +kernel
theorem dL_law_1402 : Dc KL_law 1402 (.iload 4) 2 := by decide +kernel
theorem dL_law_1404 : Dc KL_law 1404 (.iconst 2) 1 := by decide +kernel
theorem dL_law_1405 : Dc KL_law 1405 (.iadd) 1 := by decide +kernel
theorem dL_law_1406 : Dc KL_law 1406 (.iaload) 1 := by decide +kernel
theorem dL_law_1407 : Dc KL_law 1407 (.aload_n 0) 1 := by decide +kernel
theorem dL_law_1408 : Dc KL_law 1408 (.iload 4) 2 := by decide +kernel
theorem dL_law_1410 : Dc KL_law 1410 (.iconst 3) 1 := by decide +kernel
theorem dL_law_1411 : Dc KL_law 1411 (.iadd) 1 := by decide +kernel
theorem dL_law_1412 : Dc KL_law 1412 (.iaload) 1 := by decide +kernel
theorem dL_law_1413 : Dc KL_law 1413 (.aload_n 3) 1 := by decide +kernel
theorem dL_law_1414 : Dc KL_law 1414 (.invokestatic 159) 3 := by decide +kernel
theorem dL_law_1417 : Dc KL_law 1417 (.istore 5) 2 := by decide +kernel
theorem dL_law_1419 : Dc KL_law 1419 (.aload_n 2) 1 := by decide +kernel
theorem dL_law_1420 : Dc KL_law 1420 (.aload_n 0) 1 := by decide +kernel
theorem dL_law_1421 : Dc KL_law 1421 (.iload 4) 2 := by decide +kernel
theorem dL_law_1423 : Dc KL_law 1423 (.iconst 1) 1 := by decide +kernel
theorem dL_law_1424 : Dc KL_law 1424 (.iadd) 1 := by decide +kernel
theorem dL_law_1425 : Dc KL_law 1425 (.iaload) 1 := by decide +kernel
theorem dL_law_1426 : Dc KL_law 1426 (.aload_n 0) 1 := by decide +kernel
theorem dL_law_1427 : Dc KL_law 1427 (.iload 4) 2 := by decide +kernel
theorem dL_law_1429 : Dc KL_law 1429 (.iconst 2) 1 := by decide +kernel
theorem dL_law_1430 : Dc KL_law 1430 (.iadd) 1 := by decide +kernel
theorem dL_law_1431 : Dc KL_law 1431 (.iaload) 1 := by decide +kernel
theorem dL_law_1432 : Dc KL_law 1432 (.aload_n 0) 1 := by decide +kernel
theorem dL_law_1433 : Dc KL_law 1433 (.iload 4) 2 := by decide +kernel
theorem dL_law_1435 : Dc KL_law 1435 (.iconst 3) 1 := by decide +kernel
theorem dL_law_1436 : Dc KL_law 1436 (.iadd) 1 := by decide +kernel
theorem dL_law_1437 : Dc KL_law 1437 (.iaload) 1 := by decide +kernel
theorem dL_law_1438 : Dc KL_law 1438 (.invokevirtual 161) 3 := by decide +kernel
theorem dL_law_1441 : Dc KL_law 1441 (.istore 6) 2 := by decide +kernel
theorem dL_law_1443 : Dc KL_law 1443 (.aload_n 2) 1 := by decide +kernel
theorem dL_law_1444 : Dc KL_law 1444 (.invokevirtual 93) 3 := by decide +kernel
theorem dL_law_1447 : Dc KL_law 1447 (.iload 5) 2 := by decide +kernel
theorem dL_law_1449 : Dc KL_law 1449 (.if_icmp .eq 5) 3 := by decide +kernel
theorem dL_law_1452 : Dc KL_law 1452 (.iconst 0) 1 := by decide +kernel
theorem dL_law_1453 : Dc KL_law 1453 (.ireturn) 1 := by decide +kernel
theorem dL_law_1454 : Dc KL_law 1454 (.iload 5) 2 := by decide +kernel
theorem dL_law_1456 : Dc KL_law 1456 (.ifCond .ne 15) 3 := by decide +kernel
theorem dL_law_1459 : Dc KL_law 1459 (.aload_n 3) 1 := by decide +kernel
theorem dL_law_1460 : Dc KL_law 1460 (.iconst 0) 1 := by decide +kernel
theorem dL_law_1461 : Dc KL_law 1461 (.laload) 1 := by decide +kernel
theorem dL_law_1462 : Dc KL_law 1462 (.iload 6) 2 := by decide +kernel
theorem dL_law_1464 : Dc KL_law 1464 (.i2l) 1 := by decide +kernel
theorem dL_law_1465 : Dc KL_law 1465 (.lcmp) 1 := by decide +kernel
theorem dL_law_1466 : Dc KL_law 1466 (.ifCond .eq 5) 3 := by decide +kernel
theorem dL_law_1469 : Dc KL_law 1469 (.iconst 0) 1 := by decide +kernel
theorem dL_law_1470 : Dc KL_law 1470 (.ireturn) 1 := by decide +kernel
theorem dL_law_1471 : Dc KL_law 1471 (.goto 207) 3 := by decide +kernel
theorem dL_law_1474 : Dc KL_law 1474 (.aload_n 1) 1 := by decide +kernel
theorem dL_law_1475 : Dc KL_law 1475 (.aload_n 0) 1 := by decide +kernel
theorem dL_law_1476 : Dc KL_law 1476 (.iload 4) 2 := by decide +kernel
theorem dL_law_1478 : Dc KL_law 1478 (.iconst 1) 1 := by decide +kernel
theorem dL_law_1479 : Dc KL_law 1479 (.iadd) 1 := by decide +kernel
theorem dL_law_1480 : Dc KL_law 1480 (.iaload) 1 := by decide +kernel
theorem dL_law_1481 : Dc KL_law 1481 (.aload_n 0) 1 := by decide +kernel
theorem dL_law_1482 : Dc KL_law 1482 (.iload 4) 2 := by decide +kernel
theorem dL_law_1484 : Dc KL_law 1484 (.iconst 2) 1 := by decide +kernel
theorem dL_law_1485 : Dc KL_law 1485 (.iadd) 1 := by decide +kernel
theorem dL_law_1486 : Dc KL_law 1486 (.iaload) 1 := by decide +kernel
theorem dL_law_1487 : Dc KL_law 1487 (.aload_n 3) 1 := by decide +kernel
theorem dL_law_1488 : Dc KL_law 1488 (.invokestatic 162) 3 := by decide +kernel
theorem dL_law_1491 : Dc KL_law 1491 (.istore 5) 2 := by decide +kernel
theorem dL_law_1493 : Dc KL_law 1493 (.aload_n 2) 1 := by decide +kernel
theorem dL_law_1494 : Dc KL_law 1494 (.aload_n 0) 1 := by decide +kernel
theorem dL_law_1495 : Dc KL_law 1495 (.iload 4) 2 := by decide +kernel
theorem dL_law_1497 : Dc KL_law 1497 (.iconst 1) 1 := by decide +kernel
theorem dL_law_1498 : Dc KL_law 1498 (.iadd) 1 := by decide +kernel
theorem dL_law_1499 : Dc KL_law 1499 (.iaload) 1 := by decide +kernel
theorem dL_law_1500 : Dc KL_law 1500 (.aload_n 0) 1 := by decide +kernel
theorem dL_law_1501 : Dc KL_law 1501 (.iload 4) 2 := by decide +kernel
theorem dL_law_1503 : Dc KL_law 1503 (.iconst 2) 1 := by decide +kernel
theorem dL_law_1504 : Dc KL_law 1504 (.iadd) 1 := by decide +kernel
theorem dL_law_1505 : Dc KL_law 1505 (.iaload) 1 := by decide +kernel
theorem dL_law_1506 : Dc KL_law 1506 (.invokevirtual 164) 3 := by decide +kernel
theorem dL_law_1509 : Dc KL_law 1509 (.istore 6) 2 := by decide +kernel
theorem dL_law_1511 : Dc KL_law 1511 (.aload_n 2) 1 := by decide +kernel
theorem dL_law_1512 : Dc KL_law 1512 (.invokevirtual 93) 3 := by decide +kernel
theorem dL_law_1515 : Dc KL_law 1515 (.iload 5) 2 := by decide +kernel
theorem dL_law_1517 : Dc KL_law 1517 (.if_icmp .eq 5) 3 := by decide +kernel
theorem dL_law_1520 : Dc KL_law 1520 (.iconst 0) 1 := by decide +kernel
theorem dL_law_1521 : Dc KL_law 1521 (.ireturn) 1 := by decide +kernel
theorem dL_law_1522 : Dc KL_law 1522 (.iload 5) 2 := by decide +kernel
theorem dL_law_1524 : Dc KL_law 1524 (.ifCond .ne 15) 3 := by decide +kernel
theorem dL_law_1527 : Dc KL_law 1527 (.aload_n 3) 1 := by decide +kernel
theorem dL_law_1528 : Dc KL_law 1528 (.iconst 0) 1 := by decide +kernel
theorem dL_law_1529 : Dc KL_law 1529 (.laload) 1 := by decide +kernel
theorem dL_law_1530 : Dc KL_law 1530 (.iload 6) 2 := by decide +kernel
theorem dL_law_1532 : Dc KL_law 1532 (.i2l) 1 := by decide +kernel
theorem dL_law_1533 : Dc KL_law 1533 (.lcmp) 1 := by decide +kernel
theorem dL_law_1534 : Dc KL_law 1534 (.ifCond .eq 5) 3 := by decide +kernel
theorem dL_law_1537 : Dc KL_law 1537 (.iconst 0) 1 := by decide +kernel
theorem dL_law_1538 : Dc KL_law 1538 (.ireturn) 1 := by decide +kernel
theorem dL_law_1539 : Dc KL_law 1539 (.goto 139) 3 := by decide +kernel
theorem dL_law_1542 : Dc KL_law 1542 (.aload_n 1) 1 := by decide +kernel
theorem dL_law_1543 : Dc KL_law 1543 (.aload_n 0) 1 := by decide +kernel
theorem dL_law_1544 : Dc KL_law 1544 (.iload 4) 2 := by decide +kernel
theorem dL_law_1546 : Dc KL_law 1546 (.iconst 1) 1 := by decide +kernel
theorem dL_law_1547 : Dc KL_law 1547 (.iadd) 1 := by decide +kernel
theorem dL_law_1548 : Dc KL_law 1548 (.iaload) 1 := by decide +kernel
theorem dL_law_1549 : Dc KL_law 1549 (.aload_n 0) 1 := by decide +kernel
theorem dL_law_1550 : Dc KL_law 1550 (.iload 4) 2 := by decide +kernel
theorem dL_law_1552 : Dc KL_law 1552 (.iconst 2) 1 := by decide +kernel
theorem dL_law_1553 : Dc KL_law 1553 (.iadd) 1 := by decide +kernel
theorem dL_law_1554 : Dc KL_law 1554 (.iaload) 1 := by decide +kernel
theorem dL_law_1555 : Dc KL_law 1555 (.aload_n 3) 1 := by decide +kernel
theorem dL_law_1556 : Dc KL_law 1556 (.invokestatic 165) 3 := by decide +kernel
theorem dL_law_1559 : Dc KL_law 1559 (.istore 5) 2 := by decide +kernel
theorem dL_law_1561 : Dc KL_law 1561 (.aload_n 2) 1 := by decide +kernel
theorem dL_law_1562 : Dc KL_law 1562 (.aload_n 0) 1 := by decide +kernel
theorem dL_law_1563 : Dc KL_law 1563 (.iload 4) 2 := by decide +kernel
theorem dL_law_1565 : Dc KL_law 1565 (.iconst 1) 1 := by decide +kernel
theorem dL_law_1566 : Dc KL_law 1566 (.iadd) 1 := by decide +kernel
theorem dL_law_1567 : Dc KL_law 1567 (.iaload) 1 := by decide +kernel
theorem dL_law_1568 : Dc KL_law 1568 (.aload_n 0) 1 := by decide +kernel
theorem dL_law_1569 : Dc KL_law 1569 (.iload 4) 2 := by decide +kernel
theorem dL_law_1571 : Dc KL_law 1571 (.iconst 2) 1 := by decide +kernel
theorem dL_law_1572 : Dc KL_law 1572 (.iadd) 1 := by decide +kernel
theorem dL_law_1573 : Dc KL_law 1573 (.iaload) 1 := by decide +kernel
theorem dL_law_1574 : Dc KL_law 1574 (.invokevirtual 167) 3 := by decide +kernel
theorem dL_law_1577 : Dc KL_law 1577 (.istore 6) 2 := by decide +kernel
theorem dL_law_1579 : Dc KL_law 1579 (.aload_n 2) 1 := by decide +kernel
theorem dL_law_1580 : Dc KL_law 1580 (.invokevirtual 93) 3 := by decide +kernel
theorem dL_law_1583 : Dc KL_law 1583 (.iload 5) 2 := by decide +kernel
theorem dL_law_1585 : Dc KL_law 1585 (.if_icmp .eq 5) 3 := by decide +kernel
theorem dL_law_1588 : Dc KL_law 1588 (.iconst 0) 1 := by decide +kernel
theorem dL_law_1589 : Dc KL_law 1589 (.ireturn) 1 := by decide +kernel
theorem dL_law_1590 : Dc KL_law 1590 (.iload 5) 2 := by decide +kernel
theorem dL_law_1592 : Dc KL_law 1592 (.ifCond .ne 15) 3 := by decide +kernel
theorem dL_law_1595 : Dc KL_law 1595 (.aload_n 3) 1 := by decide +kernel
theorem dL_law_1596 : Dc KL_law 1596 (.iconst 0) 1 := by decide +kernel
theorem dL_law_1597 : Dc KL_law 1597 (.laload) 1 := by decide +kernel
theorem dL_law_1598 : Dc KL_law 1598 (.iload 6) 2 := by decide +kernel
theorem dL_law_1600 : Dc KL_law 1600 (.i2l) 1 := by decide +kernel
theorem dL_law_1601 : Dc KL_law 1601 (.lcmp) 1 := by decide +kernel
theorem dL_law_1602 : Dc KL_law 1602 (.ifCond .eq 5) 3 := by decide +kernel
theorem dL_law_1605 : Dc KL_law 1605 (.iconst 0) 1 := by decide +kernel
theorem dL_law_1606 : Dc KL_law 1606 (.ireturn) 1 := by decide +kernel
theorem dL_law_1607 : Dc KL_law 1607 (.goto 71) 3 := by decide +kernel
theorem dL_law_1610 : Dc KL_law 1610 (.aload_n 1) 1 := by decide +kernel
theorem dL_law_1611 : Dc KL_law 1611 (.invokevirtual 168) 3 := by decide +kernel
theorem dL_law_1614 : Dc KL_law 1614 (.aload_n 2) 1 := by decide +kernel
theorem dL_law_1615 : Dc KL_law 1615 (.invokevirtual 171) 3 := by decide +kernel
theorem dL_law_1618 : Dc KL_law 1618 (.if_icmp .eq 60) 3 := by decide +kernel
theorem dL_law_1621 : Dc KL_law 1621 (.iconst 0) 1 := by decide +kernel
theorem dL_law_1622 : Dc KL_law 1622 (.ireturn) 1 := by decide +kernel
theorem dL_law_1623 : Dc KL_law 1623 (.aload_n 1) 1 := by decide +kernel
theorem dL_law_1624 : Dc KL_law 1624 (.invokevirtual 172) 3 := by decide +kernel
theorem dL_law_1627 : Dc KL_law 1627 (.dstore 5) 2 := by decide +kernel
theorem dL_law_1629 : Dc KL_law 1629 (.aload_n 2) 1 := by decide +kernel
theorem dL_law_1630 : Dc KL_law 1630 (.invokevirtual 176) 3 := by decide +kernel
theorem dL_law_1633 : Dc KL_law 1633 (.dstore 7) 2 := by decide +kernel
theorem dL_law_1635 : Dc KL_law 1635 (.dload 5) 2 := by decide +kernel
theorem dL_law_1637 : Dc KL_law 1637 (.dload 7) 2 := by decide +kernel
theorem dL_law_1639 : Dc KL_law 1639 (.dcmp .l) 1 := by decide +kernel
theorem dL_law_1640 : Dc KL_law 1640 (.ifCond .eq 21) 3 := by decide +kernel
theorem dL_law_1643 : Dc KL_law 1643 (.dload 5) 2 := by decide +kernel
theorem dL_law_1645 : Dc KL_law 1645 (.dload 5) 2 := by decide +kernel
theorem dL_law_1647 : Dc KL_law 1647 (.dcmp .l) 1 := by decide +kernel
theorem dL_law_1648 : Dc KL_law 1648 (.ifCond .eq 11) 3 := by decide +kernel
theorem dL_law_1651 : Dc KL_law 1651 (.dload 7) 2 := by decide +kernel
theorem dL_law_1653 : Dc KL_law 1653 (.dload 7) 2 := by decide +kernel
theorem dL_law_1655 : Dc KL_law 1655 (.dcmp .l) 1 := by decide +kernel
theorem dL_law_1656 : Dc KL_law 1656 (.ifCond .ne 5) 3 := by decide +kernel
theorem dL_law_1659 : Dc KL_law 1659 (.iconst 0) 1 := by decide +kernel
theorem dL_law_1660 : Dc KL_law 1660 (.ireturn) 1 := by decide +kernel
theorem dL_law_1661 : Dc KL_law 1661 (.goto 17) 3 := by decide +kernel
theorem dL_law_1664 : Dc KL_law 1664 (.aload_n 1) 1 := by decide +kernel
theorem dL_law_1665 : Dc KL_law 1665 (.invokevirtual 177) 3 := by decide +kernel
theorem dL_law_1668 : Dc KL_law 1668 (.aload_n 2) 1 := by decide +kernel
theorem dL_law_1669 : Dc KL_law 1669 (.invokevirtual 181) 3 := by decide +kernel
theorem dL_law_1672 : Dc KL_law 1672 (.lcmp) 1 := by decide +kernel
theorem dL_law_1673 : Dc KL_law 1673 (.ifCond .eq 5) 3 := by decide +kernel
theorem dL_law_1676 : Dc KL_law 1676 (.iconst 0) 1 := by decide +kernel
theorem dL_law_1677 : Dc KL_law 1677 (.ireturn) 1 := by decide +kernel
theorem dL_law_1678 : Dc KL_law 1678 (.iinc 4 5) 3 := by decide +kernel
theorem dL_law_1681 : Dc KL_law 1681 (.goto (-1658)) 3 := by decide +kernel
theorem dL_law_1684 : Dc KL_law 1684 (.iconst 1) 1 := by decide +kernel
theorem dL_law_1685 : Dc KL_law 1685 (.ireturn) 1 := by decide +kernel
end
