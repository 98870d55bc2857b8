section
-- ===== PART A: goes FIRST, ahead of the names: the tables' words, and 'selects' of the private methods out of them =====
/-- a private method of a class that the tables say can be made, by its rows of tables_1 -/
def lw_okq (q : MethodName × Nat) : Prop := (q.1.cls ≠ "java/lang/invoke/MethodHandle" ∧ q.1.cls ≠ "java/lang/invoke/VarHandle") ∧ Cond.instantiable q.1.cls q.2 ∈ tables_1 ∧ Cond.privateMethod q.1 ∈ tables_1 ∧ Cond.instanceMethod q.1 ∈ tables_1
theorem lw_p0 : lw_okq (⟨"GapSets$Parser", "restart", "()V"⟩, 8) := ⟨⟨by decide +kernel, by decide +kernel⟩, List.mem_of_getElem? (i := 91) (by decide +kernel), List.mem_of_getElem? (i := 97) (by decide +kernel), List.mem_of_getElem? (i := 98) (by decide +kernel)⟩
theorem lw_p1 : lw_okq (⟨"GapSets$Parser", "beginNumber", "(I)V"⟩, 8) := ⟨⟨by decide +kernel, by decide +kernel⟩, List.mem_of_getElem? (i := 91) (by decide +kernel), List.mem_of_getElem? (i := 101) (by decide +kernel), List.mem_of_getElem? (i := 102) (by decide +kernel)⟩
theorem lw_p2 : lw_okq (⟨"GapSets$Parser", "takes", "(I)Z"⟩, 8) := ⟨⟨by decide +kernel, by decide +kernel⟩, List.mem_of_getElem? (i := 91) (by decide +kernel), List.mem_of_getElem? (i := 242) (by decide +kernel), List.mem_of_getElem? (i := 243) (by decide +kernel)⟩
theorem lw_p3 : lw_okq (⟨"GapSets$Parser", "takesComma", "()Z"⟩, 8) := ⟨⟨by decide +kernel, by decide +kernel⟩, List.mem_of_getElem? (i := 91) (by decide +kernel), List.mem_of_getElem? (i := 246) (by decide +kernel), List.mem_of_getElem? (i := 247) (by decide +kernel)⟩
theorem lw_p4 : lw_okq (⟨"GapSets$Parser", "isWhole", "()Z"⟩, 8) := ⟨⟨by decide +kernel, by decide +kernel⟩, List.mem_of_getElem? (i := 91) (by decide +kernel), List.mem_of_getElem? (i := 250) (by decide +kernel), List.mem_of_getElem? (i := 251) (by decide +kernel)⟩
theorem lw_p5 : lw_okq (⟨"GapSets$Parser", "closePart", "()V"⟩, 8) := ⟨⟨by decide +kernel, by decide +kernel⟩, List.mem_of_getElem? (i := 91) (by decide +kernel), List.mem_of_getElem? (i := 254) (by decide +kernel), List.mem_of_getElem? (i := 255) (by decide +kernel)⟩
theorem lw_p6 : lw_okq (⟨"GapSets$Parser", "takesDash", "()Z"⟩, 8) := ⟨⟨by decide +kernel, by decide +kernel⟩, List.mem_of_getElem? (i := 91) (by decide +kernel), List.mem_of_getElem? (i := 258) (by decide +kernel), List.mem_of_getElem? (i := 259) (by decide +kernel)⟩
theorem lw_p7 : lw_okq (⟨"GapSets$Parser", "takesDigit", "(I)Z"⟩, 8) := ⟨⟨by decide +kernel, by decide +kernel⟩, List.mem_of_getElem? (i := 91) (by decide +kernel), List.mem_of_getElem? (i := 262) (by decide +kernel), List.mem_of_getElem? (i := 263) (by decide +kernel)⟩
theorem lw_p8 : lw_okq (⟨"GapSets", "gatherWidths", "()V"⟩, 8) := ⟨⟨by decide +kernel, by decide +kernel⟩, List.mem_of_getElem? (i := 20) (by decide +kernel), List.mem_of_getElem? (i := 273) (by decide +kernel), List.mem_of_getElem? (i := 274) (by decide +kernel)⟩
theorem lw_p9 : lw_okq (⟨"GapSets", "allSizes", "(I)I"⟩, 8) := ⟨⟨by decide +kernel, by decide +kernel⟩, List.mem_of_getElem? (i := 20) (by decide +kernel), List.mem_of_getElem? (i := 309) (by decide +kernel), List.mem_of_getElem? (i := 310) (by decide +kernel)⟩
theorem lw_p10 : lw_okq (⟨"GapSets", "allMembers", "()I"⟩, 8) := ⟨⟨by decide +kernel, by decide +kernel⟩, List.mem_of_getElem? (i := 20) (by decide +kernel), List.mem_of_getElem? (i := 334) (by decide +kernel), List.mem_of_getElem? (i := 335) (by decide +kernel)⟩
theorem lw_p11 : lw_okq (⟨"java/lang/Throwable", "fillInStackTrace", "(I)Ljava/lang/Throwable;"⟩, 6) := ⟨⟨by decide +kernel, by decide +kernel⟩, List.mem_of_getElem? (i := 388) (by decide +kernel), List.mem_of_getElem? (i := 386) (by decide +kernel), List.mem_of_getElem? (i := 387) (by decide +kernel)⟩
theorem lw_p12 : lw_okq (⟨"GapSets", "unlikeMembers", "()I"⟩, 8) := ⟨⟨by decide +kernel, by decide +kernel⟩, List.mem_of_getElem? (i := 20) (by decide +kernel), List.mem_of_getElem? (i := 418) (by decide +kernel), List.mem_of_getElem? (i := 419) (by decide +kernel)⟩
theorem lw_p13 : lw_okq (⟨"GapSets", "holdersAhead", "(II)I"⟩, 8) := ⟨⟨by decide +kernel, by decide +kernel⟩, List.mem_of_getElem? (i := 20) (by decide +kernel), List.mem_of_getElem? (i := 422) (by decide +kernel), List.mem_of_getElem? (i := 423) (by decide +kernel)⟩
theorem lw_p14 : lw_okq (⟨"GapSets", "membersOfAllFour", "()I"⟩, 8) := ⟨⟨by decide +kernel, by decide +kernel⟩, List.mem_of_getElem? (i := 20) (by decide +kernel), List.mem_of_getElem? (i := 427) (by decide +kernel), List.mem_of_getElem? (i := 428) (by decide +kernel)⟩
theorem lw_p15 : lw_okq (⟨"GapSets", "allBlocks", "()I"⟩, 8) := ⟨⟨by decide +kernel, by decide +kernel⟩, List.mem_of_getElem? (i := 20) (by decide +kernel), List.mem_of_getElem? (i := 431) (by decide +kernel), List.mem_of_getElem? (i := 432) (by decide +kernel)⟩
def lw_privs_1 : List (MethodName × Nat) := [(⟨"GapSets$Parser", "restart", "()V"⟩, 8), (⟨"GapSets$Parser", "beginNumber", "(I)V"⟩, 8), (⟨"GapSets$Parser", "takes", "(I)Z"⟩, 8), (⟨"GapSets$Parser", "takesComma", "()Z"⟩, 8), (⟨"GapSets$Parser", "isWhole", "()Z"⟩, 8), (⟨"GapSets$Parser", "closePart", "()V"⟩, 8), (⟨"GapSets$Parser", "takesDash", "()Z"⟩, 8), (⟨"GapSets$Parser", "takesDigit", "(I)Z"⟩, 8), (⟨"GapSets", "gatherWidths", "()V"⟩, 8), (⟨"GapSets", "allSizes", "(I)I"⟩, 8), (⟨"GapSets", "allMembers", "()I"⟩, 8), (⟨"java/lang/Throwable", "fillInStackTrace", "(I)Ljava/lang/Throwable;"⟩, 6), (⟨"GapSets", "unlikeMembers", "()I"⟩, 8), (⟨"GapSets", "holdersAhead", "(II)I"⟩, 8), (⟨"GapSets", "membersOfAllFour", "()I"⟩, 8), (⟨"GapSets", "allBlocks", "()I"⟩, 8)]
theorem lw_r1 : ∀ q ∈ lw_privs_1, lw_okq q := List.forall_mem_cons.mpr ⟨lw_p0, List.forall_mem_cons.mpr ⟨lw_p1, List.forall_mem_cons.mpr ⟨lw_p2, List.forall_mem_cons.mpr ⟨lw_p3, List.forall_mem_cons.mpr ⟨lw_p4, List.forall_mem_cons.mpr ⟨lw_p5, List.forall_mem_cons.mpr ⟨lw_p6, List.forall_mem_cons.mpr ⟨lw_p7, List.forall_mem_cons.mpr ⟨lw_p8, List.forall_mem_cons.mpr ⟨lw_p9, List.forall_mem_cons.mpr ⟨lw_p10, List.forall_mem_cons.mpr ⟨lw_p11, List.forall_mem_cons.mpr ⟨lw_p12, List.forall_mem_cons.mpr ⟨lw_p13, List.forall_mem_cons.mpr ⟨lw_p14, List.forall_mem_cons.mpr ⟨lw_p15, fun _ h => absurd h List.not_mem_nil⟩⟩⟩⟩⟩⟩⟩⟩⟩⟩⟩⟩⟩⟩⟩⟩
theorem lw_p16 : lw_okq (⟨"GapSets$Blocks", "putStart", "(II)V"⟩, 3) := ⟨⟨by decide +kernel, by decide +kernel⟩, List.mem_of_getElem? (i := 130) (by decide +kernel), List.mem_of_getElem? (i := 443) (by decide +kernel), List.mem_of_getElem? (i := 444) (by decide +kernel)⟩
theorem lw_p17 : lw_okq (⟨"GapSets", "pairsAlike", "()I"⟩, 8) := ⟨⟨by decide +kernel, by decide +kernel⟩, List.mem_of_getElem? (i := 20) (by decide +kernel), List.mem_of_getElem? (i := 447) (by decide +kernel), List.mem_of_getElem? (i := 448) (by decide +kernel)⟩
theorem lw_p18 : lw_okq (⟨"GapSets", "mixMembers", "(JI)J"⟩, 8) := ⟨⟨by decide +kernel, by decide +kernel⟩, List.mem_of_getElem? (i := 20) (by decide +kernel), List.mem_of_getElem? (i := 464) (by decide +kernel), List.mem_of_getElem? (i := 465) (by decide +kernel)⟩
theorem lw_p19 : lw_okq (⟨"GapSets", "sizeOf", "(LGapSets$Members;)I"⟩, 8) := ⟨⟨by decide +kernel, by decide +kernel⟩, List.mem_of_getElem? (i := 20) (by decide +kernel), List.mem_of_getElem? (i := 491) (by decide +kernel), List.mem_of_getElem? (i := 492) (by decide +kernel)⟩
theorem lw_p20 : lw_okq (⟨"GapSets", "mixBlocks", "(JI)J"⟩, 8) := ⟨⟨by decide +kernel, by decide +kernel⟩, List.mem_of_getElem? (i := 20) (by decide +kernel), List.mem_of_getElem? (i := 523) (by decide +kernel), List.mem_of_getElem? (i := 524) (by decide +kernel)⟩
theorem lw_p21 : lw_okq (⟨"GapSets", "mixLooks", "(JI)J"⟩, 8) := ⟨⟨by decide +kernel, by decide +kernel⟩, List.mem_of_getElem? (i := 20) (by decide +kernel), List.mem_of_getElem? (i := 555) (by decide +kernel), List.mem_of_getElem? (i := 556) (by decide +kernel)⟩
theorem lw_p22 : lw_okq (⟨"GapSets$Leaper", "lookForBlock", "(I)I"⟩, 5) := ⟨⟨by decide +kernel, by decide +kernel⟩, List.mem_of_getElem? (i := 154) (by decide +kernel), List.mem_of_getElem? (i := 616) (by decide +kernel), List.mem_of_getElem? (i := 617) (by decide +kernel)⟩
theorem lw_p23 : lw_okq (⟨"GapSets", "mixBuffer", "(J)J"⟩, 8) := ⟨⟨by decide +kernel, by decide +kernel⟩, List.mem_of_getElem? (i := 20) (by decide +kernel), List.mem_of_getElem? (i := 656) (by decide +kernel), List.mem_of_getElem? (i := 657) (by decide +kernel)⟩
theorem lw_p24 : lw_okq (⟨"GapSets$History", "slotAt", "(I)LGapSets$State;"⟩, 3) := ⟨⟨by decide +kernel, by decide +kernel⟩, List.mem_of_getElem? (i := 59) (by decide +kernel), List.mem_of_getElem? (i := 694) (by decide +kernel), List.mem_of_getElem? (i := 695) (by decide +kernel)⟩
theorem lw_p25 : lw_okq (⟨"GapSetsModel", "isMember", "(II)Z"⟩, 18) := ⟨⟨by decide +kernel, by decide +kernel⟩, List.mem_of_getElem? (i := 875) (by decide +kernel), List.mem_of_getElem? (i := 953) (by decide +kernel), List.mem_of_getElem? (i := 954) (by decide +kernel)⟩
theorem lw_p26 : lw_okq (⟨"GapSetsModel", "lessThan", "(II)I"⟩, 18) := ⟨⟨by decide +kernel, by decide +kernel⟩, List.mem_of_getElem? (i := 875) (by decide +kernel), List.mem_of_getElem? (i := 957) (by decide +kernel), List.mem_of_getElem? (i := 958) (by decide +kernel)⟩
theorem lw_p27 : lw_okq (⟨"GapSetsModel", "many", "(I)I"⟩, 18) := ⟨⟨by decide +kernel, by decide +kernel⟩, List.mem_of_getElem? (i := 875) (by decide +kernel), List.mem_of_getElem? (i := 961) (by decide +kernel), List.mem_of_getElem? (i := 962) (by decide +kernel)⟩
theorem lw_p28 : lw_okq (⟨"GapSetsModel", "at", "(II)I"⟩, 18) := ⟨⟨by decide +kernel, by decide +kernel⟩, List.mem_of_getElem? (i := 875) (by decide +kernel), List.mem_of_getElem? (i := 965) (by decide +kernel), List.mem_of_getElem? (i := 966) (by decide +kernel)⟩
theorem lw_p29 : lw_okq (⟨"GapSetsModel", "save", "()V"⟩, 18) := ⟨⟨by decide +kernel, by decide +kernel⟩, List.mem_of_getElem? (i := 875) (by decide +kernel), List.mem_of_getElem? (i := 969) (by decide +kernel), List.mem_of_getElem? (i := 970) (by decide +kernel)⟩
theorem lw_p30 : lw_okq (⟨"GapSetsModel", "insert", "(II)V"⟩, 18) := ⟨⟨by decide +kernel, by decide +kernel⟩, List.mem_of_getElem? (i := 875) (by decide +kernel), List.mem_of_getElem? (i := 973) (by decide +kernel), List.mem_of_getElem? (i := 974) (by decide +kernel)⟩
theorem lw_p31 : lw_okq (⟨"GapSetsModel", "takeAway", "(III)I"⟩, 18) := ⟨⟨by decide +kernel, by decide +kernel⟩, List.mem_of_getElem? (i := 875) (by decide +kernel), List.mem_of_getElem? (i := 981) (by decide +kernel), List.mem_of_getElem? (i := 982) (by decide +kernel)⟩
def lw_privs_2 : List (MethodName × Nat) := [(⟨"GapSets$Blocks", "putStart", "(II)V"⟩, 3), (⟨"GapSets", "pairsAlike", "()I"⟩, 8), (⟨"GapSets", "mixMembers", "(JI)J"⟩, 8), (⟨"GapSets", "sizeOf", "(LGapSets$Members;)I"⟩, 8), (⟨"GapSets", "mixBlocks", "(JI)J"⟩, 8), (⟨"GapSets", "mixLooks", "(JI)J"⟩, 8), (⟨"GapSets$Leaper", "lookForBlock", "(I)I"⟩, 5), (⟨"GapSets", "mixBuffer", "(J)J"⟩, 8), (⟨"GapSets$History", "slotAt", "(I)LGapSets$State;"⟩, 3), (⟨"GapSetsModel", "isMember", "(II)Z"⟩, 18), (⟨"GapSetsModel", "lessThan", "(II)I"⟩, 18), (⟨"GapSetsModel", "many", "(I)I"⟩, 18), (⟨"GapSetsModel", "at", "(II)I"⟩, 18), (⟨"GapSetsModel", "save", "()V"⟩, 18), (⟨"GapSetsModel", "insert", "(II)V"⟩, 18), (⟨"GapSetsModel", "takeAway", "(III)I"⟩, 18)]
theorem lw_r2 : ∀ q ∈ lw_privs_2, lw_okq q := List.forall_mem_cons.mpr ⟨lw_p16, List.forall_mem_cons.mpr ⟨lw_p17, List.forall_mem_cons.mpr ⟨lw_p18, List.forall_mem_cons.mpr ⟨lw_p19, List.forall_mem_cons.mpr ⟨lw_p20, List.forall_mem_cons.mpr ⟨lw_p21, List.forall_mem_cons.mpr ⟨lw_p22, List.forall_mem_cons.mpr ⟨lw_p23, List.forall_mem_cons.mpr ⟨lw_p24, List.forall_mem_cons.mpr ⟨lw_p25, List.forall_mem_cons.mpr ⟨lw_p26, List.forall_mem_cons.mpr ⟨lw_p27, List.forall_mem_cons.mpr ⟨lw_p28, List.forall_mem_cons.mpr ⟨lw_p29, List.forall_mem_cons.mpr ⟨lw_p30, List.forall_mem_cons.mpr ⟨lw_p31, fun _ h => absurd h List.not_mem_nil⟩⟩⟩⟩⟩⟩⟩⟩⟩⟩⟩⟩⟩⟩⟩⟩
theorem lw_p32 : lw_okq (⟨"GapSetsModel", "takeRow", "(I)V"⟩, 18) := ⟨⟨by decide +kernel, by decide +kernel⟩, List.mem_of_getElem? (i := 875) (by decide +kernel), List.mem_of_getElem? (i := 985) (by decide +kernel), List.mem_of_getElem? (i := 986) (by decide +kernel)⟩
theorem lw_p33 : lw_okq (⟨"GapSetsModel", "layRow", "(I)V"⟩, 18) := ⟨⟨by decide +kernel, by decide +kernel⟩, List.mem_of_getElem? (i := 875) (by decide +kernel), List.mem_of_getElem? (i := 989) (by decide +kernel), List.mem_of_getElem? (i := 990) (by decide +kernel)⟩
theorem lw_p34 : lw_okq (⟨"GapSetsModel", "canShift", "(II)Z"⟩, 18) := ⟨⟨by decide +kernel, by decide +kernel⟩, List.mem_of_getElem? (i := 875) (by decide +kernel), List.mem_of_getElem? (i := 1001) (by decide +kernel), List.mem_of_getElem? (i := 1002) (by decide +kernel)⟩
theorem lw_p35 : lw_okq (⟨"GapSetsModel", "leastOf", "(I)I"⟩, 18) := ⟨⟨by decide +kernel, by decide +kernel⟩, List.mem_of_getElem? (i := 875) (by decide +kernel), List.mem_of_getElem? (i := 1005) (by decide +kernel), List.mem_of_getElem? (i := 1006) (by decide +kernel)⟩
theorem lw_p36 : lw_okq (⟨"GapSetsModel", "greatestOf", "(I)I"⟩, 18) := ⟨⟨by decide +kernel, by decide +kernel⟩, List.mem_of_getElem? (i := 875) (by decide +kernel), List.mem_of_getElem? (i := 1009) (by decide +kernel), List.mem_of_getElem? (i := 1010) (by decide +kernel)⟩
theorem lw_p37 : lw_okq (⟨"GapSetsModel", "layCombined", "(III)V"⟩, 18) := ⟨⟨by decide +kernel, by decide +kernel⟩, List.mem_of_getElem? (i := 875) (by decide +kernel), List.mem_of_getElem? (i := 1017) (by decide +kernel), List.mem_of_getElem? (i := 1018) (by decide +kernel)⟩
theorem lw_p38 : lw_okq (⟨"GapSetsModel", "rightUpTo", "()I"⟩, 18) := ⟨⟨by decide +kernel, by decide +kernel⟩, List.mem_of_getElem? (i := 875) (by decide +kernel), List.mem_of_getElem? (i := 1046) (by decide +kernel), List.mem_of_getElem? (i := 1047) (by decide +kernel)⟩
theorem lw_p39 : lw_okq (⟨"GapSetsModel", "takes", "(I)Z"⟩, 18) := ⟨⟨by decide +kernel, by decide +kernel⟩, List.mem_of_getElem? (i := 875) (by decide +kernel), List.mem_of_getElem? (i := 1050) (by decide +kernel), List.mem_of_getElem? (i := 1051) (by decide +kernel)⟩
theorem lw_p40 : lw_okq (⟨"GapSetsModel", "isEnded", "()Z"⟩, 18) := ⟨⟨by decide +kernel, by decide +kernel⟩, List.mem_of_getElem? (i := 875) (by decide +kernel), List.mem_of_getElem? (i := 1054) (by decide +kernel), List.mem_of_getElem? (i := 1055) (by decide +kernel)⟩
theorem lw_p41 : lw_okq (⟨"GapSetsModel", "endNumber", "()V"⟩, 18) := ⟨⟨by decide +kernel, by decide +kernel⟩, List.mem_of_getElem? (i := 875) (by decide +kernel), List.mem_of_getElem? (i := 1058) (by decide +kernel), List.mem_of_getElem? (i := 1059) (by decide +kernel)⟩
theorem lw_p42 : lw_okq (⟨"GapSetsModel", "takesDigit", "(I)Z"⟩, 18) := ⟨⟨by decide +kernel, by decide +kernel⟩, List.mem_of_getElem? (i := 875) (by decide +kernel), List.mem_of_getElem? (i := 1062) (by decide +kernel), List.mem_of_getElem? (i := 1063) (by decide +kernel)⟩
theorem lw_p43 : lw_okq (⟨"GapSetsModel", "toldMany", "()I"⟩, 18) := ⟨⟨by decide +kernel, by decide +kernel⟩, List.mem_of_getElem? (i := 875) (by decide +kernel), List.mem_of_getElem? (i := 1073) (by decide +kernel), List.mem_of_getElem? (i := 1074) (by decide +kernel)⟩
theorem lw_p44 : lw_okq (⟨"GapSetsModel", "nearestTo", "(II)I"⟩, 18) := ⟨⟨by decide +kernel, by decide +kernel⟩, List.mem_of_getElem? (i := 875) (by decide +kernel), List.mem_of_getElem? (i := 1097) (by decide +kernel), List.mem_of_getElem? (i := 1098) (by decide +kernel)⟩
theorem lw_p45 : lw_okq (⟨"GapSetsModel", "blockNow", "(III)I"⟩, 18) := ⟨⟨by decide +kernel, by decide +kernel⟩, List.mem_of_getElem? (i := 875) (by decide +kernel), List.mem_of_getElem? (i := 1105) (by decide +kernel), List.mem_of_getElem? (i := 1106) (by decide +kernel)⟩
theorem lw_p46 : lw_okq (⟨"GapSetsModel", "blocksOf", "(I)V"⟩, 18) := ⟨⟨by decide +kernel, by decide +kernel⟩, List.mem_of_getElem? (i := 875) (by decide +kernel), List.mem_of_getElem? (i := 1109) (by decide +kernel), List.mem_of_getElem? (i := 1110) (by decide +kernel)⟩
theorem lw_p47 : lw_okq (⟨"GapSetsModel", "layBlocks", "(II)V"⟩, 18) := ⟨⟨by decide +kernel, by decide +kernel⟩, List.mem_of_getElem? (i := 875) (by decide +kernel), List.mem_of_getElem? (i := 1113) (by decide +kernel), List.mem_of_getElem? (i := 1114) (by decide +kernel)⟩
def lw_privs_3 : List (MethodName × Nat) := [(⟨"GapSetsModel", "takeRow", "(I)V"⟩, 18), (⟨"GapSetsModel", "layRow", "(I)V"⟩, 18), (⟨"GapSetsModel", "canShift", "(II)Z"⟩, 18), (⟨"GapSetsModel", "leastOf", "(I)I"⟩, 18), (⟨"GapSetsModel", "greatestOf", "(I)I"⟩, 18), (⟨"GapSetsModel", "layCombined", "(III)V"⟩, 18), (⟨"GapSetsModel", "rightUpTo", "()I"⟩, 18), (⟨"GapSetsModel", "takes", "(I)Z"⟩, 18), (⟨"GapSetsModel", "isEnded", "()Z"⟩, 18), (⟨"GapSetsModel", "endNumber", "()V"⟩, 18), (⟨"GapSetsModel", "takesDigit", "(I)Z"⟩, 18), (⟨"GapSetsModel", "toldMany", "()I"⟩, 18), (⟨"GapSetsModel", "nearestTo", "(II)I"⟩, 18), (⟨"GapSetsModel", "blockNow", "(III)I"⟩, 18), (⟨"GapSetsModel", "blocksOf", "(I)V"⟩, 18), (⟨"GapSetsModel", "layBlocks", "(II)V"⟩, 18)]
theorem lw_r3 : ∀ q ∈ lw_privs_3, lw_okq q := List.forall_mem_cons.mpr ⟨lw_p32, List.forall_mem_cons.mpr ⟨lw_p33, List.forall_mem_cons.mpr ⟨lw_p34, List.forall_mem_cons.mpr ⟨lw_p35, List.forall_mem_cons.mpr ⟨lw_p36, List.forall_mem_cons.mpr ⟨lw_p37, List.forall_mem_cons.mpr ⟨lw_p38, List.forall_mem_cons.mpr ⟨lw_p39, List.forall_mem_cons.mpr ⟨lw_p40, List.forall_mem_cons.mpr ⟨lw_p41, List.forall_mem_cons.mpr ⟨lw_p42, List.forall_mem_cons.mpr ⟨lw_p43, List.forall_mem_cons.mpr ⟨lw_p44, List.forall_mem_cons.mpr ⟨lw_p45, List.forall_mem_cons.mpr ⟨lw_p46, List.forall_mem_cons.mpr ⟨lw_p47, fun _ h => absurd h List.not_mem_nil⟩⟩⟩⟩⟩⟩⟩⟩⟩⟩⟩⟩⟩⟩⟩⟩
theorem lw_p48 : lw_okq (⟨"GapSetsModel", "bytesOf", "(I)I"⟩, 18) := ⟨⟨by decide +kernel, by decide +kernel⟩, List.mem_of_getElem? (i := 875) (by decide +kernel), List.mem_of_getElem? (i := 1117) (by decide +kernel), List.mem_of_getElem? (i := 1118) (by decide +kernel)⟩
theorem lw_p49 : lw_okq (⟨"GapSetsModel", "greatestGap", "(I)I"⟩, 18) := ⟨⟨by decide +kernel, by decide +kernel⟩, List.mem_of_getElem? (i := 875) (by decide +kernel), List.mem_of_getElem? (i := 1121) (by decide +kernel), List.mem_of_getElem? (i := 1122) (by decide +kernel)⟩
theorem lw_p50 : lw_okq (⟨"GapSetsModel", "setNow", "(II)I"⟩, 18) := ⟨⟨by decide +kernel, by decide +kernel⟩, List.mem_of_getElem? (i := 875) (by decide +kernel), List.mem_of_getElem? (i := 1129) (by decide +kernel), List.mem_of_getElem? (i := 1130) (by decide +kernel)⟩
theorem lw_p51 : lw_okq (⟨"GapSetsModel", "blockCount", "(I)I"⟩, 18) := ⟨⟨by decide +kernel, by decide +kernel⟩, List.mem_of_getElem? (i := 875) (by decide +kernel), List.mem_of_getElem? (i := 1133) (by decide +kernel), List.mem_of_getElem? (i := 1134) (by decide +kernel)⟩
theorem lw_p52 : lw_okq (⟨"GapSetsModel", "sizeOf", "(I)I"⟩, 18) := ⟨⟨by decide +kernel, by decide +kernel⟩, List.mem_of_getElem? (i := 875) (by decide +kernel), List.mem_of_getElem? (i := 1137) (by decide +kernel), List.mem_of_getElem? (i := 1138) (by decide +kernel)⟩
theorem lw_p53 : lw_okq (⟨"GapSetsModel", "sizeBy", "(III)I"⟩, 18) := ⟨⟨by decide +kernel, by decide +kernel⟩, List.mem_of_getElem? (i := 875) (by decide +kernel), List.mem_of_getElem? (i := 1141) (by decide +kernel), List.mem_of_getElem? (i := 1142) (by decide +kernel)⟩
theorem lw_p54 : lw_okq (⟨"GapSetsModel", "bytes", "()I"⟩, 18) := ⟨⟨by decide +kernel, by decide +kernel⟩, List.mem_of_getElem? (i := 875) (by decide +kernel), List.mem_of_getElem? (i := 1145) (by decide +kernel), List.mem_of_getElem? (i := 1146) (by decide +kernel)⟩
theorem lw_p55 : lw_okq (⟨"GapSetsModel", "longestRun", "(I)I"⟩, 18) := ⟨⟨by decide +kernel, by decide +kernel⟩, List.mem_of_getElem? (i := 875) (by decide +kernel), List.mem_of_getElem? (i := 1149) (by decide +kernel), List.mem_of_getElem? (i := 1150) (by decide +kernel)⟩
theorem lw_p56 : lw_okq (⟨"GapSetsModel", "wideGaps", "(I)I"⟩, 18) := ⟨⟨by decide +kernel, by decide +kernel⟩, List.mem_of_getElem? (i := 875) (by decide +kernel), List.mem_of_getElem? (i := 1153) (by decide +kernel), List.mem_of_getElem? (i := 1154) (by decide +kernel)⟩
theorem lw_p57 : lw_okq (⟨"GapSetsModel", "leapsNow", "(III)I"⟩, 18) := ⟨⟨by decide +kernel, by decide +kernel⟩, List.mem_of_getElem? (i := 875) (by decide +kernel), List.mem_of_getElem? (i := 1161) (by decide +kernel), List.mem_of_getElem? (i := 1162) (by decide +kernel)⟩
theorem lw_p58 : lw_okq (⟨"GapSetsModel", "goThrough", "(II)V"⟩, 18) := ⟨⟨by decide +kernel, by decide +kernel⟩, List.mem_of_getElem? (i := 875) (by decide +kernel), List.mem_of_getElem? (i := 1165) (by decide +kernel), List.mem_of_getElem? (i := 1166) (by decide +kernel)⟩
theorem lw_p59 : lw_okq (⟨"GapSetsModel", "leap", "(III)I"⟩, 18) := ⟨⟨by decide +kernel, by decide +kernel⟩, List.mem_of_getElem? (i := 875) (by decide +kernel), List.mem_of_getElem? (i := 1169) (by decide +kernel), List.mem_of_getElem? (i := 1170) (by decide +kernel)⟩
theorem lw_p60 : lw_okq (⟨"GapSetsModel", "blockWith", "(II)I"⟩, 18) := ⟨⟨by decide +kernel, by decide +kernel⟩, List.mem_of_getElem? (i := 875) (by decide +kernel), List.mem_of_getElem? (i := 1173) (by decide +kernel), List.mem_of_getElem? (i := 1174) (by decide +kernel)⟩
theorem lw_p61 : lw_okq (⟨"GapSetsModel", "counted", "(I)I"⟩, 18) := ⟨⟨by decide +kernel, by decide +kernel⟩, List.mem_of_getElem? (i := 875) (by decide +kernel), List.mem_of_getElem? (i := 1181) (by decide +kernel), List.mem_of_getElem? (i := 1182) (by decide +kernel)⟩
theorem lw_p62 : lw_okq (⟨"GapSetsModel", "sumOf", "(I)I"⟩, 18) := ⟨⟨by decide +kernel, by decide +kernel⟩, List.mem_of_getElem? (i := 875) (by decide +kernel), List.mem_of_getElem? (i := 1185) (by decide +kernel), List.mem_of_getElem? (i := 1186) (by decide +kernel)⟩
theorem lw_p63 : lw_okq (⟨"GapSetsModel", "membersOfAll", "(Z)I"⟩, 18) := ⟨⟨by decide +kernel, by decide +kernel⟩, List.mem_of_getElem? (i := 875) (by decide +kernel), List.mem_of_getElem? (i := 1189) (by decide +kernel), List.mem_of_getElem? (i := 1190) (by decide +kernel)⟩
def lw_privs_4 : List (MethodName × Nat) := [(⟨"GapSetsModel", "bytesOf", "(I)I"⟩, 18), (⟨"GapSetsModel", "greatestGap", "(I)I"⟩, 18), (⟨"GapSetsModel", "setNow", "(II)I"⟩, 18), (⟨"GapSetsModel", "blockCount", "(I)I"⟩, 18), (⟨"GapSetsModel", "sizeOf", "(I)I"⟩, 18), (⟨"GapSetsModel", "sizeBy", "(III)I"⟩, 18), (⟨"GapSetsModel", "bytes", "()I"⟩, 18), (⟨"GapSetsModel", "longestRun", "(I)I"⟩, 18), (⟨"GapSetsModel", "wideGaps", "(I)I"⟩, 18), (⟨"GapSetsModel", "leapsNow", "(III)I"⟩, 18), (⟨"GapSetsModel", "goThrough", "(II)V"⟩, 18), (⟨"GapSetsModel", "leap", "(III)I"⟩, 18), (⟨"GapSetsModel", "blockWith", "(II)I"⟩, 18), (⟨"GapSetsModel", "counted", "(I)I"⟩, 18), (⟨"GapSetsModel", "sumOf", "(I)I"⟩, 18), (⟨"GapSetsModel", "membersOfAll", "(Z)I"⟩, 18)]
theorem lw_r4 : ∀ q ∈ lw_privs_4, lw_okq q := List.forall_mem_cons.mpr ⟨lw_p48, List.forall_mem_cons.mpr ⟨lw_p49, List.forall_mem_cons.mpr ⟨lw_p50, List.forall_mem_cons.mpr ⟨lw_p51, List.forall_mem_cons.mpr ⟨lw_p52, List.forall_mem_cons.mpr ⟨lw_p53, List.forall_mem_cons.mpr ⟨lw_p54, List.forall_mem_cons.mpr ⟨lw_p55, List.forall_mem_cons.mpr ⟨lw_p56, List.forall_mem_cons.mpr ⟨lw_p57, List.forall_mem_cons.mpr ⟨lw_p58, List.forall_mem_cons.mpr ⟨lw_p59, List.forall_mem_cons.mpr ⟨lw_p60, List.forall_mem_cons.mpr ⟨lw_p61, List.forall_mem_cons.mpr ⟨lw_p62, List.forall_mem_cons.mpr ⟨lw_p63, fun _ h => absurd h List.not_mem_nil⟩⟩⟩⟩⟩⟩⟩⟩⟩⟩⟩⟩⟩⟩⟩⟩
theorem lw_p64 : lw_okq (⟨"GapSetsModel", "setsWith", "(II)I"⟩, 18) := ⟨⟨by decide +kernel, by decide +kernel⟩, List.mem_of_getElem? (i := 875) (by decide +kernel), List.mem_of_getElem? (i := 1193) (by decide +kernel), List.mem_of_getElem? (i := 1194) (by decide +kernel)⟩
theorem lw_p65 : lw_okq (⟨"GapSetsModel", "alikePairs", "()I"⟩, 18) := ⟨⟨by decide +kernel, by decide +kernel⟩, List.mem_of_getElem? (i := 875) (by decide +kernel), List.mem_of_getElem? (i := 1197) (by decide +kernel), List.mem_of_getElem? (i := 1198) (by decide +kernel)⟩
theorem lw_p66 : lw_okq (⟨"GapSetsModel", "areAlike", "(II)Z"⟩, 18) := ⟨⟨by decide +kernel, by decide +kernel⟩, List.mem_of_getElem? (i := 875) (by decide +kernel), List.mem_of_getElem? (i := 1201) (by decide +kernel), List.mem_of_getElem? (i := 1202) (by decide +kernel)⟩
theorem lw_p67 : lw_okq (⟨"GapSetsModel", "addedThen", "(II)I"⟩, 18) := ⟨⟨by decide +kernel, by decide +kernel⟩, List.mem_of_getElem? (i := 875) (by decide +kernel), List.mem_of_getElem? (i := 1217) (by decide +kernel), List.mem_of_getElem? (i := 1218) (by decide +kernel)⟩
theorem lw_p68 : lw_okq (⟨"GapSetsModel", "dearestNow", "(II)I"⟩, 18) := ⟨⟨by decide +kernel, by decide +kernel⟩, List.mem_of_getElem? (i := 875) (by decide +kernel), List.mem_of_getElem? (i := 1225) (by decide +kernel), List.mem_of_getElem? (i := 1226) (by decide +kernel)⟩
theorem lw_p69 : lw_okq (⟨"GapSetsModel", "sizeWithout", "(II)I"⟩, 18) := ⟨⟨by decide +kernel, by decide +kernel⟩, List.mem_of_getElem? (i := 875) (by decide +kernel), List.mem_of_getElem? (i := 1229) (by decide +kernel), List.mem_of_getElem? (i := 1230) (by decide +kernel)⟩
theorem lw_p70 : lw_okq (⟨"GapSetsModel", "bestNow", "()I"⟩, 18) := ⟨⟨by decide +kernel, by decide +kernel⟩, List.mem_of_getElem? (i := 875) (by decide +kernel), List.mem_of_getElem? (i := 1237) (by decide +kernel), List.mem_of_getElem? (i := 1238) (by decide +kernel)⟩
theorem lw_p71 : lw_okq (⟨"GapSetsModel", "sizesBy", "(I)I"⟩, 18) := ⟨⟨by decide +kernel, by decide +kernel⟩, List.mem_of_getElem? (i := 875) (by decide +kernel), List.mem_of_getElem? (i := 1241) (by decide +kernel), List.mem_of_getElem? (i := 1242) (by decide +kernel)⟩
theorem lw_p72 : lw_okq (⟨"GapSetsModel", "small", "()D"⟩, 18) := ⟨⟨by decide +kernel, by decide +kernel⟩, List.mem_of_getElem? (i := 875) (by decide +kernel), List.mem_of_getElem? (i := 1249) (by decide +kernel), List.mem_of_getElem? (i := 1250) (by decide +kernel)⟩
theorem lw_p73 : lw_okq (⟨"GapSetsModel", "mix", "(J)V"⟩, 18) := ⟨⟨by decide +kernel, by decide +kernel⟩, List.mem_of_getElem? (i := 875) (by decide +kernel), List.mem_of_getElem? (i := 1258) (by decide +kernel), List.mem_of_getElem? (i := 1259) (by decide +kernel)⟩
theorem lw_p74 : lw_okq (⟨"GapSetsModel", "mixSet", "(I)V"⟩, 18) := ⟨⟨by decide +kernel, by decide +kernel⟩, List.mem_of_getElem? (i := 875) (by decide +kernel), List.mem_of_getElem? (i := 1263) (by decide +kernel), List.mem_of_getElem? (i := 1264) (by decide +kernel)⟩
def lw_privs_5 : List (MethodName × Nat) := [(⟨"GapSetsModel", "setsWith", "(II)I"⟩, 18), (⟨"GapSetsModel", "alikePairs", "()I"⟩, 18), (⟨"GapSetsModel", "areAlike", "(II)Z"⟩, 18), (⟨"GapSetsModel", "addedThen", "(II)I"⟩, 18), (⟨"GapSetsModel", "dearestNow", "(II)I"⟩, 18), (⟨"GapSetsModel", "sizeWithout", "(II)I"⟩, 18), (⟨"GapSetsModel", "bestNow", "()I"⟩, 18), (⟨"GapSetsModel", "sizesBy", "(I)I"⟩, 18), (⟨"GapSetsModel", "small", "()D"⟩, 18), (⟨"GapSetsModel", "mix", "(J)V"⟩, 18), (⟨"GapSetsModel", "mixSet", "(I)V"⟩, 18)]
theorem lw_r5 : ∀ q ∈ lw_privs_5, lw_okq q := List.forall_mem_cons.mpr ⟨lw_p64, List.forall_mem_cons.mpr ⟨lw_p65, List.forall_mem_cons.mpr ⟨lw_p66, List.forall_mem_cons.mpr ⟨lw_p67, List.forall_mem_cons.mpr ⟨lw_p68, List.forall_mem_cons.mpr ⟨lw_p69, List.forall_mem_cons.mpr ⟨lw_p70, List.forall_mem_cons.mpr ⟨lw_p71, List.forall_mem_cons.mpr ⟨lw_p72, List.forall_mem_cons.mpr ⟨lw_p73, List.forall_mem_cons.mpr ⟨lw_p74, fun _ h => absurd h List.not_mem_nil⟩⟩⟩⟩⟩⟩⟩⟩⟩⟩⟩
def lw_privs : List (MethodName × Nat) := lw_privs_1 ++ (lw_privs_2 ++ (lw_privs_3 ++ (lw_privs_4 ++ (lw_privs_5))))
def lw_tbl : List Cond := k2_sels lw_privs ++ tables_1
theorem lw_privs_ok : ∀ q ∈ lw_privs, lw_okq q := by
  show ∀ q ∈ lw_privs_1 ++ (lw_privs_2 ++ (lw_privs_3 ++ (lw_privs_4 ++ (lw_privs_5)))), lw_okq q
  exact List.forall_mem_append.mpr ⟨lw_r1, List.forall_mem_append.mpr ⟨lw_r2, List.forall_mem_append.mpr ⟨lw_r3, List.forall_mem_append.mpr ⟨lw_r4, lw_r5⟩⟩⟩⟩
/-- the streams that the claim lets the run draw from -/
abbrev lw_cs : List Choice := [Jvm.Choice.named "NaN.bits"]
theorem lw_bits : nanBits ∈ lw_cs := by first | decide | exact List.mem_cons_self | simp [lw_cs, nanBits]
-- ===== end of PART A; then your names; then what follows =====
end
section
/-! ===== BEGIN words of one list among another's, by their places ===== -/
theorem goodIn_r {big : List Cond} (ws : List Cond) (ps : List Nat) (hp : ws = ps.filterMap (fun i => big[i]?)) (h : ws.all goodWord = true) : GoodIn big ws := by
  intro w hw
  have h1 := List.all_eq_true.mp h w hw
  rw [hp] at hw
  obtain ⟨i, -, hi⟩ := List.mem_filterMap.mp hw
  have hm : w ∈ big := by first | exact List.mem_of_getElem? hi | exact List.getElem?_mem hi
  exact ⟨hm, good_of_word h1⟩
theorem goodIn_app {big a b : List Cond} (ha : GoodIn big a) (hb : GoodIn big b) : GoodIn big (a ++ b) := fun w h => (List.mem_append.mp h).elim (ha w) (hb w)
theorem goodIn_ca {big a b : List Cond} {c : Cond} (ha : GoodIn big (c :: a)) (hb : GoodIn big b) : GoodIn big (c :: (a ++ b)) := fun w h => (List.mem_cons.mp h).elim (fun e => ha w (List.mem_cons.mpr (Or.inl e))) (fun h => (List.mem_append.mp h).elim (fun h => ha w (List.mem_cons.mpr (Or.inr h))) (hb w))
theorem goodIn_sub {big ws : List Cond} (hm : ∀ w ∈ ws, w ∈ big) (h : ws.all goodWord = true) : GoodIn big ws := fun w hw => ⟨hm w hw, good_of_word (List.all_eq_true.mp h w hw)⟩
/-! ===== END ===== -/

/-! ===== BEGIN exceptions that leave a method, and their catching by the caller (launches without stack traces) ===== -/
section VXA
/-! The laws vx_back, vx_callV, vx_callS, vx_callSW, vx_throw0, vx_throwS follow proofs of the library, with one case more: JvmDerived/Free/Laws.lean (Back.of_free), Shelf42/LK1.lean (callV, callS), Shelf/KitTraced.lean (throwNew0V, throwNewS). -/
/-- where a method has thrown q: the class by its name, the cell, what was written, the world -/
def vx_T (XC : String → State → State → Prop) (st : State) (q : Addr) (t : State) (mc ms : Nat) (free : Addr → Prop) : Prop :=
  ∃ (E : String) (ce : Cell) (L : List Loc), XC E st t ∧ t.heap[q]? = some ce ∧ ce.vm = .none ∧ st.vm.findClass E = some ce.cls ∧ st.WarmedH t.vm ∧ st.sameButNew ({ t with vm := st.vm } : State) L mc ms ∧ ∀ z ∈ L, free z.base
def vx_Q (Qc : Array Value → State → Outcome → State → Prop) (XC : String → State → State → Prop) (mc ms : Nat) (free : Addr → Prop) : Array Value → State → Outcome → State → Prop := fun a st o t =>
  (Qc a st o t ∧ ∃ L, FrameEnd st o t L mc ms ∧ ∀ q ∈ L, free q.base) ∨ ∃ q, o = .threw q ∧ vx_T XC st q t mc ms free
/-- a callee that returns or throws -/
def vx_Met (l : Launch) (y : MethodName) (ws : List Cond) (rm : Room) (Pc : Array Value → State → Prop) (Qc : Array Value → State → Outcome → State → Prop) (XC : String → State → State → Prop) (mc ms : Nat) (free : Addr → Prop) : Prop :=
  MetFree l y (headSpec ws rm) Pc (fun _ _ _ _ _ => True) (vx_Q Qc XC mc ms free)
def vx_Post (XC : String → State → State → Prop) (mc ms : Nat) (free : Addr → Prop) : Pt → Array Value → Addr → Pt → Prop := fun A a q B =>
  ∃ (g : JFrame) (mk : MethodId) (t : State) (L : List Loc) (E : String) (ce : Cell), B.U.heap = t.heap ∧ B.U.vm = t.vm ∧ XC E (A.U.calling g mk a) t ∧ t.heap[q]? = some ce ∧ ce.vm = .none ∧ A.U.vm.findClass E = some ce.cls ∧ B.locs = A.locs ++ L ∧ (∀ z ∈ L, free z.base) ∧ B.cells = A.cells + mc ∧ B.slots = A.slots + ms
def vx_Back (l : Launch) (R : Room) (p : Program) (e : Env) (below : List Frame) (s : State) (sargs : Array Value) (y : MethodName) (len W9 : Nat)
    (Pre : Pt → Array Value → Prop) (Post : Pt → Array Value → Option Value → Pt → Prop) (PostX : Pt → Array Value → Addr → Pt → Prop) : Prop :=
  ∀ (m : MethodId) (meth : Method) (c : Code) (A : Pt) (g : JFrame) (ig : Instr) (mk : MethodId) (a : Array Value),
    Stand p l e R s m sargs below meth c A.U A.locs A.cells A.slots → g.method = m → g.locals.size = c.maxLocals → decode c.code g.pc = .ok (ig, len) →
    2 * g.monitorRoom + (g.stack.map fun v => v.category).sum ≤ W9 → A.U.methodNamed? y = some mk → Pre A a →
    (∃ (v : Option Value) (B : Pt), Stand p l e R s m sargs below meth c B.U B.locs B.cells B.slots ∧ Post A a v B ∧
      Steps p.tables e below (doInvoke e (A.U.setTop g) [] mk a).1 (B.U.setTop { g with pc := g.pc + len, stack := v.toList ++ g.stack })) ∨
    (∃ (q : Addr) (B : Pt), Stand p l e R s m sargs below meth c B.U B.locs B.cells B.slots ∧ PostX A a q B ∧
      Steps p.tables e below (doInvoke e (A.U.setTop g) [] mk a).1 ((B.U.setTop g).pushFrame (.throwing q)))
section Payer
variable {l : Launch} {R : Room} {p : Program} {e : Env} {below : List Frame} {s : State} {sargs : Array Value} {y : MethodName} {len W9 : Nat}
theorem vx_back {ws : List Cond} {rm : Room} {Pc : Array Value → State → Prop} {Qc : Array Value → State → Outcome → State → Prop} {XC : String → State → State → Prop} {mc ms : Nat} {free : Addr → Prop} {bytes : ByteArray} {maxL : Nat} {ret : Option FieldType}
    (hM : vx_Met l y ws rm Pc Qc XC mc ms free) (hblind : FrameBlind Pc) (hrc : rm.cells = mc) (hrs : rm.slots = ms)
    (hframes : rm.frames + 1 ≤ R.frames) (hlocals : W9 + (maxL + 11) + rm.locals ≤ R.locals)
    (hws : ∀ w ∈ ws, ∀ a' U, s.WarmedH U.vm → w.before a' U = true) (hcode : Cond.code y bytes maxL ret ∈ ws) (hinit : ∀ a' U, s.WarmedH U.vm → (Cond.initialized y.cls).before a' U = true) :
    vx_Back l R p e below s sargs y len W9 (PreOf R mc ms Pc) (PostOf Qc mc ms free) (vx_Post XC mc ms free) := by
  intro m meth c A g ig mk a X hg hsize hdg hW hn hp
  have h1 : (headSpec ws rm).pre.before a A.U = true := atoms_intro fun w hw => hws w hw _ _ X.warmed
  have h2 : (Cond.code y bytes maxL ret).before a A.U = true := hws _ hcode _ _ X.warmed
  have h3 : (Cond.initialized y.cls).before a A.U = true := hinit _ _ X.warmed
  have h4 : A.cells + (headSpec ws rm).room.cells ≤ R.cells := by rw [show (headSpec ws rm).room.cells = mc from hrc]; exact hp.1
  have h5 : A.slots + (headSpec ws rm).room.slots ≤ R.slots := by rw [show (headSpec ws rm).room.slots = ms from hrs]; exact hp.2.1
  have hPc : Pc a (A.U.calling g mk a) := hblind _ _ _ _ hp.2.2
  obtain ⟨U, Ls, c0, s0⟩ := A
  dsimp only [Pt.U, Pt.locs, Pt.cells, Pt.slots] at h1 h2 h3 h4 h5 X hn hPc ⊢
  obtain ⟨methY, cY, hmY, hcY, -, hlY, -, -, -, -⟩ := Cond.code_spec hn h2
  obtain ⟨kY, hkY, -⟩ := className_of_methodNamed hn
  have hinitY : kY.init = .initialized := Cond.initialized_spec (findClass_of_methodNamed hn) hkY h3
  have h : At U g.method c below := by rw [hg]; exact X.here
  have hlocals9 : W9 + (maxL + 11) + (headSpec ws rm).room.locals ≤ R.locals := hlocals
  have happ : (headSpec ws rm).appliesLoose y e.platform (U.calling g mk a) = true :=
    Spec.appliesLoose_calling (g := g) h hdg hn hkY hinitY
      (X.room_calling (g := g) (R' := (headSpec ws rm).room) hsize hmY hcY hframes (by rw [hlY]; omega) h4 h5) h1
  obtain ⟨mid, hmid⟩ := h.above
  have hfr : (U.setTop g).frames = (.java g :: mid) ++ below := by rw [State.frames_setTop' g h.top, hmid]; rfl
  obtain ⟨o, s₂, hsteps, -, hend, hq⟩ := Steps.callFree hM p X.admits X.cas X.clock (acts := []) hfr happ hPc trivial
  have hq' : vx_Q Qc XC mc ms free a (U.calling g mk a) o s₂ := hq
  rw [State.frames_setTop' g h.top] at hend
  obtain ⟨g₀, hg0⟩ := Option.isSome_iff_exists.mp h.top
  obtain ⟨r, hr⟩ := State.topJava?_eq_some.mp hg0
  have hr' : (({ U with heap := s₂.heap, slotsUsed := s₂.slotsUsed } : State).setVm s₂.vm).frames = .java g₀ :: r := hr
  rcases hq' with ⟨hqc, L, hfe, hL⟩ | ⟨q, rfl, E, ce, L, hx, hce, hcv, hcl, hW₂, hsm, hL⟩
  · obtain ⟨⟨v, rfl⟩, hW₂, e2, q2, q3, q4, q5, q6⟩ := id hfe
    have e3 : s₂ = ({ (U.calling g mk a).setFrames s₂.frames with heap := s₂.heap, slotsUsed := s₂.slotsUsed } : State).setVm s₂.vm := by
      have : s₂ = ({ s₂ with vm := (U.calling g mk a).vm } : State).setVm s₂.vm := rfl
      rw [e2] at this
      exact this
    obtain ⟨c₂, i₂, len₂, hc₂, hd₂, hf₂⟩ := hend
    have hW' : U.WarmedH s₂.vm := hW₂
    have hcc : c₂ = c := by
      have h1 : s₂.code? g.method = U.code? g.method := by
        rw [State.code?_eq, State.code?_eq, hW'.alike.method?]
      exact Option.some.inj (hc₂.symm.trans (h1.trans h.code))
    subst hcc
    have hlen : len₂ = len := by rw [hdg] at hd₂; cases hd₂; rfl
    subst hlen
    have hs₂ : s₂ = (({ U with heap := s₂.heap, slotsUsed := s₂.slotsUsed } : State).setVm s₂.vm).setTop { g with pc := g.pc + len₂, stack := v.toList ++ g.stack } := by
      refine e3.trans ?_
      rw [hf₂, State.calling_eq h.top, State.setFrames_setFrames, State.setTop_of_frames _ hr', hr]
      rfl
    have hsame : U.sameButNew ({ U with heap := s₂.heap, slotsUsed := s₂.slotsUsed } : State) L mc ms := by
      refine ⟨?_, q2, q3, q4, q5, q6⟩
      obtain ⟨t, ht, -⟩ := State.frames_cons hr
      show ({ U with heap := s₂.heap, slotsUsed := s₂.slotsUsed } : State) = { U.setFrames U.frames with heap := s₂.heap, slotsUsed := s₂.slotsUsed }
      rw [State.setFrames_self ht]
    subst hg
    refine Or.inl ⟨v, ⟨(({ U with heap := s₂.heap, slotsUsed := s₂.slotsUsed } : State).setVm s₂.vm), Ls ++ L, c0 + mc, s0 + ms⟩,
      ⟨X.admits, X.cas, X.clock, X.frames, X.room, X.hears, X.method, X.code, (X.here.setHeapUsed s₂.heap s₂.slotsUsed).setVm hW'.alike, X.tail, State.WarmedH.trans X.warmed hW', X.limits, X.bytes, X.same.trans (hsame.setVm s.vm)⟩,
      ⟨g, mk, s₂, L, rfl, rfl, hqc, rfl, hL, rfl, rfl⟩, ?_⟩
    show Steps p.tables e below _ ((({ U with heap := s₂.heap, slotsUsed := s₂.slotsUsed } : State).setVm s₂.vm).setTop { g with pc := g.pc + len₂, stack := v.toList ++ g.stack })
    rw [← hs₂]
    exact hsteps
  · obtain ⟨e2, q2, q3, q4, q5, q6⟩ := id hsm
    have e3 : s₂ = ({ (U.calling g mk a).setFrames s₂.frames with heap := s₂.heap, slotsUsed := s₂.slotsUsed } : State).setVm s₂.vm := by
      have : s₂ = ({ s₂ with vm := (U.calling g mk a).vm } : State).setVm s₂.vm := rfl
      rw [e2] at this
      exact this
    have hf₂ : s₂.frames = .throwing q :: .java g :: U.frames.tail := hend
    have hW' : U.WarmedH s₂.vm := hW₂
    have hs₂ : s₂ = ((({ U with heap := s₂.heap, slotsUsed := s₂.slotsUsed } : State).setVm s₂.vm).setTop g).pushFrame (.throwing q) := by
      refine e3.trans ?_
      rw [hf₂, State.calling_eq h.top, State.setFrames_setFrames, State.pushFrame, State.frames_setTop _ hr', State.setTop_of_frames _ hr', State.setFrames_setFrames, hr]
      rfl
    have hsame : U.sameButNew ({ U with heap := s₂.heap, slotsUsed := s₂.slotsUsed } : State) L mc ms := by
      refine ⟨?_, q2, q3, q4, q5, q6⟩
      obtain ⟨t, ht, -⟩ := State.frames_cons hr
      show ({ U with heap := s₂.heap, slotsUsed := s₂.slotsUsed } : State) = { U.setFrames U.frames with heap := s₂.heap, slotsUsed := s₂.slotsUsed }
      rw [State.setFrames_self ht]
    subst hg
    refine Or.inr ⟨q, ⟨(({ U with heap := s₂.heap, slotsUsed := s₂.slotsUsed } : State).setVm s₂.vm), Ls ++ L, c0 + mc, s0 + ms⟩,
      ⟨X.admits, X.cas, X.clock, X.frames, X.room, X.hears, X.method, X.code, (X.here.setHeapUsed s₂.heap s₂.slotsUsed).setVm hW'.alike, X.tail, State.WarmedH.trans X.warmed hW', X.limits, X.bytes, X.same.trans (hsame.setVm s.vm)⟩,
      ⟨g, mk, s₂, L, E, ce, rfl, rfl, hx, hce, hcv, hcl, rfl, hL, rfl, rfl⟩, ?_⟩
    show Steps p.tables e below _ (((({ U with heap := s₂.heap, slotsUsed := s₂.slotsUsed } : State).setVm s₂.vm).setTop g).pushFrame (.throwing q))
    rw [← hs₂]
    exact hsteps
end Payer
section Calls
variable {p : Program} {l : Launch} {e : Env} {R : Room} {s : State} {m : MethodId} {args : Array Value} {below : List Frame} {meth : Method} {c : Code} {T : State} {locs : List Loc} {cells slots : Nat}
theorem vx_callV (X : Stand p l e R s m args below meth c T locs cells slots) (hexec : p.tables.exec = Jvm.exec) {own C : String} {index : Nat} {y : MethodName} {bytes : ByteArray} {maxL : Nat} {ret : Option FieldType}
    (hown : s.vm.findClass own = some m.cls) (hlink : (Cond.methodLink own index y).before args s = true) (hinst : (Cond.instanceMethod y).before args s = true) (hsel : (Cond.selects C y y).before args s = true)
    (hcode : (Cond.code y bytes maxL ret).before args s = true) (hy : y.cls ≠ "java/lang/invoke/MethodHandle" ∧ y.cls ≠ "java/lang/invoke/VarHandle")
    {W9 : Nat} {Pre : Pt → Array Value → Prop} {Post : Pt → Array Value → Option Value → Pt → Prop} {PostX : Pt → Array Value → Addr → Pt → Prop} (hK : vx_Back l R p e below s args y 3 W9 Pre Post PostX)
    {b : Addr} {cellB : Cell} (hcell : T.heap[b]? = some cellB) (hobj : cellB.vm.isStatics = false) (hcls : s.vm.findClass C = some cellB.cls)
    {g : JFrame} (hg : g.method = m) (hsize : g.locals.size = c.maxLocals) {argsL rest : List Value} (hlen : ∀ sig, parseMethodDescriptor y.desc = some sig → argsL.length = sig.parameters.length)
    (hstack : g.stack = argsL.reverse ++ .ref b :: rest) (hW : 2 * g.monitorRoom + (rest.map fun v => v.category).sum ≤ W9) (hdg : decode c.code g.pc = .ok (.invokevirtual index, 3))
    (hpre : ∀ vm₁, s.WarmedH vm₁ → Pre ⟨T.setVm vm₁, locs, cells, slots⟩ (Value.ref b :: argsL).toArray) :
    (∃ (v : Option Value) (vm₁ : Vm) (B : Pt), s.WarmedH vm₁ ∧ Stand p l e R s m args below meth c B.U B.locs B.cells B.slots ∧ Post ⟨T.setVm vm₁, locs, cells, slots⟩ (Value.ref b :: argsL).toArray v B ∧
      ∀ target, Steps p.tables e below (B.U.setTop { g with pc := g.pc + 3, stack := v.toList ++ rest }) target → Steps p.tables e below (T.setTop g) target) ∨
    (∃ (q : Addr) (vm₁ : Vm) (B : Pt), s.WarmedH vm₁ ∧ Stand p l e R s m args below meth c B.U B.locs B.cells B.slots ∧ PostX ⟨T.setVm vm₁, locs, cells, slots⟩ (Value.ref b :: argsL).toArray q B ∧
      Steps p.tables e below (T.setTop g) ((B.U.setTop { g with stack := rest }).pushFrame (.throwing q))) := by
  obtain ⟨mk, methM, hnamed, hmethM, hstM, habM⟩ := Cond.instanceMethod_spec hinst
  obtain ⟨methM', cM, hmethM', -, -, -, -, -, -, hsigM⟩ := Cond.code_spec hnamed hcode
  cases hmethM.symm.trans hmethM'
  obtain ⟨c2, r2, m2, q1, q2, q3, q4, kP, hkP, hkPi⟩ := Cond.selects_spec hsel
  cases hcls.symm.trans q1
  cases (State.methodFound?_of_named hnamed hy).symm.trans q2
  cases hnamed.symm.trans q3
  have hselP : selectMethod e.platform s.vm cellB.cls mk = .method mk := by rw [Launch.admits_selectMethod X.admits]; exact q4
  obtain ⟨vm₁, X₁, hstep₁⟩ := X.invokevirtual hexec hown hlink hnamed hmethM hstM hkP hkPi hy (a := b) (cell := cellB) hcell
    (fun z h => by rw [h] at hobj; cases hobj) hselP hmethM habM hkP hkPi (g := g) hg (argsL := argsL) (rest := rest) (hlen _ hsigM) hstack hdg
  rcases hK m meth c ⟨T.setVm vm₁, locs, cells, slots⟩ { g with stack := rest } (.invokevirtual index) mk (Value.ref b :: argsL).toArray X₁ hg hsize hdg hW (X₁.named hnamed) (hpre vm₁ X₁.warmed) with ⟨v, B, X', hpost, hsteps⟩ | ⟨q, B, X', hpost, hsteps⟩
  · exact Or.inl ⟨v, vm₁, B, X₁.warmed, X', hpost, fun target h => hstep₁ _ fun acts => by rw [doInvoke_state]; exact hsteps.trans h⟩
  · exact Or.inr ⟨q, vm₁, B, X₁.warmed, X', hpost, hstep₁ _ fun acts => by rw [doInvoke_state]; exact hsteps⟩
theorem vx_callS (X : Stand p l e R s m args below meth c T locs cells slots) (hexec : p.tables.exec = Jvm.exec) {own : String} {index : Nat} {y : MethodName} {bytes : ByteArray} {maxL : Nat} {ret : Option FieldType}
    (hown : s.vm.findClass own = some m.cls) (hlink : (Cond.methodLink own index y).before args s = true) (hstat : (Cond.static y).before args s = true) (hinit : (Cond.initialized y.cls).before args s = true)
    (hcode : (Cond.code y bytes maxL ret).before args s = true) (hy : y.cls ≠ "java/lang/invoke/MethodHandle" ∧ y.cls ≠ "java/lang/invoke/VarHandle")
    {W9 : Nat} {Pre : Pt → Array Value → Prop} {Post : Pt → Array Value → Option Value → Pt → Prop} {PostX : Pt → Array Value → Addr → Pt → Prop} (hK : vx_Back l R p e below s args y 3 W9 Pre Post PostX)
    {g : JFrame} (hg : g.method = m) (hsize : g.locals.size = c.maxLocals) {argsL rest : List Value} (hlen : ∀ sig, parseMethodDescriptor y.desc = some sig → argsL.length = sig.parameters.length)
    (hstack : g.stack = argsL.reverse ++ rest) (hW : 2 * g.monitorRoom + (rest.map fun v => v.category).sum ≤ W9) (hdg : decode c.code g.pc = .ok (.invokestatic index, 3))
    (hpre : ∀ vm₁, s.WarmedH vm₁ → Pre ⟨T.setVm vm₁, locs, cells, slots⟩ argsL.toArray) :
    (∃ (v : Option Value) (vm₁ : Vm) (B : Pt), s.WarmedH vm₁ ∧ Stand p l e R s m args below meth c B.U B.locs B.cells B.slots ∧ Post ⟨T.setVm vm₁, locs, cells, slots⟩ argsL.toArray v B ∧
      ∀ target, Steps p.tables e below (B.U.setTop { g with pc := g.pc + 3, stack := v.toList ++ rest }) target → Steps p.tables e below (T.setTop g) target) ∨
    (∃ (q : Addr) (vm₁ : Vm) (B : Pt), s.WarmedH vm₁ ∧ Stand p l e R s m args below meth c B.U B.locs B.cells B.slots ∧ PostX ⟨T.setVm vm₁, locs, cells, slots⟩ argsL.toArray q B ∧
      Steps p.tables e below (T.setTop g) ((B.U.setTop { g with stack := rest }).pushFrame (.throwing q))) := by
  obtain ⟨mk, hnamed⟩ := Cond.code_named hcode
  obtain ⟨methM, cM, hmethM, -, -, -, -, -, -, hsigM⟩ := Cond.code_spec hnamed hcode
  have hstatic : methM.isStatic = true := Cond.static_spec hnamed hmethM hstat
  obtain ⟨kP, hkP, -⟩ := className_of_methodNamed hnamed
  have hinitP : kP.init = .initialized := Cond.initialized_spec (findClass_of_methodNamed hnamed) hkP hinit
  obtain ⟨vm₁, X₁, hstep₁⟩ := X.invokestatic hexec hown hlink hnamed hmethM hstatic hkP hinitP hy (g := g) hg (argsL := argsL) (rest := rest) (hlen _ hsigM) hstack hdg
  rcases hK m meth c ⟨T.setVm vm₁, locs, cells, slots⟩ { g with stack := rest } (.invokestatic index) mk argsL.toArray X₁ hg hsize hdg hW (X₁.named hnamed) (hpre vm₁ X₁.warmed) with ⟨v, B, X', hpost, hsteps⟩ | ⟨q, B, X', hpost, hsteps⟩
  · exact Or.inl ⟨v, vm₁, B, X₁.warmed, X', hpost, fun target h => hstep₁ _ fun acts => by rw [doInvoke_state]; exact hsteps.trans h⟩
  · exact Or.inr ⟨q, vm₁, B, X₁.warmed, X', hpost, hstep₁ _ fun acts => by rw [doInvoke_state]; exact hsteps⟩
end Calls
theorem vx_cls {s : State} {T : State} {vm₁ : Vm} {E : String} {k : ClassId} (hW : s.WarmedH vm₁) (h : (T.setVm vm₁).vm.findClass E = some k) : s.vm.findClass E = some k := by
  have h1 : vm₁.findClass E = some k := h
  rw [hW.alike.findClass] at h1
  exact h1
/-- the method's frame g, with q thrown over it -/
def vx_W (p : Program) (l : Launch) (e : Env) (R : Room) (s : State) (m : MethodId) (args : Array Value) (below : List Frame) (meth : Method) (c : Code) (H : Heap) (locs : List Loc) (cells slots : Nat) (Q : State → Prop) (g : JFrame) (q : Addr) : Prop :=
  ∀ T : State, T.heap = H → Stand p l e R s m args below meth c T locs cells slots → ∃ t, Steps p.tables e below ((T.setTop g).pushFrame (.throwing q)) t ∧ Q t
def vx_Run (p : Program) (l : Launch) (e : Env) (R : Room) (s : State) (m : MethodId) (args : Array Value) (below : List Frame) (meth : Method) (c : Code) (H : Heap) (locs : List Loc) (cells slots mc ms : Nat) (g : JFrame) (rest : List Value) (Qa : State → Outcome → State → Prop) (XC : String → State → State → Prop) (free : Addr → Prop) : Prop :=
  ∀ T : State, T.heap = H → Stand p l e R s m args below meth c T locs cells slots →
    (∃ (v : Option Value) (st₀ t T' : State) (L : List Loc), st₀.heap = H ∧ Stand p l e R s m args below meth c T' (locs ++ L) (cells + mc) (slots + ms) ∧ (∀ q ∈ L, free q.base) ∧ T'.heap = t.heap ∧ T'.vm = t.vm ∧ Qa st₀ (.returned v) t ∧
      Goes p e below T g T' { g with pc := g.pc + 3, stack := v.toList ++ rest }) ∨
    (∃ (q : Addr) (st₀ t T' : State) (L : List Loc) (E : String) (ce : Cell), st₀.heap = H ∧ Stand p l e R s m args below meth c T' (locs ++ L) (cells + mc) (slots + ms) ∧ (∀ z ∈ L, free z.base) ∧ T'.heap = t.heap ∧ T'.vm = t.vm ∧ XC E st₀ t ∧ t.heap[q]? = some ce ∧ ce.vm = .none ∧ s.vm.findClass E = some ce.cls ∧
      Steps p.tables e below (T.setTop g) ((T'.setTop { g with stack := rest }).pushFrame (.throwing q)))
def vx_X {S : Type} (px : S → Prop) (B : String → S → State → Prop) (A : Nat → Prop) : String → State → State → Prop := fun E st t => ∃ u : S, px u ∧ B E u t ∧ va_F A st t
section Runs
variable {p : Program} {l : Launch} {e : Env} {R : Room} {s : State} {m : MethodId} {args : Array Value} {below : List Frame} {meth : Method} {c : Code} {H : Heap} {locs : List Loc} {cells slots : Nat}
variable {y : MethodName} {bytes cc : ByteArray} {maxL nL mc ms n index : Nat} {ret : Option FieldType} {ws : List Cond} {rm : Room} {Pc : Array Value → State → Prop} {Qc : Array Value → State → Outcome → State → Prop} {XC : String → State → State → Prop} {free : Addr → Prop} {Ts : List Cond} {own C : String} {b : Addr} {As rest : List Value} {g : JFrame}
theorem vx_callBack (cb : CallB R s args own index y bytes maxL ret ws rm mc ms n) (hM : vx_Met l y ws rm Pc Qc XC mc ms free) (hbl : FrameBlind Pc) : vx_Back l R p e below s args y 3 8 (PreOf R mc ms Pc) (PostOf Qc mc ms free) (vx_Post XC mc ms free) := by
  obtain ⟨hrc, hrs, hfr, hlo, hws, hcw, -, hini, -⟩ := cb
  exact vx_back (bytes := bytes) (maxL := maxL) (ret := ret) hM hbl hrc hrs hfr hlo hws hcw (fun a' U hW => word_at hW (Or.inl (by first | rfl | simp [Cond.onTables, Cond.keeps, Cond.steady])) hini)
theorem vx_runV (S : CallFix p m c cc nL s args Ts own) (hM : vx_Met l y ws rm Pc Qc XC mc ms free) (cw : CallW R s args own C index y bytes maxL ret ws rm mc ms n) (hp : PreV s H C b Pc As)
    (hg : g.method = m) (hn : As.length = n) (hsize : g.locals.size = nL) (hstack : g.stack = As.reverse ++ .ref b :: rest) (hW : 2 * g.monitorRoom + (rest.map fun v => v.category).sum ≤ 8) (hdg : decode cc g.pc = .ok (.invokevirtual index, 3)) (hf : cells + mc ≤ R.cells ∧ slots + ms ≤ R.slots) :
    vx_Run p l e R s m args below meth c H locs cells slots mc ms g rest (Qc (Value.ref b :: As).toArray) XC free := by
  have hK : vx_Back l R p e below s args y 3 8 (PreOf R mc ms Pc) (PostOf Qc mc ms free) (vx_Post XC mc ms free) := vx_callBack cw.1 hM hp.1
  obtain ⟨⟨-, -, -, -, -, -, hcode, -, hy, hlen, hl⟩, hin, hse⟩ := cw
  obtain ⟨hx, hb, hml, ho, -⟩ := S
  obtain ⟨-, ⟨cellB, hcB, hoB, hclB⟩, hPc⟩ := hp
  intro T hT X
  rcases vx_callV X hx (C := C) (bytes := bytes) (maxL := maxL) (ret := ret) ho hl hin hse hcode hy hK (by rw [hT]; exact hcB) hoB hclB hg (hsize.trans hml.symm) (argsL := As) (rest := rest) (fun sig h => hn.trans (hlen sig h)) hstack hW (by rw [hb]; exact hdg)
    (fun vm₁ hW₁ => ⟨hf.1, hf.2, hPc (T.setVm vm₁) hT hW₁⟩) with ⟨v, vm₁, ⟨U', l2, c2, s2⟩, hW₁, X', ⟨g', mk, t, L, e1, e2, hq, h1, hL, h2, h3⟩, st⟩ | ⟨q, vm₁, ⟨U', l2, c2, s2⟩, hW₁, X', ⟨g', mk, t, L, E, ce, e1, e2, hq, hce, hcv, hcl, h1, hL, h2, h3⟩, st⟩
  · dsimp only [Pt.U, Pt.locs, Pt.cells, Pt.slots] at X' e1 e2 h1 h2 h3 st
    subst h1; subst h2; subst h3
    exact Or.inl ⟨v, (T.setVm vm₁).calling g' mk (Value.ref b :: As).toArray, t, U', L, hT, X', hL, e1, e2, hq, st⟩
  · dsimp only [Pt.U, Pt.locs, Pt.cells, Pt.slots] at X' e1 e2 h1 h2 h3 st hcl
    subst h1; subst h2; subst h3
    exact Or.inr ⟨q, (T.setVm vm₁).calling g' mk (Value.ref b :: As).toArray, t, U', L, E, ce, hT, X', hL, e1, e2, hq, hce, hcv, vx_cls hW₁ hcl, st⟩
theorem vx_runS (S : CallFix p m c cc nL s args Ts own) (hM : vx_Met l y ws rm Pc Qc XC mc ms free) (cw : CallB R s args own index y bytes maxL ret ws rm mc ms n ∧ (Cond.static y).before args s = true) (hp : PreS s H Pc As)
    (hg : g.method = m) (hn : As.length = n) (hsize : g.locals.size = nL) (hstack : g.stack = As.reverse ++ rest) (hW : 2 * g.monitorRoom + (rest.map fun v => v.category).sum ≤ 8) (hdg : decode cc g.pc = .ok (.invokestatic index, 3)) (hf : cells + mc ≤ R.cells ∧ slots + ms ≤ R.slots) :
    vx_Run p l e R s m args below meth c H locs cells slots mc ms g rest (Qc As.toArray) XC free := by
  have hK : vx_Back l R p e below s args y 3 8 (PreOf R mc ms Pc) (PostOf Qc mc ms free) (vx_Post XC mc ms free) := vx_callBack cw.1 hM hp.1
  obtain ⟨⟨-, -, -, -, -, -, hcode, hini, hy, hlen, hl⟩, hstt⟩ := cw
  obtain ⟨hx, hb, hml, ho, -⟩ := S
  intro T hT X
  rcases vx_callS X hx (bytes := bytes) (maxL := maxL) (ret := ret) ho hl hstt hini hcode hy hK hg (hsize.trans hml.symm) (argsL := As) (rest := rest) (fun sig h => hn.trans (hlen sig h)) hstack hW (by rw [hb]; exact hdg)
    (fun vm₁ hW₁ => ⟨hf.1, hf.2, hp.2 (T.setVm vm₁) hT hW₁⟩) with ⟨v, vm₁, ⟨U', l2, c2, s2⟩, hW₁, X', ⟨g', mk, t, L, e1, e2, hq, h1, hL, h2, h3⟩, st⟩ | ⟨q, vm₁, ⟨U', l2, c2, s2⟩, hW₁, X', ⟨g', mk, t, L, E, ce, e1, e2, hq, hce, hcv, hcl, h1, hL, h2, h3⟩, st⟩
  · dsimp only [Pt.U, Pt.locs, Pt.cells, Pt.slots] at X' e1 e2 h1 h2 h3 st
    subst h1; subst h2; subst h3
    exact Or.inl ⟨v, (T.setVm vm₁).calling g' mk As.toArray, t, U', L, hT, X', hL, e1, e2, hq, st⟩
  · dsimp only [Pt.U, Pt.locs, Pt.cells, Pt.slots] at X' e1 e2 h1 h2 h3 st hcl
    subst h1; subst h2; subst h3
    exact Or.inr ⟨q, (T.setVm vm₁).calling g' mk As.toArray, t, U', L, E, ce, hT, X', hL, e1, e2, hq, hce, hcv, vx_cls hW₁ hcl, st⟩
end Runs
section Rows
variable {p : Program} {l : Launch} {e : Env} {R : Room} {s : State} {m : MethodId} {args : Array Value} {below : List Frame} {meth : Method} {c : Code} {H : Heap} {locs : List Loc} {cells slots : Nat} {Q : State → Prop}
variable {mc ms : Nat} {free : Addr → Prop} {A0 A1 : Nat → Prop} {H0 : Heap} {a : Array Value} {pc : Nat} {ls : Array Slot} {st0 rest : List Value}
theorem vx_keep {st₀ t T' : State} {L : List Loc} (h0 : st₀.heap = H) (e1 : T'.heap = t.heap) (hS : va_S A0 H0 H locs) (hA : ∀ q, q < H.size → A1 q → A0 q) (hf : ∀ q, free q → A0 q) (hL : ∀ q ∈ L, free q.base) (hF : va_F A1 st₀ t) :
    H.size ≤ T'.heap.size ∧ (∀ q : Nat, q < H.size → ¬ A1 q → T'.heap[q]? = H[q]?) ∧ va_S A0 H0 T'.heap (locs ++ L) := by
  obtain ⟨hz, hk⟩ := hF
  rw [h0] at hz hk
  exact ⟨by rw [e1]; exact hz, fun q h1 h2 => by rw [e1]; exact hk q h1 h2,
    ⟨Nat.le_trans hS.1 (by rw [e1]; exact hz), fun q h1 h2 => by rw [e1, hk q (Nat.lt_of_lt_of_le h1 hS.1) (fun z => h2 (hA q (Nat.lt_of_lt_of_le h1 hS.1) z))]; exact hS.2.1 q h1 h2, fun q hq => by
      rcases List.mem_append.mp hq with h | h
      · exact hS.2.2 q h
      · exact hf _ (hL q h)⟩⟩
theorem vx_calli {S SX : Type} {post : Int32 → S → Prop} {px : SX → Prop} {B : S → State → Prop} {BX : String → SX → State → Prop} {AX : Nat → Prop} (hr : vx_Run p l e R s m args below meth c H locs cells slots mc ms (F0 m pc ls st0) rest (va_Qi post B A1 a) (vx_X px BX AX) free) (hS : va_S A0 H0 H locs) (hA : ∀ q, q < H.size → A1 q → A0 q) (hf : ∀ q, free q → A0 q) (hAX : ∀ q, q < H.size → AX q → A0 q)
    (kx : ∀ (E : String) (ce : Cell) (q9 : Addr) (u : SX) (t : State) (H1 : Heap) (locs1 : List Loc), t.heap = H1 → s.vm.Alike t.vm → px u → BX E u t → H.size ≤ H1.size → (∀ q : Nat, q < H.size → ¬ AX q → H1[q]? = H[q]?) → va_S A0 H0 H1 locs1 → H1[q9]? = some ce → ce.vm = .none → s.vm.findClass E = some ce.cls → vx_W p l e R s m args below meth c H1 locs1 (cells + mc) (slots + ms) Q (F0 m pc ls rest) q9)
    (kk : ∀ (r : Int32) (u : S) (t : State) (H1 : Heap) (locs1 : List Loc), t.heap = H1 → s.vm.Alike t.vm → post r u → B u t → H.size ≤ H1.size → (∀ q : Nat, q < H.size → ¬ A1 q → H1[q]? = H[q]?) → va_S A0 H0 H1 locs1 → W p l e R s m args below meth c H1 locs1 (cells + mc) (slots + ms) Q (F0 m (pc + 3) ls (.int r :: rest))) : W p l e R s m args below meth c H locs cells slots Q (F0 m pc ls st0) := by
  intro T hT X
  rcases hr T hT X with ⟨v, st₀, t, T', L, h0, X', hL, e1, e2, ⟨⟨r, u, hv, hp, hb⟩, hF⟩, st⟩ | ⟨q, st₀, t, T', L, E, ce, h0, X', hL, e1, e2, ⟨u, hp, hb, hF⟩, hce, hcv, hcl, st⟩
  · cases hv
    obtain ⟨k1, k2, k3⟩ := vx_keep h0 e1 hS hA hf hL hF
    obtain ⟨t2, a1, b1⟩ := kk r u t T'.heap (locs ++ L) e1.symm (by rw [← e2]; exact X'.warmed.alike) hp hb k1 k2 k3 T' rfl X'
    exact ⟨t2, st t2 a1, b1⟩
  · obtain ⟨k1, k2, k3⟩ := vx_keep h0 e1 hS hAX hf hL hF
    obtain ⟨t2, a1, b1⟩ := kx E ce q u t T'.heap (locs ++ L) e1.symm (by rw [← e2]; exact X'.warmed.alike) hp hb k1 k2 k3 (by rw [e1]; exact hce) hcv hcl T' rfl X'
    exact ⟨t2, st.trans a1, b1⟩
theorem vx_calll {S SX : Type} {post : Int64 → S → Prop} {px : SX → Prop} {B : S → State → Prop} {BX : String → SX → State → Prop} {AX : Nat → Prop} (hr : vx_Run p l e R s m args below meth c H locs cells slots mc ms (F0 m pc ls st0) rest (va_Ql post B A1 a) (vx_X px BX AX) free) (hS : va_S A0 H0 H locs) (hA : ∀ q, q < H.size → A1 q → A0 q) (hf : ∀ q, free q → A0 q) (hAX : ∀ q, q < H.size → AX q → A0 q)
    (kx : ∀ (E : String) (ce : Cell) (q9 : Addr) (u : SX) (t : State) (H1 : Heap) (locs1 : List Loc), t.heap = H1 → s.vm.Alike t.vm → px u → BX E u t → H.size ≤ H1.size → (∀ q : Nat, q < H.size → ¬ AX q → H1[q]? = H[q]?) → va_S A0 H0 H1 locs1 → H1[q9]? = some ce → ce.vm = .none → s.vm.findClass E = some ce.cls → vx_W p l e R s m args below meth c H1 locs1 (cells + mc) (slots + ms) Q (F0 m pc ls rest) q9)
    (kk : ∀ (r : Int64) (u : S) (t : State) (H1 : Heap) (locs1 : List Loc), t.heap = H1 → s.vm.Alike t.vm → post r u → B u t → H.size ≤ H1.size → (∀ q : Nat, q < H.size → ¬ A1 q → H1[q]? = H[q]?) → va_S A0 H0 H1 locs1 → W p l e R s m args below meth c H1 locs1 (cells + mc) (slots + ms) Q (F0 m (pc + 3) ls (.long r :: rest))) : W p l e R s m args below meth c H locs cells slots Q (F0 m pc ls st0) := by
  intro T hT X
  rcases hr T hT X with ⟨v, st₀, t, T', L, h0, X', hL, e1, e2, ⟨⟨r, u, hv, hp, hb⟩, hF⟩, st⟩ | ⟨q, st₀, t, T', L, E, ce, h0, X', hL, e1, e2, ⟨u, hp, hb, hF⟩, hce, hcv, hcl, st⟩
  · cases hv
    obtain ⟨k1, k2, k3⟩ := vx_keep h0 e1 hS hA hf hL hF
    obtain ⟨t2, a1, b1⟩ := kk r u t T'.heap (locs ++ L) e1.symm (by rw [← e2]; exact X'.warmed.alike) hp hb k1 k2 k3 T' rfl X'
    exact ⟨t2, st t2 a1, b1⟩
  · obtain ⟨k1, k2, k3⟩ := vx_keep h0 e1 hS hAX hf hL hF
    obtain ⟨t2, a1, b1⟩ := kx E ce q u t T'.heap (locs ++ L) e1.symm (by rw [← e2]; exact X'.warmed.alike) hp hb k1 k2 k3 (by rw [e1]; exact hce) hcv hcl T' rfl X'
    exact ⟨t2, st.trans a1, b1⟩
theorem vx_callf {S SX : Type} {post : UInt32 → S → Prop} {px : SX → Prop} {B : S → State → Prop} {BX : String → SX → State → Prop} {AX : Nat → Prop} (hr : vx_Run p l e R s m args below meth c H locs cells slots mc ms (F0 m pc ls st0) rest (va_Qf post B A1 a) (vx_X px BX AX) free) (hS : va_S A0 H0 H locs) (hA : ∀ q, q < H.size → A1 q → A0 q) (hf : ∀ q, free q → A0 q) (hAX : ∀ q, q < H.size → AX q → A0 q)
    (kx : ∀ (E : String) (ce : Cell) (q9 : Addr) (u : SX) (t : State) (H1 : Heap) (locs1 : List Loc), t.heap = H1 → s.vm.Alike t.vm → px u → BX E u t → H.size ≤ H1.size → (∀ q : Nat, q < H.size → ¬ AX q → H1[q]? = H[q]?) → va_S A0 H0 H1 locs1 → H1[q9]? = some ce → ce.vm = .none → s.vm.findClass E = some ce.cls → vx_W p l e R s m args below meth c H1 locs1 (cells + mc) (slots + ms) Q (F0 m pc ls rest) q9)
    (kk : ∀ (r : UInt32) (u : S) (t : State) (H1 : Heap) (locs1 : List Loc), t.heap = H1 → s.vm.Alike t.vm → post r u → B u t → H.size ≤ H1.size → (∀ q : Nat, q < H.size → ¬ A1 q → H1[q]? = H[q]?) → va_S A0 H0 H1 locs1 → W p l e R s m args below meth c H1 locs1 (cells + mc) (slots + ms) Q (F0 m (pc + 3) ls (.float r :: rest))) : W p l e R s m args below meth c H locs cells slots Q (F0 m pc ls st0) := by
  intro T hT X
  rcases hr T hT X with ⟨v, st₀, t, T', L, h0, X', hL, e1, e2, ⟨⟨r, u, hv, hp, hb⟩, hF⟩, st⟩ | ⟨q, st₀, t, T', L, E, ce, h0, X', hL, e1, e2, ⟨u, hp, hb, hF⟩, hce, hcv, hcl, st⟩
  · cases hv
    obtain ⟨k1, k2, k3⟩ := vx_keep h0 e1 hS hA hf hL hF
    obtain ⟨t2, a1, b1⟩ := kk r u t T'.heap (locs ++ L) e1.symm (by rw [← e2]; exact X'.warmed.alike) hp hb k1 k2 k3 T' rfl X'
    exact ⟨t2, st t2 a1, b1⟩
  · obtain ⟨k1, k2, k3⟩ := vx_keep h0 e1 hS hAX hf hL hF
    obtain ⟨t2, a1, b1⟩ := kx E ce q u t T'.heap (locs ++ L) e1.symm (by rw [← e2]; exact X'.warmed.alike) hp hb k1 k2 k3 (by rw [e1]; exact hce) hcv hcl T' rfl X'
    exact ⟨t2, st.trans a1, b1⟩
theorem vx_calld {S SX : Type} {post : UInt64 → S → Prop} {px : SX → Prop} {B : S → State → Prop} {BX : String → SX → State → Prop} {AX : Nat → Prop} (hr : vx_Run p l e R s m args below meth c H locs cells slots mc ms (F0 m pc ls st0) rest (va_Qd post B A1 a) (vx_X px BX AX) free) (hS : va_S A0 H0 H locs) (hA : ∀ q, q < H.size → A1 q → A0 q) (hf : ∀ q, free q → A0 q) (hAX : ∀ q, q < H.size → AX q → A0 q)
    (kx : ∀ (E : String) (ce : Cell) (q9 : Addr) (u : SX) (t : State) (H1 : Heap) (locs1 : List Loc), t.heap = H1 → s.vm.Alike t.vm → px u → BX E u t → H.size ≤ H1.size → (∀ q : Nat, q < H.size → ¬ AX q → H1[q]? = H[q]?) → va_S A0 H0 H1 locs1 → H1[q9]? = some ce → ce.vm = .none → s.vm.findClass E = some ce.cls → vx_W p l e R s m args below meth c H1 locs1 (cells + mc) (slots + ms) Q (F0 m pc ls rest) q9)
    (kk : ∀ (r : UInt64) (u : S) (t : State) (H1 : Heap) (locs1 : List Loc), t.heap = H1 → s.vm.Alike t.vm → post r u → B u t → H.size ≤ H1.size → (∀ q : Nat, q < H.size → ¬ A1 q → H1[q]? = H[q]?) → va_S A0 H0 H1 locs1 → W p l e R s m args below meth c H1 locs1 (cells + mc) (slots + ms) Q (F0 m (pc + 3) ls (.double r :: rest))) : W p l e R s m args below meth c H locs cells slots Q (F0 m pc ls st0) := by
  intro T hT X
  rcases hr T hT X with ⟨v, st₀, t, T', L, h0, X', hL, e1, e2, ⟨⟨r, u, hv, hp, hb⟩, hF⟩, st⟩ | ⟨q, st₀, t, T', L, E, ce, h0, X', hL, e1, e2, ⟨u, hp, hb, hF⟩, hce, hcv, hcl, st⟩
  · cases hv
    obtain ⟨k1, k2, k3⟩ := vx_keep h0 e1 hS hA hf hL hF
    obtain ⟨t2, a1, b1⟩ := kk r u t T'.heap (locs ++ L) e1.symm (by rw [← e2]; exact X'.warmed.alike) hp hb k1 k2 k3 T' rfl X'
    exact ⟨t2, st t2 a1, b1⟩
  · obtain ⟨k1, k2, k3⟩ := vx_keep h0 e1 hS hAX hf hL hF
    obtain ⟨t2, a1, b1⟩ := kx E ce q u t T'.heap (locs ++ L) e1.symm (by rw [← e2]; exact X'.warmed.alike) hp hb k1 k2 k3 (by rw [e1]; exact hce) hcv hcl T' rfl X'
    exact ⟨t2, st.trans a1, b1⟩
theorem vx_callv {S SX : Type} {post : S → Prop} {px : SX → Prop} {B : S → State → Prop} {BX : String → SX → State → Prop} {AX : Nat → Prop} (hr : vx_Run p l e R s m args below meth c H locs cells slots mc ms (F0 m pc ls st0) rest (va_Qv post B A1 a) (vx_X px BX AX) free) (hS : va_S A0 H0 H locs) (hA : ∀ q, q < H.size → A1 q → A0 q) (hf : ∀ q, free q → A0 q) (hAX : ∀ q, q < H.size → AX q → A0 q)
    (kx : ∀ (E : String) (ce : Cell) (q9 : Addr) (u : SX) (t : State) (H1 : Heap) (locs1 : List Loc), t.heap = H1 → s.vm.Alike t.vm → px u → BX E u t → H.size ≤ H1.size → (∀ q : Nat, q < H.size → ¬ AX q → H1[q]? = H[q]?) → va_S A0 H0 H1 locs1 → H1[q9]? = some ce → ce.vm = .none → s.vm.findClass E = some ce.cls → vx_W p l e R s m args below meth c H1 locs1 (cells + mc) (slots + ms) Q (F0 m pc ls rest) q9)
    (kk : ∀ (u : S) (t : State) (H1 : Heap) (locs1 : List Loc), t.heap = H1 → s.vm.Alike t.vm → post u → B u t → H.size ≤ H1.size → (∀ q : Nat, q < H.size → ¬ A1 q → H1[q]? = H[q]?) → va_S A0 H0 H1 locs1 → W p l e R s m args below meth c H1 locs1 (cells + mc) (slots + ms) Q (F0 m (pc + 3) ls (rest))) : W p l e R s m args below meth c H locs cells slots Q (F0 m pc ls st0) := by
  intro T hT X
  rcases hr T hT X with ⟨v, st₀, t, T', L, h0, X', hL, e1, e2, ⟨⟨u, hv, hp, hb⟩, hF⟩, st⟩ | ⟨q, st₀, t, T', L, E, ce, h0, X', hL, e1, e2, ⟨u, hp, hb, hF⟩, hce, hcv, hcl, st⟩
  · cases hv
    obtain ⟨k1, k2, k3⟩ := vx_keep h0 e1 hS hA hf hL hF
    obtain ⟨t2, a1, b1⟩ := kk u t T'.heap (locs ++ L) e1.symm (by rw [← e2]; exact X'.warmed.alike) hp hb k1 k2 k3 T' rfl X'
    exact ⟨t2, st t2 a1, b1⟩
  · obtain ⟨k1, k2, k3⟩ := vx_keep h0 e1 hS hAX hf hL hF
    obtain ⟨t2, a1, b1⟩ := kx E ce q u t T'.heap (locs ++ L) e1.symm (by rw [← e2]; exact X'.warmed.alike) hp hb k1 k2 k3 (by rw [e1]; exact hce) hcv hcl T' rfl X'
    exact ⟨t2, st.trans a1, b1⟩
/-- caught by the row x of this method's table; the rows ahead don't take it -/
theorem vx_catch {own name : String} {E : String} {ce : Cell} {q : Addr} (hown : s.vm.findClass own = some m.cls) (pre : List ExceptionTableEntry) (x : ExceptionTableEntry) (suf : List ExceptionTableEntry) (hsplit : c.exceptionTable.toList = pre ++ x :: suf)
    (hpass : ∀ z ∈ pre, covers z pc = false ∨ (z.catchType ≠ 0 ∧ ∃ nm : String, (Cond.classLink own z.catchType nm).before args s = true ∧ va_Nc E nm s)) (hx : covers x pc = true) (h0 : x.catchType ≠ 0)
    (hlink : (Cond.classLink own x.catchType name).before args s = true) (hcast : (Cond.castable E name).before args s = true) (hcell : H[q]? = some ce) (hv : ce.vm = .none) (hcl : s.vm.findClass E = some ce.cls)
    (kk : W p l e R s m args below meth c H locs cells slots Q (F0 m x.handlerPc ls [.ref q])) : vx_W p l e R s m args below meth c H locs cells slots Q (F0 m pc ls rest) q := by
  intro T hT X
  have hpl : e.platform.magicAccessors = ({} : Platform).magicAccessors := by rw [X.admits.platform]
  obtain ⟨c3, c4, hc3, hc4, hasg⟩ := Cond.castable_spec hcast
  cases Option.some.inj (hc3.symm.trans hcl)
  obtain ⟨c5, hc5, hcl5⟩ := Cond.classLink_spec hown hlink e.platform hpl
  cases Option.some.inj (hc4.symm.trans hc5)
  obtain ⟨vm', X', st⟩ := X.thenCaughtThrough q (g := F0 m pc ls rest) rfl (Steps.refl _) (by rw [hT]; exact hcell) (by rw [hv]; rfl) (by obtain ⟨k9, h9, -⟩ := Vm.findClass_spec hcl; exact ⟨k9, h9⟩) pre x suf hsplit
    (fun z hz => by
      rcases hpass z hz with h | ⟨hz0, nm, hl1, hn1⟩
      · exact Or.inl h
      · obtain ⟨c6, hc6, hcl6⟩ := Cond.classLink_spec hown hl1 e.platform hpl
        obtain ⟨a8, b8, h1, h2, h3⟩ := hn1
        cases Option.some.inj (h1.symm.trans hcl)
        cases Option.some.inj (h2.symm.trans hc6)
        exact Or.inr ⟨hz0, _, hcl6, h3⟩) hx (Or.inr ⟨h0, c4, hcl5, hasg⟩)
  obtain ⟨t, a1, b1⟩ := kk (T.setVm vm') hT X'
  exact ⟨t, st.trans a1, b1⟩
end Rows
section Ends
variable {p : Program} {l : Launch} {e : Env} {R : Room} {s : State} {m : MethodId} {args : Array Value} {below : List Frame} {meth : Method} {c : Code} {H : Heap} {locs : List Loc} {cells slots : Nat} {Q : State → Prop}
variable {mc ms : Nat} {free : Addr → Prop} {A0 A1 : Nat → Prop} {H0 : Heap} {a : Array Value} {ls : Array Slot} {st0 rest : List Value}
variable {Qc : Array Value → State → Outcome → State → Prop} {XC : String → State → State → Prop}
/-- what a body that may throw owes at its end -/
def vx_MQ (below : List Frame) (Qc : Array Value → State → Outcome → State → Prop) (XC : String → State → State → Prop) (a : Array Value) (s : State) (mc ms : Nat) (free : Addr → Prop) : State → Prop := fun t =>
  ∃ o, t.status = .running ∧ Ended t below o ∧ vx_Q Qc XC mc ms free a s o t
theorem vx_ret {g : JFrame} {mc ms : Nat} (k : W p l e R s m args below meth c H locs cells slots (MQ below Qc args s mc ms free) g) : W p l e R s m args below meth c H locs cells slots (vx_MQ below Qc XC args s mc ms free) g := by
  intro T hT X
  obtain ⟨t, a1, o, b1, b2, b3, b4⟩ := k T hT X
  exact ⟨t, a1, o, b1, b2, Or.inl ⟨b3, b4⟩⟩
/-- not caught here: it goes on to the caller -/
theorem vx_widen {g : JFrame} {q : Addr} {k n : Nat} (h1 : cells ≤ k) (h2 : slots ≤ n) (kk : vx_W p l e R s m args below meth c H locs k n Q g q) : vx_W p l e R s m args below meth c H locs cells slots Q g q := fun T hT X => kk T hT (stand_widen X h1 h2)
theorem vx_out {pc : Nat} {E : String} {ce : Cell} {q : Addr} {mc ms : Nat} (hout : ∀ x ∈ c.exceptionTable.toList, covers x pc = false) (hlocks : meth.locks = false) (hcell : H[q]? = some ce) (hv : ce.vm = .none) (hcl : s.vm.findClass E = some ce.cls)
    (hx : ∀ t : State, t.heap = H → s.vm.Alike t.vm → XC E s t) (hf : ∀ z ∈ locs, free z.base) (hc : cells ≤ mc) (hs : slots ≤ ms) :
    vx_W p l e R s m args below meth c H locs cells slots (vx_MQ below Qc XC args s mc ms free) (F0 m pc ls rest) q := by
  intro T hT X
  obtain ⟨st1, hrun, hend, hW, hsm⟩ := X.leaveThrown q (g := F0 m pc ls rest) rfl rfl rfl hout hlocks
  have hcell9 : (T.setFrames (.throwing q :: below)).heap[q]? = some ce := by
    show T.heap[q]? = some ce
    rw [hT]; exact hcell
  exact ⟨_, st1, .threw q, hrun, hend, Or.inr ⟨q, rfl, E, ce, locs, hx _ hT hW.alike, hcell9, hv, hcl, hW, hsm.mono hc hs, hf⟩⟩
theorem vx_frame {U : State} {k n : Nat} (h : s.sameButNew ({ U with vm := s.vm } : State) locs k n) : s.heap.size ≤ U.heap.size ∧ ∀ q : Nat, q < s.heap.size → (∀ z ∈ locs, z.base ≠ q) → U.heap[q]? = s.heap[q]? := by
  obtain ⟨-, h2, -, -, -, h6⟩ := h
  refine ⟨h2, fun q hq hz => ?_⟩
  obtain ⟨c9, e1, e2, e3, e4⟩ := h6 q _ (Array.getElem?_eq_getElem hq)
  have hs : c9.slots = (s.heap[q]).slots := Array.ext_getElem? fun i => e4 i fun hm => hz _ hm rfl
  have h9 : c9 = s.heap[q] := by
    rw [hs] at e2
    exact e2
  have e5 : U.heap[q]? = some c9 := e1
  rw [e5, h9, Array.getElem?_eq_getElem hq]
/-- the words of a throw but the four that speak of the heap -/
def vx_no (w : Cond) : Bool := decide (w ≠ .isRef (.static Bundle.tN "UNASSIGNED_STACK" Bundle.steD)) && decide (w ≠ .isRef (.static Bundle.tN "SUPPRESSED_SENTINEL" Bundle.listD)) && decide (w ≠ .laysStatic Bundle.tN "UNASSIGNED_STACK" Bundle.steD) && decide (w ≠ .laysStatic Bundle.tN "SUPPRESSED_SENTINEL" Bundle.listD)
def vx_at0 (own : String) (ic : Nat) (X : String) (names : List String) : List Cond := (Bundle.ownAtoms0 own ic X names).filter vx_no
def vx_atS (own : String) (ic : Nat) (X : String) (names : List String) : List Cond := (Bundle.ownAtoms own ic X names).filter vx_no
/-- a word that the tables alone decide, or a good one -/
def vx_ot (w : Cond) : Bool := w.onTables || goodWord w
theorem vx_ot_at {args a' : Array Value} {s U : State} {w : Cond} (hW : s.WarmedH U.vm) (hvm : s.vm = U.vm) (hg : vx_ot w = true) (h : w.before args s = true) : w.before a' U = true := by
  simp only [vx_ot, Bool.or_eq_true] at hg
  rcases hg with hg | hg
  · exact va_tabs hg hvm h
  · exact word_at hW (good_of_word hg) h
/-- a list's words: the good ones out of the method's own list, the others by premises of their own -/
theorem vx_hat {args : Array Value} {s : State} {L B : List Cond} (h1 : ∀ w ∈ L.filter goodWord, w.before args s = true) (h2 : ∀ w ∈ L.filter (fun w => !goodWord w), w ∈ B) (h3 : ∀ w ∈ B, w.before args s = true) : ∀ w ∈ L, w.before args s = true := by
  intro w hw
  by_cases g : goodWord w = true
  · exact h1 w (List.mem_filter.mpr ⟨hw, g⟩)
  · refine h3 w (h2 w (List.mem_filter.mpr ⟨hw, ?_⟩))
    show (!goodWord w) = true
    cases hgw : goodWord w
    · rfl
    · exact absurd hgw g
theorem vx_c {args : Array Value} {s : State} {w : Cond} {B : List Cond} (h : w.before args s = true) (t : ∀ w ∈ B, w.before args s = true) : ∀ w' ∈ w :: B, w'.before args s = true := fun w' h' => (List.mem_cons.mp h').elim (fun e => by rw [e]; exact h) (t w')
theorem vx_n {args : Array Value} {s : State} : ∀ w ∈ ([] : List Cond), w.before args s = true := fun _ h => nomatch h
theorem vx_own {args : Array Value} {s : State} {L : List Cond} (h1 : ∀ w ∈ L.filter vx_no, w.before args s = true)
    (hU : (Cond.isRef (.static Bundle.tN "UNASSIGNED_STACK" Bundle.steD)).before args s = true) (hN : (Cond.isRef (.static Bundle.tN "SUPPRESSED_SENTINEL" Bundle.listD)).before args s = true)
    (lU : (Cond.laysStatic Bundle.tN "UNASSIGNED_STACK" Bundle.steD).before args s = true) (lN : (Cond.laysStatic Bundle.tN "SUPPRESSED_SENTINEL" Bundle.listD).before args s = true) : ∀ w ∈ L, w.before args s = true := by
  intro w hw
  by_cases e1 : w = .isRef (.static Bundle.tN "UNASSIGNED_STACK" Bundle.steD)
  · rw [e1]; exact hU
  · by_cases e2 : w = .isRef (.static Bundle.tN "SUPPRESSED_SENTINEL" Bundle.listD)
    · rw [e2]; exact hN
    · by_cases e3 : w = .laysStatic Bundle.tN "UNASSIGNED_STACK" Bundle.steD
      · rw [e3]; exact lU
      · by_cases e4 : w = .laysStatic Bundle.tN "SUPPRESSED_SENTINEL" Bundle.listD
        · rw [e4]; exact lN
        · exact h1 w (List.mem_filter.mpr ⟨hw, by unfold vx_no; rw [decide_eq_true e1, decide_eq_true e2, decide_eq_true e3, decide_eq_true e4]; rfl⟩)
/-- where a static field lies, its class's statics cell in H -/
def vx_L (C n d : String) (A : Nat → Prop) (U : State) (H : Heap) : Prop := ∃ (c : ClassId) (k : Class) (i : Nat) (f : Field) (a : Nat) (cell : Cell), U.vm.findClass C = some c ∧ U.fieldFound? C n d = some (c, k, i, f) ∧ f.isStatic = true ∧ k.statics = some a ∧ H[a]? = some cell ∧ cell.vm.isStatics = true ∧ cell.cls = c ∧ f.slot < cell.slots.size ∧ k.staticTypes[f.slot]? = some f.type ∧ ¬ A a
theorem vx_L.moved {C n d : String} {A : Nat → Prop} {u U : State} {H : Heap} (hvm : u.vm.Alike U.vm) (h : vx_L C n d A u H) : vx_L C n d A U H := by
  obtain ⟨c, k, i, f, a, cell, h1, h2, h3, h4, h5, h6, h7, h8, h9, h10⟩ := h
  obtain ⟨k', hi', he⟩ := State.fieldFound?_setVm hvm h2
  exact ⟨c, k', i, f, a, cell, by rw [hvm.findClass]; exact h1, hi', h3, by rw [he]; exact h4, h5, h6, h7, h8, by rw [he]; exact h9, h10⟩
theorem vx_L.kept {C n d : String} {A : Nat → Prop} {U : State} {H H1 : Heap} (h : vx_L C n d A U H) (hq : ∀ a : Nat, a < H.size → ¬ A a → H1[a]? = H[a]?) : vx_L C n d A U H1 := by
  obtain ⟨c, k, i, f, a, cell, h1, h2, h3, h4, h5, h6, h7, h8, h9, h10⟩ := h
  exact ⟨c, k, i, f, a, cell, h1, h2, h3, h4, by rw [hq a (Array.getElem?_eq_some_iff.mp h5).1 h10]; exact h5, h6, h7, h8, h9, h10⟩
theorem vx_L.narrow {C n d : String} {A B : Nat → Prop} {U : State} {H : Heap} (h : vx_L C n d A U H) (hAB : ∀ q, B q → A q) : vx_L C n d B U H := by
  obtain ⟨c, k, i, f, a, cell, h1, h2, h3, h4, h5, h6, h7, h8, h9, h10⟩ := h
  exact ⟨c, k, i, f, a, cell, h1, h2, h3, h4, h5, h6, h7, h8, h9, fun z => h10 (hAB _ z)⟩
theorem vx_L.word {C n d : String} {A : Nat → Prop} {s : State} {args : Array Value} (h : vx_L C n d A s s.heap) : (Cond.laysStatic C n d).before args s = true := by
  obtain ⟨c, k, i, f, a, cell, h1, h2, h3, h4, h5, h6, h7, h8, h9, -⟩ := h
  show (Cond.laysStatic C n d).holds args s none s [] = true
  exact Cond.laysStatic_of h1 h2 h3 h4 h5 h6 h7 h8 h9
/-- .. and what it holds: null or some reference -/
def vx_Zq (C n d : String) (A : Nat → Prop) (U : State) (H : Heap) : Prop := va_Zq C n d A U H ∧ vx_L C n d A U H
theorem vx_Zq.moved {C n d : String} {A : Nat → Prop} {u U : State} {H : Heap} (hvm : u.vm.Alike U.vm) (h : vx_Zq C n d A u H) : vx_Zq C n d A U H := ⟨va_Zq.moved hvm h.1, vx_L.moved hvm h.2⟩
theorem vx_Zq.kept {C n d : String} {A : Nat → Prop} {U : State} {H H1 : Heap} (h : vx_Zq C n d A U H) (hq : ∀ a : Nat, a < H.size → ¬ A a → H1[a]? = H[a]?) : vx_Zq C n d A U H1 := ⟨va_Zq.kept h.1 hq, vx_L.kept h.2 hq⟩
theorem vx_Zq.narrow {C n d : String} {A B : Nat → Prop} {U : State} {H : Heap} (h : vx_Zq C n d A U H) (hAB : ∀ q, B q → A q) : vx_Zq C n d B U H := ⟨va_Zq.narrow h.1 hAB, vx_L.narrow h.2 hAB⟩
theorem vx_Zqof {args : Array Value} {s : State} {C n d : String} {A : Nat → Prop} (hl : (Cond.laysStatic C n d).before args s = true) (hini : (Cond.initialized C).before args s = true) (h : (Cond.isRef (.static C n d)).before args s = true) (hA : ∀ a : Nat, a < s.heap.size → ¬ A a) : vx_Zq C n d A s s.heap := by
  refine ⟨va_Zqof hl hini h hA, ?_⟩
  obtain ⟨c, k, i, f, a, cell, h1, h2, h3, h4, h5, h6, h7, h8, h9⟩ := Cond.laysStatic_spec hl
  exact ⟨c, k, i, f, a, cell, h1, h2, h3, h4, h5, h6, h7, h8, h9, hA a (Array.getElem?_eq_some_iff.mp h5).1⟩
theorem vx_isRef {C n d : String} {v : Value} {A : Nat → Prop} {s : State} {args : Array Value} (h : va_Z C n d v A s s.heap) (hv : v.isRef = true) : (Cond.isRef (.static C n d)).before args s = true := by
  obtain ⟨cf, kf, fi, f, a, cell, h1, h2, h3, h4, h5, h6, h7, -⟩ := h
  have he : (Term.static C n d).eval args s none [] s = some v := by
    simp [Term.eval, State.fieldNamed?, h1, h2, h4, h5, h6, h7]
  simp only [Cond.before, Cond.holds, Cond.value, he]
  cases v <;> simp_all [Value.isRef]
theorem vx_isRefq {C n d : String} {A : Nat → Prop} {s : State} {args : Array Value} (h : va_Zq C n d A s s.heap) : (Cond.isRef (.static C n d)).before args s = true := by
  rcases h with h | ⟨t, h⟩
  · exact vx_isRef h rfl
  · exact vx_isRef h rfl
/-- the same frame, seen from here: as if the method were called anew in this heap -/
theorem vx_rebase {T : State} (X : Stand p l e R s m args below meth c T locs cells slots) {R' : Room} (hf : R'.frames ≤ R.frames) (hl : R'.locals ≤ R.locals) (hc : cells + R'.cells ≤ R.cells) (hs : slots + R'.slots ≤ R.slots) :
    Stand p l e R' ((T.setVm s.vm).setFrames (.invoking m args :: below)) m args below meth c T [] 0 0 := by
  have htop : (T.setVm s.vm).topJava?.isSome := X.here.top
  have hF : ((T.setVm s.vm).setFrames (.invoking m args :: below)).frames = .invoking m args :: below := State.frames_setFrames _ (State.cur_lt_of_top htop)
  obtain ⟨g₀, hg0⟩ := Option.isSome_iff_exists.mp htop
  obtain ⟨r, hr⟩ := State.topJava?_eq_some.mp hg0
  have hl9 : e.platform.stackLimits (T.setVm s.vm).me = e.platform.stackLimits s.me := X.limits
  have hb9 : (T.setVm s.vm).me.stackBytes = s.me.stackBytes := X.bytes
  refine ⟨X.admits, X.cas, X.clock, hF, ?_, X.hears, X.method, X.code, X.here, X.tail, X.warmed, ?_, ?_, ?_⟩
  · have h := X.room
    have hU : ((T.setVm s.vm).setFrames (.invoking m args :: below)).localsInUse = s.localsInUse := by
      rw [State.localsInUse_invoking hF (meth := meth) (c := c) X.method X.code, State.localsInUse_invoking X.frames X.method X.code]
    simp only [State.hasRoom, Bool.and_eq_true, decide_eq_true_eq] at h ⊢
    obtain ⟨⟨⟨⟨h1, h2, h3, h4, h5, h6⟩, h7⟩, h8⟩, h9⟩ := h
    rw [X.frames, List.length_cons] at h2 h3
    have q1 := X.heapSize
    have q2 := X.used
    simp only [hF, hU, List.length_cons, State.stackLimits_setFrames, State.stackBytes_setFrames, hl9, hb9]
    refine ⟨⟨⟨⟨by omega, by omega, by omega, by omega, by omega, h6⟩, ?_⟩, ?_⟩, X.book⟩
    · show T.heap.size + R'.cells ≤ e.platform.maxCells
      omega
    · show T.slotsUsed + R'.slots ≤ e.platform.maxSlots
      omega
  · rw [State.stackLimits_setFrames]; rfl
  · rw [State.stackBytes_setFrames]; rfl
  · refine ⟨?_, Nat.le_refl _, Nat.le_refl _, ?_, ?_, fun a c9 h9 => ⟨c9, h9, rfl, rfl, fun _ _ => rfl⟩⟩
    · obtain ⟨t, ht, -⟩ := State.frames_cons hr
      show T.setVm s.vm = { ((T.setVm s.vm).setFrames (.invoking m args :: below)).setFrames (T.setVm s.vm).frames with heap := T.heap, slotsUsed := T.slotsUsed }
      rw [State.setFrames_setFrames, State.setFrames_self ht]
      rfl
    · show T.slotsUsed = T.slotsUsed + ((T.heap.toList.drop T.heap.size).map (·.slots.size)).sum
      rw [List.drop_eq_nil_of_le (Nat.le_of_eq Array.length_toList)]
      rfl
    · show ((T.heap.toList.drop T.heap.size).map (·.slots.size)).sum ≤ 0
      rw [List.drop_eq_nil_of_le (Nat.le_of_eq Array.length_toList)]
      exact Nat.le_refl _
/-- 'throw new E()': new; dup; invokespecial; athrow -/
theorem vx_throw0 {cc : ByteArray} {pc : Nat} (hexec : p.tables.exec = Jvm.exec) (hb : c.code = cc) (hl : l.stackTraces = false) {own cls : String} {names : List String} {ik ic mc ms : Nat} {A : Nat → Prop}
    (hown : s.vm.findClass own = some m.cls) (hcls : Bundle.fit cls = true) (hnames : ∀ n ∈ names, Bundle.fit n = true)
    (hk : (Cond.classLink own ik cls).before args s = true) (hini : (Cond.initialized cls).before args s = true) (hat : ∀ w ∈ vx_at0 own ic cls names, w.before args s = true)
    (hgood : ∀ w ∈ Cond.classLink own ik cls :: Cond.initialized cls :: vx_at0 own ic cls names, vx_ot w = true)
    (hU : vx_Zq Bundle.tN "UNASSIGNED_STACK" Bundle.steD A s s.heap) (hN : vx_Zq Bundle.tN "SUPPRESSED_SENTINEL" Bundle.listD A s s.heap) (hS : va_S A s.heap H locs) (hsize : ls.size = c.maxLocals)
    (d0 : decode cc pc = .ok (.new ik, 3)) (d3 : decode cc (pc + 3) = .ok (.dup, 1)) (d4 : decode cc (pc + 4) = .ok (.invokespecial ic, 3)) (d7 : decode cc (pc + 7) = .ok (.athrow, 1))
    (hout : ∀ x ∈ c.exceptionTable.toList, covers x (pc + 7) = false)
    (hRframes : names.length + 3 < R.frames) (hRlocals : (rest.map fun v => v.category).sum + (13 * (names.length + 1) + 42) ≤ R.locals) (hRcells : cells + 1 ≤ R.cells) (hRslots : slots + 6 ≤ R.slots) (hlocks : meth.locks = false)
    (hx : ∀ t : State, s.vm.Alike t.vm → H.size ≤ t.heap.size → (∀ q : Nat, q < H.size → t.heap[q]? = H[q]?) → XC cls s t)
    (hf : ∀ z ∈ locs, free z.base) (hc : cells + 1 ≤ mc) (hs : slots + 6 ≤ ms) :
    W p l e R s m args below meth c H locs cells slots (vx_MQ below Qc XC args s mc ms free) (F0 m pc ls rest) := by
  intro T hT X
  have htr : e.platform.stackTraces = false := (show e.platform.stackTraces = l.stackTraces by rw [X.admits.platform]).trans hl
  have Y := vx_rebase X (R' := { frames := R.frames, locals := R.locals, cells := 1, slots := 6 }) (Nat.le_refl _) (Nat.le_refl _) hRcells hRslots
  obtain ⟨s', hA⟩ : ∃ z, z = (T.setVm s.vm).setFrames (.invoking m args :: below) := ⟨_, rfl⟩
  rw [← hA] at Y
  have hvm : s'.vm = s.vm := by rw [hA]; rfl
  have hhp : s'.heap = H := by rw [hA]; exact hT
  have hW0 : s.WarmedH s'.vm := by rw [hvm]; exact State.WarmedH.refl s
  have hat' : ∀ w ∈ vx_at0 own ic cls names, w.before args s' = true := fun w hw => vx_ot_at hW0 hvm.symm (hgood w (List.mem_cons_of_mem _ (List.mem_cons_of_mem _ hw))) (hat w hw)
  have hk' : (Cond.classLink own ik cls).before args s' = true := vx_ot_at hW0 hvm.symm (hgood _ List.mem_cons_self) hk
  have hini' : (Cond.initialized cls).before args s' = true := vx_ot_at hW0 hvm.symm (hgood _ (List.mem_cons_of_mem _ List.mem_cons_self)) hini
  have hU' : vx_Zq Bundle.tN "UNASSIGNED_STACK" Bundle.steD A s' s'.heap := by rw [hhp]; exact vx_Zq.moved hW0.alike (hU.kept hS.2.1)
  have hN' : vx_Zq Bundle.tN "SUPPRESSED_SENTINEL" Bundle.listD A s' s'.heap := by rw [hhp]; exact vx_Zq.moved hW0.alike (hN.kept hS.2.1)
  have h : ∀ w ∈ Bundle.ownAtoms0 own ic cls names, w.before args s' = true := vx_own hat' (vx_isRefq hU'.1) (vx_isRefq hN'.1) hU'.2.word hN'.2.word
  have hown' : s'.vm.findClass own = some m.cls := by rw [hvm]; exact hown
  have hins : (Cond.instantiable cls 6).before args s' = true := h _ (by simp [Bundle.ownAtoms0])
  obtain ⟨vm₁, cX, kX, hfX, hkX, -, -, X₁, st1⟩ := Y.newCold hexec (own := own) (C := cls) (index := ik) (n := 6) hown' hk' hins hini'
    (g := F0 m pc ls rest) rfl (by rw [hb]; exact d0) (Nat.le_refl _) (Nat.le_refl _)
  generalize hT1 : (T.setVm vm₁).pushCell { cls := cX, slots := kX.instanceTypes.map defaultValue, vm := .none } = T1 at X₁ st1
  have hcat : (Value.ref T.heap.size).category = 1 := rfl
  have hcellA : T1.heap[T.heap.size]? = some (freshCell cX kX) := by rw [← hT1]; exact State.heap_pushCell_size _ _
  have d3' : decode c.code (pc + 3) = .ok (.dup, 1) := by rw [hb]; exact d3
  obtain ⟨U, hsteps, hrun, hend, hW, hsame, ce, hce, hO⟩ := X₁.ctorThrow0 hexec htr (own := own) (cls := cls) (names := names) (ic := ic) hown' hcls hnames h (fun x hx => nomatch hx) hfX hkX hcellA (by rw [hhp, hT]; exact Nat.le_refl _)
    (g := { method := m, pc := pc + 4, locals := ls, stack := .ref T.heap.size :: .ref T.heap.size :: rest, locked := none }) rfl hsize rfl rfl (rest := rest) rfl
    (by rw [hb]; exact d4) (by rw [hb]; exact d7) hout hRframes (by simp only [List.map_cons, List.sum_cons, hcat]; omega) hlocks
  obtain ⟨f1, f2⟩ := vx_frame hsame
  rw [hhp] at f1 f2
  have hWs : s.WarmedH U.vm := State.WarmedH.trans hW0 hW
  have hcl : s.vm.findClass cls = some ce.cls := by
    have h9 := hO.cls
    rw [hvm] at h9
    exact h9
  have hall : s.sameButNew ({ U with vm := s.vm } : State) locs mc ms := by
    subst hA
    obtain ⟨e1, e2⟩ := hsame
    rw [State.setFrames_setFrames] at e1
    have h2 : (T.setVm s.vm).sameButNew ({ U with vm := s.vm } : State) [] (0 + 1) (0 + 6) := ⟨e1, e2⟩
    have h3 := X.same.trans h2
    rw [List.append_nil] at h3
    exact h3.mono hc hs
  refine ⟨U, ?_, .threw T.heap.size, hrun, hend, Or.inr ⟨T.heap.size, rfl, cls, ce, locs, hx U hWs.alike f1 (fun q hq => f2 q hq (fun z hz => nomatch hz)), hce, hO.vm, hcl, hWs, hall, hf⟩⟩
  refine st1 _ ?_
  show Steps p.tables e below (T1.setTop { method := m, pc := pc + 3, locals := ls, stack := .ref T.heap.size :: rest, locked := none }) _
  jvm_step X₁.here [X₁.here.top, hexec, d3', Value.category]
  exact hsteps
/-- 'throw new E("text")': new; dup; ldc; invokespecial; athrow -/
theorem vx_throwS {cc : ByteArray} {pc : Nat} (hexec : p.tables.exec = Jvm.exec) (hb : c.code = cc) (hl : l.stackTraces = false) {own cls text : String} {names : List String} {ik is ic mc ms sa : Nat} {A : Nat → Prop}
    (hown : s.vm.findClass own = some m.cls) (hcls : Bundle.fit cls = true) (hnames : ∀ n ∈ names, Bundle.fit n = true)
    (hk : (Cond.classLink own ik cls).before args s = true) (hini : (Cond.initialized cls).before args s = true) (hstr : vk_R own is text sa s) (hat : ∀ w ∈ vx_atS own ic cls names, w.before args s = true)
    (hgood : ∀ w ∈ Cond.classLink own ik cls :: Cond.initialized cls :: vx_atS own ic cls names, vx_ot w = true)
    (hU : vx_Zq Bundle.tN "UNASSIGNED_STACK" Bundle.steD A s s.heap) (hN : vx_Zq Bundle.tN "SUPPRESSED_SENTINEL" Bundle.listD A s s.heap) (hS : va_S A s.heap H locs) (hsize : ls.size = c.maxLocals)
    (d0 : decode cc pc = .ok (.new ik, 3)) (d3 : decode cc (pc + 3) = .ok (.dup, 1)) (d4 : decode cc (pc + 4) = .ok (.ldc is, 2)) (d6 : decode cc (pc + 6) = .ok (.invokespecial ic, 3)) (d9 : decode cc (pc + 9) = .ok (.athrow, 1))
    (hout : ∀ x ∈ c.exceptionTable.toList, covers x (pc + 9) = false)
    (hRframes : names.length + 3 < R.frames) (hRlocals : (rest.map fun v => v.category).sum + (13 * (names.length + 1) + 43) ≤ R.locals) (hRcells : cells + 1 ≤ R.cells) (hRslots : slots + 6 ≤ R.slots) (hlocks : meth.locks = false)
    (hx : ∀ t : State, s.vm.Alike t.vm → H.size ≤ t.heap.size → (∀ q : Nat, q < H.size → t.heap[q]? = H[q]?) → XC cls s t)
    (hf : ∀ z ∈ locs, free z.base) (hc : cells + 1 ≤ mc) (hs : slots + 6 ≤ ms) :
    W p l e R s m args below meth c H locs cells slots (vx_MQ below Qc XC args s mc ms free) (F0 m pc ls rest) := by
  intro T hT X
  have htr : e.platform.stackTraces = false := (show e.platform.stackTraces = l.stackTraces by rw [X.admits.platform]).trans hl
  have Y := vx_rebase X (R' := { frames := R.frames, locals := R.locals, cells := 1, slots := 6 }) (Nat.le_refl _) (Nat.le_refl _) hRcells hRslots
  obtain ⟨s', hA⟩ : ∃ z, z = (T.setVm s.vm).setFrames (.invoking m args :: below) := ⟨_, rfl⟩
  rw [← hA] at Y
  have hvm : s'.vm = s.vm := by rw [hA]; rfl
  have hhp : s'.heap = H := by rw [hA]; exact hT
  have hW0 : s.WarmedH s'.vm := by rw [hvm]; exact State.WarmedH.refl s
  have hat' : ∀ w ∈ vx_atS own ic cls names, w.before args s' = true := fun w hw => vx_ot_at hW0 hvm.symm (hgood w (List.mem_cons_of_mem _ (List.mem_cons_of_mem _ hw))) (hat w hw)
  have hk' : (Cond.classLink own ik cls).before args s' = true := vx_ot_at hW0 hvm.symm (hgood _ List.mem_cons_self) hk
  have hini' : (Cond.initialized cls).before args s' = true := vx_ot_at hW0 hvm.symm (hgood _ (List.mem_cons_of_mem _ List.mem_cons_self)) hini
  have hU' : vx_Zq Bundle.tN "UNASSIGNED_STACK" Bundle.steD A s' s'.heap := by rw [hhp]; exact vx_Zq.moved hW0.alike (hU.kept hS.2.1)
  have hN' : vx_Zq Bundle.tN "SUPPRESSED_SENTINEL" Bundle.listD A s' s'.heap := by rw [hhp]; exact vx_Zq.moved hW0.alike (hN.kept hS.2.1)
  have h : ∀ w ∈ Bundle.ownAtoms own ic cls names, w.before args s' = true := vx_own hat' (vx_isRefq hU'.1) (vx_isRefq hN'.1) hU'.2.word hN'.2.word
  have hown' : s'.vm.findClass own = some m.cls := by rw [hvm]; exact hown
  have hins : (Cond.instantiable cls 6).before args s' = true := h _ (by simp [Bundle.ownAtoms])
  obtain ⟨vm₁, cX, kX, hfX, hkX, -, -, X₁, st1⟩ := Y.newCold hexec (own := own) (C := cls) (index := ik) (n := 6) hown' hk' hins hini'
    (g := F0 m pc ls rest) rfl (by rw [hb]; exact d0) (Nat.le_refl _) (Nat.le_refl _)
  generalize hT1 : (T.setVm vm₁).pushCell { cls := cX, slots := kX.instanceTypes.map defaultValue, vm := .none } = T1 at X₁ st1
  have hcat : (Value.ref T.heap.size).category = 1 := rfl
  have hcellA : T1.heap[T.heap.size]? = some (freshCell cX kX) := by rw [← hT1]; exact State.heap_pushCell_size _ _
  have d3' : decode c.code (pc + 3) = .ok (.dup, 1) := by rw [hb]; exact d3
  have d4' : decode c.code (pc + 4) = .ok (.ldc is, 2) := by rw [hb]; exact d4
  have hstr' : vk_R own is text sa s' := vk_R.warm hW0 hstr
  obtain ⟨U, hsteps, hrun, hend, hW, hsame, ce, hce, hO⟩ := X₁.ctorThrowS hexec htr (own := own) (cls := cls) (names := names) (ic := ic) hown' hcls hnames h (fun x hx => nomatch hx) hfX hkX hcellA (by rw [hhp, hT]; exact Nat.le_refl _) (msg := .ref sa) rfl
    (g := { method := m, pc := pc + 6, locals := ls, stack := .ref sa :: .ref T.heap.size :: .ref T.heap.size :: rest, locked := none }) rfl hsize rfl rfl (rest := rest) rfl
    (by rw [hb]; exact d6) (by rw [hb]; exact d9) hout hRframes (by simp only [List.map_cons, List.sum_cons, hcat]; omega) hlocks
  obtain ⟨f1, f2⟩ := vx_frame hsame
  rw [hhp] at f1 f2
  have hWs : s.WarmedH U.vm := State.WarmedH.trans hW0 hW
  have hcl : s.vm.findClass cls = some ce.cls := by
    have h9 := hO.cls
    rw [hvm] at h9
    exact h9
  have hall : s.sameButNew ({ U with vm := s.vm } : State) locs mc ms := by
    subst hA
    obtain ⟨e1, e2⟩ := hsame
    rw [State.setFrames_setFrames] at e1
    have h2 : (T.setVm s.vm).sameButNew ({ U with vm := s.vm } : State) [] (0 + 1) (0 + 6) := ⟨e1, e2⟩
    have h3 := X.same.trans h2
    rw [List.append_nil] at h3
    exact h3.mono hc hs
  refine ⟨U, ?_, .threw T.heap.size, hrun, hend, Or.inr ⟨T.heap.size, rfl, cls, ce, locs, hx U hWs.alike f1 (fun q hq => f2 q hq (fun z hz => nomatch hz)), hce, hO.vm, hcl, hWs, hall, hf⟩⟩
  refine st1 _ ?_
  show Steps p.tables e below (T1.setTop { method := m, pc := pc + 3, locals := ls, stack := .ref T.heap.size :: rest, locked := none }) _
  jvm_step X₁.here [X₁.here.top, hexec, d3', Value.category]
  exact X₁.ldcString hexec (own := own) (text := text) (index := is) (a := sa) hown' hstr'.1 hstr'.2
    (g := { method := m, pc := pc + 4, locals := ls, stack := .ref T.heap.size :: .ref T.heap.size :: rest, locked := none }) rfl d4' _ hsteps
/-- 'throw new E("text")', the text by a wide index -/
theorem vx_throwSW {cc : ByteArray} {pc : Nat} (hexec : p.tables.exec = Jvm.exec) (hb : c.code = cc) (hl : l.stackTraces = false) {own cls text : String} {names : List String} {ik is ic mc ms sa : Nat} {A : Nat → Prop}
    (hown : s.vm.findClass own = some m.cls) (hcls : Bundle.fit cls = true) (hnames : ∀ n ∈ names, Bundle.fit n = true)
    (hk : (Cond.classLink own ik cls).before args s = true) (hini : (Cond.initialized cls).before args s = true) (hstr : vk_R own is text sa s) (hat : ∀ w ∈ vx_atS own ic cls names, w.before args s = true)
    (hgood : ∀ w ∈ Cond.classLink own ik cls :: Cond.initialized cls :: vx_atS own ic cls names, vx_ot w = true)
    (hU : vx_Zq Bundle.tN "UNASSIGNED_STACK" Bundle.steD A s s.heap) (hN : vx_Zq Bundle.tN "SUPPRESSED_SENTINEL" Bundle.listD A s s.heap) (hS : va_S A s.heap H locs) (hsize : ls.size = c.maxLocals)
    (d0 : decode cc pc = .ok (.new ik, 3)) (d3 : decode cc (pc + 3) = .ok (.dup, 1)) (d4 : decode cc (pc + 4) = .ok (.ldc_w is, 3)) (d7 : decode cc (pc + 7) = .ok (.invokespecial ic, 3)) (d10 : decode cc (pc + 10) = .ok (.athrow, 1))
    (hout : ∀ x ∈ c.exceptionTable.toList, covers x (pc + 10) = false)
    (hRframes : names.length + 3 < R.frames) (hRlocals : (rest.map fun v => v.category).sum + (13 * (names.length + 1) + 43) ≤ R.locals) (hRcells : cells + 1 ≤ R.cells) (hRslots : slots + 6 ≤ R.slots) (hlocks : meth.locks = false)
    (hx : ∀ t : State, s.vm.Alike t.vm → H.size ≤ t.heap.size → (∀ q : Nat, q < H.size → t.heap[q]? = H[q]?) → XC cls s t)
    (hf : ∀ z ∈ locs, free z.base) (hc : cells + 1 ≤ mc) (hs : slots + 6 ≤ ms) :
    W p l e R s m args below meth c H locs cells slots (vx_MQ below Qc XC args s mc ms free) (F0 m pc ls rest) := by
  intro T hT X
  have htr : e.platform.stackTraces = false := (show e.platform.stackTraces = l.stackTraces by rw [X.admits.platform]).trans hl
  have Y := vx_rebase X (R' := { frames := R.frames, locals := R.locals, cells := 1, slots := 6 }) (Nat.le_refl _) (Nat.le_refl _) hRcells hRslots
  obtain ⟨s', hA⟩ : ∃ z, z = (T.setVm s.vm).setFrames (.invoking m args :: below) := ⟨_, rfl⟩
  rw [← hA] at Y
  have hvm : s'.vm = s.vm := by rw [hA]; rfl
  have hhp : s'.heap = H := by rw [hA]; exact hT
  have hW0 : s.WarmedH s'.vm := by rw [hvm]; exact State.WarmedH.refl s
  have hat' : ∀ w ∈ vx_atS own ic cls names, w.before args s' = true := fun w hw => vx_ot_at hW0 hvm.symm (hgood w (List.mem_cons_of_mem _ (List.mem_cons_of_mem _ hw))) (hat w hw)
  have hk' : (Cond.classLink own ik cls).before args s' = true := vx_ot_at hW0 hvm.symm (hgood _ List.mem_cons_self) hk
  have hini' : (Cond.initialized cls).before args s' = true := vx_ot_at hW0 hvm.symm (hgood _ (List.mem_cons_of_mem _ List.mem_cons_self)) hini
  have hU' : vx_Zq Bundle.tN "UNASSIGNED_STACK" Bundle.steD A s' s'.heap := by rw [hhp]; exact vx_Zq.moved hW0.alike (hU.kept hS.2.1)
  have hN' : vx_Zq Bundle.tN "SUPPRESSED_SENTINEL" Bundle.listD A s' s'.heap := by rw [hhp]; exact vx_Zq.moved hW0.alike (hN.kept hS.2.1)
  have h : ∀ w ∈ Bundle.ownAtoms own ic cls names, w.before args s' = true := vx_own hat' (vx_isRefq hU'.1) (vx_isRefq hN'.1) hU'.2.word hN'.2.word
  have hown' : s'.vm.findClass own = some m.cls := by rw [hvm]; exact hown
  have hins : (Cond.instantiable cls 6).before args s' = true := h _ (by simp [Bundle.ownAtoms])
  obtain ⟨vm₁, cX, kX, hfX, hkX, -, -, X₁, st1⟩ := Y.newCold hexec (own := own) (C := cls) (index := ik) (n := 6) hown' hk' hins hini'
    (g := F0 m pc ls rest) rfl (by rw [hb]; exact d0) (Nat.le_refl _) (Nat.le_refl _)
  generalize hT1 : (T.setVm vm₁).pushCell { cls := cX, slots := kX.instanceTypes.map defaultValue, vm := .none } = T1 at X₁ st1
  have hcat : (Value.ref T.heap.size).category = 1 := rfl
  have hcellA : T1.heap[T.heap.size]? = some (freshCell cX kX) := by rw [← hT1]; exact State.heap_pushCell_size _ _
  have d3' : decode c.code (pc + 3) = .ok (.dup, 1) := by rw [hb]; exact d3
  have d4' : decode c.code (pc + 4) = .ok (.ldc_w is, 3) := by rw [hb]; exact d4
  have hstr' : vk_R own is text sa s' := vk_R.warm hW0 hstr
  obtain ⟨U, hsteps, hrun, hend, hW, hsame, ce, hce, hO⟩ := X₁.ctorThrowS hexec htr (own := own) (cls := cls) (names := names) (ic := ic) hown' hcls hnames h (fun x hx => nomatch hx) hfX hkX hcellA (by rw [hhp, hT]; exact Nat.le_refl _) (msg := .ref sa) rfl
    (g := { method := m, pc := pc + 7, locals := ls, stack := .ref sa :: .ref T.heap.size :: .ref T.heap.size :: rest, locked := none }) rfl hsize rfl rfl (rest := rest) rfl
    (by rw [hb]; exact d7) (by rw [hb]; exact d10) hout hRframes (by simp only [List.map_cons, List.sum_cons, hcat]; omega) hlocks
  obtain ⟨f1, f2⟩ := vx_frame hsame
  rw [hhp] at f1 f2
  have hWs : s.WarmedH U.vm := State.WarmedH.trans hW0 hW
  have hcl : s.vm.findClass cls = some ce.cls := by
    have h9 := hO.cls
    rw [hvm] at h9
    exact h9
  have hall : s.sameButNew ({ U with vm := s.vm } : State) locs mc ms := by
    subst hA
    obtain ⟨e1, e2⟩ := hsame
    rw [State.setFrames_setFrames] at e1
    have h2 : (T.setVm s.vm).sameButNew ({ U with vm := s.vm } : State) [] (0 + 1) (0 + 6) := ⟨e1, e2⟩
    have h3 := X.same.trans h2
    rw [List.append_nil] at h3
    exact h3.mono hc hs
  refine ⟨U, ?_, .threw T.heap.size, hrun, hend, Or.inr ⟨T.heap.size, rfl, cls, ce, locs, hx U hWs.alike f1 (fun q hq => f2 q hq (fun z hz => nomatch hz)), hce, hO.vm, hcl, hWs, hall, hf⟩⟩
  refine st1 _ ?_
  show Steps p.tables e below (T1.setTop { method := m, pc := pc + 3, locals := ls, stack := .ref T.heap.size :: rest, locked := none }) _
  jvm_step X₁.here [X₁.here.top, hexec, d3', Value.category]
  exact X₁.ldcStringW hexec (own := own) (text := text) (index := is) (a := sa) hown' hstr'.1 hstr'.2
    (g := { method := m, pc := pc + 4, locals := ls, stack := .ref T.heap.size :: .ref T.heap.size :: rest, locked := none }) rfl d4' _ hsteps
end Ends
section Bodies
variable {l : Launch}
theorem vx_ofW {y : MethodName} {ws ws' : List Cond} {rm : Room} {Pc : Array Value → State → Prop} {Qc : Array Value → State → Outcome → State → Prop} {XC : String → State → State → Prop} {mc ms : Nat} {free : Addr → Prop} {cc : ByteArray} {maxL : Nat} {ret : Option FieldType}
    (hy : plainName y.cls = true) (hw : ws = Cond.code y cc maxL ret :: ws')
    (body : ∀ p e s m args below meth c s₁, BodyLoose p l y (headSpec ws rm) cc maxL ret e s m args below meth c s₁ → c.maxLocals = maxL → (∀ x ∈ c.exceptionTable.toList, False) → Pc args s →
      W p l e (headSpec ws rm).room s m args below meth c s.heap [] 0 0 (vx_MQ below Qc XC args s mc ms free) (entryFrame m args maxL)) : vx_Met l y ws rm Pc Qc XC mc ms free := by
  refine MetFree.of_bodyS (code := cc) (maxLocals := maxL) (ret := ret) hy ?_ ?_
  · intro args s m h hn
    obtain ⟨meth, c, h1, h2, h3, h4, h5, h6, -, -⟩ := Cond.code_spec hn (atoms_spec (ws := ws) h _ (by rw [hw]; exact List.mem_cons_self))
    exact ⟨meth, c, h1, h2, h3, h4, h5, h6⟩
  · intro p e s m args below meth c s₁ B hml hP _
    have hh0 : s₁.heap = s.heap := by rw [B.state]; rfl
    have ht : ∀ x ∈ c.exceptionTable.toList, False := by
      obtain ⟨meth9, c9, h1, h2, -, -, -, -, h7, -⟩ := Cond.code_spec B.named (atoms_spec (ws := ws) B.pre _ (by rw [hw]; exact List.mem_cons_self))
      cases Option.some.inj (h1.symm.trans B.method)
      cases Option.some.inj (h2.symm.trans (Stand.of_body B).code)
      intro x hx
      rw [Array.isEmpty_iff.mp h7] at hx
      cases hx
    obtain ⟨t, a1, o, b1, b2, b3⟩ := body p e s m args below meth c s₁ B hml ht hP s₁ hh0 (Stand.of_body B)
    exact ⟨t, o, a1, b1, b2, b3⟩
/-- the table of a body with handlers -/
theorem vx_table {p : Program} {x y : MethodName} {S : Spec} {cc bytes : ByteArray} {maxL maxL' : Nat} {ret ret' : Option FieldType} {e : Env} {s s₁ : State} {m : MethodId} {args : Array Value} {below : List Frame} {meth : Method} {c : Code} {hh : List (Nat × Nat × Nat × Nat)}
    (B : BodyLoose p l y S cc maxL ret e s m args below meth c s₁) (h : (Cond.codeWith y bytes maxL' ret' hh).before args s = true) : c.exceptionTable.toList = tableOf hh := by
  obtain ⟨m9, meth9, c9, hn9, h1, h2, -, -, h6, -⟩ := Cond.codeWith_spec h
  cases Option.some.inj (hn9.symm.trans B.named)
  cases Option.some.inj (h1.symm.trans B.method)
  cases Option.some.inj (h2.symm.trans (Stand.of_body B).code)
  rw [← h6, table_eq]
end Bodies
end VXA
/-! ===== END ===== -/
/-! ===== BEGIN a static call of a method with an exception table ===== -/
section VXS
variable {p : Program} {l : Launch} {e : Env} {R : Room} {s : State} {m : MethodId} {args : Array Value} {below : List Frame} {meth : Method} {c : Code} {T : State} {H : Heap} {locs : List Loc} {cells slots : Nat}
abbrev vx_CSW (R : Room) (s : State) (args : Array Value) (own : String) (index : Nat) (y : MethodName) (bytes : ByteArray) (maxL : Nat) (ret : Option FieldType) (hh : List (Nat × Nat × Nat × Nat)) (ws : List Cond) (rm : Room) (mc ms n : Nat) : Prop :=
  (rm.cells = mc ∧ rm.slots = ms ∧ rm.frames + 1 ≤ R.frames ∧ 8 + (maxL + 11) + rm.locals ≤ R.locals ∧ (∀ w ∈ ws, ∀ (a' : Array Value) (U : State), s.WarmedH U.vm → w.before a' U = true) ∧ Cond.codeWith y bytes maxL ret hh ∈ ws) ∧
  (Cond.codeWith y bytes maxL ret hh).before args s = true ∧ (Cond.initialized y.cls).before args s = true ∧ (y.cls ≠ "java/lang/invoke/MethodHandle" ∧ y.cls ≠ "java/lang/invoke/VarHandle") ∧
  (∀ sig, parseMethodDescriptor y.desc = some sig → n = sig.parameters.length) ∧ (Cond.methodLink own index y).before args s = true ∧ (Cond.static y).before args s = true
theorem vx_cwSW {own : String} {index maxL mc ms : Nat} {y : MethodName} {bytes : ByteArray} {ret : Option FieldType} {hh : List (Nat × Nat × Nat × Nat)} {Ts ws ws' : List Cond} {rm : Room} (n : Nat) (ht : ∀ w ∈ Ts, w.before args s = true) (hT : GoodIn Ts (va_wsS own index y ws)) (hw : ws = Cond.codeWith y bytes maxL ret hh :: ws') (hrc : rm.cells = mc) (hrs : rm.slots = ms)
    (hd : y.cls ≠ "java/lang/invoke/MethodHandle" ∧ y.cls ≠ "java/lang/invoke/VarHandle" ∧ (parseMethodDescriptor y.desc).map (fun d => d.parameters.length) = some n) (hR : rm.frames + 1 ≤ R.frames ∧ 8 + (maxL + 11) + rm.locals ≤ R.locals) :
    vx_CSW R s args own index y bytes maxL ret hh ws rm mc ms n := by
  have ok : ∀ w ∈ va_wsS own index y ws, w.before args s = true := fun w h => ht w (hT w h).1
  have hG : GoodIn Ts ws := fun w h => hT w (by unfold va_wsS; exact List.mem_append_right _ h)
  have hc : Cond.codeWith y bytes maxL ret hh ∈ ws := by rw [hw]; exact List.mem_cons_self
  refine ⟨⟨hrc, hrs, hR.1, hR.2, pay_in ht hG, hc⟩, ht _ (hG _ hc).1, ok _ (by simp [va_wsS]), ⟨hd.1, hd.2.1⟩, fun sig h => ?_, ok _ (by simp [va_wsS]), ok _ (by simp [va_wsS])⟩
  have h2 := hd.2.2
  rw [h] at h2
  exact (Option.some.inj h2).symm
theorem vx_callSW (X : Stand p l e R s m args below meth c T locs cells slots) (hexec : p.tables.exec = Jvm.exec) {own : String} {index : Nat} {y : MethodName} {bytes : ByteArray} {maxL : Nat} {ret : Option FieldType} {hh : List (Nat × Nat × Nat × Nat)}
    (hown : s.vm.findClass own = some m.cls) (hlink : (Cond.methodLink own index y).before args s = true) (hstat : (Cond.static y).before args s = true) (hinit : (Cond.initialized y.cls).before args s = true)
    (hcode : (Cond.codeWith y bytes maxL ret hh).before args s = true) (hy : y.cls ≠ "java/lang/invoke/MethodHandle" ∧ y.cls ≠ "java/lang/invoke/VarHandle")
    {W9 : Nat} {Pre : Pt → Array Value → Prop} {Post : Pt → Array Value → Option Value → Pt → Prop} (hK : Back l R p e below s args y 3 W9 Pre Post)
    {g : JFrame} (hg : g.method = m) (hsize : g.locals.size = c.maxLocals) {argsL rest : List Value} (hlen : ∀ sig, parseMethodDescriptor y.desc = some sig → argsL.length = sig.parameters.length)
    (hstack : g.stack = argsL.reverse ++ rest) (hW : 2 * g.monitorRoom + (rest.map fun v => v.category).sum ≤ W9) (hdg : decode c.code g.pc = .ok (.invokestatic index, 3))
    (hpre : ∀ vm₁, s.WarmedH vm₁ → Pre ⟨T.setVm vm₁, locs, cells, slots⟩ argsL.toArray) :
    ∃ (v : Option Value) (vm₁ : Vm) (B : Pt), s.WarmedH vm₁ ∧ Stand p l e R s m args below meth c B.U B.locs B.cells B.slots ∧ Post ⟨T.setVm vm₁, locs, cells, slots⟩ argsL.toArray v B ∧
      ∀ target, Steps p.tables e below (B.U.setTop { g with pc := g.pc + 3, stack := v.toList ++ rest }) target → Steps p.tables e below (T.setTop g) target := by
  obtain ⟨mk, methM, cM, hnamed, hmethM, -, -, -, -, -, -, hsigM⟩ := Cond.codeWith_spec hcode
  have hstatic : methM.isStatic = true := Cond.static_spec hnamed hmethM hstat
  obtain ⟨kP, hkP, -⟩ := className_of_methodNamed hnamed
  have hinitP : kP.init = .initialized := Cond.initialized_spec (findClass_of_methodNamed hnamed) hkP hinit
  obtain ⟨vm₁, X₁, hstep₁⟩ := X.invokestatic hexec hown hlink hnamed hmethM hstatic hkP hinitP hy (g := g) hg (argsL := argsL) (rest := rest) (hlen _ hsigM) hstack hdg
  obtain ⟨v, B, X', hpost, hsteps⟩ := hK m meth c ⟨T.setVm vm₁, locs, cells, slots⟩ { g with stack := rest } (.invokestatic index) mk argsL.toArray X₁ hg hsize hdg hW (X₁.named hnamed) (hpre vm₁ X₁.warmed)
  exact ⟨v, vm₁, B, X₁.warmed, X', hpost, fun target h => hstep₁ _ fun acts => by rw [doInvoke_state]; exact hsteps.trans h⟩
theorem vx_runSW {y : MethodName} {bytes cc : ByteArray} {maxL nL mc ms n index : Nat} {ret : Option FieldType} {hh : List (Nat × Nat × Nat × Nat)} {ws : List Cond} {rm : Room} {Pc : Array Value → State → Prop} {Qc : Array Value → State → Outcome → State → Prop} {free : Addr → Prop} {Ts : List Cond} {own : String} {As rest : List Value} {g : JFrame}
    (S : CallFix p m c cc nL s args Ts own) (hM : Met l y ws rm Pc Qc mc ms free) (cw : vx_CSW R s args own index y bytes maxL ret hh ws rm mc ms n) (hp : PreS s H Pc As)
    (hg : g.method = m) (hn : As.length = n) (hsize : g.locals.size = nL) (hstack : g.stack = As.reverse ++ rest) (hW : 2 * g.monitorRoom + (rest.map fun v => v.category).sum ≤ 8) (hdg : decode cc g.pc = .ok (.invokestatic index, 3)) (hf : cells + mc ≤ R.cells ∧ slots + ms ≤ R.slots) :
    va_Run p l e R s m args below meth c H locs cells slots mc ms g rest (Qc As.toArray) (free) := by
  obtain ⟨⟨hrc, hrs, hfr, hlo, hws, hcw⟩, hcode, hini, hy, hlen, hl, hstt⟩ := cw
  have hK : Back l R p e below s args y 3 8 (PreOf R mc ms Pc) (PostOf Qc mc ms free) := va_backW (hh := hh) (bytes := bytes) (maxL := maxL) (ret := ret) hM hp.1 hrc hrs hfr hlo hws hcw (fun a' U hW => word_at hW (Or.inl (by first | rfl | simp [Cond.onTables, Cond.keeps, Cond.steady])) hini)
  obtain ⟨hx, hb, hml, ho, -⟩ := S
  intro T hT X
  obtain ⟨v, vm₁, ⟨U', l2, c2, s2⟩, hW₁, X', ⟨g', mk, t, L, e1, e2, hq, h1, hL, h2, h3⟩, st⟩ := vx_callSW X hx (hh := hh) (bytes := bytes) (maxL := maxL) (ret := ret) ho hl hstt hini hcode hy hK hg (hsize.trans hml.symm) (argsL := As) (rest := rest) (fun sig h => hn.trans (hlen sig h)) hstack hW (by rw [hb]; exact hdg)
    (fun vm₁ hW₁ => ⟨hf.1, hf.2, hp.2 (T.setVm vm₁) hT hW₁⟩)
  dsimp only [Pt.U, Pt.locs, Pt.cells, Pt.slots] at X' e1 e2 h1 h2 h3 st
  subst h1; subst h2; subst h3
  exact ⟨v, (T.setVm vm₁).calling g' mk As.toArray, t, U', L, hT, X', hL, e1, e2, hq, st⟩
/-- not caught here, past rows that name other classes: it goes on to the caller -/
theorem vx_outP {p : Program} {l : Launch} {e : Env} {R : Room} {s : State} {m : MethodId} {args : Array Value} {below : List Frame} {meth : Method} {c : Code} {H : Heap} {locs : List Loc} {cells slots : Nat} {free : Addr → Prop} {ls : Array Slot} {rest : List Value} {Qc : Array Value → State → Outcome → State → Prop} {XC : String → State → State → Prop}
    {pc : Nat} {own E : String} {ce : Cell} {q : Addr} {mc ms : Nat} (hown : s.vm.findClass own = some m.cls) (hlocks : meth.locks = false)
    (hpass : ∀ z ∈ c.exceptionTable.toList, covers z pc = false ∨ (z.catchType ≠ 0 ∧ ∃ nm : String, (Cond.classLink own z.catchType nm).before args s = true ∧ va_Nc E nm s)) (hcell : H[q]? = some ce) (hv : ce.vm = .none) (hcl : s.vm.findClass E = some ce.cls)
    (hx : ∀ t : State, t.heap = H → s.vm.Alike t.vm → XC E s t) (hf : ∀ z ∈ locs, free z.base) (hc : cells ≤ mc) (hs : slots ≤ ms) :
    vx_W p l e R s m args below meth c H locs cells slots (vx_MQ below Qc XC args s mc ms free) (F0 m pc ls rest) q := by
  intro T hT X
  have hpl : e.platform.magicAccessors = ({} : Platform).magicAccessors := by rw [X.admits.platform]
  obtain ⟨vm', hW', X', st⟩ := X.outThrough hlocks q (g := F0 m pc ls rest) rfl rfl rfl (cell := ce) (by rw [hT]; exact hcell) (by rw [hv]; rfl)
    (by obtain ⟨k9, h9, -⟩ := Vm.findClass_spec hcl; exact ⟨k9, h9⟩) (fun z hz => by
      rcases hpass z hz with h | ⟨hz0, nm, hl1, hn1⟩
      · exact Or.inl h
      · obtain ⟨c6, hc6, hcl6⟩ := Cond.classLink_spec hown hl1 e.platform hpl
        obtain ⟨a8, b8, h1, h2, h3⟩ := hn1
        cases Option.some.inj (h1.symm.trans hcl)
        cases Option.some.inj (h2.symm.trans hc6)
        exact Or.inr ⟨hz0, _, hcl6, h3⟩)
  obtain ⟨g₀, hfr⟩ := X'.frames_eq
  have hcell9 : ((T.setVm vm').setFrames (.throwing q :: below)).heap[q]? = some ce := by
    show T.heap[q]? = some ce
    rw [hT]; exact hcell
  have hend : Ended ((T.setVm vm').setFrames (.throwing q :: below)) below (.threw q) := State.frames_setFrames _ (State.cur_lt_of_frames hfr)
  refine ⟨(T.setVm vm').setFrames (.throwing q :: below), ?_, .threw q, X'.here.running, hend, Or.inr ⟨q, rfl, E, ce, locs, hx _ hT (X'.ends _).1.alike, hcell9, hv, hcl, (X'.ends _).1, (X'.ends _).2.mono hc hs, hf⟩⟩
  rw [X.pushThrowing_eq]
  exact st
/-- a thing of a world lies in the heap -/
theorem vx_lt {D : va_G} {cl : List vw_C} {ws : va_W} {H1 : Heap} (h : va_P D cl ws H1) {k : Nat} {q : Nat × va_E} (hk : ws[k]? = some q) : q.1 < H1.size := (h k q hk).lt
end VXS
/-! ===== END ===== -/
/-! ===== BEGIN methods with a table of their own: called by a name, returning or throwing ===== -/
section VXH
/-! vx_backW, vx_callVX, vx_callSX, vx_callVW, vx_runVW, vx_runVX, vx_runSX, vx_ofWH follow the same proofs as their sisters above (Free/Laws.lean, Shelf42/LK1.lean); vx_outP calls Shelf42/NT130.lean (outThrough). -/
section
variable {l : Launch} {R : Room} {p : Program} {e : Env} {below : List Frame} {s : State} {sargs : Array Value} {y : MethodName} {len W9 : Nat}
theorem vx_backW {ws : List Cond} {rm : Room} {Pc : Array Value → State → Prop} {Qc : Array Value → State → Outcome → State → Prop} {XC : String → State → State → Prop} {mc ms : Nat} {free : Addr → Prop} {bytes : ByteArray} {maxL : Nat} {ret : Option FieldType} {hh : List (Nat × Nat × Nat × Nat)}
    (hM : vx_Met l y ws rm Pc Qc XC mc ms free) (hblind : FrameBlind Pc) (hrc : rm.cells = mc) (hrs : rm.slots = ms)
    (hframes : rm.frames + 1 ≤ R.frames) (hlocals : W9 + (maxL + 11) + rm.locals ≤ R.locals)
    (hws : ∀ w ∈ ws, ∀ a' U, s.WarmedH U.vm → w.before a' U = true) (hcode : Cond.codeWith y bytes maxL ret hh ∈ ws) (hinit : ∀ a' U, s.WarmedH U.vm → (Cond.initialized y.cls).before a' U = true) :
    vx_Back l R p e below s sargs y len W9 (PreOf R mc ms Pc) (PostOf Qc mc ms free) (vx_Post XC mc ms free) := by
  intro m meth c A g ig mk a X hg hsize hdg hW hn hp
  have h1 : (headSpec ws rm).pre.before a A.U = true := atoms_intro fun w hw => hws w hw _ _ X.warmed
  have h2 : (Cond.codeWith y bytes maxL ret hh).before a A.U = true := hws _ hcode _ _ X.warmed
  have h3 : (Cond.initialized y.cls).before a A.U = true := hinit _ _ X.warmed
  have h4 : A.cells + (headSpec ws rm).room.cells ≤ R.cells := by rw [show (headSpec ws rm).room.cells = mc from hrc]; exact hp.1
  have h5 : A.slots + (headSpec ws rm).room.slots ≤ R.slots := by rw [show (headSpec ws rm).room.slots = ms from hrs]; exact hp.2.1
  have hPc : Pc a (A.U.calling g mk a) := hblind _ _ _ _ hp.2.2
  obtain ⟨U, Ls, c0, s0⟩ := A
  dsimp only [Pt.U, Pt.locs, Pt.cells, Pt.slots] at h1 h2 h3 h4 h5 X hn hPc ⊢
  obtain ⟨m9, methY, cY, hn9, hmY, hcY, -, hlY, -⟩ := Cond.codeWith_spec h2
  cases Option.some.inj (hn9.symm.trans hn)
  obtain ⟨kY, hkY, -⟩ := className_of_methodNamed hn
  have hinitY : kY.init = .initialized := Cond.initialized_spec (findClass_of_methodNamed hn) hkY h3
  have h : At U g.method c below := by rw [hg]; exact X.here
  have hlocals9 : W9 + (maxL + 11) + (headSpec ws rm).room.locals ≤ R.locals := hlocals
  have happ : (headSpec ws rm).appliesLoose y e.platform (U.calling g mk a) = true :=
    Spec.appliesLoose_calling (g := g) h hdg hn hkY hinitY
      (X.room_calling (g := g) (R' := (headSpec ws rm).room) hsize hmY hcY hframes (by rw [hlY]; omega) h4 h5) h1
  obtain ⟨mid, hmid⟩ := h.above
  have hfr : (U.setTop g).frames = (.java g :: mid) ++ below := by rw [State.frames_setTop' g h.top, hmid]; rfl
  obtain ⟨o, s₂, hsteps, -, hend, hq⟩ := Steps.callFree hM p X.admits X.cas X.clock (acts := []) hfr happ hPc trivial
  have hq' : vx_Q Qc XC mc ms free a (U.calling g mk a) o s₂ := hq
  rw [State.frames_setTop' g h.top] at hend
  obtain ⟨g₀, hg0⟩ := Option.isSome_iff_exists.mp h.top
  obtain ⟨r, hr⟩ := State.topJava?_eq_some.mp hg0
  have hr' : (({ U with heap := s₂.heap, slotsUsed := s₂.slotsUsed } : State).setVm s₂.vm).frames = .java g₀ :: r := hr
  rcases hq' with ⟨hqc, L, hfe, hL⟩ | ⟨q, rfl, E, ce, L, hx, hce, hcv, hcl, hW₂, hsm, hL⟩
  · obtain ⟨⟨v, rfl⟩, hW₂, e2, q2, q3, q4, q5, q6⟩ := id hfe
    have e3 : s₂ = ({ (U.calling g mk a).setFrames s₂.frames with heap := s₂.heap, slotsUsed := s₂.slotsUsed } : State).setVm s₂.vm := by
      have : s₂ = ({ s₂ with vm := (U.calling g mk a).vm } : State).setVm s₂.vm := rfl
      rw [e2] at this
      exact this
    obtain ⟨c₂, i₂, len₂, hc₂, hd₂, hf₂⟩ := hend
    have hW' : U.WarmedH s₂.vm := hW₂
    have hcc : c₂ = c := by
      have h1 : s₂.code? g.method = U.code? g.method := by
        rw [State.code?_eq, State.code?_eq, hW'.alike.method?]
      exact Option.some.inj (hc₂.symm.trans (h1.trans h.code))
    subst hcc
    have hlen : len₂ = len := by rw [hdg] at hd₂; cases hd₂; rfl
    subst hlen
    have hs₂ : s₂ = (({ U with heap := s₂.heap, slotsUsed := s₂.slotsUsed } : State).setVm s₂.vm).setTop { g with pc := g.pc + len₂, stack := v.toList ++ g.stack } := by
      refine e3.trans ?_
      rw [hf₂, State.calling_eq h.top, State.setFrames_setFrames, State.setTop_of_frames _ hr', hr]
      rfl
    have hsame : U.sameButNew ({ U with heap := s₂.heap, slotsUsed := s₂.slotsUsed } : State) L mc ms := by
      refine ⟨?_, q2, q3, q4, q5, q6⟩
      obtain ⟨t, ht, -⟩ := State.frames_cons hr
      show ({ U with heap := s₂.heap, slotsUsed := s₂.slotsUsed } : State) = { U.setFrames U.frames with heap := s₂.heap, slotsUsed := s₂.slotsUsed }
      rw [State.setFrames_self ht]
    subst hg
    refine Or.inl ⟨v, ⟨(({ U with heap := s₂.heap, slotsUsed := s₂.slotsUsed } : State).setVm s₂.vm), Ls ++ L, c0 + mc, s0 + ms⟩,
      ⟨X.admits, X.cas, X.clock, X.frames, X.room, X.hears, X.method, X.code, (X.here.setHeapUsed s₂.heap s₂.slotsUsed).setVm hW'.alike, X.tail, State.WarmedH.trans X.warmed hW', X.limits, X.bytes, X.same.trans (hsame.setVm s.vm)⟩,
      ⟨g, mk, s₂, L, rfl, rfl, hqc, rfl, hL, rfl, rfl⟩, ?_⟩
    show Steps p.tables e below _ ((({ U with heap := s₂.heap, slotsUsed := s₂.slotsUsed } : State).setVm s₂.vm).setTop { g with pc := g.pc + len₂, stack := v.toList ++ g.stack })
    rw [← hs₂]
    exact hsteps
  · obtain ⟨e2, q2, q3, q4, q5, q6⟩ := id hsm
    have e3 : s₂ = ({ (U.calling g mk a).setFrames s₂.frames with heap := s₂.heap, slotsUsed := s₂.slotsUsed } : State).setVm s₂.vm := by
      have : s₂ = ({ s₂ with vm := (U.calling g mk a).vm } : State).setVm s₂.vm := rfl
      rw [e2] at this
      exact this
    have hf₂ : s₂.frames = .throwing q :: .java g :: U.frames.tail := hend
    have hW' : U.WarmedH s₂.vm := hW₂
    have hs₂ : s₂ = ((({ U with heap := s₂.heap, slotsUsed := s₂.slotsUsed } : State).setVm s₂.vm).setTop g).pushFrame (.throwing q) := by
      refine e3.trans ?_
      rw [hf₂, State.calling_eq h.top, State.setFrames_setFrames, State.pushFrame, State.frames_setTop _ hr', State.setTop_of_frames _ hr', State.setFrames_setFrames, hr]
      rfl
    have hsame : U.sameButNew ({ U with heap := s₂.heap, slotsUsed := s₂.slotsUsed } : State) L mc ms := by
      refine ⟨?_, q2, q3, q4, q5, q6⟩
      obtain ⟨t, ht, -⟩ := State.frames_cons hr
      show ({ U with heap := s₂.heap, slotsUsed := s₂.slotsUsed } : State) = { U.setFrames U.frames with heap := s₂.heap, slotsUsed := s₂.slotsUsed }
      rw [State.setFrames_self ht]
    subst hg
    refine Or.inr ⟨q, ⟨(({ U with heap := s₂.heap, slotsUsed := s₂.slotsUsed } : State).setVm s₂.vm), Ls ++ L, c0 + mc, s0 + ms⟩,
      ⟨X.admits, X.cas, X.clock, X.frames, X.room, X.hears, X.method, X.code, (X.here.setHeapUsed s₂.heap s₂.slotsUsed).setVm hW'.alike, X.tail, State.WarmedH.trans X.warmed hW', X.limits, X.bytes, X.same.trans (hsame.setVm s.vm)⟩,
      ⟨g, mk, s₂, L, E, ce, rfl, rfl, hx, hce, hcv, hcl, rfl, hL, rfl, rfl⟩, ?_⟩
    show Steps p.tables e below _ (((({ U with heap := s₂.heap, slotsUsed := s₂.slotsUsed } : State).setVm s₂.vm).setTop g).pushFrame (.throwing q))
    rw [← hs₂]
    exact hsteps
end
variable {p : Program} {l : Launch} {e : Env} {R : Room} {s : State} {m : MethodId} {args : Array Value} {below : List Frame} {meth : Method} {c : Code} {T : State} {H : Heap} {locs : List Loc} {cells slots : Nat}
theorem vx_callVX (X : Stand p l e R s m args below meth c T locs cells slots) (hexec : p.tables.exec = Jvm.exec) {own C : String} {index : Nat} {y : MethodName} {bytes : ByteArray} {maxL : Nat} {ret : Option FieldType} {hh : List (Nat × Nat × Nat × Nat)}
    (hown : s.vm.findClass own = some m.cls) (hlink : (Cond.methodLink own index y).before args s = true) (hinst : (Cond.instanceMethod y).before args s = true) (hsel : (Cond.selects C y y).before args s = true)
    (hcode : (Cond.codeWith y bytes maxL ret hh).before args s = true) (hy : y.cls ≠ "java/lang/invoke/MethodHandle" ∧ y.cls ≠ "java/lang/invoke/VarHandle")
    {W9 : Nat} {Pre : Pt → Array Value → Prop} {Post : Pt → Array Value → Option Value → Pt → Prop} {PostX : Pt → Array Value → Addr → Pt → Prop} (hK : vx_Back l R p e below s args y 3 W9 Pre Post PostX)
    {b : Addr} {cellB : Cell} (hcell : T.heap[b]? = some cellB) (hobj : cellB.vm.isStatics = false) (hcls : s.vm.findClass C = some cellB.cls)
    {g : JFrame} (hg : g.method = m) (hsize : g.locals.size = c.maxLocals) {argsL rest : List Value} (hlen : ∀ sig, parseMethodDescriptor y.desc = some sig → argsL.length = sig.parameters.length)
    (hstack : g.stack = argsL.reverse ++ .ref b :: rest) (hW : 2 * g.monitorRoom + (rest.map fun v => v.category).sum ≤ W9) (hdg : decode c.code g.pc = .ok (.invokevirtual index, 3))
    (hpre : ∀ vm₁, s.WarmedH vm₁ → Pre ⟨T.setVm vm₁, locs, cells, slots⟩ (Value.ref b :: argsL).toArray) :
    (∃ (v : Option Value) (vm₁ : Vm) (B : Pt), s.WarmedH vm₁ ∧ Stand p l e R s m args below meth c B.U B.locs B.cells B.slots ∧ Post ⟨T.setVm vm₁, locs, cells, slots⟩ (Value.ref b :: argsL).toArray v B ∧
      ∀ target, Steps p.tables e below (B.U.setTop { g with pc := g.pc + 3, stack := v.toList ++ rest }) target → Steps p.tables e below (T.setTop g) target) ∨
    (∃ (q : Addr) (vm₁ : Vm) (B : Pt), s.WarmedH vm₁ ∧ Stand p l e R s m args below meth c B.U B.locs B.cells B.slots ∧ PostX ⟨T.setVm vm₁, locs, cells, slots⟩ (Value.ref b :: argsL).toArray q B ∧
      Steps p.tables e below (T.setTop g) ((B.U.setTop { g with stack := rest }).pushFrame (.throwing q))) := by
  obtain ⟨mk, methM, hnamed, hmethM, hstM, habM⟩ := Cond.instanceMethod_spec hinst
  obtain ⟨m8, methM', cM, hn8, hmethM', -, -, -, -, -, -, hsigM⟩ := Cond.codeWith_spec hcode
  cases Option.some.inj (hn8.symm.trans hnamed)
  cases hmethM.symm.trans hmethM'
  obtain ⟨c2, r2, m2, q1, q2, q3, q4, kP, hkP, hkPi⟩ := Cond.selects_spec hsel
  cases hcls.symm.trans q1
  cases (State.methodFound?_of_named hnamed hy).symm.trans q2
  cases hnamed.symm.trans q3
  have hselP : selectMethod e.platform s.vm cellB.cls mk = .method mk := by rw [Launch.admits_selectMethod X.admits]; exact q4
  obtain ⟨vm₁, X₁, hstep₁⟩ := X.invokevirtual hexec hown hlink hnamed hmethM hstM hkP hkPi hy (a := b) (cell := cellB) hcell
    (fun z h => by rw [h] at hobj; cases hobj) hselP hmethM habM hkP hkPi (g := g) hg (argsL := argsL) (rest := rest) (hlen _ hsigM) hstack hdg
  rcases hK m meth c ⟨T.setVm vm₁, locs, cells, slots⟩ { g with stack := rest } (.invokevirtual index) mk (Value.ref b :: argsL).toArray X₁ hg hsize hdg hW (X₁.named hnamed) (hpre vm₁ X₁.warmed) with ⟨v, B, X', hpost, hsteps⟩ | ⟨q, B, X', hpost, hsteps⟩
  · exact Or.inl ⟨v, vm₁, B, X₁.warmed, X', hpost, fun target h => hstep₁ _ fun acts => by rw [doInvoke_state]; exact hsteps.trans h⟩
  · exact Or.inr ⟨q, vm₁, B, X₁.warmed, X', hpost, hstep₁ _ fun acts => by rw [doInvoke_state]; exact hsteps⟩
theorem vx_callSX (X : Stand p l e R s m args below meth c T locs cells slots) (hexec : p.tables.exec = Jvm.exec) {own : String} {index : Nat} {y : MethodName} {bytes : ByteArray} {maxL : Nat} {ret : Option FieldType} {hh : List (Nat × Nat × Nat × Nat)}
    (hown : s.vm.findClass own = some m.cls) (hlink : (Cond.methodLink own index y).before args s = true) (hstat : (Cond.static y).before args s = true) (hinit : (Cond.initialized y.cls).before args s = true)
    (hcode : (Cond.codeWith y bytes maxL ret hh).before args s = true) (hy : y.cls ≠ "java/lang/invoke/MethodHandle" ∧ y.cls ≠ "java/lang/invoke/VarHandle")
    {W9 : Nat} {Pre : Pt → Array Value → Prop} {Post : Pt → Array Value → Option Value → Pt → Prop} {PostX : Pt → Array Value → Addr → Pt → Prop} (hK : vx_Back l R p e below s args y 3 W9 Pre Post PostX)
    {g : JFrame} (hg : g.method = m) (hsize : g.locals.size = c.maxLocals) {argsL rest : List Value} (hlen : ∀ sig, parseMethodDescriptor y.desc = some sig → argsL.length = sig.parameters.length)
    (hstack : g.stack = argsL.reverse ++ rest) (hW : 2 * g.monitorRoom + (rest.map fun v => v.category).sum ≤ W9) (hdg : decode c.code g.pc = .ok (.invokestatic index, 3))
    (hpre : ∀ vm₁, s.WarmedH vm₁ → Pre ⟨T.setVm vm₁, locs, cells, slots⟩ argsL.toArray) :
    (∃ (v : Option Value) (vm₁ : Vm) (B : Pt), s.WarmedH vm₁ ∧ Stand p l e R s m args below meth c B.U B.locs B.cells B.slots ∧ Post ⟨T.setVm vm₁, locs, cells, slots⟩ argsL.toArray v B ∧
      ∀ target, Steps p.tables e below (B.U.setTop { g with pc := g.pc + 3, stack := v.toList ++ rest }) target → Steps p.tables e below (T.setTop g) target) ∨
    (∃ (q : Addr) (vm₁ : Vm) (B : Pt), s.WarmedH vm₁ ∧ Stand p l e R s m args below meth c B.U B.locs B.cells B.slots ∧ PostX ⟨T.setVm vm₁, locs, cells, slots⟩ argsL.toArray q B ∧
      Steps p.tables e below (T.setTop g) ((B.U.setTop { g with stack := rest }).pushFrame (.throwing q))) := by
  obtain ⟨mk, methM, cM, hnamed, hmethM, -, -, -, -, -, -, hsigM⟩ := Cond.codeWith_spec hcode
  have hstatic : methM.isStatic = true := Cond.static_spec hnamed hmethM hstat
  obtain ⟨kP, hkP, -⟩ := className_of_methodNamed hnamed
  have hinitP : kP.init = .initialized := Cond.initialized_spec (findClass_of_methodNamed hnamed) hkP hinit
  obtain ⟨vm₁, X₁, hstep₁⟩ := X.invokestatic hexec hown hlink hnamed hmethM hstatic hkP hinitP hy (g := g) hg (argsL := argsL) (rest := rest) (hlen _ hsigM) hstack hdg
  rcases hK m meth c ⟨T.setVm vm₁, locs, cells, slots⟩ { g with stack := rest } (.invokestatic index) mk argsL.toArray X₁ hg hsize hdg hW (X₁.named hnamed) (hpre vm₁ X₁.warmed) with ⟨v, B, X', hpost, hsteps⟩ | ⟨q, B, X', hpost, hsteps⟩
  · exact Or.inl ⟨v, vm₁, B, X₁.warmed, X', hpost, fun target h => hstep₁ _ fun acts => by rw [doInvoke_state]; exact hsteps.trans h⟩
  · exact Or.inr ⟨q, vm₁, B, X₁.warmed, X', hpost, hstep₁ _ fun acts => by rw [doInvoke_state]; exact hsteps⟩
theorem vx_callVW (X : Stand p l e R s m args below meth c T locs cells slots) (hexec : p.tables.exec = Jvm.exec) {own C : String} {index : Nat} {y : MethodName} {bytes : ByteArray} {maxL : Nat} {ret : Option FieldType} {hh : List (Nat × Nat × Nat × Nat)}
    (hown : s.vm.findClass own = some m.cls) (hlink : (Cond.methodLink own index y).before args s = true) (hinst : (Cond.instanceMethod y).before args s = true) (hsel : (Cond.selects C y y).before args s = true)
    (hcode : (Cond.codeWith y bytes maxL ret hh).before args s = true) (hy : y.cls ≠ "java/lang/invoke/MethodHandle" ∧ y.cls ≠ "java/lang/invoke/VarHandle")
    {W9 : Nat} {Pre : Pt → Array Value → Prop} {Post : Pt → Array Value → Option Value → Pt → Prop} (hK : Back l R p e below s args y 3 W9 Pre Post)
    {b : Addr} {cellB : Cell} (hcell : T.heap[b]? = some cellB) (hobj : cellB.vm.isStatics = false) (hcls : s.vm.findClass C = some cellB.cls)
    {g : JFrame} (hg : g.method = m) (hsize : g.locals.size = c.maxLocals) {argsL rest : List Value} (hlen : ∀ sig, parseMethodDescriptor y.desc = some sig → argsL.length = sig.parameters.length)
    (hstack : g.stack = argsL.reverse ++ .ref b :: rest) (hW : 2 * g.monitorRoom + (rest.map fun v => v.category).sum ≤ W9) (hdg : decode c.code g.pc = .ok (.invokevirtual index, 3))
    (hpre : ∀ vm₁, s.WarmedH vm₁ → Pre ⟨T.setVm vm₁, locs, cells, slots⟩ (Value.ref b :: argsL).toArray) :
    ∃ (v : Option Value) (vm₁ : Vm) (B : Pt), s.WarmedH vm₁ ∧ Stand p l e R s m args below meth c B.U B.locs B.cells B.slots ∧ Post ⟨T.setVm vm₁, locs, cells, slots⟩ (Value.ref b :: argsL).toArray v B ∧
      ∀ target, Steps p.tables e below (B.U.setTop { g with pc := g.pc + 3, stack := v.toList ++ rest }) target → Steps p.tables e below (T.setTop g) target := by
  obtain ⟨mk, methM, hnamed, hmethM, hstM, habM⟩ := Cond.instanceMethod_spec hinst
  obtain ⟨m8, methM', cM, hn8, hmethM', -, -, -, -, -, -, hsigM⟩ := Cond.codeWith_spec hcode
  cases Option.some.inj (hn8.symm.trans hnamed)
  cases hmethM.symm.trans hmethM'
  obtain ⟨c2, r2, m2, q1, q2, q3, q4, kP, hkP, hkPi⟩ := Cond.selects_spec hsel
  cases hcls.symm.trans q1
  cases (State.methodFound?_of_named hnamed hy).symm.trans q2
  cases hnamed.symm.trans q3
  have hselP : selectMethod e.platform s.vm cellB.cls mk = .method mk := by rw [Launch.admits_selectMethod X.admits]; exact q4
  obtain ⟨vm₁, X₁, hstep₁⟩ := X.invokevirtual hexec hown hlink hnamed hmethM hstM hkP hkPi hy (a := b) (cell := cellB) hcell
    (fun z h => by rw [h] at hobj; cases hobj) hselP hmethM habM hkP hkPi (g := g) hg (argsL := argsL) (rest := rest) (hlen _ hsigM) hstack hdg
  obtain ⟨v, B, X', hpost, hsteps⟩ := hK m meth c ⟨T.setVm vm₁, locs, cells, slots⟩ { g with stack := rest } (.invokevirtual index) mk (Value.ref b :: argsL).toArray X₁ hg hsize hdg hW (X₁.named hnamed) (hpre vm₁ X₁.warmed)
  exact ⟨v, vm₁, B, X₁.warmed, X', hpost, fun target h => hstep₁ _ fun acts => by rw [doInvoke_state]; exact hsteps.trans h⟩
abbrev vx_CVW (R : Room) (s : State) (args : Array Value) (own C : String) (index : Nat) (y : MethodName) (bytes : ByteArray) (maxL : Nat) (ret : Option FieldType) (hh : List (Nat × Nat × Nat × Nat)) (ws : List Cond) (rm : Room) (mc ms n : Nat) : Prop :=
  (rm.cells = mc ∧ rm.slots = ms ∧ rm.frames + 1 ≤ R.frames ∧ 8 + (maxL + 11) + rm.locals ≤ R.locals ∧ (∀ w ∈ ws, ∀ (a' : Array Value) (U : State), s.WarmedH U.vm → w.before a' U = true) ∧ Cond.codeWith y bytes maxL ret hh ∈ ws) ∧
  (Cond.codeWith y bytes maxL ret hh).before args s = true ∧ (Cond.initialized y.cls).before args s = true ∧ (y.cls ≠ "java/lang/invoke/MethodHandle" ∧ y.cls ≠ "java/lang/invoke/VarHandle") ∧
  (∀ sig, parseMethodDescriptor y.desc = some sig → n = sig.parameters.length) ∧ (Cond.methodLink own index y).before args s = true ∧ (Cond.instanceMethod y).before args s = true ∧ (Cond.selects C y y).before args s = true
theorem vx_cwVW {own C : String} {index maxL mc ms : Nat} {y : MethodName} {bytes : ByteArray} {ret : Option FieldType} {hh : List (Nat × Nat × Nat × Nat)} {Ts ws ws' : List Cond} {rm : Room} (n : Nat) (ht : ∀ w ∈ Ts, w.before args s = true) (hT : GoodIn Ts (wsV own index C y ws)) (hw : ws = Cond.codeWith y bytes maxL ret hh :: ws') (hrc : rm.cells = mc) (hrs : rm.slots = ms)
    (hd : y.cls = C ∧ y.cls ≠ "java/lang/invoke/MethodHandle" ∧ y.cls ≠ "java/lang/invoke/VarHandle" ∧ (parseMethodDescriptor y.desc).map (fun d => d.parameters.length) = some n) (hR : rm.frames + 1 ≤ R.frames ∧ 8 + (maxL + 11) + rm.locals ≤ R.locals) :
    vx_CVW R s args own C index y bytes maxL ret hh ws rm mc ms n := by
  obtain ⟨hC, hd⟩ := hd
  subst hC
  have ok : ∀ w ∈ wsV own index y.cls y ws, w.before args s = true := fun w h => ht w (hT w h).1
  have hG : GoodIn Ts ws := fun w h => hT w (by unfold wsV; exact List.mem_append_right _ h)
  have hc : Cond.codeWith y bytes maxL ret hh ∈ ws := by rw [hw]; exact List.mem_cons_self
  refine ⟨⟨hrc, hrs, hR.1, hR.2, pay_in ht hG, hc⟩, ht _ (hG _ hc).1, ok _ (by simp [wsV]), ⟨hd.1, hd.2.1⟩, fun sig h => ?_, ok _ (by simp [wsV]), ok _ (by simp [wsV]), ok _ (by simp [wsV])⟩
  have h2 := hd.2.2
  rw [h] at h2
  exact (Option.some.inj h2).symm
theorem vx_runVW {y : MethodName} {bytes cc : ByteArray} {maxL nL mc ms n index : Nat} {ret : Option FieldType} {hh : List (Nat × Nat × Nat × Nat)} {ws : List Cond} {rm : Room} {Pc : Array Value → State → Prop} {Qc : Array Value → State → Outcome → State → Prop} {free : Addr → Prop} {Ts : List Cond} {own C : String} {b : Addr} {As rest : List Value} {g : JFrame}
    (S : CallFix p m c cc nL s args Ts own) (hM : Met l y ws rm Pc Qc mc ms free) (cw : vx_CVW R s args own C index y bytes maxL ret hh ws rm mc ms n) (hp : PreV s H C b Pc As)
    (hg : g.method = m) (hn : As.length = n) (hsize : g.locals.size = nL) (hstack : g.stack = As.reverse ++ .ref b :: rest) (hW : 2 * g.monitorRoom + (rest.map fun v => v.category).sum ≤ 8) (hdg : decode cc g.pc = .ok (.invokevirtual index, 3)) (hf : cells + mc ≤ R.cells ∧ slots + ms ≤ R.slots) :
    va_Run p l e R s m args below meth c H locs cells slots mc ms g rest (Qc (Value.ref b :: As).toArray) free := by
  obtain ⟨⟨hrc, hrs, hfr, hlo, hws, hcw⟩, hcode, hini, hy, hlen, hl, hin, hse⟩ := cw
  have hK : Back l R p e below s args y 3 8 (PreOf R mc ms Pc) (PostOf Qc mc ms free) := va_backW (hh := hh) (bytes := bytes) (maxL := maxL) (ret := ret) hM hp.1 hrc hrs hfr hlo hws hcw (fun a' U hW => word_at hW (Or.inl (by first | rfl | simp [Cond.onTables, Cond.keeps, Cond.steady])) hini)
  obtain ⟨hx, hb, hml, ho, -⟩ := S
  obtain ⟨-, ⟨cellB, hcB, hoB, hclB⟩, hPc⟩ := hp
  intro T hT X
  obtain ⟨v, vm₁, ⟨U', l2, c2, s2⟩, hW₁, X', ⟨g', mk, t, L, e1, e2, hq, h1, hL, h2, h3⟩, st⟩ := vx_callVW X hx (C := C) (hh := hh) (bytes := bytes) (maxL := maxL) (ret := ret) ho hl hin hse hcode hy hK (by rw [hT]; exact hcB) hoB hclB hg (hsize.trans hml.symm) (argsL := As) (rest := rest) (fun sig h => hn.trans (hlen sig h)) hstack hW (by rw [hb]; exact hdg)
    (fun vm₁ hW₁ => ⟨hf.1, hf.2, hPc (T.setVm vm₁) hT hW₁⟩)
  dsimp only [Pt.U, Pt.locs, Pt.cells, Pt.slots] at X' e1 e2 h1 h2 h3 st
  subst h1; subst h2; subst h3
  exact ⟨v, (T.setVm vm₁).calling g' mk (Value.ref b :: As).toArray, t, U', L, hT, X', hL, e1, e2, hq, st⟩
section
variable {y : MethodName} {bytes cc : ByteArray} {maxL nL mc ms n index : Nat} {ret : Option FieldType} {ws : List Cond} {rm : Room} {Pc : Array Value → State → Prop} {Qc : Array Value → State → Outcome → State → Prop} {XC : String → State → State → Prop} {free : Addr → Prop} {Ts : List Cond} {own C : String} {b : Addr} {As rest : List Value} {g : JFrame}
theorem vx_runVX {hh : List (Nat × Nat × Nat × Nat)} (S : CallFix p m c cc nL s args Ts own) (hM : vx_Met l y ws rm Pc Qc XC mc ms free) (cw : vx_CVW R s args own C index y bytes maxL ret hh ws rm mc ms n) (hp : PreV s H C b Pc As)
    (hg : g.method = m) (hn : As.length = n) (hsize : g.locals.size = nL) (hstack : g.stack = As.reverse ++ .ref b :: rest) (hW : 2 * g.monitorRoom + (rest.map fun v => v.category).sum ≤ 8) (hdg : decode cc g.pc = .ok (.invokevirtual index, 3)) (hf : cells + mc ≤ R.cells ∧ slots + ms ≤ R.slots) :
    vx_Run p l e R s m args below meth c H locs cells slots mc ms g rest (Qc (Value.ref b :: As).toArray) XC free := by
  obtain ⟨⟨hrc, hrs, hfr, hlo, hws, hcw⟩, hcode, hini, hy, hlen, hl, hin, hse⟩ := cw
  have hK : vx_Back l R p e below s args y 3 8 (PreOf R mc ms Pc) (PostOf Qc mc ms free) (vx_Post XC mc ms free) := vx_backW (hh := hh) (bytes := bytes) (maxL := maxL) (ret := ret) hM hp.1 hrc hrs hfr hlo hws hcw (fun a' U hW => word_at hW (Or.inl (by first | rfl | simp [Cond.onTables, Cond.keeps, Cond.steady])) hini)
  obtain ⟨hx, hb, hml, ho, -⟩ := S
  obtain ⟨-, ⟨cellB, hcB, hoB, hclB⟩, hPc⟩ := hp
  intro T hT X
  rcases vx_callVX X hx (C := C) (hh := hh) (bytes := bytes) (maxL := maxL) (ret := ret) ho hl hin hse hcode hy hK (by rw [hT]; exact hcB) hoB hclB hg (hsize.trans hml.symm) (argsL := As) (rest := rest) (fun sig h => hn.trans (hlen sig h)) hstack hW (by rw [hb]; exact hdg)
    (fun vm₁ hW₁ => ⟨hf.1, hf.2, hPc (T.setVm vm₁) hT hW₁⟩) with ⟨v, vm₁, ⟨U', l2, c2, s2⟩, hW₁, X', ⟨g', mk, t, L, e1, e2, hq, h1, hL, h2, h3⟩, st⟩ | ⟨q, vm₁, ⟨U', l2, c2, s2⟩, hW₁, X', ⟨g', mk, t, L, E, ce, e1, e2, hq, hce, hcv, hcl, h1, hL, h2, h3⟩, st⟩
  · dsimp only [Pt.U, Pt.locs, Pt.cells, Pt.slots] at X' e1 e2 h1 h2 h3 st
    subst h1; subst h2; subst h3
    exact Or.inl ⟨v, (T.setVm vm₁).calling g' mk (Value.ref b :: As).toArray, t, U', L, hT, X', hL, e1, e2, hq, st⟩
  · dsimp only [Pt.U, Pt.locs, Pt.cells, Pt.slots] at X' e1 e2 h1 h2 h3 st hcl
    subst h1; subst h2; subst h3
    exact Or.inr ⟨q, (T.setVm vm₁).calling g' mk (Value.ref b :: As).toArray, t, U', L, E, ce, hT, X', hL, e1, e2, hq, hce, hcv, vx_cls hW₁ hcl, st⟩
theorem vx_runSX {hh : List (Nat × Nat × Nat × Nat)} (S : CallFix p m c cc nL s args Ts own) (hM : vx_Met l y ws rm Pc Qc XC mc ms free) (cw : vx_CSW R s args own index y bytes maxL ret hh ws rm mc ms n) (hp : PreS s H Pc As)
    (hg : g.method = m) (hn : As.length = n) (hsize : g.locals.size = nL) (hstack : g.stack = As.reverse ++ rest) (hW : 2 * g.monitorRoom + (rest.map fun v => v.category).sum ≤ 8) (hdg : decode cc g.pc = .ok (.invokestatic index, 3)) (hf : cells + mc ≤ R.cells ∧ slots + ms ≤ R.slots) :
    vx_Run p l e R s m args below meth c H locs cells slots mc ms g rest (Qc As.toArray) XC free := by
  obtain ⟨⟨hrc, hrs, hfr, hlo, hws, hcw⟩, hcode, hini, hy, hlen, hl, hstt⟩ := cw
  have hK : vx_Back l R p e below s args y 3 8 (PreOf R mc ms Pc) (PostOf Qc mc ms free) (vx_Post XC mc ms free) := vx_backW (hh := hh) (bytes := bytes) (maxL := maxL) (ret := ret) hM hp.1 hrc hrs hfr hlo hws hcw (fun a' U hW => word_at hW (Or.inl (by first | rfl | simp [Cond.onTables, Cond.keeps, Cond.steady])) hini)
  obtain ⟨hx, hb, hml, ho, -⟩ := S
  intro T hT X
  rcases vx_callSX X hx (hh := hh) (bytes := bytes) (maxL := maxL) (ret := ret) ho hl hstt hini hcode hy hK hg (hsize.trans hml.symm) (argsL := As) (rest := rest) (fun sig h => hn.trans (hlen sig h)) hstack hW (by rw [hb]; exact hdg)
    (fun vm₁ hW₁ => ⟨hf.1, hf.2, hp.2 (T.setVm vm₁) hT hW₁⟩) with ⟨v, vm₁, ⟨U', l2, c2, s2⟩, hW₁, X', ⟨g', mk, t, L, e1, e2, hq, h1, hL, h2, h3⟩, st⟩ | ⟨q, vm₁, ⟨U', l2, c2, s2⟩, hW₁, X', ⟨g', mk, t, L, E, ce, e1, e2, hq, hce, hcv, hcl, h1, hL, h2, h3⟩, st⟩
  · dsimp only [Pt.U, Pt.locs, Pt.cells, Pt.slots] at X' e1 e2 h1 h2 h3 st
    subst h1; subst h2; subst h3
    exact Or.inl ⟨v, (T.setVm vm₁).calling g' mk As.toArray, t, U', L, hT, X', hL, e1, e2, hq, st⟩
  · dsimp only [Pt.U, Pt.locs, Pt.cells, Pt.slots] at X' e1 e2 h1 h2 h3 st hcl
    subst h1; subst h2; subst h3
    exact Or.inr ⟨q, (T.setVm vm₁).calling g' mk As.toArray, t, U', L, E, ce, hT, X', hL, e1, e2, hq, hce, hcv, vx_cls hW₁ hcl, st⟩
end
end VXH
theorem vx_ofWH {l : Launch} {y : MethodName} {ws ws' : List Cond} {rm : Room} {Pc : Array Value → State → Prop} {Qc : Array Value → State → Outcome → State → Prop} {XC : String → State → State → Prop} {mc ms : Nat} {free : Addr → Prop} {cc : ByteArray} {maxL : Nat} {ret : Option FieldType} {hh : List (Nat × Nat × Nat × Nat)}
    (hy : plainName y.cls = true) (hw : ws = Cond.codeWith y cc maxL ret hh :: ws')
    (body : ∀ p e s m args below meth c s₁, BodyLoose p l y (headSpec ws rm) cc maxL ret e s m args below meth c s₁ → c.maxLocals = maxL → Pc args s →
      W p l e (headSpec ws rm).room s m args below meth c s.heap [] 0 0 (vx_MQ below Qc XC args s mc ms free) (entryFrame m args maxL)) : vx_Met l y ws rm Pc Qc XC mc ms free := by
  refine MetFree.of_bodyS (code := cc) (maxLocals := maxL) (ret := ret) hy ?_ ?_
  · intro args s m h hn
    obtain ⟨m9, meth, c, hn9, h1, h2, h3, h4, -, h5, h6, -⟩ := Cond.codeWith_spec (atoms_spec (ws := ws) h _ (by rw [hw]; exact List.mem_cons_self))
    cases hn.symm.trans hn9
    exact ⟨meth, c, h1, h2, h3, h4, h5, h6⟩
  · intro p e s m args below meth c s₁ B hml hP _
    have hh0 : s₁.heap = s.heap := by rw [B.state]; rfl
    obtain ⟨t, a1, o, b1, b2, b3⟩ := body p e s m args below meth c s₁ B hml hP s₁ hh0 (Stand.of_body B)
    exact ⟨t, o, a1, b1, b2, b3⟩
/-! ===== END ===== -/
end
section
/-! names out of the claim's printed names: classes, fields, codes -/
def RX0 : String := "GapSets$Blocks"
def TX0 : u_T := fun k => match k with
  | 0 => ("GapSets$Blocks", "starts", "[I", true)
  | 1 => ("GapSets$Blocks", "amount", "I", false)
  | _ => ("GapSets$Blocks", "members", "LGapSets$Members;", false)
def tyX0 : Nat → FieldType := fun k => match k with
  | 0 => .array .int
  | 1 => .int
  | _ => .object "GapSets$Members"
theorem nmX0 : ∀ a, a < 3 → ∀ b, b < 3 → a ≠ b → (TX0 a).2.1 ≠ (TX0 b).2.1 := by decide +kernel
theorem tyX0_ok : ∀ k, k < 3 → parseFieldDescriptor (TX0 k).2.2.1 = some (tyX0 k) := by decide +kernel
abbrev cX0_init : ByteArray := prog_2_method_1_code
def yX0_init : MethodName := ⟨RX0, "<init>", "()V"⟩
abbrev cX0_cut : ByteArray := prog_2_method_2_code
def yX0_cut : MethodName := ⟨RX0, "cut", "(LGapSets$State;I)I"⟩
abbrev cX0_amount : ByteArray := prog_2_method_3_code
def yX0_amount : MethodName := ⟨RX0, "amount", "()I"⟩
abbrev cX0_putStart : ByteArray := prog_2_method_4_code
def yX0_putStart : MethodName := ⟨RX0, "putStart", "(II)V"⟩
abbrev cX0_start : ByteArray := prog_2_method_5_code
def yX0_start : MethodName := ⟨RX0, "start", "(I)I"⟩
abbrev cX0_end : ByteArray := prog_2_method_6_code
def yX0_end : MethodName := ⟨RX0, "end", "(I)I"⟩
abbrev cX0_base : ByteArray := prog_2_method_7_code
def yX0_base : MethodName := ⟨RX0, "base", "(I)I"⟩
abbrev cX0_membersIn : ByteArray := prog_2_method_8_code
def yX0_membersIn : MethodName := ⟨RX0, "membersIn", "(I)I"⟩
abbrev cX0_greatestIn : ByteArray := prog_2_method_9_code
def yX0_greatestIn : MethodName := ⟨RX0, "greatestIn", "(I)I"⟩
abbrev cX0_bytesOf : ByteArray := prog_2_method_10_code
def yX0_bytesOf : MethodName := ⟨RX0, "bytesOf", "(I)I"⟩
abbrev cX0_greatestGapIn : ByteArray := prog_2_method_11_code
def yX0_greatestGapIn : MethodName := ⟨RX0, "greatestGapIn", "(I)I"⟩
abbrev cX0_wideGaps : ByteArray := prog_2_method_12_code
def yX0_wideGaps : MethodName := ⟨RX0, "wideGaps", "()I"⟩
abbrev cX0_blockAt : ByteArray := prog_2_method_13_code
def yX0_blockAt : MethodName := ⟨RX0, "blockAt", "(I)I"⟩
def RX1 : String := "GapSets$Buffer"
def TX1 : u_T := fun k => match k with
  | 0 => ("GapSets$Buffer", "codes", "[I", true)
  | _ => ("GapSets$Buffer", "length", "I", false)
def tyX1 : Nat → FieldType := fun k => match k with
  | 0 => .array .int
  | _ => .int
theorem nmX1 : ∀ a, a < 2 → ∀ b, b < 2 → a ≠ b → (TX1 a).2.1 ≠ (TX1 b).2.1 := by decide +kernel
theorem tyX1_ok : ∀ k, k < 2 → parseFieldDescriptor (TX1 k).2.2.1 = some (tyX1 k) := by decide +kernel
abbrev cX1_init : ByteArray := prog_3_method_1_code
def yX1_init : MethodName := ⟨RX1, "<init>", "()V"⟩
abbrev cX1_length : ByteArray := prog_3_method_2_code
def yX1_length : MethodName := ⟨RX1, "length", "()I"⟩
abbrev cX1_at : ByteArray := prog_3_method_3_code
def yX1_at : MethodName := ⟨RX1, "at", "(I)I"⟩
abbrev cX1_put : ByteArray := prog_3_method_4_code
def yX1_put : MethodName := ⟨RX1, "put", "(I)V"⟩
abbrev cX1_empty : ByteArray := prog_3_method_5_code
def yX1_empty : MethodName := ⟨RX1, "empty", "()V"⟩
def RX2 : String := "GapSets$History"
def TX2 : u_T := fun k => match k with
  | 0 => ("GapSets$History", "ring", "[LGapSets$State;", true)
  | 1 => ("GapSets$History", "next", "I", false)
  | _ => ("GapSets$History", "amount", "I", false)
def tyX2 : Nat → FieldType := fun k => match k with
  | 0 => .array (.object "GapSets$State")
  | 1 => .int
  | _ => .int
theorem nmX2 : ∀ a, a < 3 → ∀ b, b < 3 → a ≠ b → (TX2 a).2.1 ≠ (TX2 b).2.1 := by decide +kernel
theorem tyX2_ok : ∀ k, k < 3 → parseFieldDescriptor (TX2 k).2.2.1 = some (tyX2 k) := by decide +kernel
abbrev cX2_init : ByteArray := prog_4_method_1_code
def yX2_init : MethodName := ⟨RX2, "<init>", "()V"⟩
abbrev cX2_amount : ByteArray := prog_4_method_2_code
def yX2_amount : MethodName := ⟨RX2, "amount", "()I"⟩
abbrev cX2_save : ByteArray := prog_4_method_3_code
def yX2_save : MethodName := ⟨RX2, "save", "(LGapSets$State;)V"⟩
abbrev cX2_restore : ByteArray := prog_4_method_4_code
def yX2_restore : MethodName := ⟨RX2, "restore", "(LGapSets$State;)V"⟩
abbrev cX2_slotAt : ByteArray := prog_4_method_5_code
def yX2_slotAt : MethodName := ⟨RX2, "slotAt", "(I)LGapSets$State;"⟩
def RX3 : String := "GapSets$Leaper"
def TX3 : u_T := fun k => match k with
  | 0 => ("GapSets$Leaper", "blocks", "LGapSets$Blocks;", true)
  | 1 => ("GapSets$Leaper", "members", "LGapSets$Members;", false)
  | 2 => ("GapSets$Leaper", "place", "I", false)
  | 3 => ("GapSets$Leaper", "leaps", "I", false)
  | _ => ("GapSets$Leaper", "looks", "I", false)
def tyX3 : Nat → FieldType := fun k => match k with
  | 0 => .object "GapSets$Blocks"
  | 1 => .object "GapSets$Members"
  | 2 => .int
  | 3 => .int
  | _ => .int
theorem nmX3 : ∀ a, a < 5 → ∀ b, b < 5 → a ≠ b → (TX3 a).2.1 ≠ (TX3 b).2.1 := by decide +kernel
theorem tyX3_ok : ∀ k, k < 5 → parseFieldDescriptor (TX3 k).2.2.1 = some (tyX3 k) := by decide +kernel
abbrev cX3_init : ByteArray := prog_5_method_1_code
def yX3_init : MethodName := ⟨RX3, "<init>", "()V"⟩
abbrev cX3_begin : ByteArray := prog_5_method_2_code
def yX3_begin : MethodName := ⟨RX3, "begin", "(LGapSets$State;I)V"⟩
abbrev cX3_reached : ByteArray := prog_5_method_3_code
def yX3_reached : MethodName := ⟨RX3, "reached", "()I"⟩
abbrev cX3_allLeaps : ByteArray := prog_5_method_4_code
def yX3_allLeaps : MethodName := ⟨RX3, "allLeaps", "()I"⟩
abbrev cX3_allLooks : ByteArray := prog_5_method_5_code
def yX3_allLooks : MethodName := ⟨RX3, "allLooks", "()I"⟩
abbrev cX3_steps : ByteArray := prog_5_method_6_code
def yX3_steps : MethodName := ⟨RX3, "steps", "()Z"⟩
abbrev cX3_leapsTo : ByteArray := prog_5_method_7_code
def yX3_leapsTo : MethodName := ⟨RX3, "leapsTo", "(I)Z"⟩
abbrev cX3_lookForBlock : ByteArray := prog_5_method_8_code
def yX3_lookForBlock : MethodName := ⟨RX3, "lookForBlock", "(I)I"⟩
def RX4 : String := "GapSets$Meeting"
def TX4 : u_T := fun k => match k with
  | 0 => ("GapSets$Meeting", "first", "LGapSets$Leaper;", true)
  | 1 => ("GapSets$Meeting", "second", "LGapSets$Leaper;", true)
  | _ => ("GapSets$Meeting", "common", "I", false)
def tyX4 : Nat → FieldType := fun k => match k with
  | 0 => .object "GapSets$Leaper"
  | 1 => .object "GapSets$Leaper"
  | _ => .int
theorem nmX4 : ∀ a, a < 3 → ∀ b, b < 3 → a ≠ b → (TX4 a).2.1 ≠ (TX4 b).2.1 := by decide +kernel
theorem tyX4_ok : ∀ k, k < 3 → parseFieldDescriptor (TX4 k).2.2.1 = some (tyX4 k) := by decide +kernel
abbrev cX4_init : ByteArray := prog_6_method_1_code
def yX4_init : MethodName := ⟨RX4, "<init>", "()V"⟩
abbrev cX4_run : ByteArray := prog_6_method_2_code
def yX4_run : MethodName := ⟨RX4, "run", "(LGapSets$State;II)V"⟩
abbrev cX4_result : ByteArray := prog_6_method_3_code
def yX4_result : MethodName := ⟨RX4, "result", "(I)I"⟩
def RX5 : String := "GapSets$Members"
def TX5 : u_T := fun k => match k with
  | 0 => ("GapSets$Members", "numbers", "[I", true)
  | _ => ("GapSets$Members", "amount", "I", false)
def tyX5 : Nat → FieldType := fun k => match k with
  | 0 => .array .int
  | _ => .int
theorem nmX5 : ∀ a, a < 2 → ∀ b, b < 2 → a ≠ b → (TX5 a).2.1 ≠ (TX5 b).2.1 := by decide +kernel
theorem tyX5_ok : ∀ k, k < 2 → parseFieldDescriptor (TX5 k).2.2.1 = some (tyX5 k) := by decide +kernel
abbrev cX5_init : ByteArray := prog_7_method_1_code
def yX5_init : MethodName := ⟨RX5, "<init>", "(I)V"⟩
abbrev cX5_amount : ByteArray := prog_7_method_2_code
def yX5_amount : MethodName := ⟨RX5, "amount", "()I"⟩
abbrev cX5_isEmpty : ByteArray := prog_7_method_3_code
def yX5_isEmpty : MethodName := ⟨RX5, "isEmpty", "()Z"⟩
abbrev cX5_at : ByteArray := prog_7_method_4_code
def yX5_at : MethodName := ⟨RX5, "at", "(I)I"⟩
abbrev cX5_least : ByteArray := prog_7_method_5_code
def yX5_least : MethodName := ⟨RX5, "least", "()I"⟩
abbrev cX5_greatest : ByteArray := prog_7_method_6_code
def yX5_greatest : MethodName := ⟨RX5, "greatest", "()I"⟩
abbrev cX5_gapAhead : ByteArray := prog_7_method_7_code
def yX5_gapAhead : MethodName := ⟨RX5, "gapAhead", "(I)I"⟩
abbrev cX5_placeOf : ByteArray := prog_7_method_8_code
def yX5_placeOf : MethodName := ⟨RX5, "placeOf", "(I)I"⟩
abbrev cX5_holds : ByteArray := prog_7_method_9_code
def yX5_holds : MethodName := ⟨RX5, "holds", "(I)Z"⟩
abbrev cX5_nearestTo : ByteArray := prog_7_method_10_code
def yX5_nearestTo : MethodName := ⟨RX5, "nearestTo", "(I)I"⟩
abbrev cX5_longestRow : ByteArray := prog_7_method_11_code
def yX5_longestRow : MethodName := ⟨RX5, "longestRow", "()I"⟩
abbrev cX5_isLike : ByteArray := prog_7_method_12_code
def yX5_isLike : MethodName := ⟨RX5, "isLike", "(LGapSets$Members;)Z"⟩
abbrev cX5_beginsBlock : ByteArray := prog_7_method_13_code
def yX5_beginsBlock : MethodName := ⟨RX5, "beginsBlock", "(IIII)Z"⟩
abbrev cX5_bytes : ByteArray := prog_7_method_14_code
def yX5_bytes : MethodName := ⟨RX5, "bytes", "(II)I"⟩
abbrev cX5_empty : ByteArray := prog_7_method_15_code
def yX5_empty : MethodName := ⟨RX5, "empty", "()V"⟩
abbrev cX5_put : ByteArray := prog_7_method_16_code
def yX5_put : MethodName := ⟨RX5, "put", "(I)V"⟩
abbrev cX5_cutOut : ByteArray := prog_7_method_17_code
def yX5_cutOut : MethodName := ⟨RX5, "cutOut", "(II)I"⟩
abbrev cX5_moveBy : ByteArray := prog_7_method_18_code
def yX5_moveBy : MethodName := ⟨RX5, "moveBy", "(I)V"⟩
abbrev cX5_copyFrom : ByteArray := prog_7_method_19_code
def yX5_copyFrom : MethodName := ⟨RX5, "copyFrom", "(LGapSets$Members;)V"⟩
def RX6 : String := "GapSets$Parser"
def TX6 : u_T := fun k => match k with
  | 0 => ("GapSets$Parser", "firsts", "[I", true)
  | 1 => ("GapSets$Parser", "lasts", "[I", true)
  | 2 => ("GapSets$Parser", "parts", "I", false)
  | 3 => ("GapSets$Parser", "isRange", "Z", false)
  | 4 => ("GapSets$Parser", "first", "I", false)
  | 5 => ("GapSets$Parser", "least", "I", false)
  | 6 => ("GapSets$Parser", "value", "I", false)
  | _ => ("GapSets$Parser", "digits", "I", false)
def tyX6 : Nat → FieldType := fun k => match k with
  | 0 => .array .int
  | 1 => .array .int
  | 2 => .int
  | 3 => .boolean
  | 4 => .int
  | 5 => .int
  | 6 => .int
  | _ => .int
theorem nmX6 : ∀ a, a < 8 → ∀ b, b < 8 → a ≠ b → (TX6 a).2.1 ≠ (TX6 b).2.1 := by decide +kernel
theorem tyX6_ok : ∀ k, k < 8 → parseFieldDescriptor (TX6 k).2.2.1 = some (tyX6 k) := by decide +kernel
abbrev cX6_init : ByteArray := prog_8_method_1_code
def yX6_init : MethodName := ⟨RX6, "<init>", "()V"⟩
abbrev cX6_parse : ByteArray := prog_8_method_2_code
def yX6_parse : MethodName := ⟨RX6, "parse", "(LGapSets$Buffer;)I"⟩
abbrev cX6_parsesWhole : ByteArray := prog_8_method_3_code
def yX6_parsesWhole : MethodName := ⟨RX6, "parsesWhole", "(LGapSets$Buffer;)Z"⟩
abbrev cX6_amount : ByteArray := prog_8_method_4_code
def yX6_amount : MethodName := ⟨RX6, "amount", "()I"⟩
abbrev cX6_fill : ByteArray := prog_8_method_5_code
def yX6_fill : MethodName := ⟨RX6, "fill", "(LGapSets$Members;)V"⟩
abbrev cX6_restart : ByteArray := prog_8_method_6_code
def yX6_restart : MethodName := ⟨RX6, "restart", "()V"⟩
abbrev cX6_beginNumber : ByteArray := prog_8_method_7_code
def yX6_beginNumber : MethodName := ⟨RX6, "beginNumber", "(I)V"⟩
abbrev cX6_takes : ByteArray := prog_8_method_8_code
def yX6_takes : MethodName := ⟨RX6, "takes", "(I)Z"⟩
abbrev cX6_takesComma : ByteArray := prog_8_method_9_code
def yX6_takesComma : MethodName := ⟨RX6, "takesComma", "()Z"⟩
abbrev cX6_takesDash : ByteArray := prog_8_method_10_code
def yX6_takesDash : MethodName := ⟨RX6, "takesDash", "()Z"⟩
abbrev cX6_takesDigit : ByteArray := prog_8_method_11_code
def yX6_takesDigit : MethodName := ⟨RX6, "takesDigit", "(I)Z"⟩
abbrev cX6_isWhole : ByteArray := prog_8_method_12_code
def yX6_isWhole : MethodName := ⟨RX6, "isWhole", "()Z"⟩
abbrev cX6_closePart : ByteArray := prog_8_method_13_code
def yX6_closePart : MethodName := ⟨RX6, "closePart", "()V"⟩
abbrev cX6_greatestFrom : ByteArray := prog_8_method_14_code
def yX6_greatestFrom : MethodName := ⟨RX6, "greatestFrom", "(II)I"⟩
def RX7 : String := "GapSets$State"
def TX7 : u_T := fun k => match k with
  | 0 => ("GapSets$State", "sets", "[LGapSets$Members;", true)
  | 1 => ("GapSets$State", "noSet", "LGapSets$Members;", true)
  | _ => ("GapSets$State", "settings", "[I", true)
def tyX7 : Nat → FieldType := fun k => match k with
  | 0 => .array (.object "GapSets$Members")
  | 1 => .object "GapSets$Members"
  | _ => .array .int
theorem nmX7 : ∀ a, a < 3 → ∀ b, b < 3 → a ≠ b → (TX7 a).2.1 ≠ (TX7 b).2.1 := by decide +kernel
theorem tyX7_ok : ∀ k, k < 3 → parseFieldDescriptor (TX7 k).2.2.1 = some (tyX7 k) := by decide +kernel
abbrev cX7_init : ByteArray := prog_9_method_1_code
def yX7_init : MethodName := ⟨RX7, "<init>", "()V"⟩
abbrev cX7_members : ByteArray := prog_9_method_2_code
def yX7_members : MethodName := ⟨RX7, "members", "(I)LGapSets$Members;"⟩
abbrev cX7_valueOf : ByteArray := prog_9_method_3_code
def yX7_valueOf : MethodName := ⟨RX7, "valueOf", "(I)I"⟩
abbrev cX7_change : ByteArray := prog_9_method_4_code
def yX7_change : MethodName := ⟨RX7, "change", "(II)V"⟩
abbrev cX7_copyFrom : ByteArray := prog_9_method_5_code
def yX7_copyFrom : MethodName := ⟨RX7, "copyFrom", "(LGapSets$State;)V"⟩
def RX8 : String := "GapSets"
def TX8 : u_T := fun k => match k with
  | 0 => ("GapSets", "now", "LGapSets$State;", true)
  | 1 => ("GapSets", "history", "LGapSets$History;", true)
  | 2 => ("GapSets", "buffer", "LGapSets$Buffer;", true)
  | 3 => ("GapSets", "parser", "LGapSets$Parser;", true)
  | 4 => ("GapSets", "blocks", "LGapSets$Blocks;", true)
  | 5 => ("GapSets", "meeting", "LGapSets$Meeting;", true)
  | 6 => ("GapSets", "trial", "LGapSets$Members;", true)
  | _ => ("GapSets", "widths", "LGapSets$Members;", true)
def tyX8 : Nat → FieldType := fun k => match k with
  | 0 => .object "GapSets$State"
  | 1 => .object "GapSets$History"
  | 2 => .object "GapSets$Buffer"
  | 3 => .object "GapSets$Parser"
  | 4 => .object "GapSets$Blocks"
  | 5 => .object "GapSets$Meeting"
  | 6 => .object "GapSets$Members"
  | _ => .object "GapSets$Members"
theorem nmX8 : ∀ a, a < 8 → ∀ b, b < 8 → a ≠ b → (TX8 a).2.1 ≠ (TX8 b).2.1 := by decide +kernel
theorem tyX8_ok : ∀ k, k < 8 → parseFieldDescriptor (TX8 k).2.2.1 = some (tyX8 k) := by decide +kernel
abbrev cX8_init : ByteArray := prog_1_method_1_code
def yX8_init : MethodName := ⟨RX8, "<init>", "()V"⟩
abbrev cX8_add : ByteArray := prog_1_method_2_code
def yX8_add : MethodName := ⟨RX8, "add", "(II)I"⟩
abbrev cX8_remove : ByteArray := prog_1_method_3_code
def yX8_remove : MethodName := ⟨RX8, "remove", "(II)I"⟩
abbrev cX8_removeRange : ByteArray := prog_1_method_4_code
def yX8_removeRange : MethodName := ⟨RX8, "removeRange", "(III)I"⟩
abbrev cX8_shift : ByteArray := prog_1_method_5_code
def yX8_shift : MethodName := ⟨RX8, "shift", "(II)I"⟩
abbrev cX8_combine : ByteArray := prog_1_method_6_code
def yX8_combine : MethodName := ⟨RX8, "combine", "(IIII)I"⟩
abbrev cX8_set : ByteArray := prog_1_method_7_code
def yX8_set : MethodName := ⟨RX8, "set", "(II)I"⟩
abbrev cX8_append : ByteArray := prog_1_method_8_code
def yX8_append : MethodName := ⟨RX8, "append", "(I)I"⟩
abbrev cX8_clearBuffer : ByteArray := prog_1_method_9_code
def yX8_clearBuffer : MethodName := ⟨RX8, "clearBuffer", "()I"⟩
abbrev cX8_firstError : ByteArray := prog_1_method_10_code
def yX8_firstError : MethodName := ⟨RX8, "firstError", "()I"⟩
abbrev cX8_read : ByteArray := prog_1_method_11_code
def yX8_read : MethodName := ⟨RX8, "read", "(I)I"⟩
abbrev cX8_undo : ByteArray := prog_1_method_12_code
def yX8_undo : MethodName := ⟨RX8, "undo", "()I"⟩
abbrev cX8_has : ByteArray := prog_1_method_13_code
def yX8_has : MethodName := ⟨RX8, "has", "(II)I"⟩
abbrev cX8_member : ByteArray := prog_1_method_14_code
def yX8_member : MethodName := ⟨RX8, "member", "(II)I"⟩
abbrev cX8_less : ByteArray := prog_1_method_15_code
def yX8_less : MethodName := ⟨RX8, "less", "(II)I"⟩
abbrev cX8_nearest : ByteArray := prog_1_method_16_code
def yX8_nearest : MethodName := ⟨RX8, "nearest", "(II)I"⟩
abbrev cX8_block : ByteArray := prog_1_method_17_code
def yX8_block : MethodName := ⟨RX8, "block", "(III)I"⟩
abbrev cX8_of : ByteArray := prog_1_method_18_code
def yX8_of : MethodName := ⟨RX8, "of", "(II)I"⟩
abbrev cX8_leaps : ByteArray := prog_1_method_19_code
def yX8_leaps : MethodName := ⟨RX8, "leaps", "(III)I"⟩
abbrev cX8_count : ByteArray := prog_1_method_20_code
def yX8_count : MethodName := ⟨RX8, "count", "(I)I"⟩
abbrev cX8_setting : ByteArray := prog_1_method_21_code
def yX8_setting : MethodName := ⟨RX8, "setting", "(I)I"⟩
abbrev cX8_ifSet : ByteArray := prog_1_method_22_code
def yX8_ifSet : MethodName := ⟨RX8, "ifSet", "(III)I"⟩
abbrev cX8_ifAdded : ByteArray := prog_1_method_23_code
def yX8_ifAdded : MethodName := ⟨RX8, "ifAdded", "(II)I"⟩
abbrev cX8_dearest : ByteArray := prog_1_method_24_code
def yX8_dearest : MethodName := ⟨RX8, "dearest", "(II)I"⟩
abbrev cX8_bestWidth : ByteArray := prog_1_method_25_code
def yX8_bestWidth : MethodName := ⟨RX8, "bestWidth", "()I"⟩
abbrev cX8_smallness : ByteArray := prog_1_method_26_code
def yX8_smallness : MethodName := ⟨RX8, "smallness", "()D"⟩
abbrev cX8_digest : ByteArray := prog_1_method_27_code
def yX8_digest : MethodName := ⟨RX8, "digest", "()J"⟩
abbrev cX8_requireSet : ByteArray := prog_1_method_28_code
def yX8_requireSet : MethodName := ⟨RX8, "requireSet", "(I)V"⟩
abbrev cX8_requireSetting : ByteArray := prog_1_method_29_code
def yX8_requireSetting : MethodName := ⟨RX8, "requireSetting", "(I)V"⟩
abbrev cX8_requireNumber : ByteArray := prog_1_method_30_code
def yX8_requireNumber : MethodName := ⟨RX8, "requireNumber", "(I)V"⟩
abbrev cX8_requireArgument : ByteArray := prog_1_method_31_code
def yX8_requireArgument : MethodName := ⟨RX8, "requireArgument", "(Z)V"⟩
abbrev cX8_requireState : ByteArray := prog_1_method_32_code
def yX8_requireState : MethodName := ⟨RX8, "requireState", "(Z)V"⟩
abbrev cX8_isMost : ByteArray := prog_1_method_33_code
def yX8_isMost : MethodName := ⟨RX8, "isMost", "(I)Z"⟩
abbrev cX8_isWidth : ByteArray := prog_1_method_34_code
def yX8_isWidth : MethodName := ⟨RX8, "isWidth", "(I)Z"⟩
abbrev cX8_joinInto : ByteArray := prog_1_method_35_code
def yX8_joinInto : MethodName := ⟨RX8, "joinInto", "(LGapSets$Members;LGapSets$Members;LGapSets$Members;I)V"⟩
abbrev cX8_sizeOf : ByteArray := prog_1_method_36_code
def yX8_sizeOf : MethodName := ⟨RX8, "sizeOf", "(LGapSets$Members;)I"⟩
abbrev cX8_allMembers : ByteArray := prog_1_method_37_code
def yX8_allMembers : MethodName := ⟨RX8, "allMembers", "()I"⟩
abbrev cX8_unlikeMembers : ByteArray := prog_1_method_38_code
def yX8_unlikeMembers : MethodName := ⟨RX8, "unlikeMembers", "()I"⟩
abbrev cX8_membersOfAllFour : ByteArray := prog_1_method_39_code
def yX8_membersOfAllFour : MethodName := ⟨RX8, "membersOfAllFour", "()I"⟩
abbrev cX8_holdersAhead : ByteArray := prog_1_method_40_code
def yX8_holdersAhead : MethodName := ⟨RX8, "holdersAhead", "(II)I"⟩
abbrev cX8_allSizes : ByteArray := prog_1_method_41_code
def yX8_allSizes : MethodName := ⟨RX8, "allSizes", "(I)I"⟩
abbrev cX8_allBlocks : ByteArray := prog_1_method_42_code
def yX8_allBlocks : MethodName := ⟨RX8, "allBlocks", "()I"⟩
abbrev cX8_pairsAlike : ByteArray := prog_1_method_43_code
def yX8_pairsAlike : MethodName := ⟨RX8, "pairsAlike", "()I"⟩
abbrev cX8_gatherWidths : ByteArray := prog_1_method_44_code
def yX8_gatherWidths : MethodName := ⟨RX8, "gatherWidths", "()V"⟩
abbrev cX8_mix : ByteArray := prog_1_method_45_code
def yX8_mix : MethodName := ⟨RX8, "mix", "(JJ)J"⟩
abbrev cX8_mixMembers : ByteArray := prog_1_method_46_code
def yX8_mixMembers : MethodName := ⟨RX8, "mixMembers", "(JI)J"⟩
abbrev cX8_mixBlocks : ByteArray := prog_1_method_47_code
def yX8_mixBlocks : MethodName := ⟨RX8, "mixBlocks", "(JI)J"⟩
abbrev cX8_mixLooks : ByteArray := prog_1_method_48_code
def yX8_mixLooks : MethodName := ⟨RX8, "mixLooks", "(JI)J"⟩
abbrev cX8_mixBuffer : ByteArray := prog_1_method_49_code
def yX8_mixBuffer : MethodName := ⟨RX8, "mixBuffer", "(J)J"⟩
abbrev cX8_bitsOf : ByteArray := prog_1_method_50_code
def yX8_bitsOf : MethodName := ⟨RX8, "bitsOf", "(D)J"⟩
abbrev cX8_gapBytes : ByteArray := prog_1_method_51_code
def yX8_gapBytes : MethodName := ⟨RX8, "gapBytes", "(I)I"⟩
def RX9 : String := "GapSetsModel"
def TX9 : u_T := fun k => match k with
  | 0 => ("GapSetsModel", "z", "[I", true)
  | 1 => ("GapSetsModel", "states", "I", false)
  | 2 => ("GapSetsModel", "history", "[I", true)
  | 3 => ("GapSetsModel", "length", "I", false)
  | 4 => ("GapSetsModel", "text", "[I", true)
  | 5 => ("GapSetsModel", "thrown", "I", false)
  | 6 => ("GapSetsModel", "row", "[I", true)
  | 7 => ("GapSetsModel", "rowMany", "I", false)
  | 8 => ("GapSetsModel", "starts", "[I", true)
  | 9 => ("GapSetsModel", "blocks", "I", false)
  | 10 => ("GapSetsModel", "parts", "[I", true)
  | 11 => ("GapSetsModel", "read", "I", false)
  | 12 => ("GapSetsModel", "number", "I", false)
  | 13 => ("GapSetsModel", "bound", "I", false)
  | 14 => ("GapSetsModel", "isSecond", "Z", false)
  | 15 => ("GapSetsModel", "blockAt", "[I", true)
  | 16 => ("GapSetsModel", "told", "[I", true)
  | _ => ("GapSetsModel", "hash", "J", false)
def tyX9 : Nat → FieldType := fun k => match k with
  | 0 => .array .int
  | 1 => .int
  | 2 => .array .int
  | 3 => .int
  | 4 => .array .int
  | 5 => .int
  | 6 => .array .int
  | 7 => .int
  | 8 => .array .int
  | 9 => .int
  | 10 => .array .int
  | 11 => .int
  | 12 => .int
  | 13 => .int
  | 14 => .boolean
  | 15 => .array .int
  | 16 => .array .int
  | _ => .long
theorem nmX9 : ∀ a, a < 18 → ∀ b, b < 18 → a ≠ b → (TX9 a).2.1 ≠ (TX9 b).2.1 := by decide +kernel
theorem tyX9_ok : ∀ k, k < 18 → parseFieldDescriptor (TX9 k).2.2.1 = some (tyX9 k) := by decide +kernel
abbrev cX9_init : ByteArray := prog_11_method_1_code
def yX9_init : MethodName := ⟨RX9, "<init>", "()V"⟩
abbrev cX9_thrown : ByteArray := prog_11_method_2_code
def yX9_thrown : MethodName := ⟨RX9, "thrown", "()I"⟩
abbrev cX9_within : ByteArray := prog_11_method_3_code
def yX9_within : MethodName := ⟨RX9, "within", "(III)Z"⟩
abbrev cX9_save : ByteArray := prog_11_method_4_code
def yX9_save : MethodName := ⟨RX9, "save", "()V"⟩
abbrev cX9_isSet : ByteArray := prog_11_method_5_code
def yX9_isSet : MethodName := ⟨RX9, "isSet", "(I)Z"⟩
abbrev cX9_isNumber : ByteArray := prog_11_method_6_code
def yX9_isNumber : MethodName := ⟨RX9, "isNumber", "(I)Z"⟩
abbrev cX9_many : ByteArray := prog_11_method_7_code
def yX9_many : MethodName := ⟨RX9, "many", "(I)I"⟩
abbrev cX9_at : ByteArray := prog_11_method_8_code
def yX9_at : MethodName := ⟨RX9, "at", "(II)I"⟩
abbrev cX9_lessThan : ByteArray := prog_11_method_9_code
def yX9_lessThan : MethodName := ⟨RX9, "lessThan", "(II)I"⟩
abbrev cX9_isMember : ByteArray := prog_11_method_10_code
def yX9_isMember : MethodName := ⟨RX9, "isMember", "(II)Z"⟩
abbrev cX9_takeRow : ByteArray := prog_11_method_11_code
def yX9_takeRow : MethodName := ⟨RX9, "takeRow", "(I)V"⟩
abbrev cX9_layRow : ByteArray := prog_11_method_12_code
def yX9_layRow : MethodName := ⟨RX9, "layRow", "(I)V"⟩
abbrev cX9_layBlocks : ByteArray := prog_11_method_13_code
def yX9_layBlocks : MethodName := ⟨RX9, "layBlocks", "(II)V"⟩
abbrev cX9_blocksOf : ByteArray := prog_11_method_14_code
def yX9_blocksOf : MethodName := ⟨RX9, "blocksOf", "(I)V"⟩
abbrev cX9_bytesOf : ByteArray := prog_11_method_15_code
def yX9_bytesOf : MethodName := ⟨RX9, "bytesOf", "(I)I"⟩
abbrev cX9_bytes : ByteArray := prog_11_method_16_code
def yX9_bytes : MethodName := ⟨RX9, "bytes", "()I"⟩
abbrev cX9_sizeBy : ByteArray := prog_11_method_17_code
def yX9_sizeBy : MethodName := ⟨RX9, "sizeBy", "(III)I"⟩
abbrev cX9_sizeOf : ByteArray := prog_11_method_18_code
def yX9_sizeOf : MethodName := ⟨RX9, "sizeOf", "(I)I"⟩
abbrev cX9_insert : ByteArray := prog_11_method_19_code
def yX9_insert : MethodName := ⟨RX9, "insert", "(II)V"⟩
abbrev cX9_add : ByteArray := prog_11_method_20_code
def yX9_add : MethodName := ⟨RX9, "add", "(II)I"⟩
abbrev cX9_takeAway : ByteArray := prog_11_method_21_code
def yX9_takeAway : MethodName := ⟨RX9, "takeAway", "(III)I"⟩
abbrev cX9_remove : ByteArray := prog_11_method_22_code
def yX9_remove : MethodName := ⟨RX9, "remove", "(II)I"⟩
abbrev cX9_removeRange : ByteArray := prog_11_method_23_code
def yX9_removeRange : MethodName := ⟨RX9, "removeRange", "(III)I"⟩
abbrev cX9_leastOf : ByteArray := prog_11_method_24_code
def yX9_leastOf : MethodName := ⟨RX9, "leastOf", "(I)I"⟩
abbrev cX9_greatestOf : ByteArray := prog_11_method_25_code
def yX9_greatestOf : MethodName := ⟨RX9, "greatestOf", "(I)I"⟩
abbrev cX9_canShift : ByteArray := prog_11_method_26_code
def yX9_canShift : MethodName := ⟨RX9, "canShift", "(II)Z"⟩
abbrev cX9_shift : ByteArray := prog_11_method_27_code
def yX9_shift : MethodName := ⟨RX9, "shift", "(II)I"⟩
abbrev cX9_belongs : ByteArray := prog_11_method_28_code
def yX9_belongs : MethodName := ⟨RX9, "belongs", "(ZZI)Z"⟩
abbrev cX9_layCombined : ByteArray := prog_11_method_29_code
def yX9_layCombined : MethodName := ⟨RX9, "layCombined", "(III)V"⟩
abbrev cX9_combine : ByteArray := prog_11_method_30_code
def yX9_combine : MethodName := ⟨RX9, "combine", "(IIII)I"⟩
abbrev cX9_isMost : ByteArray := prog_11_method_31_code
def yX9_isMost : MethodName := ⟨RX9, "isMost", "(I)Z"⟩
abbrev cX9_isWidth : ByteArray := prog_11_method_32_code
def yX9_isWidth : MethodName := ⟨RX9, "isWidth", "(I)Z"⟩
abbrev cX9_set : ByteArray := prog_11_method_33_code
def yX9_set : MethodName := ⟨RX9, "set", "(II)I"⟩
abbrev cX9_append : ByteArray := prog_11_method_34_code
def yX9_append : MethodName := ⟨RX9, "append", "(I)I"⟩
abbrev cX9_clearBuffer : ByteArray := prog_11_method_35_code
def yX9_clearBuffer : MethodName := ⟨RX9, "clearBuffer", "()I"⟩
abbrev cX9_greatestFrom : ByteArray := prog_11_method_36_code
def yX9_greatestFrom : MethodName := ⟨RX9, "greatestFrom", "(I)I"⟩
abbrev cX9_takesDigit : ByteArray := prog_11_method_37_code
def yX9_takesDigit : MethodName := ⟨RX9, "takesDigit", "(I)Z"⟩
abbrev cX9_isEnded : ByteArray := prog_11_method_38_code
def yX9_isEnded : MethodName := ⟨RX9, "isEnded", "()Z"⟩
abbrev cX9_endNumber : ByteArray := prog_11_method_39_code
def yX9_endNumber : MethodName := ⟨RX9, "endNumber", "()V"⟩
abbrev cX9_takes : ByteArray := prog_11_method_40_code
def yX9_takes : MethodName := ⟨RX9, "takes", "(I)Z"⟩
abbrev cX9_rightUpTo : ByteArray := prog_11_method_41_code
def yX9_rightUpTo : MethodName := ⟨RX9, "rightUpTo", "()I"⟩
abbrev cX9_firstError : ByteArray := prog_11_method_42_code
def yX9_firstError : MethodName := ⟨RX9, "firstError", "()I"⟩
abbrev cX9_toldMany : ByteArray := prog_11_method_43_code
def yX9_toldMany : MethodName := ⟨RX9, "toldMany", "()I"⟩
abbrev cX9_read : ByteArray := prog_11_method_44_code
def yX9_read : MethodName := ⟨RX9, "read", "(I)I"⟩
abbrev cX9_undo : ByteArray := prog_11_method_45_code
def yX9_undo : MethodName := ⟨RX9, "undo", "()I"⟩
abbrev cX9_has : ByteArray := prog_11_method_46_code
def yX9_has : MethodName := ⟨RX9, "has", "(II)I"⟩
abbrev cX9_member : ByteArray := prog_11_method_47_code
def yX9_member : MethodName := ⟨RX9, "member", "(II)I"⟩
abbrev cX9_less : ByteArray := prog_11_method_48_code
def yX9_less : MethodName := ⟨RX9, "less", "(II)I"⟩
abbrev cX9_nearestTo : ByteArray := prog_11_method_49_code
def yX9_nearestTo : MethodName := ⟨RX9, "nearestTo", "(II)I"⟩
abbrev cX9_nearest : ByteArray := prog_11_method_50_code
def yX9_nearest : MethodName := ⟨RX9, "nearest", "(II)I"⟩
abbrev cX9_greatestGap : ByteArray := prog_11_method_51_code
def yX9_greatestGap : MethodName := ⟨RX9, "greatestGap", "(I)I"⟩
abbrev cX9_blockNow : ByteArray := prog_11_method_52_code
def yX9_blockNow : MethodName := ⟨RX9, "blockNow", "(III)I"⟩
abbrev cX9_block : ByteArray := prog_11_method_53_code
def yX9_block : MethodName := ⟨RX9, "block", "(III)I"⟩
abbrev cX9_longestRun : ByteArray := prog_11_method_54_code
def yX9_longestRun : MethodName := ⟨RX9, "longestRun", "(I)I"⟩
abbrev cX9_wideGaps : ByteArray := prog_11_method_55_code
def yX9_wideGaps : MethodName := ⟨RX9, "wideGaps", "(I)I"⟩
abbrev cX9_blockCount : ByteArray := prog_11_method_56_code
def yX9_blockCount : MethodName := ⟨RX9, "blockCount", "(I)I"⟩
abbrev cX9_setNow : ByteArray := prog_11_method_57_code
def yX9_setNow : MethodName := ⟨RX9, "setNow", "(II)I"⟩
abbrev cX9_of : ByteArray := prog_11_method_58_code
def yX9_of : MethodName := ⟨RX9, "of", "(II)I"⟩
abbrev cX9_leap : ByteArray := prog_11_method_59_code
def yX9_leap : MethodName := ⟨RX9, "leap", "(III)I"⟩
abbrev cX9_blockWith : ByteArray := prog_11_method_60_code
def yX9_blockWith : MethodName := ⟨RX9, "blockWith", "(II)I"⟩
abbrev cX9_goThrough : ByteArray := prog_11_method_61_code
def yX9_goThrough : MethodName := ⟨RX9, "goThrough", "(II)V"⟩
abbrev cX9_leapsNow : ByteArray := prog_11_method_62_code
def yX9_leapsNow : MethodName := ⟨RX9, "leapsNow", "(III)I"⟩
abbrev cX9_leaps : ByteArray := prog_11_method_63_code
def yX9_leaps : MethodName := ⟨RX9, "leaps", "(III)I"⟩
abbrev cX9_setsWith : ByteArray := prog_11_method_64_code
def yX9_setsWith : MethodName := ⟨RX9, "setsWith", "(II)I"⟩
abbrev cX9_membersOfAll : ByteArray := prog_11_method_65_code
def yX9_membersOfAll : MethodName := ⟨RX9, "membersOfAll", "(Z)I"⟩
abbrev cX9_sumOf : ByteArray := prog_11_method_66_code
def yX9_sumOf : MethodName := ⟨RX9, "sumOf", "(I)I"⟩
abbrev cX9_areAlike : ByteArray := prog_11_method_67_code
def yX9_areAlike : MethodName := ⟨RX9, "areAlike", "(II)Z"⟩
abbrev cX9_alikePairs : ByteArray := prog_11_method_68_code
def yX9_alikePairs : MethodName := ⟨RX9, "alikePairs", "()I"⟩
abbrev cX9_counted : ByteArray := prog_11_method_69_code
def yX9_counted : MethodName := ⟨RX9, "counted", "(I)I"⟩
abbrev cX9_count : ByteArray := prog_11_method_70_code
def yX9_count : MethodName := ⟨RX9, "count", "(I)I"⟩
abbrev cX9_setting : ByteArray := prog_11_method_71_code
def yX9_setting : MethodName := ⟨RX9, "setting", "(I)I"⟩
abbrev cX9_ifSet : ByteArray := prog_11_method_72_code
def yX9_ifSet : MethodName := ⟨RX9, "ifSet", "(III)I"⟩
abbrev cX9_addedThen : ByteArray := prog_11_method_73_code
def yX9_addedThen : MethodName := ⟨RX9, "addedThen", "(II)I"⟩
abbrev cX9_ifAdded : ByteArray := prog_11_method_74_code
def yX9_ifAdded : MethodName := ⟨RX9, "ifAdded", "(II)I"⟩
abbrev cX9_sizeWithout : ByteArray := prog_11_method_75_code
def yX9_sizeWithout : MethodName := ⟨RX9, "sizeWithout", "(II)I"⟩
abbrev cX9_dearestNow : ByteArray := prog_11_method_76_code
def yX9_dearestNow : MethodName := ⟨RX9, "dearestNow", "(II)I"⟩
abbrev cX9_dearest : ByteArray := prog_11_method_77_code
def yX9_dearest : MethodName := ⟨RX9, "dearest", "(II)I"⟩
abbrev cX9_sizesBy : ByteArray := prog_11_method_78_code
def yX9_sizesBy : MethodName := ⟨RX9, "sizesBy", "(I)I"⟩
abbrev cX9_bestNow : ByteArray := prog_11_method_79_code
def yX9_bestNow : MethodName := ⟨RX9, "bestNow", "()I"⟩
abbrev cX9_bestWidth : ByteArray := prog_11_method_80_code
def yX9_bestWidth : MethodName := ⟨RX9, "bestWidth", "()I"⟩
abbrev cX9_small : ByteArray := prog_11_method_81_code
def yX9_small : MethodName := ⟨RX9, "small", "()D"⟩
abbrev cX9_smallness : ByteArray := prog_11_method_82_code
def yX9_smallness : MethodName := ⟨RX9, "smallness", "()D"⟩
abbrev cX9_mix : ByteArray := prog_11_method_83_code
def yX9_mix : MethodName := ⟨RX9, "mix", "(J)V"⟩
abbrev cX9_mixSet : ByteArray := prog_11_method_84_code
def yX9_mixSet : MethodName := ⟨RX9, "mixSet", "(I)V"⟩
abbrev cX9_digest : ByteArray := prog_11_method_85_code
def yX9_digest : MethodName := ⟨RX9, "digest", "()J"⟩
def RL : String := "GapSetsLaw"
abbrev cL_add : ByteArray := method_3_code
def yL_add : MethodName := ⟨RL, "add", "(LGapSets;II[J)I"⟩
abbrev cL_remove : ByteArray := method_4_code
def yL_remove : MethodName := ⟨RL, "remove", "(LGapSets;II[J)I"⟩
abbrev cL_removeRange : ByteArray := method_5_code
def yL_removeRange : MethodName := ⟨RL, "removeRange", "(LGapSets;III[J)I"⟩
abbrev cL_shift : ByteArray := method_6_code
def yL_shift : MethodName := ⟨RL, "shift", "(LGapSets;II[J)I"⟩
abbrev cL_combine : ByteArray := method_7_code
def yL_combine : MethodName := ⟨RL, "combine", "(LGapSets;IIII[J)I"⟩
abbrev cL_set : ByteArray := method_8_code
def yL_set : MethodName := ⟨RL, "set", "(LGapSets;II[J)I"⟩
abbrev cL_append : ByteArray := method_9_code
def yL_append : MethodName := ⟨RL, "append", "(LGapSets;I[J)I"⟩
abbrev cL_read : ByteArray := method_10_code
def yL_read : MethodName := ⟨RL, "read", "(LGapSets;I[J)I"⟩
abbrev cL_undo : ByteArray := method_11_code
def yL_undo : MethodName := ⟨RL, "undo", "(LGapSets;[J)I"⟩
abbrev cL_has : ByteArray := method_12_code
def yL_has : MethodName := ⟨RL, "has", "(LGapSets;II[J)I"⟩
abbrev cL_member : ByteArray := method_13_code
def yL_member : MethodName := ⟨RL, "member", "(LGapSets;II[J)I"⟩
abbrev cL_less : ByteArray := method_14_code
def yL_less : MethodName := ⟨RL, "less", "(LGapSets;II[J)I"⟩
abbrev cL_nearest : ByteArray := method_15_code
def yL_nearest : MethodName := ⟨RL, "nearest", "(LGapSets;II[J)I"⟩
abbrev cL_block : ByteArray := method_16_code
def yL_block : MethodName := ⟨RL, "block", "(LGapSets;III[J)I"⟩
abbrev cL_of : ByteArray := method_17_code
def yL_of : MethodName := ⟨RL, "of", "(LGapSets;II[J)I"⟩
abbrev cL_leaps : ByteArray := method_18_code
def yL_leaps : MethodName := ⟨RL, "leaps", "(LGapSets;III[J)I"⟩
abbrev cL_count : ByteArray := method_19_code
def yL_count : MethodName := ⟨RL, "count", "(LGapSets;I[J)I"⟩
abbrev cL_setting : ByteArray := method_20_code
def yL_setting : MethodName := ⟨RL, "setting", "(LGapSets;I[J)I"⟩
abbrev cL_ifSet : ByteArray := method_21_code
def yL_ifSet : MethodName := ⟨RL, "ifSet", "(LGapSets;III[J)I"⟩
abbrev cL_ifAdded : ByteArray := method_22_code
def yL_ifAdded : MethodName := ⟨RL, "ifAdded", "(LGapSets;II[J)I"⟩
abbrev cL_dearest : ByteArray := method_23_code
def yL_dearest : MethodName := ⟨RL, "dearest", "(LGapSets;II[J)I"⟩
abbrev cL_law : ByteArray := code
def yL_law : MethodName := ⟨RL, "law", "([I)Z"⟩
abbrev vwCl : List vw_C := [(RX0, TX0, 3), (RX1, TX1, 2), (RX2, TX2, 3), (RX3, TX3, 5), (RX4, TX4, 3), (RX5, TX5, 2), (RX6, TX6, 8), (RX7, TX7, 3), (RX8, TX8, 8), (RX9, TX9, 18)]
end
section
/-! J: a method's frame over an abstract memory (addresses to objects and arrays, ints as integers); every row is one of the kit's rows -/
def iN (z : Int) : Int32 := Int32.ofInt z
def vI (z : Int) : Value := .int (iN z)
abbrev R32 (z : Int) : Prop := -2147483648 ≤ z ∧ z ≤ 2147483647
theorem iN_toInt {z : Int} (h : R32 z) : (iN z).toInt = z := by
  unfold iN
  rw [Int32.toInt_ofInt]
  show z.bmod (2 ^ 32) = z
  rw [Int.bmod_eq_of_le (by omega) (by omega)]
theorem iN_of (x : Int32) : x = iN x.toInt := (Int32.ofInt_toInt x).symm
theorem r32_of (x : Int32) : R32 x.toInt := by
  have h1 := Int32.le_toInt x
  have h2 := Int32.toInt_lt x
  constructor <;> omega
theorem iN_add (x y : Int) : iN x + iN y = iN (x + y) := (Int32.ofInt_add x y).symm
theorem iN_sub (x y : Int) : iN x - iN y = iN (x - y) := (Int32.ofInt_sub x y).symm
theorem iN_mul (x y : Int) : iN x * iN y = iN (x * y) := (Int32.ofInt_mul x y).symm
theorem iN_lt {x y : Int} (hx : R32 x) (hy : R32 y) : iN x < iN y ↔ x < y := by rw [Int32.lt_iff_toInt_lt, iN_toInt hx, iN_toInt hy]
theorem iN_le {x y : Int} (hx : R32 x) (hy : R32 y) : iN x ≤ iN y ↔ x ≤ y := by rw [Int32.le_iff_toInt_le, iN_toInt hx, iN_toInt hy]
theorem iN_eq {x y : Int} (hx : R32 x) (hy : R32 y) : iN x = iN y ↔ x = y := by rw [← Int32.toInt_inj, iN_toInt hx, iN_toInt hy]
theorem iN_0 : iN 0 = 0 := rfl
theorem iN_clamp {z : Int} (h : R32 z) : (iN z).toNatClampNeg = z.toNat := by
  have h1 := iN_toInt h
  show (iN z).toInt.toNat = z.toNat
  rw [h1]
theorem iN_in {z : Int} {n : Nat} (h0 : 0 ≤ z) (h1 : z < n) (h2 : R32 z) : vp_in (iN z) n := by
  refine vp_in_iff.mpr ?_
  rw [iN_toInt h2]
  exact ⟨h0, h1⟩
/-- abstract contents: an object, an int array, a long array, an array of references, the script -/
abbrev AC : Type := (Nat × List Value) ⊕ ((Nat × (Int → Int)) ⊕ ((Nat × (Int → Int64)) ⊕ ((Nat × (Nat × (Int → Option Nat))) ⊕ (Nat × (Int → Int)))))
def oC (ci : Nat) (fs : List Value) : AC := .inl (ci, fs)
def aI (n : Nat) (f : Int → Int) : AC := .inr (.inl (n, f))
def aL (n : Nat) (f : Int → Int64) : AC := .inr (.inr (.inl (n, f)))
def aR (ci n : Nat) (f : Int → Option Nat) : AC := .inr (.inr (.inr (.inl (ci, n, f))))
def aS (n : Nat) (f : Int → Int) : AC := .inr (.inr (.inr (.inr (n, f))))
abbrev Mem : Type := Nat → Option AC
def up (M : Mem) (a : Nat) (x : AC) : Mem := fun b => if b = a then some x else M b
def uI {α : Type} (f : Int → α) (i : Int) (x : α) : Int → α := fun j => if j = i then x else f j
theorem up_s (M : Mem) (a : Nat) (x : AC) : up M a x a = some x := by simp [up]
theorem up_n {M : Mem} {a b : Nat} (x : AC) (h : b ≠ a) : up M a x b = M b := by simp [up, h]
def Rl (ws : va_W) (tys : List (ClassId × FieldType)) (s : State) (H : Heap) (B a : Nat) : AC → Prop
  | .inl (ci, fs) => ∃ k : Nat, ws[k]? = some (a, .inr (ci, fs))
  | .inr (.inl (n, f)) => ∃ (k t0 : Nat) (cA : ClassId), ws[k]? = some (a, .inl (cA, n, .inl (fun j => iN (f j)))) ∧ tys[t0]? = some (cA, .int)
  | .inr (.inr (.inl (n, f))) => ∃ (k t0 : Nat) (cA : ClassId), ws[k]? = some (a, .inl (cA, n, .inr (.inl (fun j => f j)))) ∧ tys[t0]? = some (cA, .long)
  | .inr (.inr (.inr (.inl (ci, n, f)))) => ∃ (k t0 : Nat) (cA : ClassId) (r : vw_C), ws[k]? = some (a, .inl (cA, n, .inr (.inr (.inr (.inr (fun j => f j)))))) ∧ tys[t0]? = some (cA, .object r.1) ∧ vwCl[ci]? = some r
  | .inr (.inr (.inr (.inr (n, f)))) => va_X a n (fun j => iN (f j)) s H ∧ a < B
/-- the heap H, seen from the tables of s, holds the memory M, at addresses from B on (the script below it) -/
def Wd (D : va_G) (B : Nat) (s : State) (H : Heap) (M : Mem) : Prop :=
  ∃ (ws : va_W) (tys : List (ClassId × FieldType)), va_P D vwCl ws H ∧ va_K D vwCl tys s ∧ va_D (fun q => B ≤ q) ws ∧ ∀ (a : Nat) (x : AC), M a = some x → Rl ws tys s H B a x
theorem Rl.moved {ws : va_W} {tys : List (ClassId × FieldType)} {s t : State} {H H1 : Heap} {B a : Nat} {x : AC} (hvm : s.vm.Alike t.vm) (hH : ∀ q, q < B → H1[q]? = H[q]?) (h : Rl ws tys s H B a x) : Rl ws tys t H1 B a x := by
  match x, h with
  | .inl _, h => exact h
  | .inr (.inl _), h => exact h
  | .inr (.inr (.inl _)), h => exact h
  | .inr (.inr (.inr (.inl _))), h => exact h
  | .inr (.inr (.inr (.inr (n, f)))), h => exact ⟨(va_X.moved hvm h.1).kept (hH a h.2), h.2⟩
theorem Wd.moved {D : va_G} {B : Nat} {s t : State} {H : Heap} {M : Mem} (hvm : s.vm.Alike t.vm) (h : Wd D B s H M) : Wd D B t H M := by
  obtain ⟨ws, tys, hP, hK, hD, hR⟩ := h
  exact ⟨ws, tys, hP, va_K.moved hvm hK, hD, fun a x hx => (hR a x hx).moved hvm (fun _ _ => rfl)⟩
theorem Wd.less {D : va_G} {B : Nat} {s : State} {H : Heap} {M M' : Mem} (hM : ∀ a x, M' a = some x → M a = some x) (h : Wd D B s H M) : Wd D B s H M' := by
  obtain ⟨ws, tys, hP, hK, hD, hR⟩ := h
  exact ⟨ws, tys, hP, hK, hD, fun a x hx => hR a x (hM a x hx)⟩
/-- the words that every method may use -/
def lw_g : List Cond := lw_tbl.filter goodWord
theorem lw_gin {w : Cond} (i : Nat) (h : lw_tbl[i]? = some w) (g : goodWord w = true) : w ∈ lw_g := List.mem_filter.mpr ⟨List.mem_of_getElem? h, g⟩
theorem lw_gg : GoodIn lw_g lw_g := fun _ h => ⟨h, good_of_word (List.mem_filter.mp h).2⟩
/-- a method: name, code, locals, type, handlers, frames and words of locals below it -/
abbrev Kp : Type := MethodName × (ByteArray × (Nat × (Option FieldType × (List (Nat × Nat × Nat × Nat) × (Nat × Nat)))))
abbrev kY (κ : Kp) : MethodName := κ.1
abbrev kC (κ : Kp) : ByteArray := κ.2.1
abbrev kL (κ : Kp) : Nat := κ.2.2.1
abbrev kR (κ : Kp) : Option FieldType := κ.2.2.2.1
abbrev kH (κ : Kp) : List (Nat × Nat × Nat × Nat) := κ.2.2.2.2.1
abbrev kF (κ : Kp) : Nat := κ.2.2.2.2.2.1
abbrev kV (κ : Kp) : Nat := κ.2.2.2.2.2.2
def wc (κ : Kp) : Cond := if (kH κ).isEmpty = true then .code (kY κ) (kC κ) (kL κ) (kR κ) else .codeWith (kY κ) (kC κ) (kL κ) (kR κ) (kH κ)
abbrev wsOf (κ : Kp) : List Cond := wc κ :: lw_g
def rmOf (κ : Kp) (bc bs : Nat) : Room := { frames := kF κ, cells := bc, slots := bs, locals := kV κ }
/-- what two statics of Throwable are, as a throw asks -/
def Zt (B : Nat) (s : State) : Prop := vx_Zq Bundle.tN "UNASSIGNED_STACK" Bundle.steD (fun q => B ≤ q) s s.heap ∧ vx_Zq Bundle.tN "SUPPRESSED_SENTINEL" Bundle.listD (fun q => B ≤ q) s s.heap ∧ va_AO "GapSets$Members" s ∧ va_AO "GapSets$State" s ∧ va_Nw (.methodLinkNest "GapSets$Members" 48 ⟨"GapSets", "gapBytes", "(I)I"⟩ "GapSets") s ∧ va_Nw (.methodLinkNest "GapSets$Blocks" 60 ⟨"GapSets", "gapBytes", "(I)I"⟩ "GapSets") s
def Cx (κ : Kp) (p : Program) (l : Launch) (s : State) (m : MethodId) (args : Array Value) (meth : Method) (c : Code) : Prop :=
  p.tables.exec = Jvm.exec ∧ c.code = kC κ ∧ meth.sig.returnType = kR κ ∧ c.maxLocals = kL κ ∧ s.vm.findClass (kY κ).cls = some m.cls ∧ (∀ w ∈ lw_g, w.before args s = true) ∧ meth.locks = false ∧ c.exceptionTable.toList = tableOf (kH κ) ∧ l.stackTraces = false ∧ meth.name = (kY κ).name
/-- locals: the newest entry of a place counts; none: not known -/
abbrev Ls : Type := List (Nat × Option Value)
def lk (L : Ls) (i : Nat) : Option Value := (L.lookup i).join
def Lc (ls : Array Slot) (nL : Nat) (L : Ls) : Prop := ls.size = nL ∧ lv_wf ls ∧ ∀ (i : Nat) (v : Value), lk L i = some v → ls[i]? = some (.val v)
/-- no value of two words is cut by a store at i -/
def okS (L : Ls) (i : Nat) : Bool := match i with
  | 0 => true
  | j + 1 => match lk L j with
    | some w => w.category == 1
    | none => false
abbrev Rs : Type := Option Value ⊕ String
def qR (D : va_G) (B : Nat) (Q : Rs → Mem → Prop) : Array Value → State → Outcome → State → Prop := fun _ st o t => (∃ (v : Option Value) (M' : Mem), o = .returned v ∧ Q (.inl v) M' ∧ Wd D B t t.heap M') ∧ va_F (fun q => B ≤ q) st t
def qX (D : va_G) (B : Nat) (Q : Rs → Mem → Prop) : String → State → State → Prop := fun E st t => ∃ M' : Mem, Q (.inr E) M' ∧ Wd D B t t.heap M' ∧ va_F (fun q => B ≤ q) st t
def Pic (D : va_G) (B : Nat) (M : Mem) (U : State) : Prop := B ≤ U.heap.size ∧ Zt B U ∧ Wd D B U U.heap M
/-- the contract of a method on these arguments over this memory, with bc cells of bs slots at most: Q says of the answer (or the exception) and the memory then -/
def Ct (κ : Kp) (args : List Value) (M : Mem) (bc bs : Nat) (Q : Rs → Mem → Prop) : Prop :=
  ∀ (l : Launch) (D : va_G) (B : Nat), l.stackTraces = false → vx_Met l (kY κ) (wsOf κ) (rmOf κ bc bs) (va_Pc args (Pic D B M)) (qR D B Q) (qX D B Q) bc bs (fun q => B ≤ q)
def J (κ : Kp) (bc bs : Nat) (Q : Rs → Mem → Prop) (pc : Nat) (L : Ls) (st : List Value) (M : Mem) (k n : Nat) : Prop :=
  ∀ (p : Program) (l : Launch) (e : Env) (s : State) (m : MethodId) (args : Array Value) (below : List Frame) (meth : Method) (c : Code) (H : Heap) (locs : List Loc) (ls : Array Slot) (D : va_G) (B : Nat),
    Cx κ p l s m args meth c → B ≤ s.heap.size → Zt B s → Wd D B s H M → va_S (fun q => B ≤ q) s.heap H locs → Lc ls (kL κ) L →
    W p l e (rmOf κ bc bs) s m args below meth c H locs k n (vx_MQ below (qR D B Q) (qX D B Q) args s bc bs (fun q => B ≤ q)) (F0 m pc ls st)
abbrev Dc (κ : Kp) (pc : Nat) (i : Instr) (len : Nat) : Prop := decode (kC κ) pc = .ok (i, len)

theorem r_iconst {κ : Kp} {bc bs : Nat} {Q : Rs → Mem → Prop} {pc : Nat} {L : Ls} {st : List Value} {M : Mem} {k n : Nat} {z : Int} (d : Dc κ pc (.iconst z) 1)  (kk : J κ bc bs Q (pc + 1) L (vI z :: st) M k n) : J κ bc bs Q (pc) L (st) M k n := by
  intro p l e s m args below meth c H locs ls D B hc hB hZ hW hS hL
  obtain ⟨hx, hb, hr, hml, hown, hts, hlo, htab, hfl, hnm⟩ := id hc
  refine lv_iconst (v := iN z) hx hb d rfl ?_
  exact kk p l e s m args below meth c H locs ls D B hc hB hZ hW hS hL

theorem r_bipush {κ : Kp} {bc bs : Nat} {Q : Rs → Mem → Prop} {pc : Nat} {L : Ls} {st : List Value} {M : Mem} {k n : Nat} {z : Int} (d : Dc κ pc (.bipush z) 2) (h : (Int8.ofInt z).toInt32 = iN z) (kk : J κ bc bs Q (pc + 2) L (vI z :: st) M k n) : J κ bc bs Q (pc) L (st) M k n := by
  intro p l e s m args below meth c H locs ls D B hc hB hZ hW hS hL
  obtain ⟨hx, hb, hr, hml, hown, hts, hlo, htab, hfl, hnm⟩ := id hc
  refine lv_bipush (v := iN z) hx hb d h ?_
  exact kk p l e s m args below meth c H locs ls D B hc hB hZ hW hS hL

theorem r_sipush {κ : Kp} {bc bs : Nat} {Q : Rs → Mem → Prop} {pc : Nat} {L : Ls} {st : List Value} {M : Mem} {k n : Nat} {z : Int} (d : Dc κ pc (.sipush z) 3) (h : (Int16.ofInt z).toInt32 = iN z) (kk : J κ bc bs Q (pc + 3) L (vI z :: st) M k n) : J κ bc bs Q (pc) L (st) M k n := by
  intro p l e s m args below meth c H locs ls D B hc hB hZ hW hS hL
  obtain ⟨hx, hb, hr, hml, hown, hts, hlo, htab, hfl, hnm⟩ := id hc
  refine lv_sipush (v := iN z) hx hb d h ?_
  exact kk p l e s m args below meth c H locs ls D B hc hB hZ hW hS hL

theorem r_iadd {κ : Kp} {bc bs : Nat} {Q : Rs → Mem → Prop} {pc : Nat} {L : Ls} {st : List Value} {M : Mem} {k n : Nat} {x y : Int} (d : Dc κ pc (.iadd) 1)  (kk : J κ bc bs Q (pc + 1) L (vI (x + y) :: st) M k n) : J κ bc bs Q (pc) L (vI y :: vI x :: st) M k n := by
  intro p l e s m args below meth c H locs ls D B hc hB hZ hW hS hL
  obtain ⟨hx, hb, hr, hml, hown, hts, hlo, htab, hfl, hnm⟩ := id hc
  refine lv_iadd (x := iN x) (y := iN y) hx hb d ?_
  rw [iN_add]
  exact kk p l e s m args below meth c H locs ls D B hc hB hZ hW hS hL

theorem r_isub {κ : Kp} {bc bs : Nat} {Q : Rs → Mem → Prop} {pc : Nat} {L : Ls} {st : List Value} {M : Mem} {k n : Nat} {x y : Int} (d : Dc κ pc (.isub) 1)  (kk : J κ bc bs Q (pc + 1) L (vI (x - y) :: st) M k n) : J κ bc bs Q (pc) L (vI y :: vI x :: st) M k n := by
  intro p l e s m args below meth c H locs ls D B hc hB hZ hW hS hL
  obtain ⟨hx, hb, hr, hml, hown, hts, hlo, htab, hfl, hnm⟩ := id hc
  refine lv_isub (x := iN x) (y := iN y) hx hb d ?_
  rw [iN_sub]
  exact kk p l e s m args below meth c H locs ls D B hc hB hZ hW hS hL

theorem r_imul {κ : Kp} {bc bs : Nat} {Q : Rs → Mem → Prop} {pc : Nat} {L : Ls} {st : List Value} {M : Mem} {k n : Nat} {x y : Int} (d : Dc κ pc (.imul) 1)  (kk : J κ bc bs Q (pc + 1) L (vI (x * y) :: st) M k n) : J κ bc bs Q (pc) L (vI y :: vI x :: st) M k n := by
  intro p l e s m args below meth c H locs ls D B hc hB hZ hW hS hL
  obtain ⟨hx, hb, hr, hml, hown, hts, hlo, htab, hfl, hnm⟩ := id hc
  refine lv_imul (x := iN x) (y := iN y) hx hb d ?_
  rw [iN_mul]
  exact kk p l e s m args below meth c H locs ls D B hc hB hZ hW hS hL

theorem r_ladd {κ : Kp} {bc bs : Nat} {Q : Rs → Mem → Prop} {pc : Nat} {L : Ls} {st : List Value} {M : Mem} {k n : Nat} {x y : Int64} (d : Dc κ pc (.ladd) 1)  (kk : J κ bc bs Q (pc + 1) L (.long (x + y) :: st) M k n) : J κ bc bs Q (pc) L (.long y :: .long x :: st) M k n := by
  intro p l e s m args below meth c H locs ls D B hc hB hZ hW hS hL
  obtain ⟨hx, hb, hr, hml, hown, hts, hlo, htab, hfl, hnm⟩ := id hc
  refine lv_ladd hx hb d ?_
  exact kk p l e s m args below meth c H locs ls D B hc hB hZ hW hS hL

theorem r_lsub {κ : Kp} {bc bs : Nat} {Q : Rs → Mem → Prop} {pc : Nat} {L : Ls} {st : List Value} {M : Mem} {k n : Nat} {x y : Int64} (d : Dc κ pc (.lsub) 1)  (kk : J κ bc bs Q (pc + 1) L (.long (x - y) :: st) M k n) : J κ bc bs Q (pc) L (.long y :: .long x :: st) M k n := by
  intro p l e s m args below meth c H locs ls D B hc hB hZ hW hS hL
  obtain ⟨hx, hb, hr, hml, hown, hts, hlo, htab, hfl, hnm⟩ := id hc
  refine lv_lsub hx hb d ?_
  exact kk p l e s m args below meth c H locs ls D B hc hB hZ hW hS hL

theorem r_lmul {κ : Kp} {bc bs : Nat} {Q : Rs → Mem → Prop} {pc : Nat} {L : Ls} {st : List Value} {M : Mem} {k n : Nat} {x y : Int64} (d : Dc κ pc (.lmul) 1)  (kk : J κ bc bs Q (pc + 1) L (.long (x * y) :: st) M k n) : J κ bc bs Q (pc) L (.long y :: .long x :: st) M k n := by
  intro p l e s m args below meth c H locs ls D B hc hB hZ hW hS hL
  obtain ⟨hx, hb, hr, hml, hown, hts, hlo, htab, hfl, hnm⟩ := id hc
  refine lv_lmul hx hb d ?_
  exact kk p l e s m args below meth c H locs ls D B hc hB hZ hW hS hL

theorem r_lshl {κ : Kp} {bc bs : Nat} {Q : Rs → Mem → Prop} {pc : Nat} {L : Ls} {st : List Value} {M : Mem} {k n : Nat} {x : Int64} {y : Int} (d : Dc κ pc (.lshl) 1)  (kk : J κ bc bs Q (pc + 1) L (.long (x <<< ((iN y).toInt64 &&& 63)) :: st) M k n) : J κ bc bs Q (pc) L (vI y :: .long x :: st) M k n := by
  intro p l e s m args below meth c H locs ls D B hc hB hZ hW hS hL
  obtain ⟨hx, hb, hr, hml, hown, hts, hlo, htab, hfl, hnm⟩ := id hc
  refine lv_lshl (y := iN y) hx hb d rfl ?_
  exact kk p l e s m args below meth c H locs ls D B hc hB hZ hW hS hL

theorem r_i2l {κ : Kp} {bc bs : Nat} {Q : Rs → Mem → Prop} {pc : Nat} {L : Ls} {st : List Value} {M : Mem} {k n : Nat} {x : Int} (d : Dc κ pc (.i2l) 1)  (kk : J κ bc bs Q (pc + 1) L (.long (iN x).toInt64 :: st) M k n) : J κ bc bs Q (pc) L (vI x :: st) M k n := by
  intro p l e s m args below meth c H locs ls D B hc hB hZ hW hS hL
  obtain ⟨hx, hb, hr, hml, hown, hts, hlo, htab, hfl, hnm⟩ := id hc
  refine lv_i2l (x := iN x) hx hb d rfl ?_
  exact kk p l e s m args below meth c H locs ls D B hc hB hZ hW hS hL

theorem r_lcmp {κ : Kp} {bc bs : Nat} {Q : Rs → Mem → Prop} {pc : Nat} {L : Ls} {st : List Value} {M : Mem} {k n : Nat} {x y : Int64} (d : Dc κ pc (.lcmp) 1)  (kk : J κ bc bs Q (pc + 1) L (.int (lg_cmp x y) :: st) M k n) : J κ bc bs Q (pc) L (.long y :: .long x :: st) M k n := by
  intro p l e s m args below meth c H locs ls D B hc hB hZ hW hS hL
  obtain ⟨hx, hb, hr, hml, hown, hts, hlo, htab, hfl, hnm⟩ := id hc
  refine W.lcmp hx hb d ?_
  exact kk p l e s m args below meth c H locs ls D B hc hB hZ hW hS hL

theorem r_iand {κ : Kp} {bc bs : Nat} {Q : Rs → Mem → Prop} {pc : Nat} {L : Ls} {st : List Value} {M : Mem} {k n : Nat} {x y : Int} (d : Dc κ pc (.iand) 1)  (kk : J κ bc bs Q (pc + 1) L (.int (iN x &&& iN y) :: st) M k n) : J κ bc bs Q (pc) L (vI y :: vI x :: st) M k n := by
  intro p l e s m args below meth c H locs ls D B hc hB hZ hW hS hL
  obtain ⟨hx, hb, hr, hml, hown, hts, hlo, htab, hfl, hnm⟩ := id hc
  refine lv_iand (x := iN x) (y := iN y) hx hb d ?_
  exact kk p l e s m args below meth c H locs ls D B hc hB hZ hW hS hL

theorem r_i2d {κ : Kp} {bc bs : Nat} {Q : Rs → Mem → Prop} {pc : Nat} {L : Ls} {st : List Value} {M : Mem} {k n : Nat} {x : Int} (d : Dc κ pc (.i2d) 1)  (kk : J κ bc bs Q (pc + 1) L (.double (FP.i2d (iN x)) :: st) M k n) : J κ bc bs Q (pc) L (vI x :: st) M k n := by
  intro p l e s m args below meth c H locs ls D B hc hB hZ hW hS hL
  obtain ⟨hx, hb, hr, hml, hown, hts, hlo, htab, hfl, hnm⟩ := id hc
  refine lv_i2d (x := iN x) hx hb d ?_
  exact kk p l e s m args below meth c H locs ls D B hc hB hZ hW hS hL

theorem r_dmul {κ : Kp} {bc bs : Nat} {Q : Rs → Mem → Prop} {pc : Nat} {L : Ls} {st : List Value} {M : Mem} {k n : Nat} {x y : UInt64} (d : Dc κ pc (.dmul) 1) (h : vf_n64 (FP.dmul x y)) (kk : J κ bc bs Q (pc + 1) L (.double (FP.dmul x y) :: st) M k n) : J κ bc bs Q (pc) L (.double y :: .double x :: st) M k n := by
  intro p l e s m args below meth c H locs ls D B hc hB hZ hW hS hL
  obtain ⟨hx, hb, hr, hml, hown, hts, hlo, htab, hfl, hnm⟩ := id hc
  refine lv_dmul hx hb d h ?_
  exact kk p l e s m args below meth c H locs ls D B hc hB hZ hW hS hL

theorem r_ddiv {κ : Kp} {bc bs : Nat} {Q : Rs → Mem → Prop} {pc : Nat} {L : Ls} {st : List Value} {M : Mem} {k n : Nat} {x y : UInt64} (d : Dc κ pc (.ddiv) 1) (h : vf_n64 (FP.ddiv x y)) (kk : J κ bc bs Q (pc + 1) L (.double (FP.ddiv x y) :: st) M k n) : J κ bc bs Q (pc) L (.double y :: .double x :: st) M k n := by
  intro p l e s m args below meth c H locs ls D B hc hB hZ hW hS hL
  obtain ⟨hx, hb, hr, hml, hown, hts, hlo, htab, hfl, hnm⟩ := id hc
  refine lv_ddiv hx hb d h ?_
  exact kk p l e s m args below meth c H locs ls D B hc hB hZ hW hS hL

theorem r_dsub {κ : Kp} {bc bs : Nat} {Q : Rs → Mem → Prop} {pc : Nat} {L : Ls} {st : List Value} {M : Mem} {k n : Nat} {x y : UInt64} (d : Dc κ pc (.dsub) 1) (h : vf_n64 (FP.dsub x y)) (kk : J κ bc bs Q (pc + 1) L (.double (FP.dsub x y) :: st) M k n) : J κ bc bs Q (pc) L (.double y :: .double x :: st) M k n := by
  intro p l e s m args below meth c H locs ls D B hc hB hZ hW hS hL
  obtain ⟨hx, hb, hr, hml, hown, hts, hlo, htab, hfl, hnm⟩ := id hc
  refine lv_dsub hx hb d h ?_
  exact kk p l e s m args below meth c H locs ls D B hc hB hZ hW hS hL

theorem r_dcmp {κ : Kp} {bc bs : Nat} {Q : Rs → Mem → Prop} {pc : Nat} {L : Ls} {st : List Value} {M : Mem} {k n : Nat} {x y : UInt64} {op : CmpOp} (d : Dc κ pc (.dcmp op) 1)  (kk : J κ bc bs Q (pc + 1) L (.int (Op.cmpValue (FP.dcmp x y) op) :: st) M k n) : J κ bc bs Q (pc) L (.double y :: .double x :: st) M k n := by
  intro p l e s m args below meth c H locs ls D B hc hB hZ hW hS hL
  obtain ⟨hx, hb, hr, hml, hown, hts, hlo, htab, hfl, hnm⟩ := id hc
  refine lv_dcmp hx hb d ?_
  exact kk p l e s m args below meth c H locs ls D B hc hB hZ hW hS hL

theorem r_dup {κ : Kp} {bc bs : Nat} {Q : Rs → Mem → Prop} {pc : Nat} {L : Ls} {st : List Value} {M : Mem} {k n : Nat} {a : Nat} (d : Dc κ pc (.dup) 1)  (kk : J κ bc bs Q (pc + 1) L (.ref a :: .ref a :: st) M k n) : J κ bc bs Q (pc) L (.ref a :: st) M k n := by
  intro p l e s m args below meth c H locs ls D B hc hB hZ hW hS hL
  obtain ⟨hx, hb, hr, hml, hown, hts, hlo, htab, hfl, hnm⟩ := id hc
  refine lv_dup hx hb d rfl ?_
  exact kk p l e s m args below meth c H locs ls D B hc hB hZ hW hS hL

theorem r_dupI {κ : Kp} {bc bs : Nat} {Q : Rs → Mem → Prop} {pc : Nat} {L : Ls} {st : List Value} {M : Mem} {k n : Nat} {a : Int} (d : Dc κ pc (.dup) 1)  (kk : J κ bc bs Q (pc + 1) L (vI a :: vI a :: st) M k n) : J κ bc bs Q (pc) L (vI a :: st) M k n := by
  intro p l e s m args below meth c H locs ls D B hc hB hZ hW hS hL
  obtain ⟨hx, hb, hr, hml, hown, hts, hlo, htab, hfl, hnm⟩ := id hc
  refine lv_dup hx hb d rfl ?_
  exact kk p l e s m args below meth c H locs ls D B hc hB hZ hW hS hL

theorem r_dup2 {κ : Kp} {bc bs : Nat} {Q : Rs → Mem → Prop} {pc : Nat} {L : Ls} {st : List Value} {M : Mem} {k n : Nat} {a : Nat} {x : Int} (d : Dc κ pc (.dup2) 1)  (kk : J κ bc bs Q (pc + 1) L (vI x :: .ref a :: vI x :: .ref a :: st) M k n) : J κ bc bs Q (pc) L (vI x :: .ref a :: st) M k n := by
  intro p l e s m args below meth c H locs ls D B hc hB hZ hW hS hL
  obtain ⟨hx, hb, hr, hml, hown, hts, hlo, htab, hfl, hnm⟩ := id hc
  refine lv_dup2_11 hx hb d rfl rfl ?_
  exact kk p l e s m args below meth c H locs ls D B hc hB hZ hW hS hL

theorem r_popI {κ : Kp} {bc bs : Nat} {Q : Rs → Mem → Prop} {pc : Nat} {L : Ls} {st : List Value} {M : Mem} {k n : Nat} {x : Int} (d : Dc κ pc (.pop) 1)  (kk : J κ bc bs Q (pc + 1) L (st) M k n) : J κ bc bs Q (pc) L (vI x :: st) M k n := by
  intro p l e s m args below meth c H locs ls D B hc hB hZ hW hS hL
  obtain ⟨hx, hb, hr, hml, hown, hts, hlo, htab, hfl, hnm⟩ := id hc
  refine lv_pop hx hb d rfl ?_
  exact kk p l e s m args below meth c H locs ls D B hc hB hZ hW hS hL

theorem r_popR {κ : Kp} {bc bs : Nat} {Q : Rs → Mem → Prop} {pc : Nat} {L : Ls} {st : List Value} {M : Mem} {k n : Nat} {a : Nat} (d : Dc κ pc (.pop) 1)  (kk : J κ bc bs Q (pc + 1) L (st) M k n) : J κ bc bs Q (pc) L (.ref a :: st) M k n := by
  intro p l e s m args below meth c H locs ls D B hc hB hZ hW hS hL
  obtain ⟨hx, hb, hr, hml, hown, hts, hlo, htab, hfl, hnm⟩ := id hc
  refine lv_pop hx hb d rfl ?_
  exact kk p l e s m args below meth c H locs ls D B hc hB hZ hW hS hL

theorem r_null {κ : Kp} {bc bs : Nat} {Q : Rs → Mem → Prop} {pc : Nat} {L : Ls} {st : List Value} {M : Mem} {k n : Nat}  (d : Dc κ pc (.aconst_null) 1)  (kk : J κ bc bs Q (pc + 1) L (.null :: st) M k n) : J κ bc bs Q (pc) L (st) M k n := by
  intro p l e s m args below meth c H locs ls D B hc hB hZ hW hS hL
  obtain ⟨hx, hb, hr, hml, hown, hts, hlo, htab, hfl, hnm⟩ := id hc
  refine lv_null hx hb d ?_
  exact kk p l e s m args below meth c H locs ls D B hc hB hZ hW hS hL

theorem iN_div {x y : Int} (h0 : 0 ≤ x) (hy : R32 y) (hx : R32 x) (hp : 0 < y) : iN x / iN y = iN (x / y) := by
  have h1 : 0 ≤ x / y := Int.ediv_nonneg h0 (by omega)
  have h2 : x / y ≤ x := Int.ediv_le_self y h0
  apply Int32.toInt_inj.mp
  rw [Int32.toInt_div, iN_toInt hx, iN_toInt hy, iN_toInt (by omega), Int.tdiv_eq_ediv_of_nonneg h0, Int.bmod_eq_of_le (by omega) (by omega)]

theorem r_idiv {κ : Kp} {bc bs : Nat} {Q : Rs → Mem → Prop} {pc : Nat} {L : Ls} {st : List Value} {M : Mem} {k n : Nat} {x y : Int} (d : Dc κ pc (.idiv) 1) (h0 : 0 ≤ x) (hx0 : R32 x) (hy0 : R32 y) (hyp : 0 < y) (kk : J κ bc bs Q (pc + 1) L (vI (x / y) :: st) M k n) : J κ bc bs Q (pc) L (vI y :: vI x :: st) M k n := by
  intro p l e s m args below meth c H locs ls D B hc hB hZ hW hS hL
  obtain ⟨hx, hb, hr, hml, hown, hts, hlo, htab, hfl, hnm⟩ := id hc
  refine lv_idiv (x := iN x) (y := iN y) hx hb d (fun h0 => by have := (iN_eq (y := 0) hy0 (by omega)).mp h0; omega) ?_
  rw [iN_div h0 hy0 hx0 hyp]
  exact kk p l e s m args below meth c H locs ls D B hc hB hZ hW hS hL

theorem r_irem {κ : Kp} {bc bs : Nat} {Q : Rs → Mem → Prop} {pc : Nat} {L : Ls} {st : List Value} {M : Mem} {k n : Nat} {x y : Int} (d : Dc κ pc (.irem) 1) (h0 : 0 ≤ x) (hx0 : R32 x) (hy0 : R32 y) (hyp : 0 < y) (kk : J κ bc bs Q (pc + 1) L (vI (x % y) :: st) M k n) : J κ bc bs Q (pc) L (vI y :: vI x :: st) M k n := by
  intro p l e s m args below meth c H locs ls D B hc hB hZ hW hS hL
  obtain ⟨hx, hb, hr, hml, hown, hts, hlo, htab, hfl, hnm⟩ := id hc
  refine lv_irem (x := iN x) (y := iN y) hx hb d (fun h0 => by have := (iN_eq (y := 0) hy0 (by omega)).mp h0; omega) ?_
  rw [iN_div h0 hy0 hx0 hyp, iN_mul, iN_sub, show x - x / y * y = x % y by rw [Int.emod_def, Int.mul_comm]]
  exact kk p l e s m args below meth c H locs ls D B hc hB hZ hW hS hL

theorem r_ldc2 {κ : Kp} {bc bs : Nat} {Q : Rs → Mem → Prop} {pc : Nat} {L : Ls} {st : List Value} {M : Mem} {k n : Nat} {v : Int64} {ix : Nat} (d : Dc κ pc (.ldc2_w ix) 3) (h : Cond.constantLong (kY κ).cls ix v ∈ lw_g) (kk : J κ bc bs Q (pc + 3) L (.long v :: st) M k n) : J κ bc bs Q (pc) L (st) M k n := by
  intro p l e s m args below meth c H locs ls D B hc hB hZ hW hS hL
  obtain ⟨hx, hb, hr, hml, hown, hts, hlo, htab, hfl, hnm⟩ := id hc
  refine lv_ldc2 hx hb hown (hts _ h) d ?_
  exact kk p l e s m args below meth c H locs ls D B hc hB hZ hW hS hL

theorem r_ldc2d {κ : Kp} {bc bs : Nat} {Q : Rs → Mem → Prop} {pc : Nat} {L : Ls} {st : List Value} {M : Mem} {k n : Nat} {v : UInt64} {ix : Nat} (d : Dc κ pc (.ldc2_w ix) 3) (h : Cond.constantDouble (kY κ).cls ix v ∈ lw_g) (kk : J κ bc bs Q (pc + 3) L (.double v :: st) M k n) : J κ bc bs Q (pc) L (st) M k n := by
  intro p l e s m args below meth c H locs ls D B hc hB hZ hW hS hL
  obtain ⟨hx, hb, hr, hml, hown, hts, hlo, htab, hfl, hnm⟩ := id hc
  refine lv_ldc2d hx hb hown (hts _ h) d ?_
  exact kk p l e s m args below meth c H locs ls D B hc hB hZ hW hS hL

theorem r_iload {κ : Kp} {bc bs : Nat} {Q : Rs → Mem → Prop} {pc : Nat} {L : Ls} {st : List Value} {M : Mem} {k n : Nat} {x : Int} {i : Nat} (d : Dc κ pc (.iload i) 2) (h : lk L i = some (vI x)) (kk : J κ bc bs Q (pc + 2) L (vI x :: st) M k n) : J κ bc bs Q (pc) L (st) M k n := by
  intro p l e s m args below meth c H locs ls D B hc hB hZ hW hS hL
  obtain ⟨hx, hb, hr, hml, hown, hts, hlo, htab, hfl, hnm⟩ := id hc
  refine lv_iload (x := iN x) hx hb d (hL.2.2 i _ h) ?_
  exact kk p l e s m args below meth c H locs ls D B hc hB hZ hW hS hL

theorem r_iload_n {κ : Kp} {bc bs : Nat} {Q : Rs → Mem → Prop} {pc : Nat} {L : Ls} {st : List Value} {M : Mem} {k n : Nat} {x : Int} {i : Fin 4} (d : Dc κ pc (.iload_n i) 1) (h : lk L i = some (vI x)) (kk : J κ bc bs Q (pc + 1) L (vI x :: st) M k n) : J κ bc bs Q (pc) L (st) M k n := by
  intro p l e s m args below meth c H locs ls D B hc hB hZ hW hS hL
  obtain ⟨hx, hb, hr, hml, hown, hts, hlo, htab, hfl, hnm⟩ := id hc
  refine lv_iload_n (x := iN x) hx hb d rfl (hL.2.2 (i : Nat) _ h) ?_
  exact kk p l e s m args below meth c H locs ls D B hc hB hZ hW hS hL

theorem r_aload {κ : Kp} {bc bs : Nat} {Q : Rs → Mem → Prop} {pc : Nat} {L : Ls} {st : List Value} {M : Mem} {k n : Nat} {x : Nat} {i : Nat} (d : Dc κ pc (.aload i) 2) (h : lk L i = some (.ref x)) (kk : J κ bc bs Q (pc + 2) L (.ref x :: st) M k n) : J κ bc bs Q (pc) L (st) M k n := by
  intro p l e s m args below meth c H locs ls D B hc hB hZ hW hS hL
  obtain ⟨hx, hb, hr, hml, hown, hts, hlo, htab, hfl, hnm⟩ := id hc
  refine lv_aload  hx hb d (hL.2.2 i _ h) ?_
  exact kk p l e s m args below meth c H locs ls D B hc hB hZ hW hS hL

theorem r_aload_n {κ : Kp} {bc bs : Nat} {Q : Rs → Mem → Prop} {pc : Nat} {L : Ls} {st : List Value} {M : Mem} {k n : Nat} {x : Nat} {i : Fin 4} (d : Dc κ pc (.aload_n i) 1) (h : lk L i = some (.ref x)) (kk : J κ bc bs Q (pc + 1) L (.ref x :: st) M k n) : J κ bc bs Q (pc) L (st) M k n := by
  intro p l e s m args below meth c H locs ls D B hc hB hZ hW hS hL
  obtain ⟨hx, hb, hr, hml, hown, hts, hlo, htab, hfl, hnm⟩ := id hc
  refine lv_aload_n  hx hb d rfl (hL.2.2 (i : Nat) _ h) ?_
  exact kk p l e s m args below meth c H locs ls D B hc hB hZ hW hS hL

theorem r_lload {κ : Kp} {bc bs : Nat} {Q : Rs → Mem → Prop} {pc : Nat} {L : Ls} {st : List Value} {M : Mem} {k n : Nat} {x : Int64} {i : Nat} (d : Dc κ pc (.lload i) 2) (h : lk L i = some (.long x)) (kk : J κ bc bs Q (pc + 2) L (.long x :: st) M k n) : J κ bc bs Q (pc) L (st) M k n := by
  intro p l e s m args below meth c H locs ls D B hc hB hZ hW hS hL
  obtain ⟨hx, hb, hr, hml, hown, hts, hlo, htab, hfl, hnm⟩ := id hc
  refine lv_lload  hx hb d (hL.2.2 i _ h) ?_
  exact kk p l e s m args below meth c H locs ls D B hc hB hZ hW hS hL

theorem r_lload_n {κ : Kp} {bc bs : Nat} {Q : Rs → Mem → Prop} {pc : Nat} {L : Ls} {st : List Value} {M : Mem} {k n : Nat} {x : Int64} {i : Fin 4} (d : Dc κ pc (.lload_n i) 1) (h : lk L i = some (.long x)) (kk : J κ bc bs Q (pc + 1) L (.long x :: st) M k n) : J κ bc bs Q (pc) L (st) M k n := by
  intro p l e s m args below meth c H locs ls D B hc hB hZ hW hS hL
  obtain ⟨hx, hb, hr, hml, hown, hts, hlo, htab, hfl, hnm⟩ := id hc
  refine lv_lload_n  hx hb d rfl (hL.2.2 (i : Nat) _ h) ?_
  exact kk p l e s m args below meth c H locs ls D B hc hB hZ hW hS hL

theorem r_dload {κ : Kp} {bc bs : Nat} {Q : Rs → Mem → Prop} {pc : Nat} {L : Ls} {st : List Value} {M : Mem} {k n : Nat} {x : UInt64} {i : Nat} (d : Dc κ pc (.dload i) 2) (h : lk L i = some (.double x)) (kk : J κ bc bs Q (pc + 2) L (.double x :: st) M k n) : J κ bc bs Q (pc) L (st) M k n := by
  intro p l e s m args below meth c H locs ls D B hc hB hZ hW hS hL
  obtain ⟨hx, hb, hr, hml, hown, hts, hlo, htab, hfl, hnm⟩ := id hc
  refine lv_dload  hx hb d (hL.2.2 i _ h) ?_
  exact kk p l e s m args below meth c H locs ls D B hc hB hZ hW hS hL

theorem r_dload_n {κ : Kp} {bc bs : Nat} {Q : Rs → Mem → Prop} {pc : Nat} {L : Ls} {st : List Value} {M : Mem} {k n : Nat} {x : UInt64} {i : Fin 4} (d : Dc κ pc (.dload_n i) 1) (h : lk L i = some (.double x)) (kk : J κ bc bs Q (pc + 1) L (.double x :: st) M k n) : J κ bc bs Q (pc) L (st) M k n := by
  intro p l e s m args below meth c H locs ls D B hc hB hZ hW hS hL
  obtain ⟨hx, hb, hr, hml, hown, hts, hlo, htab, hfl, hnm⟩ := id hc
  refine lv_dload_n  hx hb d rfl (hL.2.2 (i : Nat) _ h) ?_
  exact kk p l e s m args below meth c H locs ls D B hc hB hZ hW hS hL

theorem r_aloadN {κ : Kp} {bc bs : Nat} {Q : Rs → Mem → Prop} {pc : Nat} {L : Ls} {st : List Value} {M : Mem} {k n : Nat} {i : Nat} (d : Dc κ pc (.aload i) 2) (h : lk L i = some .null) (kk : J κ bc bs Q (pc + 2) L (.null :: st) M k n) : J κ bc bs Q (pc) L (st) M k n := by
  intro p l e s m args below meth c H locs ls D B hc hB hZ hW hS hL
  obtain ⟨hx, hb, hr, hml, hown, hts, hlo, htab, hfl, hnm⟩ := id hc
  refine lv_aloadN hx hb d (hL.2.2 i _ h) ?_
  exact kk p l e s m args below meth c H locs ls D B hc hB hZ hW hS hL

theorem r_aloadN_n {κ : Kp} {bc bs : Nat} {Q : Rs → Mem → Prop} {pc : Nat} {L : Ls} {st : List Value} {M : Mem} {k n : Nat} {i : Fin 4} (d : Dc κ pc (.aload_n i) 1) (h : lk L i = some .null) (kk : J κ bc bs Q (pc + 1) L (.null :: st) M k n) : J κ bc bs Q (pc) L (st) M k n := by
  intro p l e s m args below meth c H locs ls D B hc hB hZ hW hS hL
  obtain ⟨hx, hb, hr, hml, hown, hts, hlo, htab, hfl, hnm⟩ := id hc
  refine lv_aload_nN hx hb d rfl (hL.2.2 (i : Nat) _ h) ?_
  exact kk p l e s m args below meth c H locs ls D B hc hB hZ hW hS hL

theorem lk_cons {L : Ls} {i j : Nat} {v : Option Value} : lk ((i, v) :: L) j = if j = i then v else lk L j := by
  unfold lk
  rw [List.lookup_cons]
  by_cases h : j = i
  · subst h; simp
  · rw [if_neg h]
    have h9 : (j == i) = false := by simp [h]
    rw [h9]
/-- the known places, as the kit's rows want them -/
def prs (L : Ls) (N : Nat) : List (Nat × Value) := (List.range N).filterMap (fun i => (lk L i).map (fun v => (i, v)))
theorem prs_mem {L : Ls} {N i : Nat} {v : Value} : (i, v) ∈ prs L N ↔ i < N ∧ lk L i = some v := by
  unfold prs
  rw [List.mem_filterMap]
  constructor
  · rintro ⟨j, hj, h⟩
    cases hl : lk L j with
    | none => rw [hl] at h; cases h
    | some w => rw [hl] at h; cases h; exact ⟨List.mem_range.mp hj, hl⟩
  · rintro ⟨h1, h2⟩
    exact ⟨i, List.mem_range.mpr h1, by rw [h2]; rfl⟩
theorem Lc.has {ls : Array Slot} {nL : Nat} {L : Ls} (h : Lc ls nL L) : lv_has ls nL (prs L nL) := ⟨h.1, h.2.1, fun q hq => h.2.2 q.1 q.2 (prs_mem.mp hq).2⟩
theorem Lc.lt {ls : Array Slot} {nL : Nat} {L : Ls} (h : Lc ls nL L) {i : Nat} {v : Value} (hi : lk L i = some v) : i < nL := by
  have h1 := (Array.getElem?_eq_some_iff.mp (h.2.2 i v hi)).1
  rw [h.1] at h1
  exact h1
theorem Lc.st1 {ls ls' : Array Slot} {nL : Nat} {L : Ls} {i : Nat} {v : Value} (h : Lc ls nL L) (ho : okS L i = true) (h' : lv_has ls' nL ((i, v) :: (prs L nL).filter (fun q => !(q.1 == i) && !(q.1 + 1 == i && q.2.category == 2)))) : Lc ls' nL ((i, some v) :: L) := by
  refine ⟨h'.1, h'.2.1, fun j w hj => ?_⟩
  rw [lk_cons] at hj
  by_cases e : j = i
  · rw [if_pos e] at hj
    cases hj
    rw [e]
    exact h'.2.2 (i, v) List.mem_cons_self
  · rw [if_neg e] at hj
    refine h'.2.2 (j, w) (List.mem_cons_of_mem _ (List.mem_filter.mpr ⟨prs_mem.mpr ⟨h.lt hj, hj⟩, ?_⟩))
    cases i with
    | zero => simp [e]
    | succ i0 =>
      by_cases e2 : j = i0
      · subst e2
        have h9 : okS L (j + 1) = true := ho
        unfold okS at h9
        simp only [hj] at h9
        have h8 : w.category = 1 := by simpa using h9
        simp [h8]
      · have h7 : ¬ j + 1 = i0 + 1 := by omega
        simp [e, e2]
theorem Lc.st2 {ls ls' : Array Slot} {nL : Nat} {L : Ls} {i : Nat} {v : Value} (h : Lc ls nL L) (ho : okS L i = true) (h' : lv_has ls' nL ((i, v) :: (prs L nL).filter (fun q => !(q.1 == i) && (!(q.1 == i + 1) && !(q.1 + 1 == i && q.2.category == 2))))) : Lc ls' nL ((i, some v) :: (i + 1, none) :: L) := by
  refine ⟨h'.1, h'.2.1, fun j w hj => ?_⟩
  rw [lk_cons] at hj
  by_cases e : j = i
  · rw [if_pos e] at hj
    cases hj
    rw [e]
    exact h'.2.2 (i, v) List.mem_cons_self
  · rw [if_neg e, lk_cons] at hj
    by_cases e1 : j = i + 1
    · rw [if_pos e1] at hj; cases hj
    · rw [if_neg e1] at hj
      refine h'.2.2 (j, w) (List.mem_cons_of_mem _ (List.mem_filter.mpr ⟨prs_mem.mpr ⟨h.lt hj, hj⟩, ?_⟩))
      cases i with
      | zero => simp [e, e1]
      | succ i0 =>
        by_cases e2 : j = i0
        · subst e2
          have h9 : okS L (j + 1) = true := ho
          unfold okS at h9
          simp only [hj] at h9
          have h8 : w.category = 1 := by simpa using h9
          simp [h8]
          omega
        · have h7 : ¬ j + 1 = i0 + 1 := by omega
          simp [e, e1, e2]

theorem r_istore {κ : Kp} {bc bs : Nat} {Q : Rs → Mem → Prop} {pc : Nat} {L : Ls} {st : List Value} {M : Mem} {k n : Nat} {x : Int} {i : Nat} (d : Dc κ pc (.istore i) 2) (hi : (i : Nat) < kL κ) (ho : okS L i = true) (kk : J κ bc bs Q (pc + 2) ((i, some (vI x)) :: L) (st) M k n) : J κ bc bs Q (pc) L (vI x :: st) M k n := by
  intro p l e s m args below meth c H locs ls D B hc hB hZ hW hS hL
  obtain ⟨hx, hb, hr, hml, hown, hts, hlo, htab, hfl, hnm⟩ := id hc
  refine lv_istore (x := iN x) (lv := prs L (kL κ)) hx hb d hL.has hi rfl ?_
  intro ls' h'
  exact kk p l e s m args below meth c H locs ls' D B hc hB hZ hW hS (Lc.st1 hL ho h')

theorem r_istore_n {κ : Kp} {bc bs : Nat} {Q : Rs → Mem → Prop} {pc : Nat} {L : Ls} {st : List Value} {M : Mem} {k n : Nat} {x : Int} {i : Fin 4} (d : Dc κ pc (.istore_n i) 1) (hi : (i : Nat) < kL κ) (ho : okS L i = true) (kk : J κ bc bs Q (pc + 1) (((i : Nat), some (vI x)) :: L) (st) M k n) : J κ bc bs Q (pc) L (vI x :: st) M k n := by
  intro p l e s m args below meth c H locs ls D B hc hB hZ hW hS hL
  obtain ⟨hx, hb, hr, hml, hown, hts, hlo, htab, hfl, hnm⟩ := id hc
  refine lv_istore_n (x := iN x) (i := (i : Nat)) (lv := prs L (kL κ)) hx hb d rfl hL.has hi rfl ?_
  intro ls' h'
  exact kk p l e s m args below meth c H locs ls' D B hc hB hZ hW hS (Lc.st1 hL ho h')

theorem r_astore {κ : Kp} {bc bs : Nat} {Q : Rs → Mem → Prop} {pc : Nat} {L : Ls} {st : List Value} {M : Mem} {k n : Nat} {x : Nat} {i : Nat} (d : Dc κ pc (.astore i) 2) (hi : (i : Nat) < kL κ) (ho : okS L i = true) (kk : J κ bc bs Q (pc + 2) ((i, some (.ref x)) :: L) (st) M k n) : J κ bc bs Q (pc) L (.ref x :: st) M k n := by
  intro p l e s m args below meth c H locs ls D B hc hB hZ hW hS hL
  obtain ⟨hx, hb, hr, hml, hown, hts, hlo, htab, hfl, hnm⟩ := id hc
  refine lv_astore  (lv := prs L (kL κ)) hx hb d hL.has hi rfl ?_
  intro ls' h'
  exact kk p l e s m args below meth c H locs ls' D B hc hB hZ hW hS (Lc.st1 hL ho h')

theorem r_astore_n {κ : Kp} {bc bs : Nat} {Q : Rs → Mem → Prop} {pc : Nat} {L : Ls} {st : List Value} {M : Mem} {k n : Nat} {x : Nat} {i : Fin 4} (d : Dc κ pc (.astore_n i) 1) (hi : (i : Nat) < kL κ) (ho : okS L i = true) (kk : J κ bc bs Q (pc + 1) (((i : Nat), some (.ref x)) :: L) (st) M k n) : J κ bc bs Q (pc) L (.ref x :: st) M k n := by
  intro p l e s m args below meth c H locs ls D B hc hB hZ hW hS hL
  obtain ⟨hx, hb, hr, hml, hown, hts, hlo, htab, hfl, hnm⟩ := id hc
  refine lv_astore_n  (i := (i : Nat)) (lv := prs L (kL κ)) hx hb d rfl hL.has hi rfl ?_
  intro ls' h'
  exact kk p l e s m args below meth c H locs ls' D B hc hB hZ hW hS (Lc.st1 hL ho h')

theorem r_lstore {κ : Kp} {bc bs : Nat} {Q : Rs → Mem → Prop} {pc : Nat} {L : Ls} {st : List Value} {M : Mem} {k n : Nat} {x : Int64} {i : Nat} (d : Dc κ pc (.lstore i) 2) (hi : (i : Nat) + 1 < kL κ) (ho : okS L i = true) (kk : J κ bc bs Q (pc + 2) ((i, some (.long x)) :: (i + 1, none) :: L) (st) M k n) : J κ bc bs Q (pc) L (.long x :: st) M k n := by
  intro p l e s m args below meth c H locs ls D B hc hB hZ hW hS hL
  obtain ⟨hx, hb, hr, hml, hown, hts, hlo, htab, hfl, hnm⟩ := id hc
  refine lv_lstore  (lv := prs L (kL κ)) hx hb d hL.has hi rfl ?_
  intro ls' h'
  exact kk p l e s m args below meth c H locs ls' D B hc hB hZ hW hS (Lc.st2 hL ho h')

theorem r_lstore_n {κ : Kp} {bc bs : Nat} {Q : Rs → Mem → Prop} {pc : Nat} {L : Ls} {st : List Value} {M : Mem} {k n : Nat} {x : Int64} {i : Fin 4} (d : Dc κ pc (.lstore_n i) 1) (hi : (i : Nat) + 1 < kL κ) (ho : okS L i = true) (kk : J κ bc bs Q (pc + 1) (((i : Nat), some (.long x)) :: ((i : Nat) + 1, none) :: L) (st) M k n) : J κ bc bs Q (pc) L (.long x :: st) M k n := by
  intro p l e s m args below meth c H locs ls D B hc hB hZ hW hS hL
  obtain ⟨hx, hb, hr, hml, hown, hts, hlo, htab, hfl, hnm⟩ := id hc
  refine lv_lstore_n  (i := (i : Nat)) (lv := prs L (kL κ)) hx hb d rfl hL.has hi rfl ?_
  intro ls' h'
  exact kk p l e s m args below meth c H locs ls' D B hc hB hZ hW hS (Lc.st2 hL ho h')

theorem r_dstore {κ : Kp} {bc bs : Nat} {Q : Rs → Mem → Prop} {pc : Nat} {L : Ls} {st : List Value} {M : Mem} {k n : Nat} {x : UInt64} {i : Nat} (d : Dc κ pc (.dstore i) 2) (hi : (i : Nat) + 1 < kL κ) (ho : okS L i = true) (kk : J κ bc bs Q (pc + 2) ((i, some (.double x)) :: (i + 1, none) :: L) (st) M k n) : J κ bc bs Q (pc) L (.double x :: st) M k n := by
  intro p l e s m args below meth c H locs ls D B hc hB hZ hW hS hL
  obtain ⟨hx, hb, hr, hml, hown, hts, hlo, htab, hfl, hnm⟩ := id hc
  refine lv_dstore  (lv := prs L (kL κ)) hx hb d hL.has hi rfl ?_
  intro ls' h'
  exact kk p l e s m args below meth c H locs ls' D B hc hB hZ hW hS (Lc.st2 hL ho h')

theorem r_dstore_n {κ : Kp} {bc bs : Nat} {Q : Rs → Mem → Prop} {pc : Nat} {L : Ls} {st : List Value} {M : Mem} {k n : Nat} {x : UInt64} {i : Fin 4} (d : Dc κ pc (.dstore_n i) 1) (hi : (i : Nat) + 1 < kL κ) (ho : okS L i = true) (kk : J κ bc bs Q (pc + 1) (((i : Nat), some (.double x)) :: ((i : Nat) + 1, none) :: L) (st) M k n) : J κ bc bs Q (pc) L (.double x :: st) M k n := by
  intro p l e s m args below meth c H locs ls D B hc hB hZ hW hS hL
  obtain ⟨hx, hb, hr, hml, hown, hts, hlo, htab, hfl, hnm⟩ := id hc
  refine lv_dstore_n  (i := (i : Nat)) (lv := prs L (kL κ)) hx hb d rfl hL.has hi rfl ?_
  intro ls' h'
  exact kk p l e s m args below meth c H locs ls' D B hc hB hZ hW hS (Lc.st2 hL ho h')

theorem r_astoreN {κ : Kp} {bc bs : Nat} {Q : Rs → Mem → Prop} {pc : Nat} {L : Ls} {st : List Value} {M : Mem} {k n : Nat} {i : Nat} (d : Dc κ pc (.astore i) 2) (hi : (i : Nat) < kL κ) (ho : okS L i = true) (kk : J κ bc bs Q (pc + 2) ((i, some (.null)) :: L) (st) M k n) : J κ bc bs Q (pc) L (.null :: st) M k n := by
  intro p l e s m args below meth c H locs ls D B hc hB hZ hW hS hL
  obtain ⟨hx, hb, hr, hml, hown, hts, hlo, htab, hfl, hnm⟩ := id hc
  refine lv_astoreN (lv := prs L (kL κ)) hx hb d hL.has hi rfl ?_
  intro ls' h'
  exact kk p l e s m args below meth c H locs ls' D B hc hB hZ hW hS (Lc.st1 hL ho h')

theorem r_astoreN_n {κ : Kp} {bc bs : Nat} {Q : Rs → Mem → Prop} {pc : Nat} {L : Ls} {st : List Value} {M : Mem} {k n : Nat} {i : Fin 4} (d : Dc κ pc (.astore_n i) 1) (hi : (i : Nat) < kL κ) (ho : okS L i = true) (kk : J κ bc bs Q (pc + 1) (((i : Nat), some (.null)) :: L) (st) M k n) : J κ bc bs Q (pc) L (.null :: st) M k n := by
  intro p l e s m args below meth c H locs ls D B hc hB hZ hW hS hL
  obtain ⟨hx, hb, hr, hml, hown, hts, hlo, htab, hfl, hnm⟩ := id hc
  refine lv_astore_nN (i := (i : Nat)) (lv := prs L (kL κ)) hx hb d rfl hL.has hi rfl ?_
  intro ls' h'
  exact kk p l e s m args below meth c H locs ls' D B hc hB hZ hW hS (Lc.st1 hL ho h')

theorem r_iinc {κ : Kp} {bc bs : Nat} {Q : Rs → Mem → Prop} {pc : Nat} {L : Ls} {st : List Value} {M : Mem} {k n : Nat} {i : Nat} {z x : Int} (d : Dc κ pc (.iinc i z) 3) (h : lk L i = some (vI x)) (ho : okS L i = true) (kk : J κ bc bs Q (pc + 3) ((i, some (vI (x + z))) :: L) (st) M k n) : J κ bc bs Q (pc) L (st) M k n := by
  intro p l e s m args below meth c H locs ls D B hc hB hZ hW hS hL
  obtain ⟨hx, hb, hr, hml, hown, hts, hlo, htab, hfl, hnm⟩ := id hc
  have hm : (i, vI x) ∈ prs L (kL κ) := prs_mem.mpr ⟨hL.lt h, h⟩
  obtain ⟨k9, hk9⟩ := List.getElem?_of_mem hm
  refine lv_iinc (x := iN x) (v := iN (x + z)) (lv := prs L (kL κ)) hx hb d hL.has hk9 (iN_add x z) (hL.lt h) rfl ?_
  intro ls' h'
  exact kk p l e s m args below meth c H locs ls' D B hc hB hZ hW hS (Lc.st1 hL ho h')

theorem r_icmp_eq {κ : Kp} {bc bs : Nat} {Q : Rs → Mem → Prop} {pc : Nat} {L : Ls} {st : List Value} {M : Mem} {k n : Nat} {x y : Int} {off : Int} {tgt : Nat} (d : Dc κ pc (.if_icmp .eq off) 3) (ht : (pc : Int) + off = (tgt : Int)) (hx9 : R32 x) (hy9 : R32 y) (kt : x = y → J κ bc bs Q (tgt) L (st) M k n) (kf : ¬ (x = y) → J κ bc bs Q (pc + 3) L (st) M k n) : J κ bc bs Q (pc) L (vI y :: vI x :: st) M k n := by
  intro p l e s m args below meth c H locs ls D B hc hB hZ hW hS hL
  obtain ⟨hx, hb, hr, hml, hown, hts, hlo, htab, hfl, hnm⟩ := id hc
  refine lv_icmp_eq (x := iN x) (y := iN y) hx hb d ht (fun h => kt ?_ p l e s m args below meth c H locs ls D B hc hB hZ hW hS hL) (fun h => kf ?_ p l e s m args below meth c H locs ls D B hc hB hZ hW hS hL)
  · exact (iN_eq hx9 hy9).mp h
  · exact fun h9 => h ((iN_eq hx9 hy9).mpr h9)

theorem r_if_eq {κ : Kp} {bc bs : Nat} {Q : Rs → Mem → Prop} {pc : Nat} {L : Ls} {st : List Value} {M : Mem} {k n : Nat} {x : Int} {off : Int} {tgt : Nat} (d : Dc κ pc (.ifCond .eq off) 3) (ht : (pc : Int) + off = (tgt : Int)) (hx9 : R32 x) (kt : x = 0 → J κ bc bs Q (tgt) L (st) M k n) (kf : ¬ (x = 0) → J κ bc bs Q (pc + 3) L (st) M k n) : J κ bc bs Q (pc) L (vI x :: st) M k n := by
  intro p l e s m args below meth c H locs ls D B hc hB hZ hW hS hL
  obtain ⟨hx, hb, hr, hml, hown, hts, hlo, htab, hfl, hnm⟩ := id hc
  refine lv_if_eq (x := iN x) hx hb d ht (fun h => kt ?_ p l e s m args below meth c H locs ls D B hc hB hZ hW hS hL) (fun h => kf ?_ p l e s m args below meth c H locs ls D B hc hB hZ hW hS hL)
  · exact (iN_eq hx9 (show R32 0 by omega)).mp h
  · exact fun h9 => h ((iN_eq hx9 (show R32 0 by omega)).mpr h9)

theorem r_icmp_ne {κ : Kp} {bc bs : Nat} {Q : Rs → Mem → Prop} {pc : Nat} {L : Ls} {st : List Value} {M : Mem} {k n : Nat} {x y : Int} {off : Int} {tgt : Nat} (d : Dc κ pc (.if_icmp .ne off) 3) (ht : (pc : Int) + off = (tgt : Int)) (hx9 : R32 x) (hy9 : R32 y) (kt : ¬ x = y → J κ bc bs Q (tgt) L (st) M k n) (kf : x = y → J κ bc bs Q (pc + 3) L (st) M k n) : J κ bc bs Q (pc) L (vI y :: vI x :: st) M k n := by
  intro p l e s m args below meth c H locs ls D B hc hB hZ hW hS hL
  obtain ⟨hx, hb, hr, hml, hown, hts, hlo, htab, hfl, hnm⟩ := id hc
  refine lv_icmp_ne (x := iN x) (y := iN y) hx hb d ht (fun h => kt ?_ p l e s m args below meth c H locs ls D B hc hB hZ hW hS hL) (fun h => kf ?_ p l e s m args below meth c H locs ls D B hc hB hZ hW hS hL)
  · exact (not_congr (iN_eq hx9 hy9)).mp h
  · exact (iN_eq hx9 hy9).mp h

theorem r_if_ne {κ : Kp} {bc bs : Nat} {Q : Rs → Mem → Prop} {pc : Nat} {L : Ls} {st : List Value} {M : Mem} {k n : Nat} {x : Int} {off : Int} {tgt : Nat} (d : Dc κ pc (.ifCond .ne off) 3) (ht : (pc : Int) + off = (tgt : Int)) (hx9 : R32 x) (kt : ¬ x = 0 → J κ bc bs Q (tgt) L (st) M k n) (kf : x = 0 → J κ bc bs Q (pc + 3) L (st) M k n) : J κ bc bs Q (pc) L (vI x :: st) M k n := by
  intro p l e s m args below meth c H locs ls D B hc hB hZ hW hS hL
  obtain ⟨hx, hb, hr, hml, hown, hts, hlo, htab, hfl, hnm⟩ := id hc
  refine lv_if_ne (x := iN x) hx hb d ht (fun h => kt ?_ p l e s m args below meth c H locs ls D B hc hB hZ hW hS hL) (fun h => kf ?_ p l e s m args below meth c H locs ls D B hc hB hZ hW hS hL)
  · exact (not_congr (iN_eq hx9 (show R32 0 by omega))).mp h
  · exact (iN_eq hx9 (show R32 0 by omega)).mp h

theorem r_icmp_lt {κ : Kp} {bc bs : Nat} {Q : Rs → Mem → Prop} {pc : Nat} {L : Ls} {st : List Value} {M : Mem} {k n : Nat} {x y : Int} {off : Int} {tgt : Nat} (d : Dc κ pc (.if_icmp .lt off) 3) (ht : (pc : Int) + off = (tgt : Int)) (hx9 : R32 x) (hy9 : R32 y) (kt : x < y → J κ bc bs Q (tgt) L (st) M k n) (kf : ¬ (x < y) → J κ bc bs Q (pc + 3) L (st) M k n) : J κ bc bs Q (pc) L (vI y :: vI x :: st) M k n := by
  intro p l e s m args below meth c H locs ls D B hc hB hZ hW hS hL
  obtain ⟨hx, hb, hr, hml, hown, hts, hlo, htab, hfl, hnm⟩ := id hc
  refine lv_icmp_lt (x := iN x) (y := iN y) hx hb d ht (fun h => kt ?_ p l e s m args below meth c H locs ls D B hc hB hZ hW hS hL) (fun h => kf ?_ p l e s m args below meth c H locs ls D B hc hB hZ hW hS hL)
  · exact (iN_lt hx9 hy9).mp h
  · exact fun h9 => h ((iN_lt hx9 hy9).mpr h9)

theorem r_if_lt {κ : Kp} {bc bs : Nat} {Q : Rs → Mem → Prop} {pc : Nat} {L : Ls} {st : List Value} {M : Mem} {k n : Nat} {x : Int} {off : Int} {tgt : Nat} (d : Dc κ pc (.ifCond .lt off) 3) (ht : (pc : Int) + off = (tgt : Int)) (hx9 : R32 x) (kt : x < 0 → J κ bc bs Q (tgt) L (st) M k n) (kf : ¬ (x < 0) → J κ bc bs Q (pc + 3) L (st) M k n) : J κ bc bs Q (pc) L (vI x :: st) M k n := by
  intro p l e s m args below meth c H locs ls D B hc hB hZ hW hS hL
  obtain ⟨hx, hb, hr, hml, hown, hts, hlo, htab, hfl, hnm⟩ := id hc
  refine lv_if_lt (x := iN x) hx hb d ht (fun h => kt ?_ p l e s m args below meth c H locs ls D B hc hB hZ hW hS hL) (fun h => kf ?_ p l e s m args below meth c H locs ls D B hc hB hZ hW hS hL)
  · exact (iN_lt hx9 (show R32 0 by omega)).mp h
  · exact fun h9 => h ((iN_lt hx9 (show R32 0 by omega)).mpr h9)

theorem r_icmp_ge {κ : Kp} {bc bs : Nat} {Q : Rs → Mem → Prop} {pc : Nat} {L : Ls} {st : List Value} {M : Mem} {k n : Nat} {x y : Int} {off : Int} {tgt : Nat} (d : Dc κ pc (.if_icmp .ge off) 3) (ht : (pc : Int) + off = (tgt : Int)) (hx9 : R32 x) (hy9 : R32 y) (kt : y ≤ x → J κ bc bs Q (tgt) L (st) M k n) (kf : ¬ (y ≤ x) → J κ bc bs Q (pc + 3) L (st) M k n) : J κ bc bs Q (pc) L (vI y :: vI x :: st) M k n := by
  intro p l e s m args below meth c H locs ls D B hc hB hZ hW hS hL
  obtain ⟨hx, hb, hr, hml, hown, hts, hlo, htab, hfl, hnm⟩ := id hc
  refine lv_icmp_ge (x := iN x) (y := iN y) hx hb d ht (fun h => kt ?_ p l e s m args below meth c H locs ls D B hc hB hZ hW hS hL) (fun h => kf ?_ p l e s m args below meth c H locs ls D B hc hB hZ hW hS hL)
  · exact (iN_le hy9 hx9).mp h
  · exact fun h9 => h ((iN_le hy9 hx9).mpr h9)

theorem r_if_ge {κ : Kp} {bc bs : Nat} {Q : Rs → Mem → Prop} {pc : Nat} {L : Ls} {st : List Value} {M : Mem} {k n : Nat} {x : Int} {off : Int} {tgt : Nat} (d : Dc κ pc (.ifCond .ge off) 3) (ht : (pc : Int) + off = (tgt : Int)) (hx9 : R32 x) (kt : 0 ≤ x → J κ bc bs Q (tgt) L (st) M k n) (kf : ¬ (0 ≤ x) → J κ bc bs Q (pc + 3) L (st) M k n) : J κ bc bs Q (pc) L (vI x :: st) M k n := by
  intro p l e s m args below meth c H locs ls D B hc hB hZ hW hS hL
  obtain ⟨hx, hb, hr, hml, hown, hts, hlo, htab, hfl, hnm⟩ := id hc
  refine lv_if_ge (x := iN x) hx hb d ht (fun h => kt ?_ p l e s m args below meth c H locs ls D B hc hB hZ hW hS hL) (fun h => kf ?_ p l e s m args below meth c H locs ls D B hc hB hZ hW hS hL)
  · exact (iN_le (show R32 0 by omega) hx9).mp h
  · exact fun h9 => h ((iN_le (show R32 0 by omega) hx9).mpr h9)

theorem r_icmp_gt {κ : Kp} {bc bs : Nat} {Q : Rs → Mem → Prop} {pc : Nat} {L : Ls} {st : List Value} {M : Mem} {k n : Nat} {x y : Int} {off : Int} {tgt : Nat} (d : Dc κ pc (.if_icmp .gt off) 3) (ht : (pc : Int) + off = (tgt : Int)) (hx9 : R32 x) (hy9 : R32 y) (kt : y < x → J κ bc bs Q (tgt) L (st) M k n) (kf : ¬ (y < x) → J κ bc bs Q (pc + 3) L (st) M k n) : J κ bc bs Q (pc) L (vI y :: vI x :: st) M k n := by
  intro p l e s m args below meth c H locs ls D B hc hB hZ hW hS hL
  obtain ⟨hx, hb, hr, hml, hown, hts, hlo, htab, hfl, hnm⟩ := id hc
  refine lv_icmp_gt (x := iN x) (y := iN y) hx hb d ht (fun h => kt ?_ p l e s m args below meth c H locs ls D B hc hB hZ hW hS hL) (fun h => kf ?_ p l e s m args below meth c H locs ls D B hc hB hZ hW hS hL)
  · exact (iN_lt hy9 hx9).mp h
  · exact fun h9 => h ((iN_lt hy9 hx9).mpr h9)

theorem r_if_gt {κ : Kp} {bc bs : Nat} {Q : Rs → Mem → Prop} {pc : Nat} {L : Ls} {st : List Value} {M : Mem} {k n : Nat} {x : Int} {off : Int} {tgt : Nat} (d : Dc κ pc (.ifCond .gt off) 3) (ht : (pc : Int) + off = (tgt : Int)) (hx9 : R32 x) (kt : 0 < x → J κ bc bs Q (tgt) L (st) M k n) (kf : ¬ (0 < x) → J κ bc bs Q (pc + 3) L (st) M k n) : J κ bc bs Q (pc) L (vI x :: st) M k n := by
  intro p l e s m args below meth c H locs ls D B hc hB hZ hW hS hL
  obtain ⟨hx, hb, hr, hml, hown, hts, hlo, htab, hfl, hnm⟩ := id hc
  refine lv_if_gt (x := iN x) hx hb d ht (fun h => kt ?_ p l e s m args below meth c H locs ls D B hc hB hZ hW hS hL) (fun h => kf ?_ p l e s m args below meth c H locs ls D B hc hB hZ hW hS hL)
  · exact (iN_lt (show R32 0 by omega) hx9).mp h
  · exact fun h9 => h ((iN_lt (show R32 0 by omega) hx9).mpr h9)

theorem r_icmp_le {κ : Kp} {bc bs : Nat} {Q : Rs → Mem → Prop} {pc : Nat} {L : Ls} {st : List Value} {M : Mem} {k n : Nat} {x y : Int} {off : Int} {tgt : Nat} (d : Dc κ pc (.if_icmp .le off) 3) (ht : (pc : Int) + off = (tgt : Int)) (hx9 : R32 x) (hy9 : R32 y) (kt : x ≤ y → J κ bc bs Q (tgt) L (st) M k n) (kf : ¬ (x ≤ y) → J κ bc bs Q (pc + 3) L (st) M k n) : J κ bc bs Q (pc) L (vI y :: vI x :: st) M k n := by
  intro p l e s m args below meth c H locs ls D B hc hB hZ hW hS hL
  obtain ⟨hx, hb, hr, hml, hown, hts, hlo, htab, hfl, hnm⟩ := id hc
  refine lv_icmp_le (x := iN x) (y := iN y) hx hb d ht (fun h => kt ?_ p l e s m args below meth c H locs ls D B hc hB hZ hW hS hL) (fun h => kf ?_ p l e s m args below meth c H locs ls D B hc hB hZ hW hS hL)
  · exact (iN_le hx9 hy9).mp h
  · exact fun h9 => h ((iN_le hx9 hy9).mpr h9)

theorem r_if_le {κ : Kp} {bc bs : Nat} {Q : Rs → Mem → Prop} {pc : Nat} {L : Ls} {st : List Value} {M : Mem} {k n : Nat} {x : Int} {off : Int} {tgt : Nat} (d : Dc κ pc (.ifCond .le off) 3) (ht : (pc : Int) + off = (tgt : Int)) (hx9 : R32 x) (kt : x ≤ 0 → J κ bc bs Q (tgt) L (st) M k n) (kf : ¬ (x ≤ 0) → J κ bc bs Q (pc + 3) L (st) M k n) : J κ bc bs Q (pc) L (vI x :: st) M k n := by
  intro p l e s m args below meth c H locs ls D B hc hB hZ hW hS hL
  obtain ⟨hx, hb, hr, hml, hown, hts, hlo, htab, hfl, hnm⟩ := id hc
  refine lv_if_le (x := iN x) hx hb d ht (fun h => kt ?_ p l e s m args below meth c H locs ls D B hc hB hZ hW hS hL) (fun h => kf ?_ p l e s m args below meth c H locs ls D B hc hB hZ hW hS hL)
  · exact (iN_le hx9 (show R32 0 by omega)).mp h
  · exact fun h9 => h ((iN_le hx9 (show R32 0 by omega)).mpr h9)

theorem r_goto {κ : Kp} {bc bs : Nat} {Q : Rs → Mem → Prop} {pc : Nat} {L : Ls} {st : List Value} {M : Mem} {k n : Nat} {off : Int} {tgt : Nat} (d : Dc κ pc (.goto off) 3) (ht : (pc : Int) + off = (tgt : Int)) (kk : J κ bc bs Q (tgt) L (st) M k n) : J κ bc bs Q (pc) L (st) M k n := by
  intro p l e s m args below meth c H locs ls D B hc hB hZ hW hS hL
  obtain ⟨hx, hb, hr, hml, hown, hts, hlo, htab, hfl, hnm⟩ := id hc
  exact lv_goto hx hb d ht (kk p l e s m args below meth c H locs ls D B hc hB hZ hW hS hL)

theorem r_ifnull {κ : Kp} {bc bs : Nat} {Q : Rs → Mem → Prop} {pc : Nat} {L : Ls} {st : List Value} {M : Mem} {k n : Nat} {a : Nat} {off : Int} (d : Dc κ pc (.ifnull off) 3) (kk : J κ bc bs Q (pc + 3) L (st) M k n) : J κ bc bs Q (pc) L (.ref a :: st) M k n := by
  intro p l e s m args below meth c H locs ls D B hc hB hZ hW hS hL
  obtain ⟨hx, hb, hr, hml, hown, hts, hlo, htab, hfl, hnm⟩ := id hc
  exact lv_ifnull hx hb d (kk p l e s m args below meth c H locs ls D B hc hB hZ hW hS hL)

theorem r_ifnullN {κ : Kp} {bc bs : Nat} {Q : Rs → Mem → Prop} {pc : Nat} {L : Ls} {st : List Value} {M : Mem} {k n : Nat} {off : Int} {tgt : Nat} (d : Dc κ pc (.ifnull off) 3) (ht : (pc : Int) + off = (tgt : Int)) (kk : J κ bc bs Q (tgt) L (st) M k n) : J κ bc bs Q (pc) L (.null :: st) M k n := by
  intro p l e s m args below meth c H locs ls D B hc hB hZ hW hS hL
  obtain ⟨hx, hb, hr, hml, hown, hts, hlo, htab, hfl, hnm⟩ := id hc
  exact lv_ifnullN hx hb d ht (kk p l e s m args below meth c H locs ls D B hc hB hZ hW hS hL)

theorem r_ifnonnull {κ : Kp} {bc bs : Nat} {Q : Rs → Mem → Prop} {pc : Nat} {L : Ls} {st : List Value} {M : Mem} {k n : Nat} {a : Nat} {off : Int} {tgt : Nat} (d : Dc κ pc (.ifnonnull off) 3) (ht : (pc : Int) + off = (tgt : Int)) (kk : J κ bc bs Q (tgt) L (st) M k n) : J κ bc bs Q (pc) L (.ref a :: st) M k n := by
  intro p l e s m args below meth c H locs ls D B hc hB hZ hW hS hL
  obtain ⟨hx, hb, hr, hml, hown, hts, hlo, htab, hfl, hnm⟩ := id hc
  exact lv_ifnonnull hx hb d ht (kk p l e s m args below meth c H locs ls D B hc hB hZ hW hS hL)

theorem r_ifnonnullN {κ : Kp} {bc bs : Nat} {Q : Rs → Mem → Prop} {pc : Nat} {L : Ls} {st : List Value} {M : Mem} {k n : Nat} {off : Int} (d : Dc κ pc (.ifnonnull off) 3) (kk : J κ bc bs Q (pc + 3) L (st) M k n) : J κ bc bs Q (pc) L (.null :: st) M k n := by
  intro p l e s m args below meth c H locs ls D B hc hB hZ hW hS hL
  obtain ⟨hx, hb, hr, hml, hown, hts, hlo, htab, hfl, hnm⟩ := id hc
  exact lv_ifnonnullN hx hb d (kk p l e s m args below meth c H locs ls D B hc hB hZ hW hS hL)

theorem r_tableIn {κ : Kp} {bc bs : Nat} {Q : Rs → Mem → Prop} {pc : Nat} {L : Ls} {st : List Value} {M : Mem} {k n : Nat} {x : Int} {dflt lo hi : Int} {offs : Array Int} {len : Nat} {off : Int} {tgt : Nat} (d : Dc κ pc (.tableswitch dflt lo hi offs) len) (hx9 : R32 x) (h1 : lo ≤ x) (h2 : x ≤ hi) (ho : offs[(x - lo).toNat]? = some off) (ht : (pc : Int) + off = (tgt : Int)) (kk : J κ bc bs Q (tgt) L (st) M k n) : J κ bc bs Q (pc) L (vI x :: st) M k n := by
  intro p l e s m args below meth c H locs ls D B hc hB hZ hW hS hL
  obtain ⟨hx, hb, hr, hml, hown, hts, hlo, htab, hfl, hnm⟩ := id hc
  exact lv_tableIn (x := iN x) hx hb d (by rw [iN_toInt hx9]; omega) (by rw [iN_toInt hx9]; omega) (by rw [iN_toInt hx9]; exact ho) ht (kk p l e s m args below meth c H locs ls D B hc hB hZ hW hS hL)

theorem r_tableOut {κ : Kp} {bc bs : Nat} {Q : Rs → Mem → Prop} {pc : Nat} {L : Ls} {st : List Value} {M : Mem} {k n : Nat} {x : Int} {dflt lo hi : Int} {offs : Array Int} {len : Nat} {tgt : Nat} (d : Dc κ pc (.tableswitch dflt lo hi offs) len) (hx9 : R32 x) (h1 : x < lo ∨ hi < x) (ht : (pc : Int) + dflt = (tgt : Int)) (kk : J κ bc bs Q (tgt) L (st) M k n) : J κ bc bs Q (pc) L (vI x :: st) M k n := by
  intro p l e s m args below meth c H locs ls D B hc hB hZ hW hS hL
  obtain ⟨hx, hb, hr, hml, hown, hts, hlo, htab, hfl, hnm⟩ := id hc
  exact lv_tableOut (x := iN x) hx hb d (by rw [iN_toInt hx9]; exact h1) ht (kk p l e s m args below meth c H locs ls D B hc hB hZ hW hS hL)
end
section
/-! J's rows for memory, calls and ends -/
/-- class ci of vwCl, and what the tables say of its fields -/
def Cl (ci : Nat) (C : String) (T : u_T) (N : Nat) (ty : Nat → FieldType) : Prop :=
  vwCl[ci]? = some (C, T, N) ∧ (∀ w ∈ u_ws C T N, w ∈ lw_g) ∧ (∀ j, j < N → parseFieldDescriptor (T j).2.2.1 = some (ty j)) ∧ (∀ a, a < N → ∀ b, b < N → a ≠ b → (T a).2.1 ≠ (T b).2.1)
/-- the world behind a write at place q0 of ws -/
theorem Rl.set {ws : va_W} {tys : List (ClassId × FieldType)} {s : State} {H H1 : Heap} {B : Nat} {M : Mem} {q0 a : Nat} {e0 e : va_E} {x : AC} (hD : va_D (fun q => B ≤ q) ws) (h0 : ws[q0]? = some (a, e0)) (hx : ws.length = ws.length → Rl (ws.set q0 (a, e)) tys s H1 B a x) (hH : ∀ q, q < B → H1[q]? = H[q]?)
    (hR : ∀ (b : Nat) (y : AC), M b = some y → Rl ws tys s H B b y) : ∀ (b : Nat) (y : AC), up M a x b = some y → Rl (ws.set q0 (a, e)) tys s H1 B b y := by
  intro b y hb
  unfold up at hb
  by_cases hba : b = a
  · rw [if_pos hba] at hb
    cases hb
    rw [hba]
    exact hx rfl
  · rw [if_neg hba] at hb
    have h1 := hR b y hb
    have key : ∀ (k : Nat) (z : va_E), ws[k]? = some (b, z) → (ws.set q0 (a, e))[k]? = some (b, z) := by
      intro k z hk
      have hne : q0 ≠ k := by
        intro h
        subst h
        rw [h0] at hk
        cases hk
        exact hba rfl
      rw [List.getElem?_set_ne hne]
      exact hk
    match y, h1 with
    | .inl _, ⟨k, hk⟩ => exact ⟨k, key _ _ hk⟩
    | .inr (.inl _), ⟨k, t0, cA, hk, ht⟩ => exact ⟨k, t0, cA, key _ _ hk, ht⟩
    | .inr (.inr (.inl _)), ⟨k, t0, cA, hk, ht⟩ => exact ⟨k, t0, cA, key _ _ hk, ht⟩
    | .inr (.inr (.inr (.inl _))), ⟨k, t0, cA, r, hk, ht⟩ => exact ⟨k, t0, cA, r, key _ _ hk, ht⟩
    | .inr (.inr (.inr (.inr (n, f)))), h => exact ⟨h.1.kept (hH b h.2), h.2⟩
theorem set_self {ws : va_W} {q0 : Nat} {p e : Nat × va_E} (h : ws[q0]? = some p) : (ws.set q0 e)[q0]? = some e := List.getElem?_set_self (List.getElem?_eq_some_iff.mp h).1
theorem low_eq {B : Nat} {H0 H H1 : Heap} {l1 l2 : List Loc} (hB : B ≤ H0.size) (h1 : va_S (fun q => B ≤ q) H0 H l1) (h2 : va_S (fun q => B ≤ q) H0 H1 l2) : ∀ q, q < B → H1[q]? = H[q]? := fun q hq => by
  rw [h1.2.1 q (by omega) (by omega), h2.2.1 q (by omega) (by omega)]
/-- the world with a new thing -/
theorem Rl.push {ws : va_W} {tys tys' : List (ClassId × FieldType)} {s : State} {H H1 : Heap} {B : Nat} {M : Mem} {a : Nat} {e : va_E} {x : AC} (hx : Rl (ws ++ [(a, e)]) (tys ++ tys') s H1 B a x) (hH : ∀ q, q < B → H1[q]? = H[q]?)
    (hR : ∀ (b : Nat) (y : AC), M b = some y → Rl ws tys s H B b y) : ∀ (b : Nat) (y : AC), up M a x b = some y → Rl (ws ++ [(a, e)]) (tys ++ tys') s H1 B b y := by
  intro b y hb
  unfold up at hb
  by_cases hba : b = a
  · rw [if_pos hba] at hb
    cases hb
    rw [hba]
    exact hx
  · rw [if_neg hba] at hb
    have h1 := hR b y hb
    have key : ∀ (k : Nat) (z : Nat × va_E), ws[k]? = some z → (ws ++ [(a, e)])[k]? = some z := by
      intro k z hk
      rw [List.getElem?_append_left (List.getElem?_eq_some_iff.mp hk).1]
      exact hk
    have key2 : ∀ (k : Nat) (z : ClassId × FieldType), tys[k]? = some z → (tys ++ tys')[k]? = some z := by
      intro k z hk
      rw [List.getElem?_append_left (List.getElem?_eq_some_iff.mp hk).1]
      exact hk
    match y, h1 with
    | .inl _, ⟨k, hk⟩ => exact ⟨k, key _ _ hk⟩
    | .inr (.inl _), ⟨k, t0, cA, hk, ht⟩ => exact ⟨k, t0, cA, key _ _ hk, key2 _ _ ht⟩
    | .inr (.inr (.inl _)), ⟨k, t0, cA, hk, ht⟩ => exact ⟨k, t0, cA, key _ _ hk, key2 _ _ ht⟩
    | .inr (.inr (.inr (.inl _))), ⟨k, t0, cA, r, hk, ht, hr⟩ => exact ⟨k, t0, cA, r, key _ _ hk, key2 _ _ ht, hr⟩
    | .inr (.inr (.inr (.inr (n, f)))), h => exact ⟨h.1.kept (hH b h.2), h.2⟩
theorem app_last {α : Type} {ws : List α} {e : α} : (ws ++ [e])[ws.length]? = some e := by rw [List.getElem?_append_right (Nat.le_refl _), Nat.sub_self]; rfl
/-- nothing of the memory lies where a new thing comes -/
theorem Rl.fresh {ws : va_W} {tys : List (ClassId × FieldType)} {s : State} {H : Heap} {B : Nat} {M : Mem} {q : Nat} {e : va_E} (hD : va_D (fun q => B ≤ q) (ws ++ [(q, e)])) (hR : ∀ (b : Nat) (y : AC), M b = some y → Rl ws tys s H B b y) : M q = none := by
  cases hM : M q with
  | none => rfl
  | some x =>
    have h := hR q x hM
    have key : ∀ (k : Nat) (z : va_E), ws[k]? = some (q, z) → False := fun k z hk => by
      have hl := (List.getElem?_eq_some_iff.mp hk).1
      have h1 : (ws ++ [(q, e)])[k]? = some (q, z) := by rw [List.getElem?_append_left hl]; exact hk
      have := hD.1 k ws.length (q, z) (q, e) h1 app_last rfl
      omega
    match x, h with
    | .inl _, ⟨k, hk⟩ => exact (key _ _ hk).elim
    | .inr (.inl _), ⟨k, t0, cA, hk, ht⟩ => exact (key _ _ hk).elim
    | .inr (.inr (.inl _)), ⟨k, t0, cA, hk, ht⟩ => exact (key _ _ hk).elim
    | .inr (.inr (.inr (.inl _))), ⟨k, t0, cA, r, hk, ht, hr⟩ => exact (key _ _ hk).elim
    | .inr (.inr (.inr (.inr (n, f)))), h =>
      have h1 : B ≤ q := hD.2 ws.length (q, e) app_last
      have h2 : q < B := h.2
      exact absurd h2 (by omega)

theorem r_getfield {κ : Kp} {bc bs : Nat} {Q : Rs → Mem → Prop} {pc : Nat} {L : Ls} {st : List Value} {M : Mem} {k n : Nat} {a ci ix N : Nat} {C : String} {T : u_T} {ty : Nat → FieldType} {fs : List Value} {v : Value} (cl : Cl ci C T N ty) (j : Nat) (hj : j < N) (hl : Cond.fieldLink (kY κ).cls ix (T j).1 (T j).2.1 (T j).2.2.1 ∈ lw_g) (hM : M a = some (oC ci fs)) (hv : fs[j]? = some v) (d : Dc κ pc (.getfield ix) 3) (kk : J κ bc bs Q (pc + 3) L (v :: st) M (k) (n)) : J κ bc bs Q (pc) L (.ref a :: st) M (k) (n) := by
  intro p l e s m args below meth c H locs ls D B hc hB hZ hW hS hL
  obtain ⟨hx, hb, hr, hml, hown, hts, hlo, htab, hfl, hnm⟩ := id hc
  obtain ⟨ws, tys, hP, hK, hD, hR⟩ := id hW
  obtain ⟨q0, hq⟩ := hR a _ hM
  exact va_get (D := D) (cl := vwCl) hx hb hts cl.2.1 hown hK hP q0 hq cl.1 j hj (hts _ hl) (fun _ h9 => h9) hv d (kk p l e s m args below meth c H locs ls D B hc hB hZ hW hS hL)

theorem r_putfield {κ : Kp} {bc bs : Nat} {Q : Rs → Mem → Prop} {pc : Nat} {L : Ls} {st : List Value} {M : Mem} {k n : Nat} {a ci ix N : Nat} {C : String} {T : u_T} {ty : Nat → FieldType} {fs : List Value} {v : Value} (cl : Cl ci C T N ty) (j : Nat) (hj : j < N) (hl : Cond.fieldLink (kY κ).cls ix (T j).1 (T j).2.1 (T j).2.2.1 ∈ lw_g) (hF : (T j).2.2.2 = false) (hM : M a = some (oC ci fs)) (hn : narrow (ty j) v = v) (hf : fits (ty j) v = true) (hlen : j < fs.length) (d : Dc κ pc (.putfield ix) 3) (kk : J κ bc bs Q (pc + 3) L (st) (up M a (oC ci (fs.set j v))) (k) (n)) : J κ bc bs Q (pc) L (v :: .ref a :: st) M (k) (n) := by
  intro p l e s m args below meth c H locs ls D B hc hB hZ hW hS hL
  obtain ⟨hx, hb, hr, hml, hown, hts, hlo, htab, hfl, hnm⟩ := id hc
  obtain ⟨ws, tys, hP, hK, hD, hR⟩ := id hW
  obtain ⟨q0, hq⟩ := hR a _ hM
  refine va_put (D := D) (cl := vwCl) hx hb hts cl.2.1 ty cl.2.2.1 cl.2.2.2 hown hK hP hD hS q0 hq cl.1 j hj (hts _ hl) (fun _ h9 => h9) hF (cl.2.2.1 j hj) hn hf hlen d (fun H1 locs1 hP1 hD1 hS1 => ?_)
  exact kk p l e s m args below meth c H1 locs1 ls D B hc hB hZ ⟨_, _, hP1, hK, hD1, Rl.set hD hq (fun _ => ⟨q0, set_self hq⟩) (low_eq hB hS hS1) hR⟩ hS1 hL

theorem r_putfieldF {κ : Kp} {bc bs : Nat} {Q : Rs → Mem → Prop} {pc : Nat} {L : Ls} {st : List Value} {M : Mem} {k n : Nat} {a ci ix N : Nat} {C : String} {T : u_T} {ty : Nat → FieldType} {fs : List Value} {v : Value} (cl : Cl ci C T N ty) (j : Nat) (hj : j < N) (hl : Cond.fieldLink (kY κ).cls ix (T j).1 (T j).2.1 (T j).2.2.1 ∈ lw_g) (hF : (T j).2.2.2 = true) (hI : (kY κ).name = "<init>") (hdF : (T j).1 = (kY κ).cls) (hM : M a = some (oC ci fs)) (hn : narrow (ty j) v = v) (hf : fits (ty j) v = true) (hlen : j < fs.length) (d : Dc κ pc (.putfield ix) 3) (kk : J κ bc bs Q (pc + 3) L (st) (up M a (oC ci (fs.set j v))) (k) (n)) : J κ bc bs Q (pc) L (v :: .ref a :: st) M (k) (n) := by
  intro p l e s m args below meth c H locs ls D B hc hB hZ hW hS hL
  obtain ⟨hx, hb, hr, hml, hown, hts, hlo, htab, hfl, hnm⟩ := id hc
  obtain ⟨ws, tys, hP, hK, hD, hR⟩ := id hW
  obtain ⟨q0, hq⟩ := hR a _ hM
  refine va_putF (D := D) (cl := vwCl) hx hb hts cl.2.1 ty cl.2.2.1 cl.2.2.2 hown hK hP hD hS q0 hq cl.1 j hj (hts _ hl) (fun _ h9 => h9) hF (hnm.trans hI) hdF (cl.2.2.1 j hj) hn hf hlen d (fun H1 locs1 hP1 hD1 hS1 => ?_)
  exact kk p l e s m args below meth c H1 locs1 ls D B hc hB hZ ⟨_, _, hP1, hK, hD1, Rl.set hD hq (fun _ => ⟨q0, set_self hq⟩) (low_eq hB hS hS1) hR⟩ hS1 hL

theorem r_iaload {κ : Kp} {bc bs : Nat} {Q : Rs → Mem → Prop} {pc : Nat} {L : Ls} {st : List Value} {M : Mem} {k n : Nat} {a N : Nat} {f : Int → Int} {i : Int} (hM : M a = some (aI N f)) (h0 : 0 ≤ i) (h1 : i < N) (h2 : R32 i) (d : Dc κ pc .iaload 1) (kk : J κ bc bs Q (pc + 1) L (vI (f i) :: st) M (k) (n)) : J κ bc bs Q (pc) L (vI i :: .ref a :: st) M (k) (n) := by
  intro p l e s m args below meth c H locs ls D B hc hB hZ hW hS hL
  obtain ⟨hx, hb, hr, hml, hown, hts, hlo, htab, hfl, hnm⟩ := id hc
  obtain ⟨ws, tys, hP, hK, hD, hR⟩ := id hW
  obtain ⟨q0, t0, cA, hq, ht⟩ := hR a _ hM
  refine va_iald (D := D) (cl := vwCl) (i := iN i) hx hb hK hP q0 t0 hq ht (iN_in h0 h1 h2) d ?_
  rw [iN_clamp h2, Int.toNat_of_nonneg h0]
  exact kk p l e s m args below meth c H locs ls D B hc hB hZ hW hS hL

theorem r_ialoadS {κ : Kp} {bc bs : Nat} {Q : Rs → Mem → Prop} {pc : Nat} {L : Ls} {st : List Value} {M : Mem} {k n : Nat} {a N : Nat} {f : Int → Int} {i : Int} (hM : M a = some (aS N f)) (h0 : 0 ≤ i) (h1 : i < N) (h2 : R32 i) (d : Dc κ pc .iaload 1) (kk : J κ bc bs Q (pc + 1) L (vI (f i) :: st) M (k) (n)) : J κ bc bs Q (pc) L (vI i :: .ref a :: st) M (k) (n) := by
  intro p l e s m args below meth c H locs ls D B hc hB hZ hW hS hL
  obtain ⟨hx, hb, hr, hml, hown, hts, hlo, htab, hfl, hnm⟩ := id hc
  obtain ⟨ws, tys, hP, hK, hD, hR⟩ := id hW
  obtain ⟨⟨scr, g1, g2, g3, g4, g5⟩, -⟩ := hR a _ hM
  have hi2 := iN_in h0 h1 h2
  have g6 : scr.slots[i.toNat]? = some (vI (f i)) := by
    have g7 := g5 i.toNat (by omega)
    dsimp only at g7
    rw [Int.toNat_of_nonneg h0] at g7
    exact g7
  refine W.iald hx hb (j := iN i) g1 g2 g3 (by rw [g4]; exact hi2) (by rw [iN_clamp h2]; exact g6) rfl rfl d ?_
  exact kk p l e s m args below meth c H locs ls D B hc hB hZ hW hS hL

theorem r_iastore {κ : Kp} {bc bs : Nat} {Q : Rs → Mem → Prop} {pc : Nat} {L : Ls} {st : List Value} {M : Mem} {k n : Nat} {a N : Nat} {f : Int → Int} {i x : Int} (hM : M a = some (aI N f)) (h0 : 0 ≤ i) (h1 : i < N) (h2 : R32 i) (d : Dc κ pc .iastore 1) (kk : J κ bc bs Q (pc + 1) L (st) (up M a (aI N (uI f i x))) (k) (n)) : J κ bc bs Q (pc) L (vI x :: vI i :: .ref a :: st) M (k) (n) := by
  intro p l e s m args below meth c H locs ls D B hc hB hZ hW hS hL
  obtain ⟨hx, hb, hr, hml, hown, hts, hlo, htab, hfl, hnm⟩ := id hc
  obtain ⟨ws, tys, hP, hK, hD, hR⟩ := id hW
  obtain ⟨q0, t0, cA, hq, ht⟩ := hR a _ hM
  have e9 : (fun j : Nat => iN (uI f i x j)) = upd (fun j : Nat => iN (f j)) (iN i).toNatClampNeg (iN x) := by
    funext j
    rw [iN_clamp h2]
    unfold uI upd
    by_cases h : j = i.toNat
    · have h9 : (j : Int) = i := by omega
      rw [if_pos h, if_pos h9]
    · have h9 : ¬ (j : Int) = i := by omega
      rw [if_neg h, if_neg h9]
  refine va_iast (D := D) (cl := vwCl) (i := iN i) (x := iN x) hx hb hK hP hD hS q0 t0 hq ht (iN_in h0 h1 h2) d (fun H1 locs1 hP1 hD1 hS1 => ?_)
  rw [← e9] at hP1 hD1
  exact kk p l e s m args below meth c H1 locs1 ls D B hc hB hZ ⟨_, _, hP1, hK, hD1, Rl.set hD hq (fun _ => ⟨q0, t0, cA, set_self hq, ht⟩) (low_eq hB hS hS1) hR⟩ hS1 hL

theorem r_laload {κ : Kp} {bc bs : Nat} {Q : Rs → Mem → Prop} {pc : Nat} {L : Ls} {st : List Value} {M : Mem} {k n : Nat} {a N : Nat} {f : Int → Int64} {i : Int} (hM : M a = some (aL N f)) (h0 : 0 ≤ i) (h1 : i < N) (h2 : R32 i) (d : Dc κ pc .laload 1) (kk : J κ bc bs Q (pc + 1) L (.long (f i) :: st) M (k) (n)) : J κ bc bs Q (pc) L (vI i :: .ref a :: st) M (k) (n) := by
  intro p l e s m args below meth c H locs ls D B hc hB hZ hW hS hL
  obtain ⟨hx, hb, hr, hml, hown, hts, hlo, htab, hfl, hnm⟩ := id hc
  obtain ⟨ws, tys, hP, hK, hD, hR⟩ := id hW
  obtain ⟨q0, t0, cA, hq, ht⟩ := hR a _ hM
  refine va_lald (D := D) (cl := vwCl) (i := iN i) hx hb hK hP q0 t0 hq ht (iN_in h0 h1 h2) d ?_
  rw [iN_clamp h2, Int.toNat_of_nonneg h0]
  exact kk p l e s m args below meth c H locs ls D B hc hB hZ hW hS hL

theorem r_lastore {κ : Kp} {bc bs : Nat} {Q : Rs → Mem → Prop} {pc : Nat} {L : Ls} {st : List Value} {M : Mem} {k n : Nat} {a N : Nat} {f : Int → Int64} {i : Int} {x : Int64} (hM : M a = some (aL N f)) (h0 : 0 ≤ i) (h1 : i < N) (h2 : R32 i) (d : Dc κ pc .lastore 1) (kk : J κ bc bs Q (pc + 1) L (st) (up M a (aL N (uI f i x))) (k) (n)) : J κ bc bs Q (pc) L (.long x :: vI i :: .ref a :: st) M (k) (n) := by
  intro p l e s m args below meth c H locs ls D B hc hB hZ hW hS hL
  obtain ⟨hx, hb, hr, hml, hown, hts, hlo, htab, hfl, hnm⟩ := id hc
  obtain ⟨ws, tys, hP, hK, hD, hR⟩ := id hW
  obtain ⟨q0, t0, cA, hq, ht⟩ := hR a _ hM
  have e9 : (fun j : Nat => uI f i x j) = vp_updL (fun j : Nat => f j) (iN i).toNatClampNeg x := by
    funext j
    rw [iN_clamp h2]
    unfold uI vp_updL
    by_cases h : j = i.toNat
    · have h9 : (j : Int) = i := by omega
      rw [if_pos h, if_pos h9]
    · have h9 : ¬ (j : Int) = i := by omega
      rw [if_neg h, if_neg h9]
  refine va_last (D := D) (cl := vwCl) (i := iN i) hx hb hK hP hD hS q0 t0 hq ht (iN_in h0 h1 h2) d (fun H1 locs1 hP1 hD1 hS1 => ?_)
  rw [← e9] at hP1 hD1
  exact kk p l e s m args below meth c H1 locs1 ls D B hc hB hZ ⟨_, _, hP1, hK, hD1, Rl.set hD hq (fun _ => ⟨q0, t0, cA, set_self hq, ht⟩) (low_eq hB hS hS1) hR⟩ hS1 hL

theorem r_aaload {κ : Kp} {bc bs : Nat} {Q : Rs → Mem → Prop} {pc : Nat} {L : Ls} {st : List Value} {M : Mem} {k n : Nat} {a N ci : Nat} {f : Int → Option Nat} {i : Int} (hM : M a = some (aR ci N f)) (h0 : 0 ≤ i) (h1 : i < N) (h2 : R32 i) (d : Dc κ pc .aaload 1) (kk : J κ bc bs Q (pc + 1) L (va_rf (f i) :: st) M (k) (n)) : J κ bc bs Q (pc) L (vI i :: .ref a :: st) M (k) (n) := by
  intro p l e s m args below meth c H locs ls D B hc hB hZ hW hS hL
  obtain ⟨hx, hb, hr, hml, hown, hts, hlo, htab, hfl, hnm⟩ := id hc
  obtain ⟨ws, tys, hP, hK, hD, hR⟩ := id hW
  obtain ⟨q0, t0, cA, r9, hq, ht, hr9⟩ := hR a _ hM
  refine va_aldq (D := D) (cl := vwCl) (i := iN i) hx hb hK hP q0 t0 hq ht (iN_in h0 h1 h2) d ?_
  rw [iN_clamp h2, Int.toNat_of_nonneg h0]
  exact kk p l e s m args below meth c H locs ls D B hc hB hZ hW hS hL

theorem r_aastore {κ : Kp} {bc bs : Nat} {Q : Rs → Mem → Prop} {pc : Nat} {L : Ls} {st : List Value} {M : Mem} {k n : Nat} {a N ci v : Nat} {f : Int → Option Nat} {i : Int} {vs : List Value} (hM : M a = some (aR ci N f)) (hV : M v = some (oC ci vs)) (h0 : 0 ≤ i) (h1 : i < N) (h2 : R32 i) (d : Dc κ pc .aastore 1) (kk : J κ bc bs Q (pc + 1) L (st) (up M a (aR ci N (uI f i (some v)))) (k) (n)) : J κ bc bs Q (pc) L (.ref v :: vI i :: .ref a :: st) M (k) (n) := by
  intro p l e s m args below meth c H locs ls D B hc hB hZ hW hS hL
  obtain ⟨hx, hb, hr, hml, hown, hts, hlo, htab, hfl, hnm⟩ := id hc
  obtain ⟨ws, tys, hP, hK, hD, hR⟩ := id hW
  obtain ⟨q0, t0, cA, r9, hq, ht, hr9⟩ := hR a _ hM
  obtain ⟨qk, hqk⟩ := hR v _ hV
  have e9 : (fun j : Nat => uI f i (some v) j) = va_up (fun j : Nat => f j) (iN i).toNatClampNeg (some v) := by
    funext j
    rw [iN_clamp h2]
    unfold uI va_up
    by_cases h : j = i.toNat
    · have h9 : (j : Int) = i := by omega
      rw [if_pos h, if_pos h9]
    · have h9 : ¬ (j : Int) = i := by omega
      rw [if_neg h, if_neg h9]
  refine va_astq (D := D) (cl := vwCl) (i := iN i) hx hb hK hP hD hS q0 t0 qk ci hq ht hqk hr9 (iN_in h0 h1 h2) d (fun H1 locs1 hP1 hD1 hS1 => ?_)
  rw [← e9] at hP1 hD1
  exact kk p l e s m args below meth c H1 locs1 ls D B hc hB hZ ⟨_, _, hP1, hK, hD1, Rl.set hD hq (fun _ => ⟨q0, t0, cA, r9, set_self hq, ht, hr9⟩) (low_eq hB hS hS1) hR⟩ hS1 hL

theorem r_alenI {κ : Kp} {bc bs : Nat} {Q : Rs → Mem → Prop} {pc : Nat} {L : Ls} {st : List Value} {M : Mem} {k n : Nat} {a N : Nat} {f : Int → Int} (hM : M a = some (aI N f)) (d : Dc κ pc .arraylength 1) (kk : J κ bc bs Q (pc + 1) L (vI N :: st) M (k) (n)) : J κ bc bs Q (pc) L (.ref a :: st) M (k) (n) := by
  intro p l e s m args below meth c H locs ls D B hc hB hZ hW hS hL
  obtain ⟨hx, hb, hr, hml, hown, hts, hlo, htab, hfl, hnm⟩ := id hc
  obtain ⟨ws, tys, hP, hK, hD, hR⟩ := id hW
  obtain ⟨q0, t0, cA, hq, ht⟩ := hR a _ hM
  exact va_alen (D := D) (cl := vwCl) hx hb hK hP q0 t0 hq ht (v := iN N) rfl d (kk p l e s m args below meth c H locs ls D B hc hB hZ hW hS hL)

theorem r_alenR {κ : Kp} {bc bs : Nat} {Q : Rs → Mem → Prop} {pc : Nat} {L : Ls} {st : List Value} {M : Mem} {k n : Nat} {a N ci : Nat} {f : Int → Option Nat} (hM : M a = some (aR ci N f)) (d : Dc κ pc .arraylength 1) (kk : J κ bc bs Q (pc + 1) L (vI N :: st) M (k) (n)) : J κ bc bs Q (pc) L (.ref a :: st) M (k) (n) := by
  intro p l e s m args below meth c H locs ls D B hc hB hZ hW hS hL
  obtain ⟨hx, hb, hr, hml, hown, hts, hlo, htab, hfl, hnm⟩ := id hc
  obtain ⟨ws, tys, hP, hK, hD, hR⟩ := id hW
  obtain ⟨q0, t0, cA, r9, hq, ht, hr9⟩ := hR a _ hM
  exact va_alen (D := D) (cl := vwCl) hx hb hK hP q0 t0 hq ht (v := iN N) rfl d (kk p l e s m args below meth c H locs ls D B hc hB hZ hW hS hL)

theorem r_alenS {κ : Kp} {bc bs : Nat} {Q : Rs → Mem → Prop} {pc : Nat} {L : Ls} {st : List Value} {M : Mem} {k n : Nat} {a N : Nat} {f : Int → Int} (hM : M a = some (aS N f)) (d : Dc κ pc .arraylength 1) (kk : J κ bc bs Q (pc + 1) L (vI N :: st) M (k) (n)) : J κ bc bs Q (pc) L (.ref a :: st) M (k) (n) := by
  intro p l e s m args below meth c H locs ls D B hc hB hZ hW hS hL
  obtain ⟨hx, hb, hr, hml, hown, hts, hlo, htab, hfl, hnm⟩ := id hc
  obtain ⟨ws, tys, hP, hK, hD, hR⟩ := id hW
  obtain ⟨⟨scr, g1, g2, g3, g4, g5⟩, -⟩ := hR a _ hM
  exact W.alen hx hb (n := iN N) g1 g2 (by rw [g4]; rfl) rfl rfl d (kk p l e s m args below meth c H locs ls D B hc hB hZ hW hS hL)

theorem r_newI {κ : Kp} {bc bs : Nat} {Q : Rs → Mem → Prop} {pc : Nat} {L : Ls} {st : List Value} {M : Mem} {k n : Nat} {N : Nat} {z : Int} (hz : z = N) (hN : N ≤ 10000) (harr : Cond.arrayClass .int ∈ lw_g) (hk : k + 1 ≤ bc) (hn : n + N ≤ bs) (d : Dc κ pc (.newarray .int) 2) (kk : ∀ q : Nat, M q = none → J κ bc bs Q (pc + 2) L (.ref q :: st) (up M q (aI N (fun _ => 0))) (k + 1) (n + N)) : J κ bc bs Q (pc) L (vI z :: st) M (k) (n) := by
  intro p l e s m args below meth c H locs ls D B hc hB hZ hW hS hL
  obtain ⟨hx, hb, hr, hml, hown, hts, hlo, htab, hfl, hnm⟩ := id hc
  subst hz
  have h2 : R32 (N : Int) := by omega
  obtain ⟨ws, tys, hP, hK, hD, hR⟩ := id hW
  refine va_newa (D := D) (cl := vwCl) (atype := .int) hx hb (hts _ harr) rfl hK hP hD hS (fun q h => Nat.le_trans hB h) (n := iN (N : Int)) (N' := N) (a0 := (N, .inl (fun _ => iN 0))) (fun cA => rfl) (by have h9 := (iN_lt (y := 0) h2 (by omega)); intro h; have := h9.mp h; omega) (by rw [iN_clamp h2]; omega) (by show N * 4 ≤ 536870912; omega) hk hn d (fun q cA H1 hK1 hP1 hD1 hS1 => ?_)
  exact kk q (Rl.fresh hD1 hR) p l e s m args below meth c H1 locs ls D B hc hB hZ ⟨_, _, hP1, hK1, hD1, Rl.push ⟨ws.length, tys.length, cA, app_last, app_last⟩ (low_eq hB hS hS1) hR⟩ hS1 hL

theorem r_newL {κ : Kp} {bc bs : Nat} {Q : Rs → Mem → Prop} {pc : Nat} {L : Ls} {st : List Value} {M : Mem} {k n : Nat} {N : Nat} {z : Int} (hz : z = N) (hN : N ≤ 10000) (harr : Cond.arrayClass .long ∈ lw_g) (hk : k + 1 ≤ bc) (hn : n + N ≤ bs) (d : Dc κ pc (.newarray .long) 2) (kk : ∀ q : Nat, M q = none → J κ bc bs Q (pc + 2) L (.ref q :: st) (up M q (aL N (fun _ => 0))) (k + 1) (n + N)) : J κ bc bs Q (pc) L (vI z :: st) M (k) (n) := by
  intro p l e s m args below meth c H locs ls D B hc hB hZ hW hS hL
  obtain ⟨hx, hb, hr, hml, hown, hts, hlo, htab, hfl, hnm⟩ := id hc
  subst hz
  have h2 : R32 (N : Int) := by omega
  obtain ⟨ws, tys, hP, hK, hD, hR⟩ := id hW
  refine va_newa (D := D) (cl := vwCl) (atype := .long) hx hb (hts _ harr) rfl hK hP hD hS (fun q h => Nat.le_trans hB h) (n := iN (N : Int)) (N' := N) (a0 := (N, .inr (.inl (fun _ => 0)))) (fun cA => rfl) (by have h9 := (iN_lt (y := 0) h2 (by omega)); intro h; have := h9.mp h; omega) (by rw [iN_clamp h2]; omega) (by show N * 8 ≤ 536870912; omega) hk hn d (fun q cA H1 hK1 hP1 hD1 hS1 => ?_)
  exact kk q (Rl.fresh hD1 hR) p l e s m args below meth c H1 locs ls D B hc hB hZ ⟨_, _, hP1, hK1, hD1, Rl.push ⟨ws.length, tys.length, cA, app_last, app_last⟩ (low_eq hB hS hS1) hR⟩ hS1 hL
end
section
/-! J: making, ends, calls -/
theorem r_newA {κ : Kp} {bc bs : Nat} {Q : Rs → Mem → Prop} {pc : Nat} {L : Ls} {st : List Value} {M : Mem} {k n : Nat} {N ci ix : Nat} {z : Int} {r : vw_C} (hz : z = N) (hN : N ≤ 10000) (hci : vwCl[ci]? = some r) (hlk : Cond.classLink (kY κ).cls ix r.1 ∈ lw_g) (hov : ∀ (B : Nat) (s : State), Zt B s → va_AO r.1 s) (hk : k + 1 ≤ bc) (hn : n + N ≤ bs) (d : Dc κ pc (.anewarray ix) 3) (kk : ∀ q : Nat, M q = none → J κ bc bs Q (pc + 3) L (.ref q :: st) (up M q (aR ci N (fun _ => none))) (k + 1) (n + N)) : J κ bc bs Q (pc) L (vI z :: st) M (k) (n) := by
  intro p l e s m args below meth c H locs ls D B hc hB hZ hW hS hL
  obtain ⟨hx, hb, hr, hml, hown, hts, hlo, htab, hfl, hnm⟩ := id hc
  subst hz
  have h2 : R32 (N : Int) := by omega
  obtain ⟨ws, tys, hP, hK, hD, hR⟩ := id hW
  refine va_newq (D := D) (cl := vwCl) hx hb hown (hts _ hlk) (hov B s hZ) hK hP hD hS (fun q h => Nat.le_trans hB h) (n := iN (N : Int)) (N' := N) (by have h9 := (iN_lt (y := 0) h2 (by omega)); intro h; have := h9.mp h; omega) (by rw [iN_clamp h2]; omega) (by omega) hk hn d (fun q cA H1 hK1 hP1 hD1 hS1 => ?_)
  exact kk q (Rl.fresh hD1 hR) p l e s m args below meth c H1 locs ls D B hc hB hZ ⟨_, _, hP1, hK1, hD1, Rl.push ⟨ws.length, tys.length, cA, r, app_last, app_last, hci⟩ (low_eq hB hS hS1) hR⟩ hS1 hL

theorem r_new {κ : Kp} {bc bs : Nat} {Q : Rs → Mem → Prop} {pc : Nat} {L : Ls} {st : List Value} {M : Mem} {k n : Nat} {N ci ix : Nat} {C : String} {T : u_T} {ty : Nat → FieldType} (cl : Cl ci C T N ty) (fs : List Value) (hfs : ∀ j, j < N → defaultValue (ty j) = vp_V fs j) (hlk : Cond.classLink (kY κ).cls ix C ∈ lw_g) (hin : Cond.instantiable C N ∈ lw_g) (hini : Cond.initialized C ∈ lw_g) (hk : k + 1 ≤ bc) (hn : n + N ≤ bs) (d : Dc κ pc (.new ix) 3) (kk : ∀ q : Nat, M q = none → J κ bc bs Q (pc + 3) L (.ref q :: st) (up M q (oC ci fs)) (k + 1) (n + N)) : J κ bc bs Q (pc) L (st) M (k) (n) := by
  intro p l e s m args below meth c H locs ls D B hc hB hZ hW hS hL
  obtain ⟨hx, hb, hr, hml, hown, hts, hlo, htab, hfl, hnm⟩ := id hc
  obtain ⟨ws, tys, hP, hK, hD, hR⟩ := id hW
  refine va_new (D := D) (cl := vwCl) hx hb hts cl.2.1 ty cl.2.2.1 hown (hts _ hlk) (hts _ hin) (hts _ hini) hK hP hD hS (fun q h => Nat.le_trans hB h) cl.1 hfs hk hn d (fun q H1 hP1 hD1 hS1 => ?_)
  have hR1 := Rl.push (a := q) (e := .inr (ci, fs)) (tys' := []) (x := oC ci fs) ⟨ws.length, app_last⟩ (low_eq hB hS hS1) hR
  rw [List.append_nil] at hR1
  exact kk q (Rl.fresh hD1 hR) p l e s m args below meth c H1 locs ls D B hc hB hZ ⟨_, _, hP1, hK, hD1, hR1⟩ hS1 hL

theorem r_objInit {κ : Kp} {bc bs : Nat} {Q : Rs → Mem → Prop} {pc : Nat} {L : Ls} {st : List Value} {M : Mem} {k n : Nat} {a ix : Nat} (hlk : Cond.methodLink (kY κ).cls ix objectInit ∈ lw_g) (hin : Cond.instanceMethod objectInit ∈ lw_g) (hco : Cond.code objectInit ⟨#[0xb1]⟩ 1 none ∈ lw_g) (hF : 1 ≤ kF κ) (hV : (st.map fun v => v.category).sum + 12 ≤ kV κ) (d : Dc κ pc (.invokespecial ix) 3) (kk : J κ bc bs Q (pc + 3) L (st) M (k) (n)) : J κ bc bs Q (pc) L (.ref a :: st) M (k) (n) := by
  intro p l e s m args below meth c H locs ls D B hc hB hZ hW hS hL
  obtain ⟨hx, hb, hr, hml, hown, hts, hlo, htab, hfl, hnm⟩ := id hc
  refine W.objInit hx hb hown (hts _ hlk) (hts _ hin) (hts _ hco) rfl (by rw [hml]; exact hL.1) rfl d hF (by show 2 * 0 + _ + 12 ≤ kV κ; omega) ?_
  exact kk p l e s m args below meth c H locs ls D B hc hB hZ hW hS hL

theorem r_ireturn {κ : Kp} {bc bs : Nat} {Q : Rs → Mem → Prop} {pc : Nat} {L : Ls} {st : List Value} {M : Mem} {k n : Nat} {z : Int} (d : Dc κ pc .ireturn 1) (hR9 : kR κ = some .int) (hk : k ≤ bc) (hn : n ≤ bs) (hQ : Q (.inl (some (vI z))) M) : J κ bc bs Q (pc) L ([vI z]) M (k) (n) := by
  intro p l e s m args below meth c H locs ls D B hc hB hZ hW hS hL
  obtain ⟨hx, hb, hr, hml, hown, hts, hlo, htab, hfl, hnm⟩ := id hc
  refine W.widen hk hn (vx_ret ?_)
  exact W.iret (v := iN z) hx hb (hr.trans hR9) (fun t ht hW9 => ⟨⟨_, M, rfl, hQ, by rw [ht]; exact hW.moved hW9.alike⟩, hS.F ht⟩) hS.2.2 d hlo

theorem r_zreturn {κ : Kp} {bc bs : Nat} {Q : Rs → Mem → Prop} {pc : Nat} {L : Ls} {st : List Value} {M : Mem} {k n : Nat} {z : Int} (d : Dc κ pc .ireturn 1) (hR9 : kR κ = some .boolean) (hz : z = 0 ∨ z = 1) (hk : k ≤ bc) (hn : n ≤ bs) (hQ : Q (.inl (some (vI z))) M) : J κ bc bs Q (pc) L ([vI z]) M (k) (n) := by
  intro p l e s m args below meth c H locs ls D B hc hB hZ hW hS hL
  obtain ⟨hx, hb, hr, hml, hown, hts, hlo, htab, hfl, hnm⟩ := id hc
  refine W.widen hk hn (vx_ret ?_)
  exact W.zret (v := iN z) hx hb (hr.trans hR9) (by rcases hz with rfl | rfl <;> rfl) (fun t ht hW9 => ⟨⟨_, M, rfl, hQ, by rw [ht]; exact hW.moved hW9.alike⟩, hS.F ht⟩) hS.2.2 d hlo

theorem r_lreturn {κ : Kp} {bc bs : Nat} {Q : Rs → Mem → Prop} {pc : Nat} {L : Ls} {st : List Value} {M : Mem} {k n : Nat} {z : Int64} (d : Dc κ pc .lreturn 1) (hR9 : kR κ = some .long) (hk : k ≤ bc) (hn : n ≤ bs) (hQ : Q (.inl (some (.long z))) M) : J κ bc bs Q (pc) L ([.long z]) M (k) (n) := by
  intro p l e s m args below meth c H locs ls D B hc hB hZ hW hS hL
  obtain ⟨hx, hb, hr, hml, hown, hts, hlo, htab, hfl, hnm⟩ := id hc
  refine W.widen hk hn (vx_ret ?_)
  exact W.lret (v := z) hx hb (hr.trans hR9) (fun t ht hW9 => ⟨⟨_, M, rfl, hQ, by rw [ht]; exact hW.moved hW9.alike⟩, hS.F ht⟩) hS.2.2 d hlo

theorem r_dreturn {κ : Kp} {bc bs : Nat} {Q : Rs → Mem → Prop} {pc : Nat} {L : Ls} {st : List Value} {M : Mem} {k n : Nat} {z : UInt64} (d : Dc κ pc .dreturn 1) (hR9 : kR κ = some .double) (hk : k ≤ bc) (hn : n ≤ bs) (hQ : Q (.inl (some (.double z))) M) : J κ bc bs Q (pc) L ([.double z]) M (k) (n) := by
  intro p l e s m args below meth c H locs ls D B hc hB hZ hW hS hL
  obtain ⟨hx, hb, hr, hml, hown, hts, hlo, htab, hfl, hnm⟩ := id hc
  refine W.widen hk hn (vx_ret ?_)
  exact W.dret (v := z) hx hb (hr.trans hR9) (fun t ht hW9 => ⟨⟨_, M, rfl, hQ, by rw [ht]; exact hW.moved hW9.alike⟩, hS.F ht⟩) hS.2.2 d hlo

theorem r_areturn {κ : Kp} {bc bs : Nat} {Q : Rs → Mem → Prop} {pc : Nat} {L : Ls} {st : List Value} {M : Mem} {k n : Nat} {z : Nat} (d : Dc κ pc .areturn 1) {rt : FieldType} (hR9 : kR κ = some rt) (hrt : (∃ n, rt = .object n) ∨ ∃ t, rt = .array t) (hk : k ≤ bc) (hn : n ≤ bs) (hQ : Q (.inl (some (.ref z))) M) : J κ bc bs Q (pc) L ([.ref z]) M (k) (n) := by
  intro p l e s m args below meth c H locs ls D B hc hB hZ hW hS hL
  obtain ⟨hx, hb, hr, hml, hown, hts, hlo, htab, hfl, hnm⟩ := id hc
  refine W.widen hk hn (vx_ret ?_)
  exact W.aret (v := .ref z) hx hb (hr.trans hR9) hrt (Or.inr ⟨z, rfl⟩) (fun t ht hW9 => ⟨⟨_, M, rfl, hQ, by rw [ht]; exact hW.moved hW9.alike⟩, hS.F ht⟩) hS.2.2 d hlo

theorem r_areturnN {κ : Kp} {bc bs : Nat} {Q : Rs → Mem → Prop} {pc : Nat} {L : Ls} {st : List Value} {M : Mem} {k n : Nat}  (d : Dc κ pc .areturn 1) {rt : FieldType} (hR9 : kR κ = some rt) (hrt : (∃ n, rt = .object n) ∨ ∃ t, rt = .array t) (hk : k ≤ bc) (hn : n ≤ bs) (hQ : Q (.inl (some .null)) M) : J κ bc bs Q (pc) L ([.null]) M (k) (n) := by
  intro p l e s m args below meth c H locs ls D B hc hB hZ hW hS hL
  obtain ⟨hx, hb, hr, hml, hown, hts, hlo, htab, hfl, hnm⟩ := id hc
  refine W.widen hk hn (vx_ret ?_)
  exact W.aret (v := .null) hx hb (hr.trans hR9) hrt (Or.inl rfl) (fun t ht hW9 => ⟨⟨_, M, rfl, hQ, by rw [ht]; exact hW.moved hW9.alike⟩, hS.F ht⟩) hS.2.2 d hlo

theorem r_return {κ : Kp} {bc bs : Nat} {Q : Rs → Mem → Prop} {pc : Nat} {L : Ls} {st : List Value} {M : Mem} {k n : Nat}  (d : Dc κ pc .return_ 1) (hR9 : kR κ = none) (hk : k ≤ bc) (hn : n ≤ bs) (hQ : Q (.inl (none)) M) : J κ bc bs Q (pc) L ([]) M (k) (n) := by
  intro p l e s m args below meth c H locs ls D B hc hB hZ hW hS hL
  obtain ⟨hx, hb, hr, hml, hown, hts, hlo, htab, hfl, hnm⟩ := id hc
  refine W.widen hk hn (vx_ret ?_)
  exact W.vret hx hb (hr.trans hR9) (fun t ht hW9 => ⟨⟨_, M, rfl, hQ, by rw [ht]; exact hW.moved hW9.alike⟩, hS.F ht⟩) hS.2.2 d hlo

/-! calls -/
section QC
variable {p : Program} {l : Launch} {e : Env} {R : Room} {s : State} {m : MethodId} {args : Array Value} {below : List Frame} {meth : Method} {c : Code} {H : Heap} {locs : List Loc} {cells slots mc ms pc B : Nat} {ls : Array Slot} {st0 rest : List Value} {a : Array Value} {D : va_G} {Q' : Rs → Mem → Prop} {Z : State → Prop}
theorem qcall (hr : vx_Run p l e R s m args below meth c H locs cells slots mc ms (F0 m pc ls st0) rest (qR D B Q' a) (qX D B Q') (fun q => B ≤ q)) (hS : va_S (fun q => B ≤ q) s.heap H locs)
    (kx : ∀ (E : String) (ce : Cell) (q9 : Addr) (M' : Mem) (H1 : Heap) (locs1 : List Loc), Q' (.inr E) M' → Wd D B s H1 M' → va_S (fun q => B ≤ q) s.heap H1 locs1 → H1[q9]? = some ce → ce.vm = .none → s.vm.findClass E = some ce.cls → vx_W p l e R s m args below meth c H1 locs1 (cells + mc) (slots + ms) Z (F0 m pc ls rest) q9)
    (kk : ∀ (v : Option Value) (M' : Mem) (H1 : Heap) (locs1 : List Loc), Q' (.inl v) M' → Wd D B s H1 M' → va_S (fun q => B ≤ q) s.heap H1 locs1 → W p l e R s m args below meth c H1 locs1 (cells + mc) (slots + ms) Z (F0 m (pc + 3) ls (v.toList ++ rest))) : W p l e R s m args below meth c H locs cells slots Z (F0 m pc ls st0) := by
  intro T hT X
  rcases hr T hT X with ⟨v, st₀, t, T', L, h0, X', hL, e1, e2, ⟨⟨v2, M', hv, hq, hw⟩, hF⟩, st⟩ | ⟨q, st₀, t, T', L, E, ce, h0, X', hL, e1, e2, ⟨M', hq, hw, hF⟩, hce, hcv, hcl, st⟩
  · cases hv
    obtain ⟨k1, k2, k3⟩ := vx_keep h0 e1 hS (fun _ _ h => h) (fun _ h => h) hL hF
    have ha : t.vm.Alike s.vm := by rw [← e2]; exact X'.warmed.alike.symm
    obtain ⟨t2, a1, b1⟩ := kk v M' T'.heap (locs ++ L) hq (by rw [e1]; exact hw.moved ha) k3 T' rfl X'
    exact ⟨t2, st t2 a1, b1⟩
  · obtain ⟨k1, k2, k3⟩ := vx_keep h0 e1 hS (fun _ _ h => h) (fun _ h => h) hL hF
    have ha : t.vm.Alike s.vm := by rw [← e2]; exact X'.warmed.alike.symm
    obtain ⟨t2, a1, b1⟩ := kx E ce q M' T'.heap (locs ++ L) hq (by rw [e1]; exact hw.moved ha) k3 (by rw [e1]; exact hce) hcv hcl T' rfl X'
    exact ⟨t2, st.trans a1, b1⟩
theorem qcall0 (hr : va_Run p l e R s m args below meth c H locs cells slots mc ms (F0 m pc ls st0) rest (qR D B Q' a) (fun q => B ≤ q)) (hS : va_S (fun q => B ≤ q) s.heap H locs)
    (kk : ∀ (v : Option Value) (M' : Mem) (H1 : Heap) (locs1 : List Loc), Q' (.inl v) M' → Wd D B s H1 M' → va_S (fun q => B ≤ q) s.heap H1 locs1 → W p l e R s m args below meth c H1 locs1 (cells + mc) (slots + ms) Z (F0 m (pc + 3) ls (v.toList ++ rest))) : W p l e R s m args below meth c H locs cells slots Z (F0 m pc ls st0) := by
  intro T hT X
  obtain ⟨v, st₀, t, T', L, h0, X', hL, e1, e2, ⟨⟨v2, M', hv, hq, hw⟩, hF⟩, st⟩ := hr T hT X
  cases hv
  obtain ⟨k1, k2, k3⟩ := vx_keep h0 e1 hS (fun _ _ h => h) (fun _ h => h) hL hF
  have ha : t.vm.Alike s.vm := by rw [← e2]; exact X'.warmed.alike.symm
  obtain ⟨t2, a1, b1⟩ := kk v M' T'.heap (locs ++ L) hq (by rw [e1]; exact hw.moved ha) k3 T' rfl X'
  exact ⟨t2, st t2 a1, b1⟩
end QC
/-- a contract without a throw is the kit's -/
theorem met_of {l : Launch} {y : MethodName} {ws : List Cond} {rm : Room} {Pc : Array Value → State → Prop} {Qc : Array Value → State → Outcome → State → Prop} {XC : String → State → State → Prop} {mc ms : Nat} {free : Addr → Prop} (h : vx_Met l y ws rm Pc Qc XC mc ms free) (hX : ∀ E st t, ¬ XC E st t) : Met l y ws rm Pc Qc mc ms free := by
  intro p e h1 h2 h3 s m args below h4 h5 h6 h7
  obtain ⟨n, o, g1, g2, g3, g4⟩ := h p e h1 h2 h3 s m args below h4 h5 h6 h7
  refine ⟨n, o, g1, g2, g3, ?_⟩
  rcases g4 with g4 | ⟨q, -, E, ce, L, hx, -⟩
  · exact g4
  · exact absurd hx (hX E _ _)
theorem Zt.go {B : Nat} {s U : State} {H : Heap} {locs : List Loc} (hZ : Zt B s) (hS : va_S (fun q => B ≤ q) s.heap H locs) (hU : U.heap = H) (hWm : s.WarmedH U.vm) : Zt B U := by
  have hvm := hWm.alike
  unfold Zt
  rw [hU]
  exact ⟨vx_Zq.moved hvm (hZ.1.kept hS.2.1), vx_Zq.moved hvm (hZ.2.1.kept hS.2.1), va_AO.moved hvm hZ.2.2.1, va_AO.moved hvm hZ.2.2.2.1, va_Nw.warmM hWm hZ.2.2.2.2.1, va_Nw.warmM hWm hZ.2.2.2.2.2⟩
theorem Pic.blind {D : va_G} {B : Nat} {M : Mem} {As : List Value} : FrameBlind (va_Pc As (Pic D B M)) := by
  intro a U g mk q
  obtain ⟨q0, q1, ⟨z1, z2, z3, z4, z5, z6⟩, q3⟩ := q
  have ha : U.vm.Alike (U.calling g mk a).vm := Vm.Alike.refl U.vm
  exact ⟨q0, q1, ⟨vx_Zq.moved ha z1, vx_Zq.moved ha z2, va_AO.moved ha z3, va_AO.moved ha z4, va_Nw.same rfl rfl z5, va_Nw.same rfl rfl z6⟩, q3.moved ha⟩
theorem Pic.at {D : va_G} {B : Nat} {s : State} {H : Heap} {M : Mem} {locs : List Loc} {As : List Value} (hB : B ≤ s.heap.size) (hZ : Zt B s) (hW : Wd D B s H M) (hS : va_S (fun q => B ≤ q) s.heap H locs) : ∀ U : State, U.heap = H → s.WarmedH U.vm → va_Pc As (Pic D B M) As.toArray U := by
  intro U hU hWm
  exact ⟨rfl, by rw [hU]; exact Nat.le_trans hB hS.1, hZ.go hS hU hWm, by rw [hU]; exact hW.moved hWm.alike⟩
/-- the tables' words of a callee -/
def Ok (κ : Kp) (n : Nat) : Prop := wc κ ∈ lw_g ∧ Cond.initialized (kY κ).cls ∈ lw_g ∧ ((kY κ).cls ≠ "java/lang/invoke/MethodHandle" ∧ (kY κ).cls ≠ "java/lang/invoke/VarHandle" ∧ (parseMethodDescriptor (kY κ).desc).map (fun d => d.parameters.length) = some n)
def OkV (κ : Kp) (n : Nat) : Prop := kH κ = [] ∧ Ok κ n ∧ Cond.instanceMethod (kY κ) ∈ lw_g ∧ Cond.selects (kY κ).cls (kY κ) (kY κ) ∈ lw_g
def OkS (κ : Kp) (n : Nat) : Prop := kH κ = [] ∧ Ok κ n ∧ Cond.static (kY κ) ∈ lw_g
def OkI (κ : Kp) (n : Nat) : Prop := kH κ = [] ∧ kR κ = none ∧ Ok κ n ∧ Cond.instanceMethod (kY κ) ∈ lw_g ∧ (kY κ).name = "<init>"
def OkH (κ : Kp) (n : Nat) : Prop := (kH κ).isEmpty = false ∧ Ok κ n ∧ Cond.static (kY κ) ∈ lw_g
theorem wc_code {κ : Kp} (h : kH κ = []) : wc κ = .code (kY κ) (kC κ) (kL κ) (kR κ) := by unfold wc; rw [h]; rfl
theorem wc_with {κ : Kp} (h : (kH κ).isEmpty = false) : wc κ = .codeWith (kY κ) (kC κ) (kL κ) (kR κ) (kH κ) := by unfold wc; rw [h]; rfl
theorem Ok.in {κ : Kp} {n : Nat} (h : Ok κ n) : GoodIn lw_g (wsOf κ) := fun w hw => (List.mem_cons.mp hw).elim (fun e => by rw [e]; exact lw_gg _ h.1) (fun e => lw_gg w e)
/-- the callee's room fits -/
abbrev Fit (κ κ' : Kp) : Prop := kF κ' + 1 ≤ kF κ ∧ 8 + (kL κ' + 11) + kV κ' ≤ kV κ
theorem Ok.callB {κ κ' : Kp} {n bc bs bc' bs' ix : Nat} {s : State} {args : Array Value} (hH : kH κ' = []) (h : Ok κ' n) (hts : ∀ w ∈ lw_g, w.before args s = true) (hlk : Cond.methodLink (kY κ).cls ix (kY κ') ∈ lw_g) (hfit : Fit κ κ') : CallB (rmOf κ bc bs) s args (kY κ).cls ix (kY κ') (kC κ') (kL κ') (kR κ') (wsOf κ') (rmOf κ' bc' bs') bc' bs' n :=
  callB_of n hts h.in (by rw [← wc_code hH]) rfl rfl (hts _ h.2.1) (hts _ hlk) h.2.2 hfit
/-- not caught in a method without handlers -/
theorem qthrow {κ : Kp} {bc bs : Nat} {Q : Rs → Mem → Prop} {p : Program} {l : Launch} {e : Env} {s : State} {m : MethodId} {args : Array Value} {below : List Frame} {meth : Method} {c : Code} {H : Heap} {locs : List Loc} {k n pc B : Nat} {ls : Array Slot} {rest : List Value} {D : va_G} {M' : Mem} {E : String} {ce : Cell} {q9 : Addr}
    (hH : kH κ = []) (htab : c.exceptionTable.toList = tableOf (kH κ)) (hlo : meth.locks = false) (hQ : Q (.inr E) M') (hW : Wd D B s H M') (hS : va_S (fun q => B ≤ q) s.heap H locs) (hce : H[q9]? = some ce) (hcv : ce.vm = .none) (hcl : s.vm.findClass E = some ce.cls) (hk : k ≤ bc) (hn : n ≤ bs) :
    vx_W p l e (rmOf κ bc bs) s m args below meth c H locs k n (vx_MQ below (qR D B Q) (qX D B Q) args s bc bs (fun q => B ≤ q)) (F0 m pc ls rest) q9 := by
  refine vx_out (fun x hx => ?_) hlo hce hcv hcl (fun t ht ha => ⟨M', hQ, by rw [ht]; exact hW.moved ha, hS.F ht⟩) hS.2.2 hk hn
  rw [htab, hH] at hx
  cases hx

theorem r_callV0 {κ : Kp} {bc bs : Nat} {Q : Rs → Mem → Prop} {pc : Nat} {L : Ls} {st : List Value} {M : Mem} {k n : Nat} {κ' : Kp} {ix bc' bs' : Nat} {Q' : Rs → Mem → Prop} {o : Nat}  (ok : OkV κ' 0) (hfit : Fit κ κ') (hlk : Cond.methodLink (kY κ).cls ix (kY κ') ∈ lw_g) (hct : Ct κ' (.ref o :: []) M bc' bs' Q') {ci : Nat} {fs : List Value} {r : vw_C} (hM : M o = some (oC ci fs)) (hci : vwCl[ci]? = some r) (hcls : r.1 = (kY κ').cls) (hst : (st.map fun v => v.category).sum ≤ 8) (hbk : k + bc' ≤ bc) (hbn : n + bs' ≤ bs) (hH : kH κ = []) (d : Dc κ pc (.invokevirtual ix) 3) (hthr : ∀ (E : String) (M' : Mem), Q' (.inr E) M' → Q (.inr E) M') (kk : ∀ (v : Option Value) (M' : Mem), Q' (.inl v) M' → J κ bc bs Q (pc + 3) L (v.toList ++ st) M' (k + bc') (n + bs')) : J κ bc bs Q (pc) L (.ref o :: st) M (k) (n) := by
  intro p l e s m args below meth c H locs ls D B hc hB hZ hW hS hL
  obtain ⟨hx, hb, hr, hml, hown, hts, hlo, htab, hfl, hnm⟩ := id hc
  refine qcall (vx_runV (As := []) (rest := st) ⟨hx, hb, hml, hown, hts⟩ (hct l D B hfl) ⟨Ok.callB ok.1 ok.2.1 hts hlk hfit, hts _ ok.2.2.1, hts _ ok.2.2.2⟩ ⟨Pic.blind, (by
    obtain ⟨ws, tys, hP, hK, hD, hR⟩ := id hW
    obtain ⟨q0, hq⟩ := hR o _ hM
    rw [← hcls]
    exact va_recv hK hP hci hq), Pic.at hB hZ hW hS⟩ rfl rfl hL.1 rfl (lv_room hst) d ⟨hbk, hbn⟩) hS (fun E ce q9 M' H1 locs1 hq hw hS1 hce hcv hcl => qthrow hH htab hlo (hthr E M' hq) hw hS1 hce hcv hcl hbk hbn) (fun v M' H1 locs1 hq hw hS1 => ?_)
  exact kk v M' hq p l e s m args below meth c H1 locs1 ls D B hc hB hZ hw hS1 hL

theorem r_callV1 {κ : Kp} {bc bs : Nat} {Q : Rs → Mem → Prop} {pc : Nat} {L : Ls} {st : List Value} {M : Mem} {k n : Nat} {κ' : Kp} {ix bc' bs' : Nat} {Q' : Rs → Mem → Prop} {o : Nat} {a1 : Value}  (ok : OkV κ' 1) (hfit : Fit κ κ') (hlk : Cond.methodLink (kY κ).cls ix (kY κ') ∈ lw_g) (hct : Ct κ' (.ref o :: [a1]) M bc' bs' Q') {ci : Nat} {fs : List Value} {r : vw_C} (hM : M o = some (oC ci fs)) (hci : vwCl[ci]? = some r) (hcls : r.1 = (kY κ').cls) (hst : (st.map fun v => v.category).sum ≤ 8) (hbk : k + bc' ≤ bc) (hbn : n + bs' ≤ bs) (hH : kH κ = []) (d : Dc κ pc (.invokevirtual ix) 3) (hthr : ∀ (E : String) (M' : Mem), Q' (.inr E) M' → Q (.inr E) M') (kk : ∀ (v : Option Value) (M' : Mem), Q' (.inl v) M' → J κ bc bs Q (pc + 3) L (v.toList ++ st) M' (k + bc') (n + bs')) : J κ bc bs Q (pc) L (a1 :: .ref o :: st) M (k) (n) := by
  intro p l e s m args below meth c H locs ls D B hc hB hZ hW hS hL
  obtain ⟨hx, hb, hr, hml, hown, hts, hlo, htab, hfl, hnm⟩ := id hc
  refine qcall (vx_runV (As := [a1]) (rest := st) ⟨hx, hb, hml, hown, hts⟩ (hct l D B hfl) ⟨Ok.callB ok.1 ok.2.1 hts hlk hfit, hts _ ok.2.2.1, hts _ ok.2.2.2⟩ ⟨Pic.blind, (by
    obtain ⟨ws, tys, hP, hK, hD, hR⟩ := id hW
    obtain ⟨q0, hq⟩ := hR o _ hM
    rw [← hcls]
    exact va_recv hK hP hci hq), Pic.at hB hZ hW hS⟩ rfl rfl hL.1 rfl (lv_room hst) d ⟨hbk, hbn⟩) hS (fun E ce q9 M' H1 locs1 hq hw hS1 hce hcv hcl => qthrow hH htab hlo (hthr E M' hq) hw hS1 hce hcv hcl hbk hbn) (fun v M' H1 locs1 hq hw hS1 => ?_)
  exact kk v M' hq p l e s m args below meth c H1 locs1 ls D B hc hB hZ hw hS1 hL

theorem r_callV2 {κ : Kp} {bc bs : Nat} {Q : Rs → Mem → Prop} {pc : Nat} {L : Ls} {st : List Value} {M : Mem} {k n : Nat} {κ' : Kp} {ix bc' bs' : Nat} {Q' : Rs → Mem → Prop} {o : Nat} {a1 a2 : Value}  (ok : OkV κ' 2) (hfit : Fit κ κ') (hlk : Cond.methodLink (kY κ).cls ix (kY κ') ∈ lw_g) (hct : Ct κ' (.ref o :: [a1, a2]) M bc' bs' Q') {ci : Nat} {fs : List Value} {r : vw_C} (hM : M o = some (oC ci fs)) (hci : vwCl[ci]? = some r) (hcls : r.1 = (kY κ').cls) (hst : (st.map fun v => v.category).sum ≤ 8) (hbk : k + bc' ≤ bc) (hbn : n + bs' ≤ bs) (hH : kH κ = []) (d : Dc κ pc (.invokevirtual ix) 3) (hthr : ∀ (E : String) (M' : Mem), Q' (.inr E) M' → Q (.inr E) M') (kk : ∀ (v : Option Value) (M' : Mem), Q' (.inl v) M' → J κ bc bs Q (pc + 3) L (v.toList ++ st) M' (k + bc') (n + bs')) : J κ bc bs Q (pc) L (a2 :: a1 :: .ref o :: st) M (k) (n) := by
  intro p l e s m args below meth c H locs ls D B hc hB hZ hW hS hL
  obtain ⟨hx, hb, hr, hml, hown, hts, hlo, htab, hfl, hnm⟩ := id hc
  refine qcall (vx_runV (As := [a1, a2]) (rest := st) ⟨hx, hb, hml, hown, hts⟩ (hct l D B hfl) ⟨Ok.callB ok.1 ok.2.1 hts hlk hfit, hts _ ok.2.2.1, hts _ ok.2.2.2⟩ ⟨Pic.blind, (by
    obtain ⟨ws, tys, hP, hK, hD, hR⟩ := id hW
    obtain ⟨q0, hq⟩ := hR o _ hM
    rw [← hcls]
    exact va_recv hK hP hci hq), Pic.at hB hZ hW hS⟩ rfl rfl hL.1 rfl (lv_room hst) d ⟨hbk, hbn⟩) hS (fun E ce q9 M' H1 locs1 hq hw hS1 hce hcv hcl => qthrow hH htab hlo (hthr E M' hq) hw hS1 hce hcv hcl hbk hbn) (fun v M' H1 locs1 hq hw hS1 => ?_)
  exact kk v M' hq p l e s m args below meth c H1 locs1 ls D B hc hB hZ hw hS1 hL

theorem r_callV3 {κ : Kp} {bc bs : Nat} {Q : Rs → Mem → Prop} {pc : Nat} {L : Ls} {st : List Value} {M : Mem} {k n : Nat} {κ' : Kp} {ix bc' bs' : Nat} {Q' : Rs → Mem → Prop} {o : Nat} {a1 a2 a3 : Value}  (ok : OkV κ' 3) (hfit : Fit κ κ') (hlk : Cond.methodLink (kY κ).cls ix (kY κ') ∈ lw_g) (hct : Ct κ' (.ref o :: [a1, a2, a3]) M bc' bs' Q') {ci : Nat} {fs : List Value} {r : vw_C} (hM : M o = some (oC ci fs)) (hci : vwCl[ci]? = some r) (hcls : r.1 = (kY κ').cls) (hst : (st.map fun v => v.category).sum ≤ 8) (hbk : k + bc' ≤ bc) (hbn : n + bs' ≤ bs) (hH : kH κ = []) (d : Dc κ pc (.invokevirtual ix) 3) (hthr : ∀ (E : String) (M' : Mem), Q' (.inr E) M' → Q (.inr E) M') (kk : ∀ (v : Option Value) (M' : Mem), Q' (.inl v) M' → J κ bc bs Q (pc + 3) L (v.toList ++ st) M' (k + bc') (n + bs')) : J κ bc bs Q (pc) L (a3 :: a2 :: a1 :: .ref o :: st) M (k) (n) := by
  intro p l e s m args below meth c H locs ls D B hc hB hZ hW hS hL
  obtain ⟨hx, hb, hr, hml, hown, hts, hlo, htab, hfl, hnm⟩ := id hc
  refine qcall (vx_runV (As := [a1, a2, a3]) (rest := st) ⟨hx, hb, hml, hown, hts⟩ (hct l D B hfl) ⟨Ok.callB ok.1 ok.2.1 hts hlk hfit, hts _ ok.2.2.1, hts _ ok.2.2.2⟩ ⟨Pic.blind, (by
    obtain ⟨ws, tys, hP, hK, hD, hR⟩ := id hW
    obtain ⟨q0, hq⟩ := hR o _ hM
    rw [← hcls]
    exact va_recv hK hP hci hq), Pic.at hB hZ hW hS⟩ rfl rfl hL.1 rfl (lv_room hst) d ⟨hbk, hbn⟩) hS (fun E ce q9 M' H1 locs1 hq hw hS1 hce hcv hcl => qthrow hH htab hlo (hthr E M' hq) hw hS1 hce hcv hcl hbk hbn) (fun v M' H1 locs1 hq hw hS1 => ?_)
  exact kk v M' hq p l e s m args below meth c H1 locs1 ls D B hc hB hZ hw hS1 hL

theorem r_callV4 {κ : Kp} {bc bs : Nat} {Q : Rs → Mem → Prop} {pc : Nat} {L : Ls} {st : List Value} {M : Mem} {k n : Nat} {κ' : Kp} {ix bc' bs' : Nat} {Q' : Rs → Mem → Prop} {o : Nat} {a1 a2 a3 a4 : Value}  (ok : OkV κ' 4) (hfit : Fit κ κ') (hlk : Cond.methodLink (kY κ).cls ix (kY κ') ∈ lw_g) (hct : Ct κ' (.ref o :: [a1, a2, a3, a4]) M bc' bs' Q') {ci : Nat} {fs : List Value} {r : vw_C} (hM : M o = some (oC ci fs)) (hci : vwCl[ci]? = some r) (hcls : r.1 = (kY κ').cls) (hst : (st.map fun v => v.category).sum ≤ 8) (hbk : k + bc' ≤ bc) (hbn : n + bs' ≤ bs) (hH : kH κ = []) (d : Dc κ pc (.invokevirtual ix) 3) (hthr : ∀ (E : String) (M' : Mem), Q' (.inr E) M' → Q (.inr E) M') (kk : ∀ (v : Option Value) (M' : Mem), Q' (.inl v) M' → J κ bc bs Q (pc + 3) L (v.toList ++ st) M' (k + bc') (n + bs')) : J κ bc bs Q (pc) L (a4 :: a3 :: a2 :: a1 :: .ref o :: st) M (k) (n) := by
  intro p l e s m args below meth c H locs ls D B hc hB hZ hW hS hL
  obtain ⟨hx, hb, hr, hml, hown, hts, hlo, htab, hfl, hnm⟩ := id hc
  refine qcall (vx_runV (As := [a1, a2, a3, a4]) (rest := st) ⟨hx, hb, hml, hown, hts⟩ (hct l D B hfl) ⟨Ok.callB ok.1 ok.2.1 hts hlk hfit, hts _ ok.2.2.1, hts _ ok.2.2.2⟩ ⟨Pic.blind, (by
    obtain ⟨ws, tys, hP, hK, hD, hR⟩ := id hW
    obtain ⟨q0, hq⟩ := hR o _ hM
    rw [← hcls]
    exact va_recv hK hP hci hq), Pic.at hB hZ hW hS⟩ rfl rfl hL.1 rfl (lv_room hst) d ⟨hbk, hbn⟩) hS (fun E ce q9 M' H1 locs1 hq hw hS1 hce hcv hcl => qthrow hH htab hlo (hthr E M' hq) hw hS1 hce hcv hcl hbk hbn) (fun v M' H1 locs1 hq hw hS1 => ?_)
  exact kk v M' hq p l e s m args below meth c H1 locs1 ls D B hc hB hZ hw hS1 hL

theorem r_callS0 {κ : Kp} {bc bs : Nat} {Q : Rs → Mem → Prop} {pc : Nat} {L : Ls} {st : List Value} {M : Mem} {k n : Nat} {κ' : Kp} {ix bc' bs' : Nat} {Q' : Rs → Mem → Prop}  (ok : OkS κ' 0) (hfit : Fit κ κ') (hlk : Cond.methodLink (kY κ).cls ix (kY κ') ∈ lw_g) (hct : Ct κ' [] M bc' bs' Q') (hst : (st.map fun v => v.category).sum ≤ 8) (hbk : k + bc' ≤ bc) (hbn : n + bs' ≤ bs) (hH : kH κ = []) (d : Dc κ pc (.invokestatic ix) 3) (hthr : ∀ (E : String) (M' : Mem), Q' (.inr E) M' → Q (.inr E) M') (kk : ∀ (v : Option Value) (M' : Mem), Q' (.inl v) M' → J κ bc bs Q (pc + 3) L (v.toList ++ st) M' (k + bc') (n + bs')) : J κ bc bs Q (pc) L (st) M (k) (n) := by
  intro p l e s m args below meth c H locs ls D B hc hB hZ hW hS hL
  obtain ⟨hx, hb, hr, hml, hown, hts, hlo, htab, hfl, hnm⟩ := id hc
  refine qcall (vx_runS (As := []) (rest := st) ⟨hx, hb, hml, hown, hts⟩ (hct l D B hfl) ⟨Ok.callB ok.1 ok.2.1 hts hlk hfit, hts _ ok.2.2⟩ ⟨Pic.blind, Pic.at hB hZ hW hS⟩ rfl rfl hL.1 rfl (lv_room hst) d ⟨hbk, hbn⟩) hS (fun E ce q9 M' H1 locs1 hq hw hS1 hce hcv hcl => qthrow hH htab hlo (hthr E M' hq) hw hS1 hce hcv hcl hbk hbn) (fun v M' H1 locs1 hq hw hS1 => ?_)
  exact kk v M' hq p l e s m args below meth c H1 locs1 ls D B hc hB hZ hw hS1 hL

theorem r_callS1 {κ : Kp} {bc bs : Nat} {Q : Rs → Mem → Prop} {pc : Nat} {L : Ls} {st : List Value} {M : Mem} {k n : Nat} {κ' : Kp} {ix bc' bs' : Nat} {Q' : Rs → Mem → Prop} {a1 : Value}  (ok : OkS κ' 1) (hfit : Fit κ κ') (hlk : Cond.methodLink (kY κ).cls ix (kY κ') ∈ lw_g) (hct : Ct κ' [a1] M bc' bs' Q') (hst : (st.map fun v => v.category).sum ≤ 8) (hbk : k + bc' ≤ bc) (hbn : n + bs' ≤ bs) (hH : kH κ = []) (d : Dc κ pc (.invokestatic ix) 3) (hthr : ∀ (E : String) (M' : Mem), Q' (.inr E) M' → Q (.inr E) M') (kk : ∀ (v : Option Value) (M' : Mem), Q' (.inl v) M' → J κ bc bs Q (pc + 3) L (v.toList ++ st) M' (k + bc') (n + bs')) : J κ bc bs Q (pc) L (a1 :: st) M (k) (n) := by
  intro p l e s m args below meth c H locs ls D B hc hB hZ hW hS hL
  obtain ⟨hx, hb, hr, hml, hown, hts, hlo, htab, hfl, hnm⟩ := id hc
  refine qcall (vx_runS (As := [a1]) (rest := st) ⟨hx, hb, hml, hown, hts⟩ (hct l D B hfl) ⟨Ok.callB ok.1 ok.2.1 hts hlk hfit, hts _ ok.2.2⟩ ⟨Pic.blind, Pic.at hB hZ hW hS⟩ rfl rfl hL.1 rfl (lv_room hst) d ⟨hbk, hbn⟩) hS (fun E ce q9 M' H1 locs1 hq hw hS1 hce hcv hcl => qthrow hH htab hlo (hthr E M' hq) hw hS1 hce hcv hcl hbk hbn) (fun v M' H1 locs1 hq hw hS1 => ?_)
  exact kk v M' hq p l e s m args below meth c H1 locs1 ls D B hc hB hZ hw hS1 hL

theorem r_callS2 {κ : Kp} {bc bs : Nat} {Q : Rs → Mem → Prop} {pc : Nat} {L : Ls} {st : List Value} {M : Mem} {k n : Nat} {κ' : Kp} {ix bc' bs' : Nat} {Q' : Rs → Mem → Prop} {a1 a2 : Value}  (ok : OkS κ' 2) (hfit : Fit κ κ') (hlk : Cond.methodLink (kY κ).cls ix (kY κ') ∈ lw_g) (hct : Ct κ' [a1, a2] M bc' bs' Q') (hst : (st.map fun v => v.category).sum ≤ 8) (hbk : k + bc' ≤ bc) (hbn : n + bs' ≤ bs) (hH : kH κ = []) (d : Dc κ pc (.invokestatic ix) 3) (hthr : ∀ (E : String) (M' : Mem), Q' (.inr E) M' → Q (.inr E) M') (kk : ∀ (v : Option Value) (M' : Mem), Q' (.inl v) M' → J κ bc bs Q (pc + 3) L (v.toList ++ st) M' (k + bc') (n + bs')) : J κ bc bs Q (pc) L (a2 :: a1 :: st) M (k) (n) := by
  intro p l e s m args below meth c H locs ls D B hc hB hZ hW hS hL
  obtain ⟨hx, hb, hr, hml, hown, hts, hlo, htab, hfl, hnm⟩ := id hc
  refine qcall (vx_runS (As := [a1, a2]) (rest := st) ⟨hx, hb, hml, hown, hts⟩ (hct l D B hfl) ⟨Ok.callB ok.1 ok.2.1 hts hlk hfit, hts _ ok.2.2⟩ ⟨Pic.blind, Pic.at hB hZ hW hS⟩ rfl rfl hL.1 rfl (lv_room hst) d ⟨hbk, hbn⟩) hS (fun E ce q9 M' H1 locs1 hq hw hS1 hce hcv hcl => qthrow hH htab hlo (hthr E M' hq) hw hS1 hce hcv hcl hbk hbn) (fun v M' H1 locs1 hq hw hS1 => ?_)
  exact kk v M' hq p l e s m args below meth c H1 locs1 ls D B hc hB hZ hw hS1 hL

theorem r_callS3 {κ : Kp} {bc bs : Nat} {Q : Rs → Mem → Prop} {pc : Nat} {L : Ls} {st : List Value} {M : Mem} {k n : Nat} {κ' : Kp} {ix bc' bs' : Nat} {Q' : Rs → Mem → Prop} {a1 a2 a3 : Value}  (ok : OkS κ' 3) (hfit : Fit κ κ') (hlk : Cond.methodLink (kY κ).cls ix (kY κ') ∈ lw_g) (hct : Ct κ' [a1, a2, a3] M bc' bs' Q') (hst : (st.map fun v => v.category).sum ≤ 8) (hbk : k + bc' ≤ bc) (hbn : n + bs' ≤ bs) (hH : kH κ = []) (d : Dc κ pc (.invokestatic ix) 3) (hthr : ∀ (E : String) (M' : Mem), Q' (.inr E) M' → Q (.inr E) M') (kk : ∀ (v : Option Value) (M' : Mem), Q' (.inl v) M' → J κ bc bs Q (pc + 3) L (v.toList ++ st) M' (k + bc') (n + bs')) : J κ bc bs Q (pc) L (a3 :: a2 :: a1 :: st) M (k) (n) := by
  intro p l e s m args below meth c H locs ls D B hc hB hZ hW hS hL
  obtain ⟨hx, hb, hr, hml, hown, hts, hlo, htab, hfl, hnm⟩ := id hc
  refine qcall (vx_runS (As := [a1, a2, a3]) (rest := st) ⟨hx, hb, hml, hown, hts⟩ (hct l D B hfl) ⟨Ok.callB ok.1 ok.2.1 hts hlk hfit, hts _ ok.2.2⟩ ⟨Pic.blind, Pic.at hB hZ hW hS⟩ rfl rfl hL.1 rfl (lv_room hst) d ⟨hbk, hbn⟩) hS (fun E ce q9 M' H1 locs1 hq hw hS1 hce hcv hcl => qthrow hH htab hlo (hthr E M' hq) hw hS1 hce hcv hcl hbk hbn) (fun v M' H1 locs1 hq hw hS1 => ?_)
  exact kk v M' hq p l e s m args below meth c H1 locs1 ls D B hc hB hZ hw hS1 hL

theorem r_callS4 {κ : Kp} {bc bs : Nat} {Q : Rs → Mem → Prop} {pc : Nat} {L : Ls} {st : List Value} {M : Mem} {k n : Nat} {κ' : Kp} {ix bc' bs' : Nat} {Q' : Rs → Mem → Prop} {a1 a2 a3 a4 : Value}  (ok : OkS κ' 4) (hfit : Fit κ κ') (hlk : Cond.methodLink (kY κ).cls ix (kY κ') ∈ lw_g) (hct : Ct κ' [a1, a2, a3, a4] M bc' bs' Q') (hst : (st.map fun v => v.category).sum ≤ 8) (hbk : k + bc' ≤ bc) (hbn : n + bs' ≤ bs) (hH : kH κ = []) (d : Dc κ pc (.invokestatic ix) 3) (hthr : ∀ (E : String) (M' : Mem), Q' (.inr E) M' → Q (.inr E) M') (kk : ∀ (v : Option Value) (M' : Mem), Q' (.inl v) M' → J κ bc bs Q (pc + 3) L (v.toList ++ st) M' (k + bc') (n + bs')) : J κ bc bs Q (pc) L (a4 :: a3 :: a2 :: a1 :: st) M (k) (n) := by
  intro p l e s m args below meth c H locs ls D B hc hB hZ hW hS hL
  obtain ⟨hx, hb, hr, hml, hown, hts, hlo, htab, hfl, hnm⟩ := id hc
  refine qcall (vx_runS (As := [a1, a2, a3, a4]) (rest := st) ⟨hx, hb, hml, hown, hts⟩ (hct l D B hfl) ⟨Ok.callB ok.1 ok.2.1 hts hlk hfit, hts _ ok.2.2⟩ ⟨Pic.blind, Pic.at hB hZ hW hS⟩ rfl rfl hL.1 rfl (lv_room hst) d ⟨hbk, hbn⟩) hS (fun E ce q9 M' H1 locs1 hq hw hS1 hce hcv hcl => qthrow hH htab hlo (hthr E M' hq) hw hS1 hce hcv hcl hbk hbn) (fun v M' H1 locs1 hq hw hS1 => ?_)
  exact kk v M' hq p l e s m args below meth c H1 locs1 ls D B hc hB hZ hw hS1 hL

theorem r_callS5 {κ : Kp} {bc bs : Nat} {Q : Rs → Mem → Prop} {pc : Nat} {L : Ls} {st : List Value} {M : Mem} {k n : Nat} {κ' : Kp} {ix bc' bs' : Nat} {Q' : Rs → Mem → Prop} {a1 a2 a3 a4 a5 : Value}  (ok : OkS κ' 5) (hfit : Fit κ κ') (hlk : Cond.methodLink (kY κ).cls ix (kY κ') ∈ lw_g) (hct : Ct κ' [a1, a2, a3, a4, a5] M bc' bs' Q') (hst : (st.map fun v => v.category).sum ≤ 8) (hbk : k + bc' ≤ bc) (hbn : n + bs' ≤ bs) (hH : kH κ = []) (d : Dc κ pc (.invokestatic ix) 3) (hthr : ∀ (E : String) (M' : Mem), Q' (.inr E) M' → Q (.inr E) M') (kk : ∀ (v : Option Value) (M' : Mem), Q' (.inl v) M' → J κ bc bs Q (pc + 3) L (v.toList ++ st) M' (k + bc') (n + bs')) : J κ bc bs Q (pc) L (a5 :: a4 :: a3 :: a2 :: a1 :: st) M (k) (n) := by
  intro p l e s m args below meth c H locs ls D B hc hB hZ hW hS hL
  obtain ⟨hx, hb, hr, hml, hown, hts, hlo, htab, hfl, hnm⟩ := id hc
  refine qcall (vx_runS (As := [a1, a2, a3, a4, a5]) (rest := st) ⟨hx, hb, hml, hown, hts⟩ (hct l D B hfl) ⟨Ok.callB ok.1 ok.2.1 hts hlk hfit, hts _ ok.2.2⟩ ⟨Pic.blind, Pic.at hB hZ hW hS⟩ rfl rfl hL.1 rfl (lv_room hst) d ⟨hbk, hbn⟩) hS (fun E ce q9 M' H1 locs1 hq hw hS1 hce hcv hcl => qthrow hH htab hlo (hthr E M' hq) hw hS1 hce hcv hcl hbk hbn) (fun v M' H1 locs1 hq hw hS1 => ?_)
  exact kk v M' hq p l e s m args below meth c H1 locs1 ls D B hc hB hZ hw hS1 hL

theorem r_callI0 {κ : Kp} {bc bs : Nat} {Q : Rs → Mem → Prop} {pc : Nat} {L : Ls} {st : List Value} {M : Mem} {k n : Nat} {κ' : Kp} {ix bc' bs' : Nat} {Q' : Rs → Mem → Prop} {o : Nat}  (ok : OkI κ' 0) (hfit : Fit κ κ') (hlk : Cond.methodLink (kY κ).cls ix (kY κ') ∈ lw_g) (hct : Ct κ' (.ref o :: []) M bc' bs' Q') (hst : (st.map fun v => v.category).sum ≤ 8) (hbk : k + bc' ≤ bc) (hbn : n + bs' ≤ bs) (hno : ∀ (E : String) (M' : Mem), ¬ Q' (.inr E) M') (d : Dc κ pc (.invokespecial ix) 3) (kk : ∀ (v : Option Value) (M' : Mem), Q' (.inl v) M' → J κ bc bs Q (pc + 3) L (v.toList ++ st) M' (k + bc') (n + bs')) : J κ bc bs Q (pc) L (.ref o :: st) M (k) (n) := by
  intro p l e s m args below meth c H locs ls D B hc hB hZ hW hS hL
  obtain ⟨hx, hb, hr, hml, hown, hts, hlo, htab, hfl, hnm⟩ := id hc
  refine qcall0 (va_runI (As := []) (rest := st) (b := o) ⟨hx, hb, hml, hown, hts⟩ (met_of (hct l D B hfl) (fun E _ _ h => by obtain ⟨M9, h9, -⟩ := h; exact hno E M9 h9)) ⟨(by have h9 := Ok.callB (bc := bc) (bs := bs) (bc' := bc') (bs' := bs') ok.1 ok.2.2.1 hts hlk hfit; rw [ok.2.1] at h9; exact h9), ok.2.2.2.2, hts _ ok.2.2.2.1⟩ ⟨Pic.blind, Pic.at hB hZ hW hS⟩ rfl rfl hL.1 rfl (lv_room hst) d ⟨hbk, hbn⟩) hS (fun v M' H1 locs1 hq hw hS1 => ?_)
  exact kk v M' hq p l e s m args below meth c H1 locs1 ls D B hc hB hZ hw hS1 hL

theorem r_callI1 {κ : Kp} {bc bs : Nat} {Q : Rs → Mem → Prop} {pc : Nat} {L : Ls} {st : List Value} {M : Mem} {k n : Nat} {κ' : Kp} {ix bc' bs' : Nat} {Q' : Rs → Mem → Prop} {o : Nat} {a1 : Value}  (ok : OkI κ' 1) (hfit : Fit κ κ') (hlk : Cond.methodLink (kY κ).cls ix (kY κ') ∈ lw_g) (hct : Ct κ' (.ref o :: [a1]) M bc' bs' Q') (hst : (st.map fun v => v.category).sum ≤ 8) (hbk : k + bc' ≤ bc) (hbn : n + bs' ≤ bs) (hno : ∀ (E : String) (M' : Mem), ¬ Q' (.inr E) M') (d : Dc κ pc (.invokespecial ix) 3) (kk : ∀ (v : Option Value) (M' : Mem), Q' (.inl v) M' → J κ bc bs Q (pc + 3) L (v.toList ++ st) M' (k + bc') (n + bs')) : J κ bc bs Q (pc) L (a1 :: .ref o :: st) M (k) (n) := by
  intro p l e s m args below meth c H locs ls D B hc hB hZ hW hS hL
  obtain ⟨hx, hb, hr, hml, hown, hts, hlo, htab, hfl, hnm⟩ := id hc
  refine qcall0 (va_runI (As := [a1]) (rest := st) (b := o) ⟨hx, hb, hml, hown, hts⟩ (met_of (hct l D B hfl) (fun E _ _ h => by obtain ⟨M9, h9, -⟩ := h; exact hno E M9 h9)) ⟨(by have h9 := Ok.callB (bc := bc) (bs := bs) (bc' := bc') (bs' := bs') ok.1 ok.2.2.1 hts hlk hfit; rw [ok.2.1] at h9; exact h9), ok.2.2.2.2, hts _ ok.2.2.2.1⟩ ⟨Pic.blind, Pic.at hB hZ hW hS⟩ rfl rfl hL.1 rfl (lv_room hst) d ⟨hbk, hbn⟩) hS (fun v M' H1 locs1 hq hw hS1 => ?_)
  exact kk v M' hq p l e s m args below meth c H1 locs1 ls D B hc hB hZ hw hS1 hL

theorem r_callN1 {κ : Kp} {bc bs : Nat} {Q : Rs → Mem → Prop} {pc : Nat} {L : Ls} {st : List Value} {M : Mem} {k n : Nat} {κ' : Kp} {ix bc' bs' : Nat} {Q' : Rs → Mem → Prop} {a1 : Value}  (ok : OkS κ' 1) (hfit : Fit κ κ') {host : String} (hlk : ∀ (B : Nat) (s : State), Zt B s → va_Nw (.methodLinkNest (kY κ).cls ix (kY κ') host) s) (hct : Ct κ' [a1] M bc' bs' Q') (hst : (st.map fun v => v.category).sum ≤ 8) (hbk : k + bc' ≤ bc) (hbn : n + bs' ≤ bs) (hno : ∀ (E : String) (M' : Mem), ¬ Q' (.inr E) M') (d : Dc κ pc (.invokestatic ix) 3) (kk : ∀ (v : Option Value) (M' : Mem), Q' (.inl v) M' → J κ bc bs Q (pc + 3) L (v.toList ++ st) M' (k + bc') (n + bs')) : J κ bc bs Q (pc) L (a1 :: st) M (k) (n) := by
  intro p l e s m args below meth c H locs ls D B hc hB hZ hW hS hL
  obtain ⟨hx, hb, hr, hml, hown, hts, hlo, htab, hfl, hnm⟩ := id hc
  refine qcall0 (va_runSN (As := [a1]) (rest := st) ⟨hx, hb, hml, hown, hts⟩ (met_of (hct l D B hfl) (fun E _ _ h => by obtain ⟨M9, h9, -⟩ := h; exact hno E M9 h9)) ⟨va_cnB 1 hts ok.2.1.in (by rw [← wc_code ok.1]) rfl rfl (hlk B s hZ) (hts _ ok.2.1.2.1) ok.2.1.2.2 hfit, hts _ ok.2.2, trivial⟩ ⟨Pic.blind, Pic.at hB hZ hW hS⟩ rfl rfl hL.1 rfl (lv_room hst) d ⟨hbk, hbn⟩) hS (fun v M' H1 locs1 hq hw hS1 => ?_)
  exact kk v M' hq p l e s m args below meth c H1 locs1 ls D B hc hB hZ hw hS1 hL

/-! a contract out of its body -/
def las : Nat → List Value → Ls
  | _, [] => []
  | i, v :: vs => if v.category = 2 then (i, some v) :: las (i + 2) vs else (i, some v) :: las (i + 1) vs
theorem las_mem : ∀ (vs : List Value) (i j : Nat) (v : Value), lk (las i vs) j = some v → (j, v) ∈ lv_args i vs
  | [], i, j, v, h => by simp [las, lk] at h
  | w :: vs, i, j, v, h => by
    unfold las at h
    unfold lv_args
    by_cases hw : w.category = 2
    · rw [if_pos hw] at h ⊢
      rw [lk_cons] at h
      by_cases e : j = i
      · rw [if_pos e] at h; cases h; rw [e]; exact List.mem_cons_self
      · rw [if_neg e] at h; exact List.mem_cons_of_mem _ (las_mem vs _ j v h)
    · rw [if_neg hw] at h ⊢
      rw [lk_cons] at h
      by_cases e : j = i
      · rw [if_pos e] at h; cases h; rw [e]; exact List.mem_cons_self
      · rw [if_neg e] at h; exact List.mem_cons_of_mem _ (las_mem vs _ j v h)
theorem Ct.of {κ : Kp} {bc bs : Nat} {Q : Rs → Mem → Prop} {M : Mem} (As : List Value) (hy : plainName (kY κ).cls = true) (hH : kH κ = []) (hlen : (lg_sl As).length ≤ kL κ) (hJ : J κ bc bs Q 0 (las 0 As) [] M 0 0) : Ct κ As M bc bs Q := by
  intro l D B hfl
  refine vx_ofW (cc := kC κ) (maxL := kL κ) (ret := kR κ) (ws' := lw_g) hy (by rw [← wc_code hH]) ?_
  intro p e s m args below meth c s₁ Bd hml ht hv
  obtain ⟨rfl, hB, hZ, hW⟩ := hv
  have hts9 := atoms_spec (ws := wsOf κ) Bd.pre
  have hl := lv_entry As (n := kL κ) hlen
  rw [lg_entry_eq]
  refine hJ p l e s m As.toArray below meth c s.heap [] _ D B ⟨Bd.exec, Bd.bytes, Bd.returns, hml, findClass_of_methodNamed Bd.named, fun w h => hts9 w (List.mem_cons_of_mem _ h), Bd.notSynchronized, ?_, hfl, (name_of_methodNamed Bd.named Bd.method).1⟩ hB hZ hW va_S.rf ⟨hl.1, hl.2.1, fun i v h => hl.2.2 (i, v) (las_mem As 0 i v h)⟩
  rw [hH]
  cases h9 : c.exceptionTable.toList with
  | nil => rfl
  | cons x xs => exact (ht x (by rw [h9]; exact List.mem_cons_self)).elim
theorem Ct.ofH {κ : Kp} {bc bs : Nat} {Q : Rs → Mem → Prop} {M : Mem} (As : List Value) (hy : plainName (kY κ).cls = true) (hH : (kH κ).isEmpty = false) (hlen : (lg_sl As).length ≤ kL κ) (hJ : J κ bc bs Q 0 (las 0 As) [] M 0 0) : Ct κ As M bc bs Q := by
  intro l D B hfl
  refine vx_ofWH (cc := kC κ) (maxL := kL κ) (ret := kR κ) (hh := kH κ) (ws' := lw_g) hy (by rw [← wc_with hH]) ?_
  intro p e s m args below meth c s₁ Bd hml hv
  obtain ⟨rfl, hB, hZ, hW⟩ := hv
  have hts9 := atoms_spec (ws := wsOf κ) Bd.pre
  have hl := lv_entry As (n := kL κ) hlen
  rw [lg_entry_eq]
  have hcw := hts9 _ List.mem_cons_self
  rw [wc_with hH] at hcw
  exact hJ p l e s m As.toArray below meth c s.heap [] _ D B ⟨Bd.exec, Bd.bytes, Bd.returns, hml, findClass_of_methodNamed Bd.named, fun w h => hts9 w (List.mem_cons_of_mem _ h), Bd.notSynchronized, vx_table (x := kY κ) Bd hcw, hfl, (name_of_methodNamed Bd.named Bd.method).1⟩ hB hZ hW va_S.rf ⟨hl.1, hl.2.1, fun i v h => hl.2.2 (i, v) (las_mem As 0 i v h)⟩
/-! ways to read J and Ct -/
theorem J.loc {κ : Kp} {bc bs : Nat} {Q : Rs → Mem → Prop} {pc : Nat} {L L' : Ls} {st : List Value} {M : Mem} {k n : Nat} (h : ∀ (i : Nat) (v : Value), lk L' i = some v → lk L i = some v) (j : J κ bc bs Q pc L' st M k n) : J κ bc bs Q pc L st M k n :=
  fun p l e s m args below meth c H locs ls D B hc hB hZ hW hS hL => j p l e s m args below meth c H locs ls D B hc hB hZ hW hS ⟨hL.1, hL.2.1, fun i v hi => hL.2.2 i v (h i v hi)⟩
theorem J.mem {κ : Kp} {bc bs : Nat} {Q : Rs → Mem → Prop} {pc : Nat} {L : Ls} {st : List Value} {M M' : Mem} {k n : Nat} (h : ∀ (a : Nat) (x : AC), M' a = some x → M a = some x) (j : J κ bc bs Q pc L st M' k n) : J κ bc bs Q pc L st M k n :=
  fun p l e s m args below meth c H locs ls D B hc hB hZ hW hS hL => j p l e s m args below meth c H locs ls D B hc hB hZ (hW.less h) hS hL
theorem J.wide {κ : Kp} {bc bs : Nat} {Q : Rs → Mem → Prop} {pc : Nat} {L : Ls} {st : List Value} {M : Mem} {k n k' n' : Nat} (hk : k ≤ k') (hn : n ≤ n') (j : J κ bc bs Q pc L st M k' n') : J κ bc bs Q pc L st M k n :=
  fun p l e s m args below meth c H locs ls D B hc hB hZ hW hS hL => W.widen hk hn (j p l e s m args below meth c H locs ls D B hc hB hZ hW hS hL)
def lsub (L' L : Ls) : Prop := ∀ (i : Nat) (v : Value), lk L' i = some v → lk L i = some v
theorem lsub_nil {L : Ls} : lsub [] L := fun i v h => by simp [lk] at h
theorem lsub_cons {L' L : Ls} {i : Nat} {v : Value} (h : lk L i = some v) (t : lsub L' L) : lsub ((i, some v) :: L') L := fun j w hj => by
  rw [lk_cons] at hj
  by_cases e : j = i
  · rw [if_pos e] at hj; cases hj; rw [e]; exact h
  · rw [if_neg e] at hj; exact t j w hj
end
section
/-! the methods, as J and Ct name them; the tables' words of each; links -/
def KX0_init : Kp := (yX0_init, cX0_init, 1, none, [], 2, 41)
def KX0_cut : Kp := (yX0_cut, cX0_cut, 8, (some .int), [], 2, 46)
def KX0_amount : Kp := (yX0_amount, cX0_amount, 1, (some .int), [], 0, 0)
def KX0_putStart : Kp := (yX0_putStart, cX0_putStart, 3, none, [], 0, 0)
def KX0_start : Kp := (yX0_start, cX0_start, 2, (some .int), [], 0, 0)
def KX0_end : Kp := (yX0_end, cX0_end, 2, (some .int), [], 1, 21)
def KX0_base : Kp := (yX0_base, cX0_base, 2, (some .int), [], 1, 21)
def KX0_membersIn : Kp := (yX0_membersIn, cX0_membersIn, 2, (some .int), [], 2, 42)
def KX0_greatestIn : Kp := (yX0_greatestIn, cX0_greatestIn, 2, (some .int), [], 2, 42)
def KX0_bytesOf : Kp := (yX0_bytesOf, cX0_bytesOf, 4, (some .int), [], 2, 42)
def KX0_greatestGapIn : Kp := (yX0_greatestGapIn, cX0_greatestGapIn, 4, (some .int), [], 2, 42)
def KX0_wideGaps : Kp := (yX0_wideGaps, cX0_wideGaps, 4, (some .int), [], 2, 42)
def KX0_blockAt : Kp := (yX0_blockAt, cX0_blockAt, 4, (some .int), [], 1, 21)
def KX1_init : Kp := (yX1_init, cX1_init, 1, none, [], 1, 20)
def KX1_length : Kp := (yX1_length, cX1_length, 1, (some .int), [], 0, 0)
def KX1_at : Kp := (yX1_at, cX1_at, 2, (some .int), [], 0, 0)
def KX1_put : Kp := (yX1_put, cX1_put, 2, none, [], 0, 0)
def KX1_empty : Kp := (yX1_empty, cX1_empty, 1, none, [], 0, 0)
def KX2_init : Kp := (yX2_init, cX2_init, 2, none, [], 3, 62)
def KX2_amount : Kp := (yX2_amount, cX2_amount, 1, (some .int), [], 0, 0)
def KX2_save : Kp := (yX2_save, cX2_save, 3, none, [], 3, 65)
def KX2_restore : Kp := (yX2_restore, cX2_restore, 4, none, [], 3, 65)
def KX2_slotAt : Kp := (yX2_slotAt, cX2_slotAt, 2, (some (.object "GapSets$State")), [], 0, 0)
def KX3_init : Kp := (yX3_init, cX3_init, 1, none, [], 3, 61)
def KX3_begin : Kp := (yX3_begin, cX3_begin, 3, none, [], 3, 73)
def KX3_reached : Kp := (yX3_reached, cX3_reached, 1, (some .int), [], 1, 21)
def KX3_allLeaps : Kp := (yX3_allLeaps, cX3_allLeaps, 1, (some .int), [], 0, 0)
def KX3_allLooks : Kp := (yX3_allLooks, cX3_allLooks, 1, (some .int), [], 0, 0)
def KX3_steps : Kp := (yX3_steps, cX3_steps, 1, (some .boolean), [], 1, 20)
def KX3_leapsTo : Kp := (yX3_leapsTo, cX3_leapsTo, 4, (some .boolean), [], 3, 67)
def KX3_lookForBlock : Kp := (yX3_lookForBlock, cX3_lookForBlock, 4, (some .int), [], 2, 44)
def KX4_init : Kp := (yX4_init, cX4_init, 1, none, [], 4, 81)
def KX4_run : Kp := (yX4_run, cX4_run, 8, none, [], 4, 95)
def KX4_result : Kp := (yX4_result, cX4_result, 2, (some .int), [], 1, 20)
def KX5_init : Kp := (yX5_init, cX5_init, 2, none, [], 1, 20)
def KX5_amount : Kp := (yX5_amount, cX5_amount, 1, (some .int), [], 0, 0)
def KX5_isEmpty : Kp := (yX5_isEmpty, cX5_isEmpty, 1, (some .boolean), [], 0, 0)
def KX5_at : Kp := (yX5_at, cX5_at, 2, (some .int), [], 0, 0)
def KX5_least : Kp := (yX5_least, cX5_least, 1, (some .int), [], 1, 21)
def KX5_greatest : Kp := (yX5_greatest, cX5_greatest, 1, (some .int), [], 1, 21)
def KX5_gapAhead : Kp := (yX5_gapAhead, cX5_gapAhead, 3, (some .int), [], 0, 0)
def KX5_placeOf : Kp := (yX5_placeOf, cX5_placeOf, 3, (some .int), [], 1, 21)
def KX5_holds : Kp := (yX5_holds, cX5_holds, 3, (some .boolean), [], 2, 43)
def KX5_nearestTo : Kp := (yX5_nearestTo, cX5_nearestTo, 5, (some .int), [], 2, 43)
def KX5_longestRow : Kp := (yX5_longestRow, cX5_longestRow, 4, (some .int), [], 1, 22)
def KX5_isLike : Kp := (yX5_isLike, cX5_isLike, 3, (some .boolean), [], 1, 21)
def KX5_beginsBlock : Kp := (yX5_beginsBlock, cX5_beginsBlock, 5, (some .boolean), [], 1, 22)
def KX5_bytes : Kp := (yX5_bytes, cX5_bytes, 6, (some .int), [], 2, 46)
def KX5_empty : Kp := (yX5_empty, cX5_empty, 1, none, [], 0, 0)
def KX5_put : Kp := (yX5_put, cX5_put, 4, none, [], 3, 65)
def KX5_cutOut : Kp := (yX5_cutOut, cX5_cutOut, 6, (some .int), [], 0, 0)
def KX5_moveBy : Kp := (yX5_moveBy, cX5_moveBy, 3, none, [], 0, 0)
def KX5_copyFrom : Kp := (yX5_copyFrom, cX5_copyFrom, 3, none, [], 1, 21)
def KX6_init : Kp := (yX6_init, cX6_init, 1, none, [], 2, 41)
def KX6_parse : Kp := (yX6_parse, cX6_parse, 3, (some .int), [], 3, 67)
def KX6_parsesWhole : Kp := (yX6_parsesWhole, cX6_parsesWhole, 2, (some .boolean), [], 4, 89)
def KX6_amount : Kp := (yX6_amount, cX6_amount, 3, (some .int), [], 0, 0)
def KX6_fill : Kp := (yX6_fill, cX6_fill, 4, none, [], 4, 88)
def KX6_restart : Kp := (yX6_restart, cX6_restart, 1, none, [], 1, 21)
def KX6_beginNumber : Kp := (yX6_beginNumber, cX6_beginNumber, 2, none, [], 0, 0)
def KX6_takes : Kp := (yX6_takes, cX6_takes, 2, (some .boolean), [], 2, 46)
def KX6_takesComma : Kp := (yX6_takesComma, cX6_takesComma, 1, (some .boolean), [], 1, 21)
def KX6_takesDash : Kp := (yX6_takesDash, cX6_takesDash, 1, (some .boolean), [], 1, 21)
def KX6_takesDigit : Kp := (yX6_takesDigit, cX6_takesDigit, 4, (some .boolean), [], 1, 23)
def KX6_isWhole : Kp := (yX6_isWhole, cX6_isWhole, 1, (some .boolean), [], 0, 0)
def KX6_closePart : Kp := (yX6_closePart, cX6_closePart, 1, none, [], 0, 0)
def KX6_greatestFrom : Kp := (yX6_greatestFrom, cX6_greatestFrom, 4, (some .int), [], 0, 0)
def KX7_init : Kp := (yX7_init, cX7_init, 2, none, [], 2, 41)
def KX7_members : Kp := (yX7_members, cX7_members, 3, (some (.object "GapSets$Members")), [], 0, 0)
def KX7_valueOf : Kp := (yX7_valueOf, cX7_valueOf, 2, (some .int), [], 0, 0)
def KX7_change : Kp := (yX7_change, cX7_change, 3, none, [], 0, 0)
def KX7_copyFrom : Kp := (yX7_copyFrom, cX7_copyFrom, 3, none, [], 2, 43)
def KX8_init : Kp := (yX8_init, cX8_init, 1, none, [], 5, 101)
def KX8_add : Kp := (yX8_add, cX8_add, 5, (some .int), [], 9, 143)
def KX8_remove : Kp := (yX8_remove, cX8_remove, 3, (some .int), [], 9, 143)
def KX8_removeRange : Kp := (yX8_removeRange, cX8_removeRange, 4, (some .int), [], 9, 143)
def KX8_shift : Kp := (yX8_shift, cX8_shift, 4, (some .int), [], 8, 123)
def KX8_combine : Kp := (yX8_combine, cX8_combine, 5, (some .int), [], 8, 123)
def KX8_set : Kp := (yX8_set, cX8_set, 4, (some .int), [], 8, 123)
def KX8_append : Kp := (yX8_append, cX8_append, 2, (some .int), [], 8, 123)
def KX8_clearBuffer : Kp := (yX8_clearBuffer, cX8_clearBuffer, 2, (some .int), [], 1, 20)
def KX8_firstError : Kp := (yX8_firstError, cX8_firstError, 1, (some .int), [], 4, 89)
def KX8_read : Kp := (yX8_read, cX8_read, 3, (some .int), [], 8, 123)
def KX8_undo : Kp := (yX8_undo, cX8_undo, 1, (some .int), [], 8, 123)
def KX8_has : Kp := (yX8_has, cX8_has, 3, (some .int), [], 9, 143)
def KX8_member : Kp := (yX8_member, cX8_member, 3, (some .int), [], 8, 123)
def KX8_less : Kp := (yX8_less, cX8_less, 3, (some .int), [], 9, 143)
def KX8_nearest : Kp := (yX8_nearest, cX8_nearest, 3, (some .int), [], 9, 143)
def KX8_block : Kp := (yX8_block, cX8_block, 4, (some .int), [], 8, 123)
def KX8_of : Kp := (yX8_of, cX8_of, 4, (some .int), [], 8, 123)
def KX8_leaps : Kp := (yX8_leaps, cX8_leaps, 4, (some .int), [], 8, 123)
def KX8_count : Kp := (yX8_count, cX8_count, 2, (some .int), [], 8, 123)
def KX8_setting : Kp := (yX8_setting, cX8_setting, 2, (some .int), [], 8, 123)
def KX8_ifSet : Kp := (yX8_ifSet, cX8_ifSet, 4, (some .int), [], 8, 123)
def KX8_ifAdded : Kp := (yX8_ifAdded, cX8_ifAdded, 4, (some .int), [], 9, 143)
def KX8_dearest : Kp := (yX8_dearest, cX8_dearest, 9, (some .int), [], 8, 123)
def KX8_bestWidth : Kp := (yX8_bestWidth, cX8_bestWidth, 5, (some .int), [], 5, 111)
def KX8_smallness : Kp := (yX8_smallness, cX8_smallness, 2, (some .double), [], 4, 94)
def KX8_digest : Kp := (yX8_digest, cX8_digest, 4, (some .long), [], 11, 192)
def KX8_requireSet : Kp := (yX8_requireSet, cX8_requireSet, 1, none, [], 7, 103)
def KX8_requireSetting : Kp := (yX8_requireSetting, cX8_requireSetting, 1, none, [], 7, 103)
def KX8_requireNumber : Kp := (yX8_requireNumber, cX8_requireNumber, 1, none, [], 8, 123)
def KX8_requireArgument : Kp := (yX8_requireArgument, cX8_requireArgument, 1, none, [], 7, 103)
def KX8_requireState : Kp := (yX8_requireState, cX8_requireState, 1, none, [], 7, 103)
def KX8_isMost : Kp := (yX8_isMost, cX8_isMost, 1, (some .boolean), [], 0, 0)
def KX8_isWidth : Kp := (yX8_isWidth, cX8_isWidth, 1, (some .boolean), [], 0, 0)
def KX8_joinInto : Kp := (yX8_joinInto, cX8_joinInto, 6, none, [], 4, 88)
def KX8_sizeOf : Kp := (yX8_sizeOf, cX8_sizeOf, 2, (some .int), [], 3, 71)
def KX8_allMembers : Kp := (yX8_allMembers, cX8_allMembers, 3, (some .int), [], 1, 22)
def KX8_unlikeMembers : Kp := (yX8_unlikeMembers, cX8_unlikeMembers, 5, (some .int), [], 4, 89)
def KX8_membersOfAllFour : Kp := (yX8_membersOfAllFour, cX8_membersOfAllFour, 4, (some .int), [], 4, 89)
def KX8_holdersAhead : Kp := (yX8_holdersAhead, cX8_holdersAhead, 5, (some .int), [], 3, 65)
def KX8_allSizes : Kp := (yX8_allSizes, cX8_allSizes, 4, (some .int), [], 3, 71)
def KX8_allBlocks : Kp := (yX8_allBlocks, cX8_allBlocks, 3, (some .int), [], 3, 73)
def KX8_pairsAlike : Kp := (yX8_pairsAlike, cX8_pairsAlike, 4, (some .int), [], 2, 43)
def KX8_gatherWidths : Kp := (yX8_gatherWidths, cX8_gatherWidths, 4, none, [], 4, 88)
def KX8_mix : Kp := (yX8_mix, cX8_mix, 4, (some .long), [], 0, 0)
def KX8_mixMembers : Kp := (yX8_mixMembers, cX8_mixMembers, 8, (some .long), [], 9, 146)
def KX8_mixBlocks : Kp := (yX8_mixBlocks, cX8_mixBlocks, 9, (some .long), [], 9, 146)
def KX8_mixLooks : Kp := (yX8_mixLooks, cX8_mixLooks, 7, (some .long), [], 10, 166)
def KX8_mixBuffer : Kp := (yX8_mixBuffer, cX8_mixBuffer, 6, (some .long), [], 1, 23)
def KX8_bitsOf : Kp := (yX8_bitsOf, cX8_bitsOf, 7, (some .long), [], 0, 0)
def KX8_gapBytes : Kp := (yX8_gapBytes, cX8_gapBytes, 1, (some .int), [], 0, 0)
def KX9_init : Kp := (yX9_init, cX9_init, 1, none, [], 1, 20)
def KX9_thrown : Kp := (yX9_thrown, cX9_thrown, 1, (some .int), [], 0, 0)
def KX9_within : Kp := (yX9_within, cX9_within, 3, (some .boolean), [], 0, 0)
def KX9_save : Kp := (yX9_save, cX9_save, 2, none, [], 0, 0)
def KX9_isSet : Kp := (yX9_isSet, cX9_isSet, 1, (some .boolean), [], 1, 22)
def KX9_isNumber : Kp := (yX9_isNumber, cX9_isNumber, 1, (some .boolean), [], 1, 22)
def KX9_many : Kp := (yX9_many, cX9_many, 2, (some .int), [], 0, 0)
def KX9_at : Kp := (yX9_at, cX9_at, 3, (some .int), [], 0, 0)
def KX9_lessThan : Kp := (yX9_lessThan, cX9_lessThan, 4, (some .int), [], 1, 22)
def KX9_isMember : Kp := (yX9_isMember, cX9_isMember, 4, (some .boolean), [], 2, 45)
def KX9_takeRow : Kp := (yX9_takeRow, cX9_takeRow, 3, none, [], 1, 22)
def KX9_layRow : Kp := (yX9_layRow, cX9_layRow, 3, none, [], 0, 0)
def KX9_layBlocks : Kp := (yX9_layBlocks, cX9_layBlocks, 6, none, [], 0, 0)
def KX9_blocksOf : Kp := (yX9_blocksOf, cX9_blocksOf, 2, none, [], 2, 44)
def KX9_bytesOf : Kp := (yX9_bytesOf, cX9_bytesOf, 4, (some .int), [], 0, 0)
def KX9_bytes : Kp := (yX9_bytes, cX9_bytes, 3, (some .int), [], 1, 23)
def KX9_sizeBy : Kp := (yX9_sizeBy, cX9_sizeBy, 4, (some .int), [], 2, 45)
def KX9_sizeOf : Kp := (yX9_sizeOf, cX9_sizeOf, 2, (some .int), [], 3, 68)
def KX9_insert : Kp := (yX9_insert, cX9_insert, 5, none, [], 2, 45)
def KX9_add : Kp := (yX9_add, cX9_add, 3, (some .int), [], 3, 69)
def KX9_takeAway : Kp := (yX9_takeAway, cX9_takeAway, 7, (some .int), [], 2, 45)
def KX9_remove : Kp := (yX9_remove, cX9_remove, 3, (some .int), [], 3, 71)
def KX9_removeRange : Kp := (yX9_removeRange, cX9_removeRange, 4, (some .int), [], 3, 71)
def KX9_leastOf : Kp := (yX9_leastOf, cX9_leastOf, 2, (some .int), [], 1, 22)
def KX9_greatestOf : Kp := (yX9_greatestOf, cX9_greatestOf, 2, (some .int), [], 1, 22)
def KX9_canShift : Kp := (yX9_canShift, cX9_canShift, 3, (some .boolean), [], 2, 43)
def KX9_shift : Kp := (yX9_shift, cX9_shift, 4, (some .int), [], 3, 65)
def KX9_belongs : Kp := (yX9_belongs, cX9_belongs, 3, (some .boolean), [], 0, 0)
def KX9_layCombined : Kp := (yX9_layCombined, cX9_layCombined, 9, none, [], 1, 22)
def KX9_combine : Kp := (yX9_combine, cX9_combine, 5, (some .int), [], 2, 50)
def KX9_isMost : Kp := (yX9_isMost, cX9_isMost, 1, (some .boolean), [], 1, 22)
def KX9_isWidth : Kp := (yX9_isWidth, cX9_isWidth, 1, (some .boolean), [], 1, 22)
def KX9_set : Kp := (yX9_set, cX9_set, 4, (some .int), [], 2, 42)
def KX9_append : Kp := (yX9_append, cX9_append, 2, (some .int), [], 1, 22)
def KX9_clearBuffer : Kp := (yX9_clearBuffer, cX9_clearBuffer, 2, (some .int), [], 0, 0)
def KX9_greatestFrom : Kp := (yX9_greatestFrom, cX9_greatestFrom, 2, (some .int), [], 0, 0)
def KX9_takesDigit : Kp := (yX9_takesDigit, cX9_takesDigit, 4, (some .boolean), [], 1, 22)
def KX9_isEnded : Kp := (yX9_isEnded, cX9_isEnded, 1, (some .boolean), [], 0, 0)
def KX9_endNumber : Kp := (yX9_endNumber, cX9_endNumber, 1, none, [], 0, 0)
def KX9_takes : Kp := (yX9_takes, cX9_takes, 2, (some .boolean), [], 2, 45)
def KX9_rightUpTo : Kp := (yX9_rightUpTo, cX9_rightUpTo, 2, (some .int), [], 3, 66)
def KX9_firstError : Kp := (yX9_firstError, cX9_firstError, 1, (some .int), [], 4, 87)
def KX9_toldMany : Kp := (yX9_toldMany, cX9_toldMany, 3, (some .int), [], 0, 0)
def KX9_read : Kp := (yX9_read, cX9_read, 5, (some .int), [], 4, 87)
def KX9_undo : Kp := (yX9_undo, cX9_undo, 2, (some .int), [], 0, 0)
def KX9_has : Kp := (yX9_has, cX9_has, 3, (some .int), [], 3, 68)
def KX9_member : Kp := (yX9_member, cX9_member, 3, (some .int), [], 2, 42)
def KX9_less : Kp := (yX9_less, cX9_less, 3, (some .int), [], 2, 45)
def KX9_nearestTo : Kp := (yX9_nearestTo, cX9_nearestTo, 8, (some .int), [], 1, 22)
def KX9_nearest : Kp := (yX9_nearest, cX9_nearest, 3, (some .int), [], 2, 49)
def KX9_greatestGap : Kp := (yX9_greatestGap, cX9_greatestGap, 5, (some .int), [], 0, 0)
def KX9_blockNow : Kp := (yX9_blockNow, cX9_blockNow, 4, (some .int), [], 3, 65)
def KX9_block : Kp := (yX9_block, cX9_block, 4, (some .int), [], 4, 88)
def KX9_longestRun : Kp := (yX9_longestRun, cX9_longestRun, 6, (some .int), [], 1, 22)
def KX9_wideGaps : Kp := (yX9_wideGaps, cX9_wideGaps, 5, (some .int), [], 3, 65)
def KX9_blockCount : Kp := (yX9_blockCount, cX9_blockCount, 2, (some .int), [], 3, 65)
def KX9_setNow : Kp := (yX9_setNow, cX9_setNow, 3, (some .int), [], 4, 89)
def KX9_of : Kp := (yX9_of, cX9_of, 3, (some .int), [], 5, 111)
def KX9_leap : Kp := (yX9_leap, cX9_leap, 7, (some .int), [], 3, 65)
def KX9_blockWith : Kp := (yX9_blockWith, cX9_blockWith, 4, (some .int), [], 3, 65)
def KX9_goThrough : Kp := (yX9_goThrough, cX9_goThrough, 6, none, [], 4, 91)
def KX9_leapsNow : Kp := (yX9_leapsNow, cX9_leapsNow, 4, (some .int), [], 5, 116)
def KX9_leaps : Kp := (yX9_leaps, cX9_leaps, 4, (some .int), [], 6, 139)
def KX9_setsWith : Kp := (yX9_setsWith, cX9_setsWith, 5, (some .int), [], 3, 68)
def KX9_membersOfAll : Kp := (yX9_membersOfAll, cX9_membersOfAll, 6, (some .int), [], 4, 92)
def KX9_sumOf : Kp := (yX9_sumOf, cX9_sumOf, 5, (some .int), [], 5, 111)
def KX9_areAlike : Kp := (yX9_areAlike, cX9_areAlike, 5, (some .boolean), [], 1, 22)
def KX9_alikePairs : Kp := (yX9_alikePairs, cX9_alikePairs, 4, (some .int), [], 2, 46)
def KX9_counted : Kp := (yX9_counted, cX9_counted, 2, (some .int), [], 6, 135)
def KX9_count : Kp := (yX9_count, cX9_count, 2, (some .int), [], 7, 156)
def KX9_setting : Kp := (yX9_setting, cX9_setting, 2, (some .int), [], 1, 22)
def KX9_ifSet : Kp := (yX9_ifSet, cX9_ifSet, 4, (some .int), [], 3, 68)
def KX9_addedThen : Kp := (yX9_addedThen, cX9_addedThen, 5, (some .int), [], 4, 89)
def KX9_ifAdded : Kp := (yX9_ifAdded, cX9_ifAdded, 3, (some .int), [], 5, 113)
def KX9_sizeWithout : Kp := (yX9_sizeWithout, cX9_sizeWithout, 4, (some .int), [], 2, 45)
def KX9_dearestNow : Kp := (yX9_dearestNow, cX9_dearestNow, 8, (some .int), [], 3, 68)
def KX9_dearest : Kp := (yX9_dearest, cX9_dearest, 3, (some .int), [], 4, 95)
def KX9_sizesBy : Kp := (yX9_sizesBy, cX9_sizesBy, 5, (some .int), [], 3, 68)
def KX9_bestNow : Kp := (yX9_bestNow, cX9_bestNow, 8, (some .int), [], 4, 92)
def KX9_bestWidth : Kp := (yX9_bestWidth, cX9_bestWidth, 1, (some .int), [], 5, 119)
def KX9_small : Kp := (yX9_small, cX9_small, 2, (some .double), [], 6, 135)
def KX9_smallness : Kp := (yX9_smallness, cX9_smallness, 1, (some .double), [], 7, 156)
def KX9_mix : Kp := (yX9_mix, cX9_mix, 3, none, [], 0, 0)
def KX9_mixSet : Kp := (yX9_mixSet, cX9_mixSet, 4, none, [], 6, 139)
def KX9_digest : Kp := (yX9_digest, cX9_digest, 2, (some .long), [], 7, 162)
def KL_add : Kp := (yL_add, cL_add, 5, (some .int), [(0, 10, 13, 13), (0, 10, 17, 15), (0, 10, 21, 17)], 10, 167)
def KL_remove : Kp := (yL_remove, cL_remove, 5, (some .int), [(0, 10, 13, 13), (0, 10, 17, 15)], 10, 165)
def KL_removeRange : Kp := (yL_removeRange, cL_removeRange, 6, (some .int), [(0, 12, 15, 13), (0, 12, 19, 15)], 10, 166)
def KL_shift : Kp := (yL_shift, cL_shift, 5, (some .int), [(0, 10, 13, 13), (0, 10, 17, 15), (0, 10, 21, 17)], 9, 146)
def KL_combine : Kp := (yL_combine, cL_combine, 7, (some .int), [(0, 14, 17, 13), (0, 14, 21, 15), (0, 14, 25, 17)], 9, 147)
def KL_set : Kp := (yL_set, cL_set, 5, (some .int), [(0, 10, 13, 13), (0, 10, 17, 15)], 9, 146)
def KL_append : Kp := (yL_append, cL_append, 4, (some .int), [(0, 9, 12, 15), (0, 9, 15, 17)], 9, 144)
def KL_read : Kp := (yL_read, cL_read, 4, (some .int), [(0, 9, 12, 13), (0, 9, 15, 15), (0, 9, 18, 17)], 9, 145)
def KL_undo : Kp := (yL_undo, cL_undo, 3, (some .int), [(0, 8, 11, 17)], 9, 143)
def KL_has : Kp := (yL_has, cL_has, 5, (some .int), [(0, 10, 13, 13), (0, 10, 17, 15)], 10, 165)
def KL_member : Kp := (yL_member, cL_member, 5, (some .int), [(0, 10, 13, 13), (0, 10, 17, 15)], 9, 145)
def KL_less : Kp := (yL_less, cL_less, 5, (some .int), [(0, 10, 13, 13), (0, 10, 17, 15)], 10, 165)
def KL_nearest : Kp := (yL_nearest, cL_nearest, 5, (some .int), [(0, 10, 13, 13), (0, 10, 17, 15)], 10, 165)
def KL_block : Kp := (yL_block, cL_block, 6, (some .int), [(0, 12, 15, 13), (0, 12, 19, 15)], 9, 146)
def KL_of : Kp := (yL_of, cL_of, 5, (some .int), [(0, 10, 13, 13), (0, 10, 17, 15)], 9, 146)
def KL_leaps : Kp := (yL_leaps, cL_leaps, 6, (some .int), [(0, 12, 15, 13), (0, 12, 19, 15)], 9, 146)
def KL_count : Kp := (yL_count, cL_count, 4, (some .int), [(0, 9, 12, 15)], 9, 144)
def KL_setting : Kp := (yL_setting, cL_setting, 4, (some .int), [(0, 9, 12, 13)], 9, 144)
def KL_ifSet : Kp := (yL_ifSet, cL_ifSet, 6, (some .int), [(0, 12, 15, 13), (0, 12, 19, 15)], 9, 146)
def KL_ifAdded : Kp := (yL_ifAdded, cL_ifAdded, 5, (some .int), [(0, 10, 13, 13), (0, 10, 17, 15)], 10, 166)
def KL_dearest : Kp := (yL_dearest, cL_dearest, 5, (some .int), [(0, 10, 13, 13), (0, 10, 17, 15)], 9, 151)
def KL_law : Kp := (x, code, 9, ret, [], 13, 474)
def KM_max : Kp := (⟨"java/lang/Math", "max", "(II)I"⟩, prog_17_method_65_code, 2, (some .int), [], 0, 0)
def KM_min : Kp := (⟨"java/lang/Math", "min", "(II)I"⟩, prog_17_method_69_code, 2, (some .int), [], 0, 0)
def KD_d2l : Kp := (⟨"java/lang/Double", "doubleToLongBits", "(D)J"⟩, prog_12_method_23_code, 2, (some .long), [], 1, 40)
def KD_isNaN : Kp := (⟨"java/lang/Double", "isNaN", "(D)Z"⟩, prog_12_method_6_code, 2, (some .boolean), [], 0, 0)
theorem okX0_init : OkI KX0_init 0 := ⟨rfl, rfl, ⟨lw_gin 208 (by decide +kernel) (by decide +kernel), lw_gin 82 (by decide +kernel) (by decide +kernel), by decide +kernel⟩, lw_gin 207 (by decide +kernel) (by decide +kernel), rfl⟩
theorem okX0_cut : OkV KX0_cut 2 := ⟨rfl, ⟨lw_gin 512 (by decide +kernel) (by decide +kernel), lw_gin 82 (by decide +kernel) (by decide +kernel), by decide +kernel⟩, lw_gin 510 (by decide +kernel) (by decide +kernel), lw_gin 511 (by decide +kernel) (by decide +kernel)⟩
theorem okX0_amount : OkV KX0_amount 0 := ⟨rfl, ⟨lw_gin 701 (by decide +kernel) (by decide +kernel), lw_gin 82 (by decide +kernel) (by decide +kernel), by decide +kernel⟩, lw_gin 699 (by decide +kernel) (by decide +kernel), lw_gin 700 (by decide +kernel) (by decide +kernel)⟩
theorem okX0_putStart : OkV KX0_putStart 2 := ⟨rfl, ⟨lw_gin 520 (by decide +kernel) (by decide +kernel), lw_gin 82 (by decide +kernel) (by decide +kernel), by decide +kernel⟩, lw_gin 519 (by decide +kernel) (by decide +kernel), lw_gin 16 (by decide +kernel) (by decide +kernel)⟩
theorem okX0_start : OkV KX0_start 1 := ⟨rfl, ⟨lw_gin 591 (by decide +kernel) (by decide +kernel), lw_gin 82 (by decide +kernel) (by decide +kernel), by decide +kernel⟩, lw_gin 589 (by decide +kernel) (by decide +kernel), lw_gin 590 (by decide +kernel) (by decide +kernel)⟩
theorem okX0_end : OkV KX0_end 1 := ⟨rfl, ⟨lw_gin 595 (by decide +kernel) (by decide +kernel), lw_gin 82 (by decide +kernel) (by decide +kernel), by decide +kernel⟩, lw_gin 593 (by decide +kernel) (by decide +kernel), lw_gin 594 (by decide +kernel) (by decide +kernel)⟩
theorem okX0_base : OkV KX0_base 1 := ⟨rfl, ⟨lw_gin 608 (by decide +kernel) (by decide +kernel), lw_gin 82 (by decide +kernel) (by decide +kernel), by decide +kernel⟩, lw_gin 606 (by decide +kernel) (by decide +kernel), lw_gin 607 (by decide +kernel) (by decide +kernel)⟩
theorem okX0_membersIn : OkV KX0_membersIn 1 := ⟨rfl, ⟨lw_gin 613 (by decide +kernel) (by decide +kernel), lw_gin 82 (by decide +kernel) (by decide +kernel), by decide +kernel⟩, lw_gin 611 (by decide +kernel) (by decide +kernel), lw_gin 612 (by decide +kernel) (by decide +kernel)⟩
theorem okX0_greatestIn : OkV KX0_greatestIn 1 := ⟨rfl, ⟨lw_gin 617 (by decide +kernel) (by decide +kernel), lw_gin 82 (by decide +kernel) (by decide +kernel), by decide +kernel⟩, lw_gin 615 (by decide +kernel) (by decide +kernel), lw_gin 616 (by decide +kernel) (by decide +kernel)⟩
theorem okX0_bytesOf : OkV KX0_bytesOf 1 := ⟨rfl, ⟨lw_gin 621 (by decide +kernel) (by decide +kernel), lw_gin 82 (by decide +kernel) (by decide +kernel), by decide +kernel⟩, lw_gin 619 (by decide +kernel) (by decide +kernel), lw_gin 620 (by decide +kernel) (by decide +kernel)⟩
theorem okX0_greatestGapIn : OkV KX0_greatestGapIn 1 := ⟨rfl, ⟨lw_gin 626 (by decide +kernel) (by decide +kernel), lw_gin 82 (by decide +kernel) (by decide +kernel), by decide +kernel⟩, lw_gin 624 (by decide +kernel) (by decide +kernel), lw_gin 625 (by decide +kernel) (by decide +kernel)⟩
theorem okX0_wideGaps : OkV KX0_wideGaps 0 := ⟨rfl, ⟨lw_gin 587 (by decide +kernel) (by decide +kernel), lw_gin 82 (by decide +kernel) (by decide +kernel), by decide +kernel⟩, lw_gin 585 (by decide +kernel) (by decide +kernel), lw_gin 586 (by decide +kernel) (by decide +kernel)⟩
theorem okX0_blockAt : OkV KX0_blockAt 1 := ⟨rfl, ⟨lw_gin 697 (by decide +kernel) (by decide +kernel), lw_gin 82 (by decide +kernel) (by decide +kernel), by decide +kernel⟩, lw_gin 695 (by decide +kernel) (by decide +kernel), lw_gin 696 (by decide +kernel) (by decide +kernel)⟩
theorem okX1_init : OkI KX1_init 0 := ⟨rfl, rfl, ⟨lw_gin 156 (by decide +kernel) (by decide +kernel), lw_gin 80 (by decide +kernel) (by decide +kernel), by decide +kernel⟩, lw_gin 155 (by decide +kernel) (by decide +kernel), rfl⟩
theorem okX1_length : OkV KX1_length 0 := ⟨rfl, ⟨lw_gin 298 (by decide +kernel) (by decide +kernel), lw_gin 80 (by decide +kernel) (by decide +kernel), by decide +kernel⟩, lw_gin 296 (by decide +kernel) (by decide +kernel), lw_gin 297 (by decide +kernel) (by decide +kernel)⟩
theorem okX1_at : OkV KX1_at 1 := ⟨rfl, ⟨lw_gin 315 (by decide +kernel) (by decide +kernel), lw_gin 80 (by decide +kernel) (by decide +kernel), by decide +kernel⟩, lw_gin 313 (by decide +kernel) (by decide +kernel), lw_gin 314 (by decide +kernel) (by decide +kernel)⟩
theorem okX1_put : OkV KX1_put 1 := ⟨rfl, ⟨lw_gin 848 (by decide +kernel) (by decide +kernel), lw_gin 80 (by decide +kernel) (by decide +kernel), by decide +kernel⟩, lw_gin 846 (by decide +kernel) (by decide +kernel), lw_gin 847 (by decide +kernel) (by decide +kernel)⟩
theorem okX1_empty : OkV KX1_empty 0 := ⟨rfl, ⟨lw_gin 302 (by decide +kernel) (by decide +kernel), lw_gin 80 (by decide +kernel) (by decide +kernel), by decide +kernel⟩, lw_gin 300 (by decide +kernel) (by decide +kernel), lw_gin 301 (by decide +kernel) (by decide +kernel)⟩
theorem okX2_init : OkI KX2_init 0 := ⟨rfl, rfl, ⟨lw_gin 137 (by decide +kernel) (by decide +kernel), lw_gin 79 (by decide +kernel) (by decide +kernel), by decide +kernel⟩, lw_gin 136 (by decide +kernel) (by decide +kernel), rfl⟩
theorem okX2_amount : OkV KX2_amount 0 := ⟨rfl, ⟨lw_gin 533 (by decide +kernel) (by decide +kernel), lw_gin 79 (by decide +kernel) (by decide +kernel), by decide +kernel⟩, lw_gin 531 (by decide +kernel) (by decide +kernel), lw_gin 532 (by decide +kernel) (by decide +kernel)⟩
theorem okX2_save : OkV KX2_save 1 := ⟨rfl, ⟨lw_gin 767 (by decide +kernel) (by decide +kernel), lw_gin 79 (by decide +kernel) (by decide +kernel), by decide +kernel⟩, lw_gin 765 (by decide +kernel) (by decide +kernel), lw_gin 766 (by decide +kernel) (by decide +kernel)⟩
theorem okX2_restore : OkV KX2_restore 1 := ⟨rfl, ⟨lw_gin 881 (by decide +kernel) (by decide +kernel), lw_gin 79 (by decide +kernel) (by decide +kernel), by decide +kernel⟩, lw_gin 879 (by decide +kernel) (by decide +kernel), lw_gin 880 (by decide +kernel) (by decide +kernel)⟩
theorem okX2_slotAt : OkV KX2_slotAt 1 := ⟨rfl, ⟨lw_gin 771 (by decide +kernel) (by decide +kernel), lw_gin 79 (by decide +kernel) (by decide +kernel), by decide +kernel⟩, lw_gin 770 (by decide +kernel) (by decide +kernel), lw_gin 24 (by decide +kernel) (by decide +kernel)⟩
theorem okX3_init : OkI KX3_init 0 := ⟨rfl, rfl, ⟨lw_gin 232 (by decide +kernel) (by decide +kernel), lw_gin 84 (by decide +kernel) (by decide +kernel), by decide +kernel⟩, lw_gin 231 (by decide +kernel) (by decide +kernel), rfl⟩
theorem okX3_begin : OkV KX3_begin 2 := ⟨rfl, ⟨lw_gin 672 (by decide +kernel) (by decide +kernel), lw_gin 84 (by decide +kernel) (by decide +kernel), by decide +kernel⟩, lw_gin 670 (by decide +kernel) (by decide +kernel), lw_gin 671 (by decide +kernel) (by decide +kernel)⟩
theorem okX3_reached : OkV KX3_reached 0 := ⟨rfl, ⟨lw_gin 680 (by decide +kernel) (by decide +kernel), lw_gin 84 (by decide +kernel) (by decide +kernel), by decide +kernel⟩, lw_gin 678 (by decide +kernel) (by decide +kernel), lw_gin 679 (by decide +kernel) (by decide +kernel)⟩
theorem okX3_allLeaps : OkV KX3_allLeaps 0 := ⟨rfl, ⟨lw_gin 717 (by decide +kernel) (by decide +kernel), lw_gin 84 (by decide +kernel) (by decide +kernel), by decide +kernel⟩, lw_gin 715 (by decide +kernel) (by decide +kernel), lw_gin 716 (by decide +kernel) (by decide +kernel)⟩
theorem okX3_allLooks : OkV KX3_allLooks 0 := ⟨rfl, ⟨lw_gin 721 (by decide +kernel) (by decide +kernel), lw_gin 84 (by decide +kernel) (by decide +kernel), by decide +kernel⟩, lw_gin 719 (by decide +kernel) (by decide +kernel), lw_gin 720 (by decide +kernel) (by decide +kernel)⟩
theorem okX3_steps : OkV KX3_steps 0 := ⟨rfl, ⟨lw_gin 708 (by decide +kernel) (by decide +kernel), lw_gin 84 (by decide +kernel) (by decide +kernel), by decide +kernel⟩, lw_gin 706 (by decide +kernel) (by decide +kernel), lw_gin 707 (by decide +kernel) (by decide +kernel)⟩
theorem okX3_leapsTo : OkV KX3_leapsTo 1 := ⟨rfl, ⟨lw_gin 685 (by decide +kernel) (by decide +kernel), lw_gin 84 (by decide +kernel) (by decide +kernel), by decide +kernel⟩, lw_gin 683 (by decide +kernel) (by decide +kernel), lw_gin 684 (by decide +kernel) (by decide +kernel)⟩
theorem okX3_lookForBlock : OkV KX3_lookForBlock 1 := ⟨rfl, ⟨lw_gin 693 (by decide +kernel) (by decide +kernel), lw_gin 84 (by decide +kernel) (by decide +kernel), by decide +kernel⟩, lw_gin 692 (by decide +kernel) (by decide +kernel), lw_gin 22 (by decide +kernel) (by decide +kernel)⟩
theorem okX4_init : OkI KX4_init 0 := ⟨rfl, rfl, ⟨lw_gin 226 (by decide +kernel) (by decide +kernel), lw_gin 83 (by decide +kernel) (by decide +kernel), by decide +kernel⟩, lw_gin 225 (by decide +kernel) (by decide +kernel), rfl⟩
theorem okX4_run : OkV KX4_run 3 := ⟨rfl, ⟨lw_gin 668 (by decide +kernel) (by decide +kernel), lw_gin 83 (by decide +kernel) (by decide +kernel), by decide +kernel⟩, lw_gin 666 (by decide +kernel) (by decide +kernel), lw_gin 667 (by decide +kernel) (by decide +kernel)⟩
theorem okX4_result : OkV KX4_result 1 := ⟨rfl, ⟨lw_gin 713 (by decide +kernel) (by decide +kernel), lw_gin 83 (by decide +kernel) (by decide +kernel), by decide +kernel⟩, lw_gin 711 (by decide +kernel) (by decide +kernel), lw_gin 712 (by decide +kernel) (by decide +kernel)⟩
theorem okX5_init : OkI KX5_init 1 := ⟨rfl, rfl, ⟨lw_gin 113 (by decide +kernel) (by decide +kernel), lw_gin 78 (by decide +kernel) (by decide +kernel), by decide +kernel⟩, lw_gin 112 (by decide +kernel) (by decide +kernel), rfl⟩
theorem okX5_amount : OkV KX5_amount 0 := ⟨rfl, ⟨lw_gin 378 (by decide +kernel) (by decide +kernel), lw_gin 78 (by decide +kernel) (by decide +kernel), by decide +kernel⟩, lw_gin 376 (by decide +kernel) (by decide +kernel), lw_gin 377 (by decide +kernel) (by decide +kernel)⟩
theorem okX5_isEmpty : OkV KX5_isEmpty 0 := ⟨rfl, ⟨lw_gin 689 (by decide +kernel) (by decide +kernel), lw_gin 78 (by decide +kernel) (by decide +kernel), by decide +kernel⟩, lw_gin 687 (by decide +kernel) (by decide +kernel), lw_gin 688 (by decide +kernel) (by decide +kernel)⟩
theorem okX5_at : OkV KX5_at 1 := ⟨rfl, ⟨lw_gin 370 (by decide +kernel) (by decide +kernel), lw_gin 78 (by decide +kernel) (by decide +kernel), by decide +kernel⟩, lw_gin 368 (by decide +kernel) (by decide +kernel), lw_gin 369 (by decide +kernel) (by decide +kernel)⟩
theorem okX5_least : OkV KX5_least 0 := ⟨rfl, ⟨lw_gin 572 (by decide +kernel) (by decide +kernel), lw_gin 78 (by decide +kernel) (by decide +kernel), by decide +kernel⟩, lw_gin 570 (by decide +kernel) (by decide +kernel), lw_gin 571 (by decide +kernel) (by decide +kernel)⟩
theorem okX5_greatest : OkV KX5_greatest 0 := ⟨rfl, ⟨lw_gin 576 (by decide +kernel) (by decide +kernel), lw_gin 78 (by decide +kernel) (by decide +kernel), by decide +kernel⟩, lw_gin 574 (by decide +kernel) (by decide +kernel), lw_gin 575 (by decide +kernel) (by decide +kernel)⟩
theorem okX5_gapAhead : OkV KX5_gapAhead 1 := ⟨rfl, ⟨lw_gin 382 (by decide +kernel) (by decide +kernel), lw_gin 78 (by decide +kernel) (by decide +kernel), by decide +kernel⟩, lw_gin 380 (by decide +kernel) (by decide +kernel), lw_gin 381 (by decide +kernel) (by decide +kernel)⟩
theorem okX5_placeOf : OkV KX5_placeOf 1 := ⟨rfl, ⟨lw_gin 366 (by decide +kernel) (by decide +kernel), lw_gin 78 (by decide +kernel) (by decide +kernel), by decide +kernel⟩, lw_gin 364 (by decide +kernel) (by decide +kernel), lw_gin 365 (by decide +kernel) (by decide +kernel)⟩
theorem okX5_holds : OkV KX5_holds 1 := ⟨rfl, ⟨lw_gin 362 (by decide +kernel) (by decide +kernel), lw_gin 78 (by decide +kernel) (by decide +kernel), by decide +kernel⟩, lw_gin 360 (by decide +kernel) (by decide +kernel), lw_gin 361 (by decide +kernel) (by decide +kernel)⟩
theorem okX5_nearestTo : OkV KX5_nearestTo 1 := ⟨rfl, ⟨lw_gin 662 (by decide +kernel) (by decide +kernel), lw_gin 78 (by decide +kernel) (by decide +kernel), by decide +kernel⟩, lw_gin 660 (by decide +kernel) (by decide +kernel), lw_gin 661 (by decide +kernel) (by decide +kernel)⟩
theorem okX5_longestRow : OkV KX5_longestRow 0 := ⟨rfl, ⟨lw_gin 580 (by decide +kernel) (by decide +kernel), lw_gin 78 (by decide +kernel) (by decide +kernel), by decide +kernel⟩, lw_gin 578 (by decide +kernel) (by decide +kernel), lw_gin 579 (by decide +kernel) (by decide +kernel)⟩
theorem okX5_isLike : OkV KX5_isLike 1 := ⟨rfl, ⟨lw_gin 528 (by decide +kernel) (by decide +kernel), lw_gin 78 (by decide +kernel) (by decide +kernel), by decide +kernel⟩, lw_gin 526 (by decide +kernel) (by decide +kernel), lw_gin 527 (by decide +kernel) (by decide +kernel)⟩
theorem okX5_beginsBlock : OkV KX5_beginsBlock 4 := ⟨rfl, ⟨lw_gin 398 (by decide +kernel) (by decide +kernel), lw_gin 78 (by decide +kernel) (by decide +kernel), by decide +kernel⟩, lw_gin 396 (by decide +kernel) (by decide +kernel), lw_gin 397 (by decide +kernel) (by decide +kernel)⟩
theorem okX5_bytes : OkV KX5_bytes 2 := ⟨rfl, ⟨lw_gin 394 (by decide +kernel) (by decide +kernel), lw_gin 78 (by decide +kernel) (by decide +kernel), by decide +kernel⟩, lw_gin 392 (by decide +kernel) (by decide +kernel), lw_gin 393 (by decide +kernel) (by decide +kernel)⟩
theorem okX5_empty : OkV KX5_empty 0 := ⟨rfl, ⟨lw_gin 354 (by decide +kernel) (by decide +kernel), lw_gin 78 (by decide +kernel) (by decide +kernel), by decide +kernel⟩, lw_gin 352 (by decide +kernel) (by decide +kernel), lw_gin 353 (by decide +kernel) (by decide +kernel)⟩
theorem okX5_put : OkV KX5_put 1 := ⟨rfl, ⟨lw_gin 358 (by decide +kernel) (by decide +kernel), lw_gin 78 (by decide +kernel) (by decide +kernel), by decide +kernel⟩, lw_gin 356 (by decide +kernel) (by decide +kernel), lw_gin 357 (by decide +kernel) (by decide +kernel)⟩
theorem okX5_cutOut : OkV KX5_cutOut 2 := ⟨rfl, ⟨lw_gin 647 (by decide +kernel) (by decide +kernel), lw_gin 78 (by decide +kernel) (by decide +kernel), by decide +kernel⟩, lw_gin 645 (by decide +kernel) (by decide +kernel), lw_gin 646 (by decide +kernel) (by decide +kernel)⟩
theorem okX5_moveBy : OkV KX5_moveBy 1 := ⟨rfl, ⟨lw_gin 809 (by decide +kernel) (by decide +kernel), lw_gin 78 (by decide +kernel) (by decide +kernel), by decide +kernel⟩, lw_gin 807 (by decide +kernel) (by decide +kernel), lw_gin 808 (by decide +kernel) (by decide +kernel)⟩
theorem okX5_copyFrom : OkV KX5_copyFrom 1 := ⟨rfl, ⟨lw_gin 640 (by decide +kernel) (by decide +kernel), lw_gin 78 (by decide +kernel) (by decide +kernel), by decide +kernel⟩, lw_gin 638 (by decide +kernel) (by decide +kernel), lw_gin 639 (by decide +kernel) (by decide +kernel)⟩
theorem okX6_init : OkI KX6_init 0 := ⟨rfl, rfl, ⟨lw_gin 169 (by decide +kernel) (by decide +kernel), lw_gin 81 (by decide +kernel) (by decide +kernel), by decide +kernel⟩, lw_gin 168 (by decide +kernel) (by decide +kernel), rfl⟩
theorem okX6_parse : OkV KX6_parse 1 := ⟨rfl, ⟨lw_gin 310 (by decide +kernel) (by decide +kernel), lw_gin 81 (by decide +kernel) (by decide +kernel), by decide +kernel⟩, lw_gin 308 (by decide +kernel) (by decide +kernel), lw_gin 309 (by decide +kernel) (by decide +kernel)⟩
theorem okX6_parsesWhole : OkV KX6_parsesWhole 1 := ⟨rfl, ⟨lw_gin 859 (by decide +kernel) (by decide +kernel), lw_gin 81 (by decide +kernel) (by decide +kernel), by decide +kernel⟩, lw_gin 857 (by decide +kernel) (by decide +kernel), lw_gin 858 (by decide +kernel) (by decide +kernel)⟩
theorem okX6_amount : OkV KX6_amount 0 := ⟨rfl, ⟨lw_gin 864 (by decide +kernel) (by decide +kernel), lw_gin 81 (by decide +kernel) (by decide +kernel), by decide +kernel⟩, lw_gin 862 (by decide +kernel) (by decide +kernel), lw_gin 863 (by decide +kernel) (by decide +kernel)⟩
theorem okX6_fill : OkV KX6_fill 1 := ⟨rfl, ⟨lw_gin 868 (by decide +kernel) (by decide +kernel), lw_gin 81 (by decide +kernel) (by decide +kernel), by decide +kernel⟩, lw_gin 866 (by decide +kernel) (by decide +kernel), lw_gin 867 (by decide +kernel) (by decide +kernel)⟩
theorem okX6_restart : OkV KX6_restart 0 := ⟨rfl, ⟨lw_gin 174 (by decide +kernel) (by decide +kernel), lw_gin 81 (by decide +kernel) (by decide +kernel), by decide +kernel⟩, lw_gin 173 (by decide +kernel) (by decide +kernel), lw_gin 0 (by decide +kernel) (by decide +kernel)⟩
theorem okX6_beginNumber : OkV KX6_beginNumber 1 := ⟨rfl, ⟨lw_gin 178 (by decide +kernel) (by decide +kernel), lw_gin 81 (by decide +kernel) (by decide +kernel), by decide +kernel⟩, lw_gin 177 (by decide +kernel) (by decide +kernel), lw_gin 1 (by decide +kernel) (by decide +kernel)⟩
theorem okX6_takes : OkV KX6_takes 1 := ⟨rfl, ⟨lw_gin 319 (by decide +kernel) (by decide +kernel), lw_gin 81 (by decide +kernel) (by decide +kernel), by decide +kernel⟩, lw_gin 318 (by decide +kernel) (by decide +kernel), lw_gin 2 (by decide +kernel) (by decide +kernel)⟩
theorem okX6_takesComma : OkV KX6_takesComma 0 := ⟨rfl, ⟨lw_gin 323 (by decide +kernel) (by decide +kernel), lw_gin 81 (by decide +kernel) (by decide +kernel), by decide +kernel⟩, lw_gin 322 (by decide +kernel) (by decide +kernel), lw_gin 3 (by decide +kernel) (by decide +kernel)⟩
theorem okX6_takesDash : OkV KX6_takesDash 0 := ⟨rfl, ⟨lw_gin 335 (by decide +kernel) (by decide +kernel), lw_gin 81 (by decide +kernel) (by decide +kernel), by decide +kernel⟩, lw_gin 334 (by decide +kernel) (by decide +kernel), lw_gin 6 (by decide +kernel) (by decide +kernel)⟩
theorem okX6_takesDigit : OkV KX6_takesDigit 1 := ⟨rfl, ⟨lw_gin 339 (by decide +kernel) (by decide +kernel), lw_gin 81 (by decide +kernel) (by decide +kernel), by decide +kernel⟩, lw_gin 338 (by decide +kernel) (by decide +kernel), lw_gin 7 (by decide +kernel) (by decide +kernel)⟩
theorem okX6_isWhole : OkV KX6_isWhole 0 := ⟨rfl, ⟨lw_gin 327 (by decide +kernel) (by decide +kernel), lw_gin 81 (by decide +kernel) (by decide +kernel), by decide +kernel⟩, lw_gin 326 (by decide +kernel) (by decide +kernel), lw_gin 4 (by decide +kernel) (by decide +kernel)⟩
theorem okX6_closePart : OkV KX6_closePart 0 := ⟨rfl, ⟨lw_gin 331 (by decide +kernel) (by decide +kernel), lw_gin 81 (by decide +kernel) (by decide +kernel), by decide +kernel⟩, lw_gin 330 (by decide +kernel) (by decide +kernel), lw_gin 5 (by decide +kernel) (by decide +kernel)⟩
theorem okX6_greatestFrom : OkS KX6_greatestFrom 2 := ⟨rfl, ⟨lw_gin 342 (by decide +kernel) (by decide +kernel), lw_gin 81 (by decide +kernel) (by decide +kernel), by decide +kernel⟩, lw_gin 341 (by decide +kernel) (by decide +kernel)⟩
theorem okX7_init : OkI KX7_init 0 := ⟨rfl, rfl, ⟨lw_gin 106 (by decide +kernel) (by decide +kernel), lw_gin 77 (by decide +kernel) (by decide +kernel), by decide +kernel⟩, lw_gin 105 (by decide +kernel) (by decide +kernel), rfl⟩
theorem okX7_members : OkV KX7_members 1 := ⟨rfl, ⟨lw_gin 374 (by decide +kernel) (by decide +kernel), lw_gin 77 (by decide +kernel) (by decide +kernel), by decide +kernel⟩, lw_gin 372 (by decide +kernel) (by decide +kernel), lw_gin 373 (by decide +kernel) (by decide +kernel)⟩
theorem okX7_valueOf : OkV KX7_valueOf 1 := ⟨rfl, ⟨lw_gin 390 (by decide +kernel) (by decide +kernel), lw_gin 77 (by decide +kernel) (by decide +kernel), by decide +kernel⟩, lw_gin 388 (by decide +kernel) (by decide +kernel), lw_gin 389 (by decide +kernel) (by decide +kernel)⟩
theorem okX7_change : OkV KX7_change 2 := ⟨rfl, ⟨lw_gin 782 (by decide +kernel) (by decide +kernel), lw_gin 77 (by decide +kernel) (by decide +kernel), by decide +kernel⟩, lw_gin 780 (by decide +kernel) (by decide +kernel), lw_gin 781 (by decide +kernel) (by decide +kernel)⟩
theorem okX7_copyFrom : OkV KX7_copyFrom 1 := ⟨rfl, ⟨lw_gin 775 (by decide +kernel) (by decide +kernel), lw_gin 77 (by decide +kernel) (by decide +kernel), by decide +kernel⟩, lw_gin 773 (by decide +kernel) (by decide +kernel), lw_gin 774 (by decide +kernel) (by decide +kernel)⟩
theorem okX8_init : OkI KX8_init 0 := ⟨rfl, rfl, ⟨lw_gin 98 (by decide +kernel) (by decide +kernel), lw_gin 76 (by decide +kernel) (by decide +kernel), by decide +kernel⟩, lw_gin 97 (by decide +kernel) (by decide +kernel), rfl⟩
theorem okX8_add : OkV KX8_add 2 := ⟨rfl, ⟨lw_gin 744 (by decide +kernel) (by decide +kernel), lw_gin 76 (by decide +kernel) (by decide +kernel), by decide +kernel⟩, lw_gin 742 (by decide +kernel) (by decide +kernel), lw_gin 743 (by decide +kernel) (by decide +kernel)⟩
theorem okX8_remove : OkV KX8_remove 2 := ⟨rfl, ⟨lw_gin 790 (by decide +kernel) (by decide +kernel), lw_gin 76 (by decide +kernel) (by decide +kernel), by decide +kernel⟩, lw_gin 788 (by decide +kernel) (by decide +kernel), lw_gin 789 (by decide +kernel) (by decide +kernel)⟩
theorem okX8_removeRange : OkV KX8_removeRange 3 := ⟨rfl, ⟨lw_gin 797 (by decide +kernel) (by decide +kernel), lw_gin 76 (by decide +kernel) (by decide +kernel), by decide +kernel⟩, lw_gin 795 (by decide +kernel) (by decide +kernel), lw_gin 796 (by decide +kernel) (by decide +kernel)⟩
theorem okX8_shift : OkV KX8_shift 2 := ⟨rfl, ⟨lw_gin 804 (by decide +kernel) (by decide +kernel), lw_gin 76 (by decide +kernel) (by decide +kernel), by decide +kernel⟩, lw_gin 802 (by decide +kernel) (by decide +kernel), lw_gin 803 (by decide +kernel) (by decide +kernel)⟩
theorem okX8_combine : OkV KX8_combine 4 := ⟨rfl, ⟨lw_gin 816 (by decide +kernel) (by decide +kernel), lw_gin 76 (by decide +kernel) (by decide +kernel), by decide +kernel⟩, lw_gin 814 (by decide +kernel) (by decide +kernel), lw_gin 815 (by decide +kernel) (by decide +kernel)⟩
theorem okX8_set : OkV KX8_set 2 := ⟨rfl, ⟨lw_gin 826 (by decide +kernel) (by decide +kernel), lw_gin 76 (by decide +kernel) (by decide +kernel), by decide +kernel⟩, lw_gin 824 (by decide +kernel) (by decide +kernel), lw_gin 825 (by decide +kernel) (by decide +kernel)⟩
theorem okX8_append : OkV KX8_append 1 := ⟨rfl, ⟨lw_gin 844 (by decide +kernel) (by decide +kernel), lw_gin 76 (by decide +kernel) (by decide +kernel), by decide +kernel⟩, lw_gin 842 (by decide +kernel) (by decide +kernel), lw_gin 843 (by decide +kernel) (by decide +kernel)⟩
theorem okX8_clearBuffer : OkV KX8_clearBuffer 0 := ⟨rfl, ⟨lw_gin 294 (by decide +kernel) (by decide +kernel), lw_gin 76 (by decide +kernel) (by decide +kernel), by decide +kernel⟩, lw_gin 292 (by decide +kernel) (by decide +kernel), lw_gin 293 (by decide +kernel) (by decide +kernel)⟩
theorem okX8_firstError : OkV KX8_firstError 0 := ⟨rfl, ⟨lw_gin 306 (by decide +kernel) (by decide +kernel), lw_gin 76 (by decide +kernel) (by decide +kernel), by decide +kernel⟩, lw_gin 304 (by decide +kernel) (by decide +kernel), lw_gin 305 (by decide +kernel) (by decide +kernel)⟩
theorem okX8_read : OkV KX8_read 1 := ⟨rfl, ⟨lw_gin 855 (by decide +kernel) (by decide +kernel), lw_gin 76 (by decide +kernel) (by decide +kernel), by decide +kernel⟩, lw_gin 853 (by decide +kernel) (by decide +kernel), lw_gin 854 (by decide +kernel) (by decide +kernel)⟩
theorem okX8_undo : OkV KX8_undo 0 := ⟨rfl, ⟨lw_gin 877 (by decide +kernel) (by decide +kernel), lw_gin 76 (by decide +kernel) (by decide +kernel), by decide +kernel⟩, lw_gin 875 (by decide +kernel) (by decide +kernel), lw_gin 876 (by decide +kernel) (by decide +kernel)⟩
theorem okX8_has : OkV KX8_has 2 := ⟨rfl, ⟨lw_gin 888 (by decide +kernel) (by decide +kernel), lw_gin 76 (by decide +kernel) (by decide +kernel), by decide +kernel⟩, lw_gin 886 (by decide +kernel) (by decide +kernel), lw_gin 887 (by decide +kernel) (by decide +kernel)⟩
theorem okX8_member : OkV KX8_member 2 := ⟨rfl, ⟨lw_gin 895 (by decide +kernel) (by decide +kernel), lw_gin 76 (by decide +kernel) (by decide +kernel), by decide +kernel⟩, lw_gin 893 (by decide +kernel) (by decide +kernel), lw_gin 894 (by decide +kernel) (by decide +kernel)⟩
theorem okX8_less : OkV KX8_less 2 := ⟨rfl, ⟨lw_gin 902 (by decide +kernel) (by decide +kernel), lw_gin 76 (by decide +kernel) (by decide +kernel), by decide +kernel⟩, lw_gin 900 (by decide +kernel) (by decide +kernel), lw_gin 901 (by decide +kernel) (by decide +kernel)⟩
theorem okX8_nearest : OkV KX8_nearest 2 := ⟨rfl, ⟨lw_gin 658 (by decide +kernel) (by decide +kernel), lw_gin 76 (by decide +kernel) (by decide +kernel), by decide +kernel⟩, lw_gin 656 (by decide +kernel) (by decide +kernel), lw_gin 657 (by decide +kernel) (by decide +kernel)⟩
theorem okX8_block : OkV KX8_block 3 := ⟨rfl, ⟨lw_gin 604 (by decide +kernel) (by decide +kernel), lw_gin 76 (by decide +kernel) (by decide +kernel), by decide +kernel⟩, lw_gin 602 (by decide +kernel) (by decide +kernel), lw_gin 603 (by decide +kernel) (by decide +kernel)⟩
theorem okX8_of : OkV KX8_of 2 := ⟨rfl, ⟨lw_gin 545 (by decide +kernel) (by decide +kernel), lw_gin 76 (by decide +kernel) (by decide +kernel), by decide +kernel⟩, lw_gin 543 (by decide +kernel) (by decide +kernel), lw_gin 544 (by decide +kernel) (by decide +kernel)⟩
theorem okX8_leaps : OkV KX8_leaps 3 := ⟨rfl, ⟨lw_gin 922 (by decide +kernel) (by decide +kernel), lw_gin 76 (by decide +kernel) (by decide +kernel), by decide +kernel⟩, lw_gin 920 (by decide +kernel) (by decide +kernel), lw_gin 921 (by decide +kernel) (by decide +kernel)⟩
theorem okX8_count : OkV KX8_count 1 := ⟨rfl, ⟨lw_gin 420 (by decide +kernel) (by decide +kernel), lw_gin 76 (by decide +kernel) (by decide +kernel), by decide +kernel⟩, lw_gin 418 (by decide +kernel) (by decide +kernel), lw_gin 419 (by decide +kernel) (by decide +kernel)⟩
theorem okX8_setting : OkV KX8_setting 1 := ⟨rfl, ⟨lw_gin 933 (by decide +kernel) (by decide +kernel), lw_gin 76 (by decide +kernel) (by decide +kernel), by decide +kernel⟩, lw_gin 931 (by decide +kernel) (by decide +kernel), lw_gin 932 (by decide +kernel) (by decide +kernel)⟩
theorem okX8_ifSet : OkV KX8_ifSet 3 := ⟨rfl, ⟨lw_gin 940 (by decide +kernel) (by decide +kernel), lw_gin 76 (by decide +kernel) (by decide +kernel), by decide +kernel⟩, lw_gin 938 (by decide +kernel) (by decide +kernel), lw_gin 939 (by decide +kernel) (by decide +kernel)⟩
theorem okX8_ifAdded : OkV KX8_ifAdded 2 := ⟨rfl, ⟨lw_gin 651 (by decide +kernel) (by decide +kernel), lw_gin 76 (by decide +kernel) (by decide +kernel), by decide +kernel⟩, lw_gin 649 (by decide +kernel) (by decide +kernel), lw_gin 650 (by decide +kernel) (by decide +kernel)⟩
theorem okX8_dearest : OkV KX8_dearest 2 := ⟨rfl, ⟨lw_gin 636 (by decide +kernel) (by decide +kernel), lw_gin 76 (by decide +kernel) (by decide +kernel), by decide +kernel⟩, lw_gin 634 (by decide +kernel) (by decide +kernel), lw_gin 635 (by decide +kernel) (by decide +kernel)⟩
theorem okX8_bestWidth : OkV KX8_bestWidth 0 := ⟨rfl, ⟨lw_gin 346 (by decide +kernel) (by decide +kernel), lw_gin 76 (by decide +kernel) (by decide +kernel), by decide +kernel⟩, lw_gin 344 (by decide +kernel) (by decide +kernel), lw_gin 345 (by decide +kernel) (by decide +kernel)⟩
theorem okX8_smallness : OkV KX8_smallness 0 := ⟨rfl, ⟨lw_gin 407 (by decide +kernel) (by decide +kernel), lw_gin 76 (by decide +kernel) (by decide +kernel), by decide +kernel⟩, lw_gin 405 (by decide +kernel) (by decide +kernel), lw_gin 406 (by decide +kernel) (by decide +kernel)⟩
theorem okX8_digest : OkV KX8_digest 0 := ⟨rfl, ⟨lw_gin 415 (by decide +kernel) (by decide +kernel), lw_gin 76 (by decide +kernel) (by decide +kernel), by decide +kernel⟩, lw_gin 413 (by decide +kernel) (by decide +kernel), lw_gin 414 (by decide +kernel) (by decide +kernel)⟩
theorem okX8_requireSet : OkS KX8_requireSet 1 := ⟨rfl, ⟨lw_gin 548 (by decide +kernel) (by decide +kernel), lw_gin 76 (by decide +kernel) (by decide +kernel), by decide +kernel⟩, lw_gin 547 (by decide +kernel) (by decide +kernel)⟩
theorem okX8_requireSetting : OkS KX8_requireSetting 1 := ⟨rfl, ⟨lw_gin 829 (by decide +kernel) (by decide +kernel), lw_gin 76 (by decide +kernel) (by decide +kernel), by decide +kernel⟩, lw_gin 828 (by decide +kernel) (by decide +kernel)⟩
theorem okX8_requireNumber : OkS KX8_requireNumber 1 := ⟨rfl, ⟨lw_gin 654 (by decide +kernel) (by decide +kernel), lw_gin 76 (by decide +kernel) (by decide +kernel), by decide +kernel⟩, lw_gin 653 (by decide +kernel) (by decide +kernel)⟩
theorem okX8_requireArgument : OkS KX8_requireArgument 1 := ⟨rfl, ⟨lw_gin 423 (by decide +kernel) (by decide +kernel), lw_gin 76 (by decide +kernel) (by decide +kernel), by decide +kernel⟩, lw_gin 422 (by decide +kernel) (by decide +kernel)⟩
theorem okX8_requireState : OkS KX8_requireState 1 := ⟨rfl, ⟨lw_gin 747 (by decide +kernel) (by decide +kernel), lw_gin 76 (by decide +kernel) (by decide +kernel), by decide +kernel⟩, lw_gin 746 (by decide +kernel) (by decide +kernel)⟩
theorem okX8_isMost : OkS KX8_isMost 1 := ⟨rfl, ⟨lw_gin 833 (by decide +kernel) (by decide +kernel), lw_gin 76 (by decide +kernel) (by decide +kernel), by decide +kernel⟩, lw_gin 832 (by decide +kernel) (by decide +kernel)⟩
theorem okX8_isWidth : OkS KX8_isWidth 1 := ⟨rfl, ⟨lw_gin 836 (by decide +kernel) (by decide +kernel), lw_gin 76 (by decide +kernel) (by decide +kernel), by decide +kernel⟩, lw_gin 835 (by decide +kernel) (by decide +kernel)⟩
theorem okX8_joinInto : OkS KX8_joinInto 4 := ⟨rfl, ⟨lw_gin 819 (by decide +kernel) (by decide +kernel), lw_gin 76 (by decide +kernel) (by decide +kernel), by decide +kernel⟩, lw_gin 818 (by decide +kernel) (by decide +kernel)⟩
theorem okX8_sizeOf : OkV KX8_sizeOf 1 := ⟨rfl, ⟨lw_gin 568 (by decide +kernel) (by decide +kernel), lw_gin 76 (by decide +kernel) (by decide +kernel), by decide +kernel⟩, lw_gin 567 (by decide +kernel) (by decide +kernel), lw_gin 19 (by decide +kernel) (by decide +kernel)⟩
theorem okX8_allMembers : OkV KX8_allMembers 0 := ⟨rfl, ⟨lw_gin 411 (by decide +kernel) (by decide +kernel), lw_gin 76 (by decide +kernel) (by decide +kernel), by decide +kernel⟩, lw_gin 410 (by decide +kernel) (by decide +kernel), lw_gin 10 (by decide +kernel) (by decide +kernel)⟩
theorem okX8_unlikeMembers : OkV KX8_unlikeMembers 0 := ⟨rfl, ⟨lw_gin 495 (by decide +kernel) (by decide +kernel), lw_gin 76 (by decide +kernel) (by decide +kernel), by decide +kernel⟩, lw_gin 494 (by decide +kernel) (by decide +kernel), lw_gin 12 (by decide +kernel) (by decide +kernel)⟩
theorem okX8_membersOfAllFour : OkV KX8_membersOfAllFour 0 := ⟨rfl, ⟨lw_gin 504 (by decide +kernel) (by decide +kernel), lw_gin 76 (by decide +kernel) (by decide +kernel), by decide +kernel⟩, lw_gin 503 (by decide +kernel) (by decide +kernel), lw_gin 14 (by decide +kernel) (by decide +kernel)⟩
theorem okX8_holdersAhead : OkV KX8_holdersAhead 2 := ⟨rfl, ⟨lw_gin 499 (by decide +kernel) (by decide +kernel), lw_gin 76 (by decide +kernel) (by decide +kernel), by decide +kernel⟩, lw_gin 498 (by decide +kernel) (by decide +kernel), lw_gin 13 (by decide +kernel) (by decide +kernel)⟩
theorem okX8_allSizes : OkV KX8_allSizes 1 := ⟨rfl, ⟨lw_gin 386 (by decide +kernel) (by decide +kernel), lw_gin 76 (by decide +kernel) (by decide +kernel), by decide +kernel⟩, lw_gin 385 (by decide +kernel) (by decide +kernel), lw_gin 9 (by decide +kernel) (by decide +kernel)⟩
theorem okX8_allBlocks : OkV KX8_allBlocks 0 := ⟨rfl, ⟨lw_gin 508 (by decide +kernel) (by decide +kernel), lw_gin 76 (by decide +kernel) (by decide +kernel), by decide +kernel⟩, lw_gin 507 (by decide +kernel) (by decide +kernel), lw_gin 15 (by decide +kernel) (by decide +kernel)⟩
theorem okX8_pairsAlike : OkV KX8_pairsAlike 0 := ⟨rfl, ⟨lw_gin 524 (by decide +kernel) (by decide +kernel), lw_gin 76 (by decide +kernel) (by decide +kernel), by decide +kernel⟩, lw_gin 523 (by decide +kernel) (by decide +kernel), lw_gin 17 (by decide +kernel) (by decide +kernel)⟩
theorem okX8_gatherWidths : OkV KX8_gatherWidths 0 := ⟨rfl, ⟨lw_gin 350 (by decide +kernel) (by decide +kernel), lw_gin 76 (by decide +kernel) (by decide +kernel), by decide +kernel⟩, lw_gin 349 (by decide +kernel) (by decide +kernel), lw_gin 8 (by decide +kernel) (by decide +kernel)⟩
theorem okX8_mix : OkS KX8_mix 2 := ⟨rfl, ⟨lw_gin 536 (by decide +kernel) (by decide +kernel), lw_gin 76 (by decide +kernel) (by decide +kernel), by decide +kernel⟩, lw_gin 535 (by decide +kernel) (by decide +kernel)⟩
theorem okX8_mixMembers : OkV KX8_mixMembers 2 := ⟨rfl, ⟨lw_gin 541 (by decide +kernel) (by decide +kernel), lw_gin 76 (by decide +kernel) (by decide +kernel), by decide +kernel⟩, lw_gin 540 (by decide +kernel) (by decide +kernel), lw_gin 18 (by decide +kernel) (by decide +kernel)⟩
theorem okX8_mixBlocks : OkV KX8_mixBlocks 2 := ⟨rfl, ⟨lw_gin 600 (by decide +kernel) (by decide +kernel), lw_gin 76 (by decide +kernel) (by decide +kernel), by decide +kernel⟩, lw_gin 599 (by decide +kernel) (by decide +kernel), lw_gin 20 (by decide +kernel) (by decide +kernel)⟩
theorem okX8_mixLooks : OkV KX8_mixLooks 2 := ⟨rfl, ⟨lw_gin 632 (by decide +kernel) (by decide +kernel), lw_gin 76 (by decide +kernel) (by decide +kernel), by decide +kernel⟩, lw_gin 631 (by decide +kernel) (by decide +kernel), lw_gin 21 (by decide +kernel) (by decide +kernel)⟩
theorem okX8_mixBuffer : OkV KX8_mixBuffer 1 := ⟨rfl, ⟨lw_gin 733 (by decide +kernel) (by decide +kernel), lw_gin 76 (by decide +kernel) (by decide +kernel), by decide +kernel⟩, lw_gin 732 (by decide +kernel) (by decide +kernel), lw_gin 23 (by decide +kernel) (by decide +kernel)⟩
theorem okX8_bitsOf : OkS KX8_bitsOf 1 := ⟨rfl, ⟨lw_gin 726 (by decide +kernel) (by decide +kernel), lw_gin 76 (by decide +kernel) (by decide +kernel), by decide +kernel⟩, lw_gin 725 (by decide +kernel) (by decide +kernel)⟩
theorem okX8_gapBytes : OkS KX8_gapBytes 1 := ⟨rfl, ⟨lw_gin 402 (by decide +kernel) (by decide +kernel), lw_gin 76 (by decide +kernel) (by decide +kernel), by decide +kernel⟩, lw_gin 401 (by decide +kernel) (by decide +kernel)⟩
theorem okX9_init : OkI KX9_init 0 := ⟨rfl, rfl, ⟨lw_gin 953 (by decide +kernel) (by decide +kernel), lw_gin 85 (by decide +kernel) (by decide +kernel), by decide +kernel⟩, lw_gin 952 (by decide +kernel) (by decide +kernel), rfl⟩
theorem okX9_thrown : OkV KX9_thrown 0 := ⟨rfl, ⟨lw_gin 1013 (by decide +kernel) (by decide +kernel), lw_gin 85 (by decide +kernel) (by decide +kernel), by decide +kernel⟩, lw_gin 1011 (by decide +kernel) (by decide +kernel), lw_gin 1012 (by decide +kernel) (by decide +kernel)⟩
theorem okX9_within : OkS KX9_within 3 := ⟨rfl, ⟨lw_gin 1023 (by decide +kernel) (by decide +kernel), lw_gin 85 (by decide +kernel) (by decide +kernel), by decide +kernel⟩, lw_gin 1022 (by decide +kernel) (by decide +kernel)⟩
theorem okX9_save : OkV KX9_save 0 := ⟨rfl, ⟨lw_gin 1046 (by decide +kernel) (by decide +kernel), lw_gin 85 (by decide +kernel) (by decide +kernel), by decide +kernel⟩, lw_gin 1045 (by decide +kernel) (by decide +kernel), lw_gin 29 (by decide +kernel) (by decide +kernel)⟩
theorem okX9_isSet : OkS KX9_isSet 1 := ⟨rfl, ⟨lw_gin 1020 (by decide +kernel) (by decide +kernel), lw_gin 85 (by decide +kernel) (by decide +kernel), by decide +kernel⟩, lw_gin 1019 (by decide +kernel) (by decide +kernel)⟩
theorem okX9_isNumber : OkS KX9_isNumber 1 := ⟨rfl, ⟨lw_gin 1026 (by decide +kernel) (by decide +kernel), lw_gin 85 (by decide +kernel) (by decide +kernel), by decide +kernel⟩, lw_gin 1025 (by decide +kernel) (by decide +kernel)⟩
theorem okX9_many : OkV KX9_many 1 := ⟨rfl, ⟨lw_gin 1038 (by decide +kernel) (by decide +kernel), lw_gin 85 (by decide +kernel) (by decide +kernel), by decide +kernel⟩, lw_gin 1037 (by decide +kernel) (by decide +kernel), lw_gin 27 (by decide +kernel) (by decide +kernel)⟩
theorem okX9_at : OkV KX9_at 2 := ⟨rfl, ⟨lw_gin 1042 (by decide +kernel) (by decide +kernel), lw_gin 85 (by decide +kernel) (by decide +kernel), by decide +kernel⟩, lw_gin 1041 (by decide +kernel) (by decide +kernel), lw_gin 28 (by decide +kernel) (by decide +kernel)⟩
theorem okX9_lessThan : OkV KX9_lessThan 2 := ⟨rfl, ⟨lw_gin 1034 (by decide +kernel) (by decide +kernel), lw_gin 85 (by decide +kernel) (by decide +kernel), by decide +kernel⟩, lw_gin 1033 (by decide +kernel) (by decide +kernel), lw_gin 26 (by decide +kernel) (by decide +kernel)⟩
theorem okX9_isMember : OkV KX9_isMember 2 := ⟨rfl, ⟨lw_gin 1030 (by decide +kernel) (by decide +kernel), lw_gin 85 (by decide +kernel) (by decide +kernel), by decide +kernel⟩, lw_gin 1029 (by decide +kernel) (by decide +kernel), lw_gin 25 (by decide +kernel) (by decide +kernel)⟩
theorem okX9_takeRow : OkV KX9_takeRow 1 := ⟨rfl, ⟨lw_gin 1062 (by decide +kernel) (by decide +kernel), lw_gin 85 (by decide +kernel) (by decide +kernel), by decide +kernel⟩, lw_gin 1061 (by decide +kernel) (by decide +kernel), lw_gin 32 (by decide +kernel) (by decide +kernel)⟩
theorem okX9_layRow : OkV KX9_layRow 1 := ⟨rfl, ⟨lw_gin 1066 (by decide +kernel) (by decide +kernel), lw_gin 85 (by decide +kernel) (by decide +kernel), by decide +kernel⟩, lw_gin 1065 (by decide +kernel) (by decide +kernel), lw_gin 33 (by decide +kernel) (by decide +kernel)⟩
theorem okX9_layBlocks : OkV KX9_layBlocks 2 := ⟨rfl, ⟨lw_gin 1190 (by decide +kernel) (by decide +kernel), lw_gin 85 (by decide +kernel) (by decide +kernel), by decide +kernel⟩, lw_gin 1189 (by decide +kernel) (by decide +kernel), lw_gin 47 (by decide +kernel) (by decide +kernel)⟩
theorem okX9_blocksOf : OkV KX9_blocksOf 1 := ⟨rfl, ⟨lw_gin 1186 (by decide +kernel) (by decide +kernel), lw_gin 85 (by decide +kernel) (by decide +kernel), by decide +kernel⟩, lw_gin 1185 (by decide +kernel) (by decide +kernel), lw_gin 46 (by decide +kernel) (by decide +kernel)⟩
theorem okX9_bytesOf : OkV KX9_bytesOf 1 := ⟨rfl, ⟨lw_gin 1194 (by decide +kernel) (by decide +kernel), lw_gin 85 (by decide +kernel) (by decide +kernel), by decide +kernel⟩, lw_gin 1193 (by decide +kernel) (by decide +kernel), lw_gin 48 (by decide +kernel) (by decide +kernel)⟩
theorem okX9_bytes : OkV KX9_bytes 0 := ⟨rfl, ⟨lw_gin 1222 (by decide +kernel) (by decide +kernel), lw_gin 85 (by decide +kernel) (by decide +kernel), by decide +kernel⟩, lw_gin 1221 (by decide +kernel) (by decide +kernel), lw_gin 54 (by decide +kernel) (by decide +kernel)⟩
theorem okX9_sizeBy : OkV KX9_sizeBy 3 := ⟨rfl, ⟨lw_gin 1218 (by decide +kernel) (by decide +kernel), lw_gin 85 (by decide +kernel) (by decide +kernel), by decide +kernel⟩, lw_gin 1217 (by decide +kernel) (by decide +kernel), lw_gin 53 (by decide +kernel) (by decide +kernel)⟩
theorem okX9_sizeOf : OkV KX9_sizeOf 1 := ⟨rfl, ⟨lw_gin 1214 (by decide +kernel) (by decide +kernel), lw_gin 85 (by decide +kernel) (by decide +kernel), by decide +kernel⟩, lw_gin 1213 (by decide +kernel) (by decide +kernel), lw_gin 52 (by decide +kernel) (by decide +kernel)⟩
theorem okX9_insert : OkV KX9_insert 2 := ⟨rfl, ⟨lw_gin 1050 (by decide +kernel) (by decide +kernel), lw_gin 85 (by decide +kernel) (by decide +kernel), by decide +kernel⟩, lw_gin 1049 (by decide +kernel) (by decide +kernel), lw_gin 30 (by decide +kernel) (by decide +kernel)⟩
theorem okX9_add : OkV KX9_add 2 := ⟨rfl, ⟨lw_gin 1017 (by decide +kernel) (by decide +kernel), lw_gin 85 (by decide +kernel) (by decide +kernel), by decide +kernel⟩, lw_gin 1015 (by decide +kernel) (by decide +kernel), lw_gin 1016 (by decide +kernel) (by decide +kernel)⟩
theorem okX9_takeAway : OkV KX9_takeAway 3 := ⟨rfl, ⟨lw_gin 1058 (by decide +kernel) (by decide +kernel), lw_gin 85 (by decide +kernel) (by decide +kernel), by decide +kernel⟩, lw_gin 1057 (by decide +kernel) (by decide +kernel), lw_gin 31 (by decide +kernel) (by decide +kernel)⟩
theorem okX9_remove : OkV KX9_remove 2 := ⟨rfl, ⟨lw_gin 1054 (by decide +kernel) (by decide +kernel), lw_gin 85 (by decide +kernel) (by decide +kernel), by decide +kernel⟩, lw_gin 1052 (by decide +kernel) (by decide +kernel), lw_gin 1053 (by decide +kernel) (by decide +kernel)⟩
theorem okX9_removeRange : OkV KX9_removeRange 3 := ⟨rfl, ⟨lw_gin 1070 (by decide +kernel) (by decide +kernel), lw_gin 85 (by decide +kernel) (by decide +kernel), by decide +kernel⟩, lw_gin 1068 (by decide +kernel) (by decide +kernel), lw_gin 1069 (by decide +kernel) (by decide +kernel)⟩
theorem okX9_leastOf : OkV KX9_leastOf 1 := ⟨rfl, ⟨lw_gin 1082 (by decide +kernel) (by decide +kernel), lw_gin 85 (by decide +kernel) (by decide +kernel), by decide +kernel⟩, lw_gin 1081 (by decide +kernel) (by decide +kernel), lw_gin 35 (by decide +kernel) (by decide +kernel)⟩
theorem okX9_greatestOf : OkV KX9_greatestOf 1 := ⟨rfl, ⟨lw_gin 1086 (by decide +kernel) (by decide +kernel), lw_gin 85 (by decide +kernel) (by decide +kernel), by decide +kernel⟩, lw_gin 1085 (by decide +kernel) (by decide +kernel), lw_gin 36 (by decide +kernel) (by decide +kernel)⟩
theorem okX9_canShift : OkV KX9_canShift 2 := ⟨rfl, ⟨lw_gin 1078 (by decide +kernel) (by decide +kernel), lw_gin 85 (by decide +kernel) (by decide +kernel), by decide +kernel⟩, lw_gin 1077 (by decide +kernel) (by decide +kernel), lw_gin 34 (by decide +kernel) (by decide +kernel)⟩
theorem okX9_shift : OkV KX9_shift 2 := ⟨rfl, ⟨lw_gin 1074 (by decide +kernel) (by decide +kernel), lw_gin 85 (by decide +kernel) (by decide +kernel), by decide +kernel⟩, lw_gin 1072 (by decide +kernel) (by decide +kernel), lw_gin 1073 (by decide +kernel) (by decide +kernel)⟩
theorem okX9_belongs : OkS KX9_belongs 3 := ⟨rfl, ⟨lw_gin 1097 (by decide +kernel) (by decide +kernel), lw_gin 85 (by decide +kernel) (by decide +kernel), by decide +kernel⟩, lw_gin 1096 (by decide +kernel) (by decide +kernel)⟩
theorem okX9_layCombined : OkV KX9_layCombined 3 := ⟨rfl, ⟨lw_gin 1094 (by decide +kernel) (by decide +kernel), lw_gin 85 (by decide +kernel) (by decide +kernel), by decide +kernel⟩, lw_gin 1093 (by decide +kernel) (by decide +kernel), lw_gin 37 (by decide +kernel) (by decide +kernel)⟩
theorem okX9_combine : OkV KX9_combine 4 := ⟨rfl, ⟨lw_gin 1090 (by decide +kernel) (by decide +kernel), lw_gin 85 (by decide +kernel) (by decide +kernel), by decide +kernel⟩, lw_gin 1088 (by decide +kernel) (by decide +kernel), lw_gin 1089 (by decide +kernel) (by decide +kernel)⟩
theorem okX9_isMost : OkS KX9_isMost 1 := ⟨rfl, ⟨lw_gin 1104 (by decide +kernel) (by decide +kernel), lw_gin 85 (by decide +kernel) (by decide +kernel), by decide +kernel⟩, lw_gin 1103 (by decide +kernel) (by decide +kernel)⟩
theorem okX9_isWidth : OkS KX9_isWidth 1 := ⟨rfl, ⟨lw_gin 1107 (by decide +kernel) (by decide +kernel), lw_gin 85 (by decide +kernel) (by decide +kernel), by decide +kernel⟩, lw_gin 1106 (by decide +kernel) (by decide +kernel)⟩
theorem okX9_set : OkV KX9_set 2 := ⟨rfl, ⟨lw_gin 1101 (by decide +kernel) (by decide +kernel), lw_gin 85 (by decide +kernel) (by decide +kernel), by decide +kernel⟩, lw_gin 1099 (by decide +kernel) (by decide +kernel), lw_gin 1100 (by decide +kernel) (by decide +kernel)⟩
theorem okX9_append : OkV KX9_append 1 := ⟨rfl, ⟨lw_gin 1111 (by decide +kernel) (by decide +kernel), lw_gin 85 (by decide +kernel) (by decide +kernel), by decide +kernel⟩, lw_gin 1109 (by decide +kernel) (by decide +kernel), lw_gin 1110 (by decide +kernel) (by decide +kernel)⟩
theorem okX9_clearBuffer : OkV KX9_clearBuffer 0 := ⟨rfl, ⟨lw_gin 1115 (by decide +kernel) (by decide +kernel), lw_gin 85 (by decide +kernel) (by decide +kernel), by decide +kernel⟩, lw_gin 1113 (by decide +kernel) (by decide +kernel), lw_gin 1114 (by decide +kernel) (by decide +kernel)⟩
theorem okX9_greatestFrom : OkS KX9_greatestFrom 1 := ⟨rfl, ⟨lw_gin 1142 (by decide +kernel) (by decide +kernel), lw_gin 85 (by decide +kernel) (by decide +kernel), by decide +kernel⟩, lw_gin 1141 (by decide +kernel) (by decide +kernel)⟩
theorem okX9_takesDigit : OkV KX9_takesDigit 1 := ⟨rfl, ⟨lw_gin 1139 (by decide +kernel) (by decide +kernel), lw_gin 85 (by decide +kernel) (by decide +kernel), by decide +kernel⟩, lw_gin 1138 (by decide +kernel) (by decide +kernel), lw_gin 42 (by decide +kernel) (by decide +kernel)⟩
theorem okX9_isEnded : OkV KX9_isEnded 0 := ⟨rfl, ⟨lw_gin 1131 (by decide +kernel) (by decide +kernel), lw_gin 85 (by decide +kernel) (by decide +kernel), by decide +kernel⟩, lw_gin 1130 (by decide +kernel) (by decide +kernel), lw_gin 40 (by decide +kernel) (by decide +kernel)⟩
theorem okX9_endNumber : OkV KX9_endNumber 0 := ⟨rfl, ⟨lw_gin 1135 (by decide +kernel) (by decide +kernel), lw_gin 85 (by decide +kernel) (by decide +kernel), by decide +kernel⟩, lw_gin 1134 (by decide +kernel) (by decide +kernel), lw_gin 41 (by decide +kernel) (by decide +kernel)⟩
theorem okX9_takes : OkV KX9_takes 1 := ⟨rfl, ⟨lw_gin 1127 (by decide +kernel) (by decide +kernel), lw_gin 85 (by decide +kernel) (by decide +kernel), by decide +kernel⟩, lw_gin 1126 (by decide +kernel) (by decide +kernel), lw_gin 39 (by decide +kernel) (by decide +kernel)⟩
theorem okX9_rightUpTo : OkV KX9_rightUpTo 0 := ⟨rfl, ⟨lw_gin 1123 (by decide +kernel) (by decide +kernel), lw_gin 85 (by decide +kernel) (by decide +kernel), by decide +kernel⟩, lw_gin 1122 (by decide +kernel) (by decide +kernel), lw_gin 38 (by decide +kernel) (by decide +kernel)⟩
theorem okX9_firstError : OkV KX9_firstError 0 := ⟨rfl, ⟨lw_gin 1119 (by decide +kernel) (by decide +kernel), lw_gin 85 (by decide +kernel) (by decide +kernel), by decide +kernel⟩, lw_gin 1117 (by decide +kernel) (by decide +kernel), lw_gin 1118 (by decide +kernel) (by decide +kernel)⟩
theorem okX9_toldMany : OkV KX9_toldMany 0 := ⟨rfl, ⟨lw_gin 1150 (by decide +kernel) (by decide +kernel), lw_gin 85 (by decide +kernel) (by decide +kernel), by decide +kernel⟩, lw_gin 1149 (by decide +kernel) (by decide +kernel), lw_gin 43 (by decide +kernel) (by decide +kernel)⟩
theorem okX9_read : OkV KX9_read 1 := ⟨rfl, ⟨lw_gin 1146 (by decide +kernel) (by decide +kernel), lw_gin 85 (by decide +kernel) (by decide +kernel), by decide +kernel⟩, lw_gin 1144 (by decide +kernel) (by decide +kernel), lw_gin 1145 (by decide +kernel) (by decide +kernel)⟩
theorem okX9_undo : OkV KX9_undo 0 := ⟨rfl, ⟨lw_gin 1154 (by decide +kernel) (by decide +kernel), lw_gin 85 (by decide +kernel) (by decide +kernel), by decide +kernel⟩, lw_gin 1152 (by decide +kernel) (by decide +kernel), lw_gin 1153 (by decide +kernel) (by decide +kernel)⟩
theorem okX9_has : OkV KX9_has 2 := ⟨rfl, ⟨lw_gin 1158 (by decide +kernel) (by decide +kernel), lw_gin 85 (by decide +kernel) (by decide +kernel), by decide +kernel⟩, lw_gin 1156 (by decide +kernel) (by decide +kernel), lw_gin 1157 (by decide +kernel) (by decide +kernel)⟩
theorem okX9_member : OkV KX9_member 2 := ⟨rfl, ⟨lw_gin 1162 (by decide +kernel) (by decide +kernel), lw_gin 85 (by decide +kernel) (by decide +kernel), by decide +kernel⟩, lw_gin 1160 (by decide +kernel) (by decide +kernel), lw_gin 1161 (by decide +kernel) (by decide +kernel)⟩
theorem okX9_less : OkV KX9_less 2 := ⟨rfl, ⟨lw_gin 1166 (by decide +kernel) (by decide +kernel), lw_gin 85 (by decide +kernel) (by decide +kernel), by decide +kernel⟩, lw_gin 1164 (by decide +kernel) (by decide +kernel), lw_gin 1165 (by decide +kernel) (by decide +kernel)⟩
theorem okX9_nearestTo : OkV KX9_nearestTo 2 := ⟨rfl, ⟨lw_gin 1174 (by decide +kernel) (by decide +kernel), lw_gin 85 (by decide +kernel) (by decide +kernel), by decide +kernel⟩, lw_gin 1173 (by decide +kernel) (by decide +kernel), lw_gin 44 (by decide +kernel) (by decide +kernel)⟩
theorem okX9_nearest : OkV KX9_nearest 2 := ⟨rfl, ⟨lw_gin 1170 (by decide +kernel) (by decide +kernel), lw_gin 85 (by decide +kernel) (by decide +kernel), by decide +kernel⟩, lw_gin 1168 (by decide +kernel) (by decide +kernel), lw_gin 1169 (by decide +kernel) (by decide +kernel)⟩
theorem okX9_greatestGap : OkV KX9_greatestGap 1 := ⟨rfl, ⟨lw_gin 1198 (by decide +kernel) (by decide +kernel), lw_gin 85 (by decide +kernel) (by decide +kernel), by decide +kernel⟩, lw_gin 1197 (by decide +kernel) (by decide +kernel), lw_gin 49 (by decide +kernel) (by decide +kernel)⟩
theorem okX9_blockNow : OkV KX9_blockNow 3 := ⟨rfl, ⟨lw_gin 1182 (by decide +kernel) (by decide +kernel), lw_gin 85 (by decide +kernel) (by decide +kernel), by decide +kernel⟩, lw_gin 1181 (by decide +kernel) (by decide +kernel), lw_gin 45 (by decide +kernel) (by decide +kernel)⟩
theorem okX9_block : OkV KX9_block 3 := ⟨rfl, ⟨lw_gin 1178 (by decide +kernel) (by decide +kernel), lw_gin 85 (by decide +kernel) (by decide +kernel), by decide +kernel⟩, lw_gin 1176 (by decide +kernel) (by decide +kernel), lw_gin 1177 (by decide +kernel) (by decide +kernel)⟩
theorem okX9_longestRun : OkV KX9_longestRun 1 := ⟨rfl, ⟨lw_gin 1226 (by decide +kernel) (by decide +kernel), lw_gin 85 (by decide +kernel) (by decide +kernel), by decide +kernel⟩, lw_gin 1225 (by decide +kernel) (by decide +kernel), lw_gin 55 (by decide +kernel) (by decide +kernel)⟩
theorem okX9_wideGaps : OkV KX9_wideGaps 1 := ⟨rfl, ⟨lw_gin 1230 (by decide +kernel) (by decide +kernel), lw_gin 85 (by decide +kernel) (by decide +kernel), by decide +kernel⟩, lw_gin 1229 (by decide +kernel) (by decide +kernel), lw_gin 56 (by decide +kernel) (by decide +kernel)⟩
theorem okX9_blockCount : OkV KX9_blockCount 1 := ⟨rfl, ⟨lw_gin 1210 (by decide +kernel) (by decide +kernel), lw_gin 85 (by decide +kernel) (by decide +kernel), by decide +kernel⟩, lw_gin 1209 (by decide +kernel) (by decide +kernel), lw_gin 51 (by decide +kernel) (by decide +kernel)⟩
theorem okX9_setNow : OkV KX9_setNow 2 := ⟨rfl, ⟨lw_gin 1206 (by decide +kernel) (by decide +kernel), lw_gin 85 (by decide +kernel) (by decide +kernel), by decide +kernel⟩, lw_gin 1205 (by decide +kernel) (by decide +kernel), lw_gin 50 (by decide +kernel) (by decide +kernel)⟩
theorem okX9_of : OkV KX9_of 2 := ⟨rfl, ⟨lw_gin 1202 (by decide +kernel) (by decide +kernel), lw_gin 85 (by decide +kernel) (by decide +kernel), by decide +kernel⟩, lw_gin 1200 (by decide +kernel) (by decide +kernel), lw_gin 1201 (by decide +kernel) (by decide +kernel)⟩
theorem okX9_leap : OkV KX9_leap 3 := ⟨rfl, ⟨lw_gin 1246 (by decide +kernel) (by decide +kernel), lw_gin 85 (by decide +kernel) (by decide +kernel), by decide +kernel⟩, lw_gin 1245 (by decide +kernel) (by decide +kernel), lw_gin 59 (by decide +kernel) (by decide +kernel)⟩
theorem okX9_blockWith : OkV KX9_blockWith 2 := ⟨rfl, ⟨lw_gin 1250 (by decide +kernel) (by decide +kernel), lw_gin 85 (by decide +kernel) (by decide +kernel), by decide +kernel⟩, lw_gin 1249 (by decide +kernel) (by decide +kernel), lw_gin 60 (by decide +kernel) (by decide +kernel)⟩
theorem okX9_goThrough : OkV KX9_goThrough 2 := ⟨rfl, ⟨lw_gin 1242 (by decide +kernel) (by decide +kernel), lw_gin 85 (by decide +kernel) (by decide +kernel), by decide +kernel⟩, lw_gin 1241 (by decide +kernel) (by decide +kernel), lw_gin 58 (by decide +kernel) (by decide +kernel)⟩
theorem okX9_leapsNow : OkV KX9_leapsNow 3 := ⟨rfl, ⟨lw_gin 1238 (by decide +kernel) (by decide +kernel), lw_gin 85 (by decide +kernel) (by decide +kernel), by decide +kernel⟩, lw_gin 1237 (by decide +kernel) (by decide +kernel), lw_gin 57 (by decide +kernel) (by decide +kernel)⟩
theorem okX9_leaps : OkV KX9_leaps 3 := ⟨rfl, ⟨lw_gin 1234 (by decide +kernel) (by decide +kernel), lw_gin 85 (by decide +kernel) (by decide +kernel), by decide +kernel⟩, lw_gin 1232 (by decide +kernel) (by decide +kernel), lw_gin 1233 (by decide +kernel) (by decide +kernel)⟩
theorem okX9_setsWith : OkV KX9_setsWith 2 := ⟨rfl, ⟨lw_gin 1270 (by decide +kernel) (by decide +kernel), lw_gin 85 (by decide +kernel) (by decide +kernel), by decide +kernel⟩, lw_gin 1269 (by decide +kernel) (by decide +kernel), lw_gin 64 (by decide +kernel) (by decide +kernel)⟩
theorem okX9_membersOfAll : OkV KX9_membersOfAll 1 := ⟨rfl, ⟨lw_gin 1266 (by decide +kernel) (by decide +kernel), lw_gin 85 (by decide +kernel) (by decide +kernel), by decide +kernel⟩, lw_gin 1265 (by decide +kernel) (by decide +kernel), lw_gin 63 (by decide +kernel) (by decide +kernel)⟩
theorem okX9_sumOf : OkV KX9_sumOf 1 := ⟨rfl, ⟨lw_gin 1262 (by decide +kernel) (by decide +kernel), lw_gin 85 (by decide +kernel) (by decide +kernel), by decide +kernel⟩, lw_gin 1261 (by decide +kernel) (by decide +kernel), lw_gin 62 (by decide +kernel) (by decide +kernel)⟩
theorem okX9_areAlike : OkV KX9_areAlike 2 := ⟨rfl, ⟨lw_gin 1278 (by decide +kernel) (by decide +kernel), lw_gin 85 (by decide +kernel) (by decide +kernel), by decide +kernel⟩, lw_gin 1277 (by decide +kernel) (by decide +kernel), lw_gin 66 (by decide +kernel) (by decide +kernel)⟩
theorem okX9_alikePairs : OkV KX9_alikePairs 0 := ⟨rfl, ⟨lw_gin 1274 (by decide +kernel) (by decide +kernel), lw_gin 85 (by decide +kernel) (by decide +kernel), by decide +kernel⟩, lw_gin 1273 (by decide +kernel) (by decide +kernel), lw_gin 65 (by decide +kernel) (by decide +kernel)⟩
theorem okX9_counted : OkV KX9_counted 1 := ⟨rfl, ⟨lw_gin 1258 (by decide +kernel) (by decide +kernel), lw_gin 85 (by decide +kernel) (by decide +kernel), by decide +kernel⟩, lw_gin 1257 (by decide +kernel) (by decide +kernel), lw_gin 61 (by decide +kernel) (by decide +kernel)⟩
theorem okX9_count : OkV KX9_count 1 := ⟨rfl, ⟨lw_gin 1254 (by decide +kernel) (by decide +kernel), lw_gin 85 (by decide +kernel) (by decide +kernel), by decide +kernel⟩, lw_gin 1252 (by decide +kernel) (by decide +kernel), lw_gin 1253 (by decide +kernel) (by decide +kernel)⟩
theorem okX9_setting : OkV KX9_setting 1 := ⟨rfl, ⟨lw_gin 1282 (by decide +kernel) (by decide +kernel), lw_gin 85 (by decide +kernel) (by decide +kernel), by decide +kernel⟩, lw_gin 1280 (by decide +kernel) (by decide +kernel), lw_gin 1281 (by decide +kernel) (by decide +kernel)⟩
theorem okX9_ifSet : OkV KX9_ifSet 3 := ⟨rfl, ⟨lw_gin 1286 (by decide +kernel) (by decide +kernel), lw_gin 85 (by decide +kernel) (by decide +kernel), by decide +kernel⟩, lw_gin 1284 (by decide +kernel) (by decide +kernel), lw_gin 1285 (by decide +kernel) (by decide +kernel)⟩
theorem okX9_addedThen : OkV KX9_addedThen 2 := ⟨rfl, ⟨lw_gin 1294 (by decide +kernel) (by decide +kernel), lw_gin 85 (by decide +kernel) (by decide +kernel), by decide +kernel⟩, lw_gin 1293 (by decide +kernel) (by decide +kernel), lw_gin 67 (by decide +kernel) (by decide +kernel)⟩
theorem okX9_ifAdded : OkV KX9_ifAdded 2 := ⟨rfl, ⟨lw_gin 1290 (by decide +kernel) (by decide +kernel), lw_gin 85 (by decide +kernel) (by decide +kernel), by decide +kernel⟩, lw_gin 1288 (by decide +kernel) (by decide +kernel), lw_gin 1289 (by decide +kernel) (by decide +kernel)⟩
theorem okX9_sizeWithout : OkV KX9_sizeWithout 2 := ⟨rfl, ⟨lw_gin 1306 (by decide +kernel) (by decide +kernel), lw_gin 85 (by decide +kernel) (by decide +kernel), by decide +kernel⟩, lw_gin 1305 (by decide +kernel) (by decide +kernel), lw_gin 69 (by decide +kernel) (by decide +kernel)⟩
theorem okX9_dearestNow : OkV KX9_dearestNow 2 := ⟨rfl, ⟨lw_gin 1302 (by decide +kernel) (by decide +kernel), lw_gin 85 (by decide +kernel) (by decide +kernel), by decide +kernel⟩, lw_gin 1301 (by decide +kernel) (by decide +kernel), lw_gin 68 (by decide +kernel) (by decide +kernel)⟩
theorem okX9_dearest : OkV KX9_dearest 2 := ⟨rfl, ⟨lw_gin 1298 (by decide +kernel) (by decide +kernel), lw_gin 85 (by decide +kernel) (by decide +kernel), by decide +kernel⟩, lw_gin 1296 (by decide +kernel) (by decide +kernel), lw_gin 1297 (by decide +kernel) (by decide +kernel)⟩
theorem okX9_sizesBy : OkV KX9_sizesBy 1 := ⟨rfl, ⟨lw_gin 1318 (by decide +kernel) (by decide +kernel), lw_gin 85 (by decide +kernel) (by decide +kernel), by decide +kernel⟩, lw_gin 1317 (by decide +kernel) (by decide +kernel), lw_gin 71 (by decide +kernel) (by decide +kernel)⟩
theorem okX9_bestNow : OkV KX9_bestNow 0 := ⟨rfl, ⟨lw_gin 1314 (by decide +kernel) (by decide +kernel), lw_gin 85 (by decide +kernel) (by decide +kernel), by decide +kernel⟩, lw_gin 1313 (by decide +kernel) (by decide +kernel), lw_gin 70 (by decide +kernel) (by decide +kernel)⟩
theorem okX9_bestWidth : OkV KX9_bestWidth 0 := ⟨rfl, ⟨lw_gin 1310 (by decide +kernel) (by decide +kernel), lw_gin 85 (by decide +kernel) (by decide +kernel), by decide +kernel⟩, lw_gin 1308 (by decide +kernel) (by decide +kernel), lw_gin 1309 (by decide +kernel) (by decide +kernel)⟩
theorem okX9_small : OkV KX9_small 0 := ⟨rfl, ⟨lw_gin 1326 (by decide +kernel) (by decide +kernel), lw_gin 85 (by decide +kernel) (by decide +kernel), by decide +kernel⟩, lw_gin 1325 (by decide +kernel) (by decide +kernel), lw_gin 72 (by decide +kernel) (by decide +kernel)⟩
theorem okX9_smallness : OkV KX9_smallness 0 := ⟨rfl, ⟨lw_gin 1322 (by decide +kernel) (by decide +kernel), lw_gin 85 (by decide +kernel) (by decide +kernel), by decide +kernel⟩, lw_gin 1320 (by decide +kernel) (by decide +kernel), lw_gin 1321 (by decide +kernel) (by decide +kernel)⟩
theorem okX9_mix : OkV KX9_mix 1 := ⟨rfl, ⟨lw_gin 1335 (by decide +kernel) (by decide +kernel), lw_gin 85 (by decide +kernel) (by decide +kernel), by decide +kernel⟩, lw_gin 1334 (by decide +kernel) (by decide +kernel), lw_gin 73 (by decide +kernel) (by decide +kernel)⟩
theorem okX9_mixSet : OkV KX9_mixSet 1 := ⟨rfl, ⟨lw_gin 1340 (by decide +kernel) (by decide +kernel), lw_gin 85 (by decide +kernel) (by decide +kernel), by decide +kernel⟩, lw_gin 1339 (by decide +kernel) (by decide +kernel), lw_gin 74 (by decide +kernel) (by decide +kernel)⟩
theorem okX9_digest : OkV KX9_digest 0 := ⟨rfl, ⟨lw_gin 1330 (by decide +kernel) (by decide +kernel), lw_gin 85 (by decide +kernel) (by decide +kernel), by decide +kernel⟩, lw_gin 1328 (by decide +kernel) (by decide +kernel), lw_gin 1329 (by decide +kernel) (by decide +kernel)⟩
theorem okL_add : OkH KL_add 4 := ⟨rfl, ⟨lw_gin 737 (by decide +kernel) (by decide +kernel), lw_gin 75 (by decide +kernel) (by decide +kernel), by decide +kernel⟩, lw_gin 736 (by decide +kernel) (by decide +kernel)⟩
theorem okL_remove : OkH KL_remove 4 := ⟨rfl, ⟨lw_gin 786 (by decide +kernel) (by decide +kernel), lw_gin 75 (by decide +kernel) (by decide +kernel), by decide +kernel⟩, lw_gin 785 (by decide +kernel) (by decide +kernel)⟩
theorem okL_removeRange : OkH KL_removeRange 5 := ⟨rfl, ⟨lw_gin 793 (by decide +kernel) (by decide +kernel), lw_gin 75 (by decide +kernel) (by decide +kernel), by decide +kernel⟩, lw_gin 792 (by decide +kernel) (by decide +kernel)⟩
theorem okL_shift : OkH KL_shift 4 := ⟨rfl, ⟨lw_gin 800 (by decide +kernel) (by decide +kernel), lw_gin 75 (by decide +kernel) (by decide +kernel), by decide +kernel⟩, lw_gin 799 (by decide +kernel) (by decide +kernel)⟩
theorem okL_combine : OkH KL_combine 6 := ⟨rfl, ⟨lw_gin 812 (by decide +kernel) (by decide +kernel), lw_gin 75 (by decide +kernel) (by decide +kernel), by decide +kernel⟩, lw_gin 811 (by decide +kernel) (by decide +kernel)⟩
theorem okL_set : OkH KL_set 4 := ⟨rfl, ⟨lw_gin 822 (by decide +kernel) (by decide +kernel), lw_gin 75 (by decide +kernel) (by decide +kernel), by decide +kernel⟩, lw_gin 821 (by decide +kernel) (by decide +kernel)⟩
theorem okL_append : OkH KL_append 3 := ⟨rfl, ⟨lw_gin 840 (by decide +kernel) (by decide +kernel), lw_gin 75 (by decide +kernel) (by decide +kernel), by decide +kernel⟩, lw_gin 839 (by decide +kernel) (by decide +kernel)⟩
theorem okL_read : OkH KL_read 3 := ⟨rfl, ⟨lw_gin 851 (by decide +kernel) (by decide +kernel), lw_gin 75 (by decide +kernel) (by decide +kernel), by decide +kernel⟩, lw_gin 850 (by decide +kernel) (by decide +kernel)⟩
theorem okL_undo : OkH KL_undo 2 := ⟨rfl, ⟨lw_gin 873 (by decide +kernel) (by decide +kernel), lw_gin 75 (by decide +kernel) (by decide +kernel), by decide +kernel⟩, lw_gin 872 (by decide +kernel) (by decide +kernel)⟩
theorem okL_has : OkH KL_has 4 := ⟨rfl, ⟨lw_gin 884 (by decide +kernel) (by decide +kernel), lw_gin 75 (by decide +kernel) (by decide +kernel), by decide +kernel⟩, lw_gin 883 (by decide +kernel) (by decide +kernel)⟩
theorem okL_member : OkH KL_member 4 := ⟨rfl, ⟨lw_gin 891 (by decide +kernel) (by decide +kernel), lw_gin 75 (by decide +kernel) (by decide +kernel), by decide +kernel⟩, lw_gin 890 (by decide +kernel) (by decide +kernel)⟩
theorem okL_less : OkH KL_less 4 := ⟨rfl, ⟨lw_gin 898 (by decide +kernel) (by decide +kernel), lw_gin 75 (by decide +kernel) (by decide +kernel), by decide +kernel⟩, lw_gin 897 (by decide +kernel) (by decide +kernel)⟩
theorem okL_nearest : OkH KL_nearest 4 := ⟨rfl, ⟨lw_gin 906 (by decide +kernel) (by decide +kernel), lw_gin 75 (by decide +kernel) (by decide +kernel), by decide +kernel⟩, lw_gin 905 (by decide +kernel) (by decide +kernel)⟩
theorem okL_block : OkH KL_block 5 := ⟨rfl, ⟨lw_gin 910 (by decide +kernel) (by decide +kernel), lw_gin 75 (by decide +kernel) (by decide +kernel), by decide +kernel⟩, lw_gin 909 (by decide +kernel) (by decide +kernel)⟩
theorem okL_of : OkH KL_of 4 := ⟨rfl, ⟨lw_gin 914 (by decide +kernel) (by decide +kernel), lw_gin 75 (by decide +kernel) (by decide +kernel), by decide +kernel⟩, lw_gin 913 (by decide +kernel) (by decide +kernel)⟩
theorem okL_leaps : OkH KL_leaps 5 := ⟨rfl, ⟨lw_gin 918 (by decide +kernel) (by decide +kernel), lw_gin 75 (by decide +kernel) (by decide +kernel), by decide +kernel⟩, lw_gin 917 (by decide +kernel) (by decide +kernel)⟩
theorem okL_count : OkH KL_count 3 := ⟨rfl, ⟨lw_gin 925 (by decide +kernel) (by decide +kernel), lw_gin 75 (by decide +kernel) (by decide +kernel), by decide +kernel⟩, lw_gin 924 (by decide +kernel) (by decide +kernel)⟩
theorem okL_setting : OkH KL_setting 3 := ⟨rfl, ⟨lw_gin 929 (by decide +kernel) (by decide +kernel), lw_gin 75 (by decide +kernel) (by decide +kernel), by decide +kernel⟩, lw_gin 928 (by decide +kernel) (by decide +kernel)⟩
theorem okL_ifSet : OkH KL_ifSet 5 := ⟨rfl, ⟨lw_gin 936 (by decide +kernel) (by decide +kernel), lw_gin 75 (by decide +kernel) (by decide +kernel), by decide +kernel⟩, lw_gin 935 (by decide +kernel) (by decide +kernel)⟩
theorem okL_ifAdded : OkH KL_ifAdded 4 := ⟨rfl, ⟨lw_gin 943 (by decide +kernel) (by decide +kernel), lw_gin 75 (by decide +kernel) (by decide +kernel), by decide +kernel⟩, lw_gin 942 (by decide +kernel) (by decide +kernel)⟩
theorem okL_dearest : OkH KL_dearest 4 := ⟨rfl, ⟨lw_gin 947 (by decide +kernel) (by decide +kernel), lw_gin 75 (by decide +kernel) (by decide +kernel), by decide +kernel⟩, lw_gin 946 (by decide +kernel) (by decide +kernel)⟩
theorem okM_max : OkS KM_max 2 := ⟨rfl, ⟨lw_gin 583 (by decide +kernel) (by decide +kernel), lw_gin 92 (by decide +kernel) (by decide +kernel), by decide +kernel⟩, lw_gin 582 (by decide +kernel) (by decide +kernel)⟩
theorem okM_min : OkS KM_min 2 := ⟨rfl, ⟨lw_gin 643 (by decide +kernel) (by decide +kernel), lw_gin 92 (by decide +kernel) (by decide +kernel), by decide +kernel⟩, lw_gin 642 (by decide +kernel) (by decide +kernel)⟩
theorem okD_d2l : OkS KD_d2l 1 := ⟨rfl, ⟨lw_gin 1343 (by decide +kernel) (by decide +kernel), lw_gin 93 (by decide +kernel) (by decide +kernel), by decide +kernel⟩, lw_gin 1342 (by decide +kernel) (by decide +kernel)⟩
theorem okD_isNaN : OkS KD_isNaN 1 := ⟨rfl, ⟨lw_gin 1346 (by decide +kernel) (by decide +kernel), lw_gin 93 (by decide +kernel) (by decide +kernel), by decide +kernel⟩, lw_gin 1345 (by decide +kernel) (by decide +kernel)⟩
theorem clX0 : Cl 0 RX0 TX0 3 tyX0 := by
  refine ⟨rfl, ?_, tyX0_ok, nmX0⟩
  show ∀ w ∈ [u_lay RX0 TX0 0, u_lay RX0 TX0 1, u_lay RX0 TX0 2], w ∈ lw_g
  exact List.forall_mem_cons.mpr ⟨lw_gin 215 (by decide +kernel) (by decide +kernel), List.forall_mem_cons.mpr ⟨lw_gin 217 (by decide +kernel) (by decide +kernel), List.forall_mem_cons.mpr ⟨lw_gin 219 (by decide +kernel) (by decide +kernel), fun _ h => absurd h List.not_mem_nil⟩⟩⟩
theorem inX0 : Cond.instantiable RX0 3 ∈ lw_g := lw_gin 205 (by decide +kernel) (by decide +kernel)
theorem iniX0 : Cond.initialized RX0 ∈ lw_g := lw_gin 82 (by decide +kernel) (by decide +kernel)
theorem clX1 : Cl 1 RX1 TX1 2 tyX1 := by
  refine ⟨rfl, ?_, tyX1_ok, nmX1⟩
  show ∀ w ∈ [u_lay RX1 TX1 0, u_lay RX1 TX1 1], w ∈ lw_g
  exact List.forall_mem_cons.mpr ⟨lw_gin 160 (by decide +kernel) (by decide +kernel), List.forall_mem_cons.mpr ⟨lw_gin 162 (by decide +kernel) (by decide +kernel), fun _ h => absurd h List.not_mem_nil⟩⟩
theorem inX1 : Cond.instantiable RX1 2 ∈ lw_g := lw_gin 153 (by decide +kernel) (by decide +kernel)
theorem iniX1 : Cond.initialized RX1 ∈ lw_g := lw_gin 80 (by decide +kernel) (by decide +kernel)
theorem clX2 : Cl 2 RX2 TX2 3 tyX2 := by
  refine ⟨rfl, ?_, tyX2_ok, nmX2⟩
  show ∀ w ∈ [u_lay RX2 TX2 0, u_lay RX2 TX2 1, u_lay RX2 TX2 2], w ∈ lw_g
  exact List.forall_mem_cons.mpr ⟨lw_gin 145 (by decide +kernel) (by decide +kernel), List.forall_mem_cons.mpr ⟨lw_gin 147 (by decide +kernel) (by decide +kernel), List.forall_mem_cons.mpr ⟨lw_gin 149 (by decide +kernel) (by decide +kernel), fun _ h => absurd h List.not_mem_nil⟩⟩⟩
theorem inX2 : Cond.instantiable RX2 3 ∈ lw_g := lw_gin 134 (by decide +kernel) (by decide +kernel)
theorem iniX2 : Cond.initialized RX2 ∈ lw_g := lw_gin 79 (by decide +kernel) (by decide +kernel)
theorem clX3 : Cl 3 RX3 TX3 5 tyX3 := by
  refine ⟨rfl, ?_, tyX3_ok, nmX3⟩
  show ∀ w ∈ [u_lay RX3 TX3 0, u_lay RX3 TX3 1, u_lay RX3 TX3 2, u_lay RX3 TX3 3, u_lay RX3 TX3 4], w ∈ lw_g
  exact List.forall_mem_cons.mpr ⟨lw_gin 243 (by decide +kernel) (by decide +kernel), List.forall_mem_cons.mpr ⟨lw_gin 245 (by decide +kernel) (by decide +kernel), List.forall_mem_cons.mpr ⟨lw_gin 247 (by decide +kernel) (by decide +kernel), List.forall_mem_cons.mpr ⟨lw_gin 249 (by decide +kernel) (by decide +kernel), List.forall_mem_cons.mpr ⟨lw_gin 251 (by decide +kernel) (by decide +kernel), fun _ h => absurd h List.not_mem_nil⟩⟩⟩⟩⟩
theorem inX3 : Cond.instantiable RX3 5 ∈ lw_g := lw_gin 229 (by decide +kernel) (by decide +kernel)
theorem iniX3 : Cond.initialized RX3 ∈ lw_g := lw_gin 84 (by decide +kernel) (by decide +kernel)
theorem clX4 : Cl 4 RX4 TX4 3 tyX4 := by
  refine ⟨rfl, ?_, tyX4_ok, nmX4⟩
  show ∀ w ∈ [u_lay RX4 TX4 0, u_lay RX4 TX4 1, u_lay RX4 TX4 2], w ∈ lw_g
  exact List.forall_mem_cons.mpr ⟨lw_gin 257 (by decide +kernel) (by decide +kernel), List.forall_mem_cons.mpr ⟨lw_gin 259 (by decide +kernel) (by decide +kernel), List.forall_mem_cons.mpr ⟨lw_gin 261 (by decide +kernel) (by decide +kernel), fun _ h => absurd h List.not_mem_nil⟩⟩⟩
theorem inX4 : Cond.instantiable RX4 3 ∈ lw_g := lw_gin 223 (by decide +kernel) (by decide +kernel)
theorem iniX4 : Cond.initialized RX4 ∈ lw_g := lw_gin 83 (by decide +kernel) (by decide +kernel)
theorem clX5 : Cl 5 RX5 TX5 2 tyX5 := by
  refine ⟨rfl, ?_, tyX5_ok, nmX5⟩
  show ∀ w ∈ [u_lay RX5 TX5 0, u_lay RX5 TX5 1], w ∈ lw_g
  exact List.forall_mem_cons.mpr ⟨lw_gin 117 (by decide +kernel) (by decide +kernel), List.forall_mem_cons.mpr ⟨lw_gin 119 (by decide +kernel) (by decide +kernel), fun _ h => absurd h List.not_mem_nil⟩⟩
theorem inX5 : Cond.instantiable RX5 2 ∈ lw_g := lw_gin 110 (by decide +kernel) (by decide +kernel)
theorem iniX5 : Cond.initialized RX5 ∈ lw_g := lw_gin 78 (by decide +kernel) (by decide +kernel)
theorem clX6 : Cl 6 RX6 TX6 8 tyX6 := by
  refine ⟨rfl, ?_, tyX6_ok, nmX6⟩
  show ∀ w ∈ [u_lay RX6 TX6 0, u_lay RX6 TX6 1, u_lay RX6 TX6 2, u_lay RX6 TX6 3, u_lay RX6 TX6 4, u_lay RX6 TX6 5, u_lay RX6 TX6 6, u_lay RX6 TX6 7], w ∈ lw_g
  exact List.forall_mem_cons.mpr ⟨lw_gin 187 (by decide +kernel) (by decide +kernel), List.forall_mem_cons.mpr ⟨lw_gin 189 (by decide +kernel) (by decide +kernel), List.forall_mem_cons.mpr ⟨lw_gin 191 (by decide +kernel) (by decide +kernel), List.forall_mem_cons.mpr ⟨lw_gin 193 (by decide +kernel) (by decide +kernel), List.forall_mem_cons.mpr ⟨lw_gin 195 (by decide +kernel) (by decide +kernel), List.forall_mem_cons.mpr ⟨lw_gin 197 (by decide +kernel) (by decide +kernel), List.forall_mem_cons.mpr ⟨lw_gin 199 (by decide +kernel) (by decide +kernel), List.forall_mem_cons.mpr ⟨lw_gin 201 (by decide +kernel) (by decide +kernel), fun _ h => absurd h List.not_mem_nil⟩⟩⟩⟩⟩⟩⟩⟩
theorem inX6 : Cond.instantiable RX6 8 ∈ lw_g := lw_gin 166 (by decide +kernel) (by decide +kernel)
theorem iniX6 : Cond.initialized RX6 ∈ lw_g := lw_gin 81 (by decide +kernel) (by decide +kernel)
theorem clX7 : Cl 7 RX7 TX7 3 tyX7 := by
  refine ⟨rfl, ?_, tyX7_ok, nmX7⟩
  show ∀ w ∈ [u_lay RX7 TX7 0, u_lay RX7 TX7 1, u_lay RX7 TX7 2], w ∈ lw_g
  exact List.forall_mem_cons.mpr ⟨lw_gin 126 (by decide +kernel) (by decide +kernel), List.forall_mem_cons.mpr ⟨lw_gin 128 (by decide +kernel) (by decide +kernel), List.forall_mem_cons.mpr ⟨lw_gin 130 (by decide +kernel) (by decide +kernel), fun _ h => absurd h List.not_mem_nil⟩⟩⟩
theorem inX7 : Cond.instantiable RX7 3 ∈ lw_g := lw_gin 103 (by decide +kernel) (by decide +kernel)
theorem iniX7 : Cond.initialized RX7 ∈ lw_g := lw_gin 77 (by decide +kernel) (by decide +kernel)
theorem clX8 : Cl 8 RX8 TX8 8 tyX8 := by
  refine ⟨rfl, ?_, tyX8_ok, nmX8⟩
  show ∀ w ∈ [u_lay RX8 TX8 0, u_lay RX8 TX8 1, u_lay RX8 TX8 2, u_lay RX8 TX8 3, u_lay RX8 TX8 4, u_lay RX8 TX8 5, u_lay RX8 TX8 6, u_lay RX8 TX8 7], w ∈ lw_g
  exact List.forall_mem_cons.mpr ⟨lw_gin 274 (by decide +kernel) (by decide +kernel), List.forall_mem_cons.mpr ⟨lw_gin 276 (by decide +kernel) (by decide +kernel), List.forall_mem_cons.mpr ⟨lw_gin 278 (by decide +kernel) (by decide +kernel), List.forall_mem_cons.mpr ⟨lw_gin 280 (by decide +kernel) (by decide +kernel), List.forall_mem_cons.mpr ⟨lw_gin 282 (by decide +kernel) (by decide +kernel), List.forall_mem_cons.mpr ⟨lw_gin 284 (by decide +kernel) (by decide +kernel), List.forall_mem_cons.mpr ⟨lw_gin 286 (by decide +kernel) (by decide +kernel), List.forall_mem_cons.mpr ⟨lw_gin 288 (by decide +kernel) (by decide +kernel), fun _ h => absurd h List.not_mem_nil⟩⟩⟩⟩⟩⟩⟩⟩
theorem inX8 : Cond.instantiable RX8 8 ∈ lw_g := lw_gin 95 (by decide +kernel) (by decide +kernel)
theorem iniX8 : Cond.initialized RX8 ∈ lw_g := lw_gin 76 (by decide +kernel) (by decide +kernel)
theorem clX9 : Cl 9 RX9 TX9 18 tyX9 := by
  refine ⟨rfl, ?_, tyX9_ok, nmX9⟩
  show ∀ w ∈ [u_lay RX9 TX9 0, u_lay RX9 TX9 1, u_lay RX9 TX9 2, u_lay RX9 TX9 3, u_lay RX9 TX9 4, u_lay RX9 TX9 5, u_lay RX9 TX9 6, u_lay RX9 TX9 7, u_lay RX9 TX9 8, u_lay RX9 TX9 9, u_lay RX9 TX9 10, u_lay RX9 TX9 11, u_lay RX9 TX9 12, u_lay RX9 TX9 13, u_lay RX9 TX9 14, u_lay RX9 TX9 15, u_lay RX9 TX9 16, u_lay RX9 TX9 17], w ∈ lw_g
  exact List.forall_mem_cons.mpr ⟨lw_gin 973 (by decide +kernel) (by decide +kernel), List.forall_mem_cons.mpr ⟨lw_gin 975 (by decide +kernel) (by decide +kernel), List.forall_mem_cons.mpr ⟨lw_gin 977 (by decide +kernel) (by decide +kernel), List.forall_mem_cons.mpr ⟨lw_gin 979 (by decide +kernel) (by decide +kernel), List.forall_mem_cons.mpr ⟨lw_gin 981 (by decide +kernel) (by decide +kernel), List.forall_mem_cons.mpr ⟨lw_gin 983 (by decide +kernel) (by decide +kernel), List.forall_mem_cons.mpr ⟨lw_gin 985 (by decide +kernel) (by decide +kernel), List.forall_mem_cons.mpr ⟨lw_gin 987 (by decide +kernel) (by decide +kernel), List.forall_mem_cons.mpr ⟨lw_gin 989 (by decide +kernel) (by decide +kernel), List.forall_mem_cons.mpr ⟨lw_gin 991 (by decide +kernel) (by decide +kernel), List.forall_mem_cons.mpr ⟨lw_gin 993 (by decide +kernel) (by decide +kernel), List.forall_mem_cons.mpr ⟨lw_gin 995 (by decide +kernel) (by decide +kernel), List.forall_mem_cons.mpr ⟨lw_gin 997 (by decide +kernel) (by decide +kernel), List.forall_mem_cons.mpr ⟨lw_gin 999 (by decide +kernel) (by decide +kernel), List.forall_mem_cons.mpr ⟨lw_gin 1001 (by decide +kernel) (by decide +kernel), List.forall_mem_cons.mpr ⟨lw_gin 1003 (by decide +kernel) (by decide +kernel), List.forall_mem_cons.mpr ⟨lw_gin 1005 (by decide +kernel) (by decide +kernel), List.forall_mem_cons.mpr ⟨lw_gin 1007 (by decide +kernel) (by decide +kernel), fun _ h => absurd h List.not_mem_nil⟩⟩⟩⟩⟩⟩⟩⟩⟩⟩⟩⟩⟩⟩⟩⟩⟩⟩
theorem inX9 : Cond.instantiable RX9 18 ∈ lw_g := lw_gin 950 (by decide +kernel) (by decide +kernel)
theorem iniX9 : Cond.initialized RX9 ∈ lw_g := lw_gin 85 (by decide +kernel) (by decide +kernel)
theorem fl_X5_9 : Cond.fieldLink "GapSets$Members" 9 "GapSets$Members" "numbers" "[I" ∈ lw_g := lw_gin 115 (by decide +kernel) (by decide +kernel)
theorem fl_X5_15 : Cond.fieldLink "GapSets$Members" 15 "GapSets$Members" "amount" "I" ∈ lw_g := lw_gin 116 (by decide +kernel) (by decide +kernel)
theorem fl_X7_11 : Cond.fieldLink "GapSets$State" 11 "GapSets$State" "sets" "[LGapSets$Members;" ∈ lw_g := lw_gin 123 (by decide +kernel) (by decide +kernel)
theorem fl_X7_20 : Cond.fieldLink "GapSets$State" 20 "GapSets$State" "noSet" "LGapSets$Members;" ∈ lw_g := lw_gin 124 (by decide +kernel) (by decide +kernel)
theorem fl_X7_24 : Cond.fieldLink "GapSets$State" 24 "GapSets$State" "settings" "[I" ∈ lw_g := lw_gin 125 (by decide +kernel) (by decide +kernel)
theorem fl_X2_11 : Cond.fieldLink "GapSets$History" 11 "GapSets$History" "ring" "[LGapSets$State;" ∈ lw_g := lw_gin 142 (by decide +kernel) (by decide +kernel)
theorem fl_X2_18 : Cond.fieldLink "GapSets$History" 18 "GapSets$History" "next" "I" ∈ lw_g := lw_gin 143 (by decide +kernel) (by decide +kernel)
theorem fl_X2_22 : Cond.fieldLink "GapSets$History" 22 "GapSets$History" "amount" "I" ∈ lw_g := lw_gin 144 (by decide +kernel) (by decide +kernel)
theorem fl_X1_9 : Cond.fieldLink "GapSets$Buffer" 9 "GapSets$Buffer" "codes" "[I" ∈ lw_g := lw_gin 158 (by decide +kernel) (by decide +kernel)
theorem fl_X1_15 : Cond.fieldLink "GapSets$Buffer" 15 "GapSets$Buffer" "length" "I" ∈ lw_g := lw_gin 159 (by decide +kernel) (by decide +kernel)
theorem fl_X6_9 : Cond.fieldLink "GapSets$Parser" 9 "GapSets$Parser" "firsts" "[I" ∈ lw_g := lw_gin 179 (by decide +kernel) (by decide +kernel)
theorem fl_X6_15 : Cond.fieldLink "GapSets$Parser" 15 "GapSets$Parser" "lasts" "[I" ∈ lw_g := lw_gin 180 (by decide +kernel) (by decide +kernel)
theorem fl_X6_46 : Cond.fieldLink "GapSets$Parser" 46 "GapSets$Parser" "parts" "I" ∈ lw_g := lw_gin 181 (by decide +kernel) (by decide +kernel)
theorem fl_X6_59 : Cond.fieldLink "GapSets$Parser" 59 "GapSets$Parser" "isRange" "Z" ∈ lw_g := lw_gin 182 (by decide +kernel) (by decide +kernel)
theorem fl_X6_63 : Cond.fieldLink "GapSets$Parser" 63 "GapSets$Parser" "first" "I" ∈ lw_g := lw_gin 183 (by decide +kernel) (by decide +kernel)
theorem fl_X6_69 : Cond.fieldLink "GapSets$Parser" 69 "GapSets$Parser" "least" "I" ∈ lw_g := lw_gin 184 (by decide +kernel) (by decide +kernel)
theorem fl_X6_72 : Cond.fieldLink "GapSets$Parser" 72 "GapSets$Parser" "value" "I" ∈ lw_g := lw_gin 185 (by decide +kernel) (by decide +kernel)
theorem fl_X6_75 : Cond.fieldLink "GapSets$Parser" 75 "GapSets$Parser" "digits" "I" ∈ lw_g := lw_gin 186 (by decide +kernel) (by decide +kernel)
theorem fl_X0_9 : Cond.fieldLink "GapSets$Blocks" 9 "GapSets$Blocks" "starts" "[I" ∈ lw_g := lw_gin 212 (by decide +kernel) (by decide +kernel)
theorem fl_X0_15 : Cond.fieldLink "GapSets$Blocks" 15 "GapSets$Blocks" "amount" "I" ∈ lw_g := lw_gin 213 (by decide +kernel) (by decide +kernel)
theorem fl_X0_24 : Cond.fieldLink "GapSets$Blocks" 24 "GapSets$Blocks" "members" "LGapSets$Members;" ∈ lw_g := lw_gin 214 (by decide +kernel) (by decide +kernel)
theorem fl_X3_10 : Cond.fieldLink "GapSets$Leaper" 10 "GapSets$Leaper" "blocks" "LGapSets$Blocks;" ∈ lw_g := lw_gin 238 (by decide +kernel) (by decide +kernel)
theorem fl_X3_21 : Cond.fieldLink "GapSets$Leaper" 21 "GapSets$Leaper" "members" "LGapSets$Members;" ∈ lw_g := lw_gin 239 (by decide +kernel) (by decide +kernel)
theorem fl_X3_25 : Cond.fieldLink "GapSets$Leaper" 25 "GapSets$Leaper" "place" "I" ∈ lw_g := lw_gin 240 (by decide +kernel) (by decide +kernel)
theorem fl_X3_29 : Cond.fieldLink "GapSets$Leaper" 29 "GapSets$Leaper" "leaps" "I" ∈ lw_g := lw_gin 241 (by decide +kernel) (by decide +kernel)
theorem fl_X3_32 : Cond.fieldLink "GapSets$Leaper" 32 "GapSets$Leaper" "looks" "I" ∈ lw_g := lw_gin 242 (by decide +kernel) (by decide +kernel)
theorem fl_X4_12 : Cond.fieldLink "GapSets$Meeting" 12 "GapSets$Meeting" "first" "LGapSets$Leaper;" ∈ lw_g := lw_gin 254 (by decide +kernel) (by decide +kernel)
theorem fl_X4_18 : Cond.fieldLink "GapSets$Meeting" 18 "GapSets$Meeting" "second" "LGapSets$Leaper;" ∈ lw_g := lw_gin 255 (by decide +kernel) (by decide +kernel)
theorem fl_X4_21 : Cond.fieldLink "GapSets$Meeting" 21 "GapSets$Meeting" "common" "I" ∈ lw_g := lw_gin 256 (by decide +kernel) (by decide +kernel)
theorem fl_X8_10 : Cond.fieldLink "GapSets" 10 "GapSets" "now" "LGapSets$State;" ∈ lw_g := lw_gin 266 (by decide +kernel) (by decide +kernel)
theorem fl_X8_19 : Cond.fieldLink "GapSets" 19 "GapSets" "history" "LGapSets$History;" ∈ lw_g := lw_gin 267 (by decide +kernel) (by decide +kernel)
theorem fl_X8_26 : Cond.fieldLink "GapSets" 26 "GapSets" "buffer" "LGapSets$Buffer;" ∈ lw_g := lw_gin 268 (by decide +kernel) (by decide +kernel)
theorem fl_X8_33 : Cond.fieldLink "GapSets" 33 "GapSets" "parser" "LGapSets$Parser;" ∈ lw_g := lw_gin 269 (by decide +kernel) (by decide +kernel)
theorem fl_X8_40 : Cond.fieldLink "GapSets" 40 "GapSets" "blocks" "LGapSets$Blocks;" ∈ lw_g := lw_gin 270 (by decide +kernel) (by decide +kernel)
theorem fl_X8_47 : Cond.fieldLink "GapSets" 47 "GapSets" "meeting" "LGapSets$Meeting;" ∈ lw_g := lw_gin 271 (by decide +kernel) (by decide +kernel)
theorem fl_X8_56 : Cond.fieldLink "GapSets" 56 "GapSets" "trial" "LGapSets$Members;" ∈ lw_g := lw_gin 272 (by decide +kernel) (by decide +kernel)
theorem fl_X8_60 : Cond.fieldLink "GapSets" 60 "GapSets" "widths" "LGapSets$Members;" ∈ lw_g := lw_gin 273 (by decide +kernel) (by decide +kernel)
theorem fl_X9_7 : Cond.fieldLink "GapSetsModel" 7 "GapSetsModel" "z" "[I" ∈ lw_g := lw_gin 955 (by decide +kernel) (by decide +kernel)
theorem fl_X9_38 : Cond.fieldLink "GapSetsModel" 38 "GapSetsModel" "states" "I" ∈ lw_g := lw_gin 956 (by decide +kernel) (by decide +kernel)
theorem fl_X9_13 : Cond.fieldLink "GapSetsModel" 13 "GapSetsModel" "history" "[I" ∈ lw_g := lw_gin 957 (by decide +kernel) (by decide +kernel)
theorem fl_X9_127 : Cond.fieldLink "GapSetsModel" 127 "GapSetsModel" "length" "I" ∈ lw_g := lw_gin 958 (by decide +kernel) (by decide +kernel)
theorem fl_X9_16 : Cond.fieldLink "GapSetsModel" 16 "GapSetsModel" "text" "[I" ∈ lw_g := lw_gin 959 (by decide +kernel) (by decide +kernel)
theorem fl_X9_34 : Cond.fieldLink "GapSetsModel" 34 "GapSetsModel" "thrown" "I" ∈ lw_g := lw_gin 960 (by decide +kernel) (by decide +kernel)
theorem fl_X9_19 : Cond.fieldLink "GapSetsModel" 19 "GapSetsModel" "row" "[I" ∈ lw_g := lw_gin 961 (by decide +kernel) (by decide +kernel)
theorem fl_X9_56 : Cond.fieldLink "GapSetsModel" 56 "GapSetsModel" "rowMany" "I" ∈ lw_g := lw_gin 962 (by decide +kernel) (by decide +kernel)
theorem fl_X9_22 : Cond.fieldLink "GapSetsModel" 22 "GapSetsModel" "starts" "[I" ∈ lw_g := lw_gin 963 (by decide +kernel) (by decide +kernel)
theorem fl_X9_59 : Cond.fieldLink "GapSetsModel" 59 "GapSetsModel" "blocks" "I" ∈ lw_g := lw_gin 964 (by decide +kernel) (by decide +kernel)
theorem fl_X9_25 : Cond.fieldLink "GapSetsModel" 25 "GapSetsModel" "parts" "[I" ∈ lw_g := lw_gin 965 (by decide +kernel) (by decide +kernel)
theorem fl_X9_139 : Cond.fieldLink "GapSetsModel" 139 "GapSetsModel" "read" "I" ∈ lw_g := lw_gin 966 (by decide +kernel) (by decide +kernel)
theorem fl_X9_130 : Cond.fieldLink "GapSetsModel" 130 "GapSetsModel" "number" "I" ∈ lw_g := lw_gin 967 (by decide +kernel) (by decide +kernel)
theorem fl_X9_136 : Cond.fieldLink "GapSetsModel" 136 "GapSetsModel" "bound" "I" ∈ lw_g := lw_gin 968 (by decide +kernel) (by decide +kernel)
theorem fl_X9_142 : Cond.fieldLink "GapSetsModel" 142 "GapSetsModel" "isSecond" "Z" ∈ lw_g := lw_gin 969 (by decide +kernel) (by decide +kernel)
theorem fl_X9_28 : Cond.fieldLink "GapSetsModel" 28 "GapSetsModel" "blockAt" "[I" ∈ lw_g := lw_gin 970 (by decide +kernel) (by decide +kernel)
theorem fl_X9_31 : Cond.fieldLink "GapSetsModel" 31 "GapSetsModel" "told" "[I" ∈ lw_g := lw_gin 971 (by decide +kernel) (by decide +kernel)
theorem fl_X9_244 : Cond.fieldLink "GapSetsModel" 244 "GapSetsModel" "hash" "J" ∈ lw_g := lw_gin 972 (by decide +kernel) (by decide +kernel)
theorem ml_L_83 : Cond.methodLink "GapSetsLaw" 83 (kY KX8_init) ∈ lw_g := lw_gin 96 (by decide +kernel) (by decide +kernel)
theorem ml_X8_1 : Cond.methodLink "GapSets" 1 ⟨"java/lang/Object", "<init>", "()V"⟩ ∈ lw_g := lw_gin 99 (by decide +kernel) (by decide +kernel)
theorem ml_X8_9 : Cond.methodLink "GapSets" 9 (kY KX7_init) ∈ lw_g := lw_gin 104 (by decide +kernel) (by decide +kernel)
theorem ml_X7_3 : Cond.methodLink "GapSets$State" 3 ⟨"java/lang/Object", "<init>", "()V"⟩ ∈ lw_g := lw_gin 107 (by decide +kernel) (by decide +kernel)
theorem ml_X7_17 : Cond.methodLink "GapSets$State" 17 (kY KX5_init) ∈ lw_g := lw_gin 111 (by decide +kernel) (by decide +kernel)
theorem ml_X5_3 : Cond.methodLink "GapSets$Members" 3 ⟨"java/lang/Object", "<init>", "()V"⟩ ∈ lw_g := lw_gin 114 (by decide +kernel) (by decide +kernel)
theorem ml_X8_18 : Cond.methodLink "GapSets" 18 (kY KX2_init) ∈ lw_g := lw_gin 135 (by decide +kernel) (by decide +kernel)
theorem ml_X2_3 : Cond.methodLink "GapSets$History" 3 ⟨"java/lang/Object", "<init>", "()V"⟩ ∈ lw_g := lw_gin 138 (by decide +kernel) (by decide +kernel)
theorem ml_X2_17 : Cond.methodLink "GapSets$History" 17 (kY KX7_init) ∈ lw_g := lw_gin 141 (by decide +kernel) (by decide +kernel)
theorem ml_X8_25 : Cond.methodLink "GapSets" 25 (kY KX1_init) ∈ lw_g := lw_gin 154 (by decide +kernel) (by decide +kernel)
theorem ml_X1_3 : Cond.methodLink "GapSets$Buffer" 3 ⟨"java/lang/Object", "<init>", "()V"⟩ ∈ lw_g := lw_gin 157 (by decide +kernel) (by decide +kernel)
theorem ml_X8_32 : Cond.methodLink "GapSets" 32 (kY KX6_init) ∈ lw_g := lw_gin 167 (by decide +kernel) (by decide +kernel)
theorem ml_X6_3 : Cond.methodLink "GapSets$Parser" 3 ⟨"java/lang/Object", "<init>", "()V"⟩ ∈ lw_g := lw_gin 170 (by decide +kernel) (by decide +kernel)
theorem ml_X6_18 : Cond.methodLink "GapSets$Parser" 18 (kY KX6_restart) ∈ lw_g := lw_gin 171 (by decide +kernel) (by decide +kernel)
theorem ml_X6_66 : Cond.methodLink "GapSets$Parser" 66 (kY KX6_beginNumber) ∈ lw_g := lw_gin 175 (by decide +kernel) (by decide +kernel)
theorem ml_X8_39 : Cond.methodLink "GapSets" 39 (kY KX0_init) ∈ lw_g := lw_gin 206 (by decide +kernel) (by decide +kernel)
theorem ml_X0_3 : Cond.methodLink "GapSets$Blocks" 3 ⟨"java/lang/Object", "<init>", "()V"⟩ ∈ lw_g := lw_gin 209 (by decide +kernel) (by decide +kernel)
theorem ml_X0_21 : Cond.methodLink "GapSets$Blocks" 21 (kY KX5_init) ∈ lw_g := lw_gin 211 (by decide +kernel) (by decide +kernel)
theorem ml_X8_46 : Cond.methodLink "GapSets" 46 (kY KX4_init) ∈ lw_g := lw_gin 224 (by decide +kernel) (by decide +kernel)
theorem ml_X4_3 : Cond.methodLink "GapSets$Meeting" 3 ⟨"java/lang/Object", "<init>", "()V"⟩ ∈ lw_g := lw_gin 227 (by decide +kernel) (by decide +kernel)
theorem ml_X4_11 : Cond.methodLink "GapSets$Meeting" 11 (kY KX3_init) ∈ lw_g := lw_gin 230 (by decide +kernel) (by decide +kernel)
theorem ml_X3_1 : Cond.methodLink "GapSets$Leaper" 1 ⟨"java/lang/Object", "<init>", "()V"⟩ ∈ lw_g := lw_gin 233 (by decide +kernel) (by decide +kernel)
theorem ml_X3_9 : Cond.methodLink "GapSets$Leaper" 9 (kY KX0_init) ∈ lw_g := lw_gin 235 (by decide +kernel) (by decide +kernel)
theorem ml_X3_18 : Cond.methodLink "GapSets$Leaper" 18 (kY KX5_init) ∈ lw_g := lw_gin 237 (by decide +kernel) (by decide +kernel)
theorem ml_X8_53 : Cond.methodLink "GapSets" 53 (kY KX5_init) ∈ lw_g := lw_gin 265 (by decide +kernel) (by decide +kernel)
theorem ml_L_117 : Cond.methodLink "GapSetsLaw" 117 (kY KX8_clearBuffer) ∈ lw_g := lw_gin 291 (by decide +kernel) (by decide +kernel)
theorem ml_X8_137 : Cond.methodLink "GapSets" 137 (kY KX1_length) ∈ lw_g := lw_gin 295 (by decide +kernel) (by decide +kernel)
theorem ml_X8_141 : Cond.methodLink "GapSets" 141 (kY KX1_empty) ∈ lw_g := lw_gin 299 (by decide +kernel) (by decide +kernel)
theorem ml_L_121 : Cond.methodLink "GapSetsLaw" 121 (kY KX8_firstError) ∈ lw_g := lw_gin 303 (by decide +kernel) (by decide +kernel)
theorem ml_X8_144 : Cond.methodLink "GapSets" 144 (kY KX6_parse) ∈ lw_g := lw_gin 307 (by decide +kernel) (by decide +kernel)
theorem ml_X6_21 : Cond.methodLink "GapSets$Parser" 21 (kY KX1_length) ∈ lw_g := lw_gin 311 (by decide +kernel) (by decide +kernel)
theorem ml_X6_27 : Cond.methodLink "GapSets$Parser" 27 (kY KX1_at) ∈ lw_g := lw_gin 312 (by decide +kernel) (by decide +kernel)
theorem ml_X6_31 : Cond.methodLink "GapSets$Parser" 31 (kY KX6_takes) ∈ lw_g := lw_gin 316 (by decide +kernel) (by decide +kernel)
theorem ml_X6_78 : Cond.methodLink "GapSets$Parser" 78 (kY KX6_takesComma) ∈ lw_g := lw_gin 320 (by decide +kernel) (by decide +kernel)
theorem ml_X6_39 : Cond.methodLink "GapSets$Parser" 39 (kY KX6_isWhole) ∈ lw_g := lw_gin 324 (by decide +kernel) (by decide +kernel)
theorem ml_X6_43 : Cond.methodLink "GapSets$Parser" 43 (kY KX6_closePart) ∈ lw_g := lw_gin 328 (by decide +kernel) (by decide +kernel)
theorem ml_X6_81 : Cond.methodLink "GapSets$Parser" 81 (kY KX6_takesDash) ∈ lw_g := lw_gin 332 (by decide +kernel) (by decide +kernel)
theorem ml_X6_84 : Cond.methodLink "GapSets$Parser" 84 (kY KX6_takesDigit) ∈ lw_g := lw_gin 336 (by decide +kernel) (by decide +kernel)
theorem ml_X6_87 : Cond.methodLink "GapSets$Parser" 87 (kY KX6_greatestFrom) ∈ lw_g := lw_gin 340 (by decide +kernel) (by decide +kernel)
theorem ml_L_168 : Cond.methodLink "GapSetsLaw" 168 (kY KX8_bestWidth) ∈ lw_g := lw_gin 343 (by decide +kernel) (by decide +kernel)
theorem ml_X8_229 : Cond.methodLink "GapSets" 229 (kY KX8_gatherWidths) ∈ lw_g := lw_gin 347 (by decide +kernel) (by decide +kernel)
theorem ml_X8_285 : Cond.methodLink "GapSets" 285 (kY KX5_empty) ∈ lw_g := lw_gin 351 (by decide +kernel) (by decide +kernel)
theorem ml_X8_89 : Cond.methodLink "GapSets" 89 (kY KX5_put) ∈ lw_g := lw_gin 355 (by decide +kernel) (by decide +kernel)
theorem ml_X5_51 : Cond.methodLink "GapSets$Members" 51 (kY KX5_holds) ∈ lw_g := lw_gin 359 (by decide +kernel) (by decide +kernel)
theorem ml_X5_23 : Cond.methodLink "GapSets$Members" 23 (kY KX5_placeOf) ∈ lw_g := lw_gin 363 (by decide +kernel) (by decide +kernel)
theorem ml_X5_19 : Cond.methodLink "GapSets$Members" 19 (kY KX5_at) ∈ lw_g := lw_gin 367 (by decide +kernel) (by decide +kernel)
theorem ml_X8_69 : Cond.methodLink "GapSets" 69 (kY KX7_members) ∈ lw_g := lw_gin 371 (by decide +kernel) (by decide +kernel)
theorem ml_X8_77 : Cond.methodLink "GapSets" 77 (kY KX5_amount) ∈ lw_g := lw_gin 375 (by decide +kernel) (by decide +kernel)
theorem ml_X8_293 : Cond.methodLink "GapSets" 293 (kY KX5_gapAhead) ∈ lw_g := lw_gin 379 (by decide +kernel) (by decide +kernel)
theorem ml_X8_217 : Cond.methodLink "GapSets" 217 (kY KX8_allSizes) ∈ lw_g := lw_gin 383 (by decide +kernel) (by decide +kernel)
theorem ml_X8_129 : Cond.methodLink "GapSets" 129 (kY KX7_valueOf) ∈ lw_g := lw_gin 387 (by decide +kernel) (by decide +kernel)
theorem ml_X8_226 : Cond.methodLink "GapSets" 226 (kY KX5_bytes) ∈ lw_g := lw_gin 391 (by decide +kernel) (by decide +kernel)
theorem ml_X5_44 : Cond.methodLink "GapSets$Members" 44 (kY KX5_beginsBlock) ∈ lw_g := lw_gin 395 (by decide +kernel) (by decide +kernel)
theorem ml_X5_33 : Cond.methodLink "GapSets$Members" 33 (kY KX5_gapAhead) ∈ lw_g := lw_gin 399 (by decide +kernel) (by decide +kernel)
theorem ml_X8_160 : Cond.methodLink "GapSets" 160 (kY KX5_at) ∈ lw_g := lw_gin 403 (by decide +kernel) (by decide +kernel)
theorem ml_L_172 : Cond.methodLink "GapSetsLaw" 172 (kY KX8_smallness) ∈ lw_g := lw_gin 404 (by decide +kernel) (by decide +kernel)
theorem ml_X8_208 : Cond.methodLink "GapSets" 208 (kY KX8_allMembers) ∈ lw_g := lw_gin 408 (by decide +kernel) (by decide +kernel)
theorem ml_L_177 : Cond.methodLink "GapSetsLaw" 177 (kY KX8_digest) ∈ lw_g := lw_gin 412 (by decide +kernel) (by decide +kernel)
theorem ml_X8_234 : Cond.methodLink "GapSets" 234 (kY KX8_count) ∈ lw_g := lw_gin 417 (by decide +kernel) (by decide +kernel)
theorem ml_X8_96 : Cond.methodLink "GapSets" 96 (kY KX8_requireArgument) ∈ lw_g := lw_gin 421 (by decide +kernel) (by decide +kernel)
theorem ml_X8_279 : Cond.methodLink "GapSets" 279 ⟨"java/lang/IllegalArgumentException", "<init>", "(Ljava/lang/String;)V"⟩ ∈ lw_g := lw_gin 466 (by decide +kernel) (by decide +kernel)
theorem ml_X8_211 : Cond.methodLink "GapSets" 211 (kY KX8_unlikeMembers) ∈ lw_g := lw_gin 492 (by decide +kernel) (by decide +kernel)
theorem ml_X8_286 : Cond.methodLink "GapSets" 286 (kY KX8_holdersAhead) ∈ lw_g := lw_gin 496 (by decide +kernel) (by decide +kernel)
theorem ml_X8_73 : Cond.methodLink "GapSets" 73 (kY KX5_holds) ∈ lw_g := lw_gin 500 (by decide +kernel) (by decide +kernel)
theorem ml_X8_214 : Cond.methodLink "GapSets" 214 (kY KX8_membersOfAllFour) ∈ lw_g := lw_gin 501 (by decide +kernel) (by decide +kernel)
theorem ml_X8_220 : Cond.methodLink "GapSets" 220 (kY KX8_allBlocks) ∈ lw_g := lw_gin 505 (by decide +kernel) (by decide +kernel)
theorem ml_X8_169 : Cond.methodLink "GapSets" 169 (kY KX0_cut) ∈ lw_g := lw_gin 509 (by decide +kernel) (by decide +kernel)
theorem ml_X0_28 : Cond.methodLink "GapSets$Blocks" 28 (kY KX7_members) ∈ lw_g := lw_gin 513 (by decide +kernel) (by decide +kernel)
theorem ml_X0_33 : Cond.methodLink "GapSets$Blocks" 33 (kY KX7_valueOf) ∈ lw_g := lw_gin 514 (by decide +kernel) (by decide +kernel)
theorem ml_X0_37 : Cond.methodLink "GapSets$Blocks" 37 (kY KX5_amount) ∈ lw_g := lw_gin 515 (by decide +kernel) (by decide +kernel)
theorem ml_X0_40 : Cond.methodLink "GapSets$Blocks" 40 (kY KX5_beginsBlock) ∈ lw_g := lw_gin 516 (by decide +kernel) (by decide +kernel)
theorem ml_X0_44 : Cond.methodLink "GapSets$Blocks" 44 (kY KX0_putStart) ∈ lw_g := lw_gin 517 (by decide +kernel) (by decide +kernel)
theorem ml_X8_223 : Cond.methodLink "GapSets" 223 (kY KX8_pairsAlike) ∈ lw_g := lw_gin 521 (by decide +kernel) (by decide +kernel)
theorem ml_X8_289 : Cond.methodLink "GapSets" 289 (kY KX5_isLike) ∈ lw_g := lw_gin 525 (by decide +kernel) (by decide +kernel)
theorem ml_X5_42 : Cond.methodLink "GapSets$Members" 42 (kY KX5_amount) ∈ lw_g := lw_gin 529 (by decide +kernel) (by decide +kernel)
theorem ml_X8_156 : Cond.methodLink "GapSets" 156 (kY KX2_amount) ∈ lw_g := lw_gin 530 (by decide +kernel) (by decide +kernel)
theorem ml_X8_237 : Cond.methodLink "GapSets" 237 (kY KX8_mix) ∈ lw_g := lw_gin 534 (by decide +kernel) (by decide +kernel)
theorem ml_X8_241 : Cond.methodLink "GapSets" 241 (kY KX8_mixMembers) ∈ lw_g := lw_gin 538 (by decide +kernel) (by decide +kernel)
theorem ml_X8_298 : Cond.methodLink "GapSets" 298 (kY KX8_of) ∈ lw_g := lw_gin 542 (by decide +kernel) (by decide +kernel)
theorem ml_X8_63 : Cond.methodLink "GapSets" 63 (kY KX8_requireSet) ∈ lw_g := lw_gin 546 (by decide +kernel) (by decide +kernel)
theorem ml_X8_270 : Cond.methodLink "GapSets" 270 ⟨"java/lang/IndexOutOfBoundsException", "<init>", "(Ljava/lang/String;)V"⟩ ∈ lw_g := lw_gin 559 (by decide +kernel) (by decide +kernel)
theorem ml_X8_191 : Cond.methodLink "GapSets" 191 (kY KX8_sizeOf) ∈ lw_g := lw_gin 565 (by decide +kernel) (by decide +kernel)
theorem ml_X8_103 : Cond.methodLink "GapSets" 103 (kY KX5_least) ∈ lw_g := lw_gin 569 (by decide +kernel) (by decide +kernel)
theorem ml_X8_106 : Cond.methodLink "GapSets" 106 (kY KX5_greatest) ∈ lw_g := lw_gin 573 (by decide +kernel) (by decide +kernel)
theorem ml_X8_195 : Cond.methodLink "GapSets" 195 (kY KX5_longestRow) ∈ lw_g := lw_gin 577 (by decide +kernel) (by decide +kernel)
theorem ml_X5_36 : Cond.methodLink "GapSets$Members" 36 (kY KM_max) ∈ lw_g := lw_gin 581 (by decide +kernel) (by decide +kernel)
theorem ml_X8_198 : Cond.methodLink "GapSets" 198 (kY KX0_wideGaps) ∈ lw_g := lw_gin 584 (by decide +kernel) (by decide +kernel)
theorem ml_X0_48 : Cond.methodLink "GapSets$Blocks" 48 (kY KX0_start) ∈ lw_g := lw_gin 588 (by decide +kernel) (by decide +kernel)
theorem ml_X0_54 : Cond.methodLink "GapSets$Blocks" 54 (kY KX0_end) ∈ lw_g := lw_gin 592 (by decide +kernel) (by decide +kernel)
theorem ml_X0_57 : Cond.methodLink "GapSets$Blocks" 57 (kY KX5_gapAhead) ∈ lw_g := lw_gin 596 (by decide +kernel) (by decide +kernel)
theorem ml_X8_245 : Cond.methodLink "GapSets" 245 (kY KX8_mixBlocks) ∈ lw_g := lw_gin 597 (by decide +kernel) (by decide +kernel)
theorem ml_X8_301 : Cond.methodLink "GapSets" 301 (kY KX8_block) ∈ lw_g := lw_gin 601 (by decide +kernel) (by decide +kernel)
theorem ml_X8_173 : Cond.methodLink "GapSets" 173 (kY KX0_base) ∈ lw_g := lw_gin 605 (by decide +kernel) (by decide +kernel)
theorem ml_X0_51 : Cond.methodLink "GapSets$Blocks" 51 (kY KX5_at) ∈ lw_g := lw_gin 609 (by decide +kernel) (by decide +kernel)
theorem ml_X8_176 : Cond.methodLink "GapSets" 176 (kY KX0_membersIn) ∈ lw_g := lw_gin 610 (by decide +kernel) (by decide +kernel)
theorem ml_X8_179 : Cond.methodLink "GapSets" 179 (kY KX0_greatestIn) ∈ lw_g := lw_gin 614 (by decide +kernel) (by decide +kernel)
theorem ml_X8_182 : Cond.methodLink "GapSets" 182 (kY KX0_bytesOf) ∈ lw_g := lw_gin 618 (by decide +kernel) (by decide +kernel)
theorem ml_X8_185 : Cond.methodLink "GapSets" 185 (kY KX0_greatestGapIn) ∈ lw_g := lw_gin 623 (by decide +kernel) (by decide +kernel)
theorem ml_X0_63 : Cond.methodLink "GapSets$Blocks" 63 (kY KM_max) ∈ lw_g := lw_gin 627 (by decide +kernel) (by decide +kernel)
theorem ml_X8_188 : Cond.methodLink "GapSets" 188 (kY KX0_start) ∈ lw_g := lw_gin 628 (by decide +kernel) (by decide +kernel)
theorem ml_X8_248 : Cond.methodLink "GapSets" 248 (kY KX8_mixLooks) ∈ lw_g := lw_gin 629 (by decide +kernel) (by decide +kernel)
theorem ml_X8_305 : Cond.methodLink "GapSets" 305 (kY KX8_dearest) ∈ lw_g := lw_gin 633 (by decide +kernel) (by decide +kernel)
theorem ml_X8_116 : Cond.methodLink "GapSets" 116 (kY KX5_copyFrom) ∈ lw_g := lw_gin 637 (by decide +kernel) (by decide +kernel)
theorem ml_X5_55 : Cond.methodLink "GapSets$Members" 55 (kY KM_min) ∈ lw_g := lw_gin 641 (by decide +kernel) (by decide +kernel)
theorem ml_X8_92 : Cond.methodLink "GapSets" 92 (kY KX5_cutOut) ∈ lw_g := lw_gin 644 (by decide +kernel) (by decide +kernel)
theorem ml_X8_308 : Cond.methodLink "GapSets" 308 (kY KX8_ifAdded) ∈ lw_g := lw_gin 648 (by decide +kernel) (by decide +kernel)
theorem ml_X8_66 : Cond.methodLink "GapSets" 66 (kY KX8_requireNumber) ∈ lw_g := lw_gin 652 (by decide +kernel) (by decide +kernel)
theorem ml_X8_311 : Cond.methodLink "GapSets" 311 (kY KX8_nearest) ∈ lw_g := lw_gin 655 (by decide +kernel) (by decide +kernel)
theorem ml_X8_166 : Cond.methodLink "GapSets" 166 (kY KX5_nearestTo) ∈ lw_g := lw_gin 659 (by decide +kernel) (by decide +kernel)
theorem ml_X5_26 : Cond.methodLink "GapSets$Members" 26 (kY KX5_least) ∈ lw_g := lw_gin 663 (by decide +kernel) (by decide +kernel)
theorem ml_X5_30 : Cond.methodLink "GapSets$Members" 30 (kY KX5_greatest) ∈ lw_g := lw_gin 664 (by decide +kernel) (by decide +kernel)
theorem ml_X8_201 : Cond.methodLink "GapSets" 201 (kY KX4_run) ∈ lw_g := lw_gin 665 (by decide +kernel) (by decide +kernel)
theorem ml_X4_25 : Cond.methodLink "GapSets$Meeting" 25 (kY KX3_begin) ∈ lw_g := lw_gin 669 (by decide +kernel) (by decide +kernel)
theorem ml_X3_35 : Cond.methodLink "GapSets$Leaper" 35 (kY KX7_members) ∈ lw_g := lw_gin 673 (by decide +kernel) (by decide +kernel)
theorem ml_X3_40 : Cond.methodLink "GapSets$Leaper" 40 (kY KX0_cut) ∈ lw_g := lw_gin 674 (by decide +kernel) (by decide +kernel)
theorem ml_X4_29 : Cond.methodLink "GapSets$Meeting" 29 (kY KX7_members) ∈ lw_g := lw_gin 675 (by decide +kernel) (by decide +kernel)
theorem ml_X4_35 : Cond.methodLink "GapSets$Meeting" 35 (kY KX5_amount) ∈ lw_g := lw_gin 676 (by decide +kernel) (by decide +kernel)
theorem ml_X4_41 : Cond.methodLink "GapSets$Meeting" 41 (kY KX3_reached) ∈ lw_g := lw_gin 677 (by decide +kernel) (by decide +kernel)
theorem ml_X3_44 : Cond.methodLink "GapSets$Leaper" 44 (kY KX5_at) ∈ lw_g := lw_gin 681 (by decide +kernel) (by decide +kernel)
theorem ml_X4_44 : Cond.methodLink "GapSets$Meeting" 44 (kY KX3_leapsTo) ∈ lw_g := lw_gin 682 (by decide +kernel) (by decide +kernel)
theorem ml_X3_52 : Cond.methodLink "GapSets$Leaper" 52 (kY KX5_isEmpty) ∈ lw_g := lw_gin 686 (by decide +kernel) (by decide +kernel)
theorem ml_X3_56 : Cond.methodLink "GapSets$Leaper" 56 (kY KX3_lookForBlock) ∈ lw_g := lw_gin 690 (by decide +kernel) (by decide +kernel)
theorem ml_X3_66 : Cond.methodLink "GapSets$Leaper" 66 (kY KX0_blockAt) ∈ lw_g := lw_gin 694 (by decide +kernel) (by decide +kernel)
theorem ml_X3_65 : Cond.methodLink "GapSets$Leaper" 65 (kY KX0_amount) ∈ lw_g := lw_gin 698 (by decide +kernel) (by decide +kernel)
theorem ml_X3_69 : Cond.methodLink "GapSets$Leaper" 69 (kY KX0_base) ∈ lw_g := lw_gin 702 (by decide +kernel) (by decide +kernel)
theorem ml_X3_59 : Cond.methodLink "GapSets$Leaper" 59 (kY KX0_start) ∈ lw_g := lw_gin 703 (by decide +kernel) (by decide +kernel)
theorem ml_X3_62 : Cond.methodLink "GapSets$Leaper" 62 (kY KX0_end) ∈ lw_g := lw_gin 704 (by decide +kernel) (by decide +kernel)
theorem ml_X4_48 : Cond.methodLink "GapSets$Meeting" 48 (kY KX3_steps) ∈ lw_g := lw_gin 705 (by decide +kernel) (by decide +kernel)
theorem ml_X3_48 : Cond.methodLink "GapSets$Leaper" 48 (kY KX5_amount) ∈ lw_g := lw_gin 709 (by decide +kernel) (by decide +kernel)
theorem ml_X8_205 : Cond.methodLink "GapSets" 205 (kY KX4_result) ∈ lw_g := lw_gin 710 (by decide +kernel) (by decide +kernel)
theorem ml_X4_52 : Cond.methodLink "GapSets$Meeting" 52 (kY KX3_allLeaps) ∈ lw_g := lw_gin 714 (by decide +kernel) (by decide +kernel)
theorem ml_X4_55 : Cond.methodLink "GapSets$Meeting" 55 (kY KX3_allLooks) ∈ lw_g := lw_gin 718 (by decide +kernel) (by decide +kernel)
theorem ml_X8_251 : Cond.methodLink "GapSets" 251 (kY KX8_bestWidth) ∈ lw_g := lw_gin 722 (by decide +kernel) (by decide +kernel)
theorem ml_X8_254 : Cond.methodLink "GapSets" 254 (kY KX8_smallness) ∈ lw_g := lw_gin 723 (by decide +kernel) (by decide +kernel)
theorem ml_X8_258 : Cond.methodLink "GapSets" 258 (kY KX8_bitsOf) ∈ lw_g := lw_gin 724 (by decide +kernel) (by decide +kernel)
theorem ml_X8_262 : Cond.methodLink "GapSets" 262 (kY KX8_mixBuffer) ∈ lw_g := lw_gin 730 (by decide +kernel) (by decide +kernel)
theorem ml_X8_314 : Cond.methodLink "GapSets" 314 (kY KX1_at) ∈ lw_g := lw_gin 734 (by decide +kernel) (by decide +kernel)
theorem ml_L_87 : Cond.methodLink "GapSetsLaw" 87 (kY KL_add) ∈ lw_g := lw_gin 735 (by decide +kernel) (by decide +kernel)
theorem ml_L_7 : Cond.methodLink "GapSetsLaw" 7 (kY KX8_add) ∈ lw_g := lw_gin 741 (by decide +kernel) (by decide +kernel)
theorem ml_X8_81 : Cond.methodLink "GapSets" 81 (kY KX8_requireState) ∈ lw_g := lw_gin 745 (by decide +kernel) (by decide +kernel)
theorem ml_X8_284 : Cond.methodLink "GapSets" 284 ⟨"java/lang/IllegalStateException", "<init>", "(Ljava/lang/String;)V"⟩ ∈ lw_g := lw_gin 758 (by decide +kernel) (by decide +kernel)
theorem ml_X8_85 : Cond.methodLink "GapSets" 85 (kY KX2_save) ∈ lw_g := lw_gin 764 (by decide +kernel) (by decide +kernel)
theorem ml_X2_25 : Cond.methodLink "GapSets$History" 25 (kY KX2_slotAt) ∈ lw_g := lw_gin 768 (by decide +kernel) (by decide +kernel)
theorem ml_X2_29 : Cond.methodLink "GapSets$History" 29 (kY KX7_copyFrom) ∈ lw_g := lw_gin 772 (by decide +kernel) (by decide +kernel)
theorem ml_X7_28 : Cond.methodLink "GapSets$State" 28 (kY KX7_members) ∈ lw_g := lw_gin 776 (by decide +kernel) (by decide +kernel)
theorem ml_X7_32 : Cond.methodLink "GapSets$State" 32 (kY KX5_copyFrom) ∈ lw_g := lw_gin 777 (by decide +kernel) (by decide +kernel)
theorem ml_X7_36 : Cond.methodLink "GapSets$State" 36 (kY KX7_valueOf) ∈ lw_g := lw_gin 778 (by decide +kernel) (by decide +kernel)
theorem ml_X7_40 : Cond.methodLink "GapSets$State" 40 (kY KX7_change) ∈ lw_g := lw_gin 779 (by decide +kernel) (by decide +kernel)
theorem ml_X2_33 : Cond.methodLink "GapSets$History" 33 (kY KM_min) ∈ lw_g := lw_gin 783 (by decide +kernel) (by decide +kernel)
theorem ml_L_96 : Cond.methodLink "GapSetsLaw" 96 (kY KL_remove) ∈ lw_g := lw_gin 784 (by decide +kernel) (by decide +kernel)
theorem ml_L_19 : Cond.methodLink "GapSetsLaw" 19 (kY KX8_remove) ∈ lw_g := lw_gin 787 (by decide +kernel) (by decide +kernel)
theorem ml_L_99 : Cond.methodLink "GapSetsLaw" 99 (kY KL_removeRange) ∈ lw_g := lw_gin 791 (by decide +kernel) (by decide +kernel)
theorem ml_L_22 : Cond.methodLink "GapSetsLaw" 22 (kY KX8_removeRange) ∈ lw_g := lw_gin 794 (by decide +kernel) (by decide +kernel)
theorem ml_L_103 : Cond.methodLink "GapSetsLaw" 103 (kY KL_shift) ∈ lw_g := lw_gin 798 (by decide +kernel) (by decide +kernel)
theorem ml_L_26 : Cond.methodLink "GapSetsLaw" 26 (kY KX8_shift) ∈ lw_g := lw_gin 801 (by decide +kernel) (by decide +kernel)
theorem ml_X8_99 : Cond.methodLink "GapSets" 99 (kY KX5_isEmpty) ∈ lw_g := lw_gin 805 (by decide +kernel) (by decide +kernel)
theorem ml_X8_109 : Cond.methodLink "GapSets" 109 (kY KX5_moveBy) ∈ lw_g := lw_gin 806 (by decide +kernel) (by decide +kernel)
theorem ml_L_106 : Cond.methodLink "GapSetsLaw" 106 (kY KL_combine) ∈ lw_g := lw_gin 810 (by decide +kernel) (by decide +kernel)
theorem ml_L_29 : Cond.methodLink "GapSetsLaw" 29 (kY KX8_combine) ∈ lw_g := lw_gin 813 (by decide +kernel) (by decide +kernel)
theorem ml_X8_112 : Cond.methodLink "GapSets" 112 (kY KX8_joinInto) ∈ lw_g := lw_gin 817 (by decide +kernel) (by decide +kernel)
theorem ml_L_110 : Cond.methodLink "GapSetsLaw" 110 (kY KL_set) ∈ lw_g := lw_gin 820 (by decide +kernel) (by decide +kernel)
theorem ml_L_33 : Cond.methodLink "GapSetsLaw" 33 (kY KX8_set) ∈ lw_g := lw_gin 823 (by decide +kernel) (by decide +kernel)
theorem ml_X8_120 : Cond.methodLink "GapSets" 120 (kY KX8_requireSetting) ∈ lw_g := lw_gin 827 (by decide +kernel) (by decide +kernel)
theorem ml_X8_123 : Cond.methodLink "GapSets" 123 (kY KX8_isMost) ∈ lw_g := lw_gin 831 (by decide +kernel) (by decide +kernel)
theorem ml_X8_126 : Cond.methodLink "GapSets" 126 (kY KX8_isWidth) ∈ lw_g := lw_gin 834 (by decide +kernel) (by decide +kernel)
theorem ml_X8_133 : Cond.methodLink "GapSets" 133 (kY KX7_change) ∈ lw_g := lw_gin 837 (by decide +kernel) (by decide +kernel)
theorem ml_L_113 : Cond.methodLink "GapSetsLaw" 113 (kY KL_append) ∈ lw_g := lw_gin 838 (by decide +kernel) (by decide +kernel)
theorem ml_L_36 : Cond.methodLink "GapSetsLaw" 36 (kY KX8_append) ∈ lw_g := lw_gin 841 (by decide +kernel) (by decide +kernel)
theorem ml_X8_140 : Cond.methodLink "GapSets" 140 (kY KX1_put) ∈ lw_g := lw_gin 845 (by decide +kernel) (by decide +kernel)
theorem ml_L_125 : Cond.methodLink "GapSetsLaw" 125 (kY KL_read) ∈ lw_g := lw_gin 849 (by decide +kernel) (by decide +kernel)
theorem ml_L_40 : Cond.methodLink "GapSetsLaw" 40 (kY KX8_read) ∈ lw_g := lw_gin 852 (by decide +kernel) (by decide +kernel)
theorem ml_X8_148 : Cond.methodLink "GapSets" 148 (kY KX6_parsesWhole) ∈ lw_g := lw_gin 856 (by decide +kernel) (by decide +kernel)
theorem ml_X6_35 : Cond.methodLink "GapSets$Parser" 35 (kY KX6_parse) ∈ lw_g := lw_gin 860 (by decide +kernel) (by decide +kernel)
theorem ml_X8_152 : Cond.methodLink "GapSets" 152 (kY KX6_amount) ∈ lw_g := lw_gin 861 (by decide +kernel) (by decide +kernel)
theorem ml_X8_153 : Cond.methodLink "GapSets" 153 (kY KX6_fill) ∈ lw_g := lw_gin 865 (by decide +kernel) (by decide +kernel)
theorem ml_X6_50 : Cond.methodLink "GapSets$Parser" 50 (kY KX5_empty) ∈ lw_g := lw_gin 869 (by decide +kernel) (by decide +kernel)
theorem ml_X6_55 : Cond.methodLink "GapSets$Parser" 55 (kY KX5_put) ∈ lw_g := lw_gin 870 (by decide +kernel) (by decide +kernel)
theorem ml_L_128 : Cond.methodLink "GapSetsLaw" 128 (kY KL_undo) ∈ lw_g := lw_gin 871 (by decide +kernel) (by decide +kernel)
theorem ml_L_43 : Cond.methodLink "GapSetsLaw" 43 (kY KX8_undo) ∈ lw_g := lw_gin 874 (by decide +kernel) (by decide +kernel)
theorem ml_X8_157 : Cond.methodLink "GapSets" 157 (kY KX2_restore) ∈ lw_g := lw_gin 878 (by decide +kernel) (by decide +kernel)
theorem ml_L_132 : Cond.methodLink "GapSetsLaw" 132 (kY KL_has) ∈ lw_g := lw_gin 882 (by decide +kernel) (by decide +kernel)
theorem ml_L_47 : Cond.methodLink "GapSetsLaw" 47 (kY KX8_has) ∈ lw_g := lw_gin 885 (by decide +kernel) (by decide +kernel)
theorem ml_L_135 : Cond.methodLink "GapSetsLaw" 135 (kY KL_member) ∈ lw_g := lw_gin 889 (by decide +kernel) (by decide +kernel)
theorem ml_L_50 : Cond.methodLink "GapSetsLaw" 50 (kY KX8_member) ∈ lw_g := lw_gin 892 (by decide +kernel) (by decide +kernel)
theorem ml_L_138 : Cond.methodLink "GapSetsLaw" 138 (kY KL_less) ∈ lw_g := lw_gin 896 (by decide +kernel) (by decide +kernel)
theorem ml_L_53 : Cond.methodLink "GapSetsLaw" 53 (kY KX8_less) ∈ lw_g := lw_gin 899 (by decide +kernel) (by decide +kernel)
theorem ml_X8_163 : Cond.methodLink "GapSets" 163 (kY KX5_placeOf) ∈ lw_g := lw_gin 903 (by decide +kernel) (by decide +kernel)
theorem ml_L_141 : Cond.methodLink "GapSetsLaw" 141 (kY KL_nearest) ∈ lw_g := lw_gin 904 (by decide +kernel) (by decide +kernel)
theorem ml_L_56 : Cond.methodLink "GapSetsLaw" 56 (kY KX8_nearest) ∈ lw_g := lw_gin 907 (by decide +kernel) (by decide +kernel)
theorem ml_L_144 : Cond.methodLink "GapSetsLaw" 144 (kY KL_block) ∈ lw_g := lw_gin 908 (by decide +kernel) (by decide +kernel)
theorem ml_L_59 : Cond.methodLink "GapSetsLaw" 59 (kY KX8_block) ∈ lw_g := lw_gin 911 (by decide +kernel) (by decide +kernel)
theorem ml_L_147 : Cond.methodLink "GapSetsLaw" 147 (kY KL_of) ∈ lw_g := lw_gin 912 (by decide +kernel) (by decide +kernel)
theorem ml_L_62 : Cond.methodLink "GapSetsLaw" 62 (kY KX8_of) ∈ lw_g := lw_gin 915 (by decide +kernel) (by decide +kernel)
theorem ml_L_150 : Cond.methodLink "GapSetsLaw" 150 (kY KL_leaps) ∈ lw_g := lw_gin 916 (by decide +kernel) (by decide +kernel)
theorem ml_L_65 : Cond.methodLink "GapSetsLaw" 65 (kY KX8_leaps) ∈ lw_g := lw_gin 919 (by decide +kernel) (by decide +kernel)
theorem ml_L_153 : Cond.methodLink "GapSetsLaw" 153 (kY KL_count) ∈ lw_g := lw_gin 923 (by decide +kernel) (by decide +kernel)
theorem ml_L_68 : Cond.methodLink "GapSetsLaw" 68 (kY KX8_count) ∈ lw_g := lw_gin 926 (by decide +kernel) (by decide +kernel)
theorem ml_L_156 : Cond.methodLink "GapSetsLaw" 156 (kY KL_setting) ∈ lw_g := lw_gin 927 (by decide +kernel) (by decide +kernel)
theorem ml_L_71 : Cond.methodLink "GapSetsLaw" 71 (kY KX8_setting) ∈ lw_g := lw_gin 930 (by decide +kernel) (by decide +kernel)
theorem ml_L_159 : Cond.methodLink "GapSetsLaw" 159 (kY KL_ifSet) ∈ lw_g := lw_gin 934 (by decide +kernel) (by decide +kernel)
theorem ml_L_74 : Cond.methodLink "GapSetsLaw" 74 (kY KX8_ifSet) ∈ lw_g := lw_gin 937 (by decide +kernel) (by decide +kernel)
theorem ml_L_162 : Cond.methodLink "GapSetsLaw" 162 (kY KL_ifAdded) ∈ lw_g := lw_gin 941 (by decide +kernel) (by decide +kernel)
theorem ml_L_77 : Cond.methodLink "GapSetsLaw" 77 (kY KX8_ifAdded) ∈ lw_g := lw_gin 944 (by decide +kernel) (by decide +kernel)
theorem ml_L_165 : Cond.methodLink "GapSetsLaw" 165 (kY KL_dearest) ∈ lw_g := lw_gin 945 (by decide +kernel) (by decide +kernel)
theorem ml_L_80 : Cond.methodLink "GapSetsLaw" 80 (kY KX8_dearest) ∈ lw_g := lw_gin 948 (by decide +kernel) (by decide +kernel)
theorem ml_L_86 : Cond.methodLink "GapSetsLaw" 86 (kY KX9_init) ∈ lw_g := lw_gin 951 (by decide +kernel) (by decide +kernel)
theorem ml_X9_1 : Cond.methodLink "GapSetsModel" 1 ⟨"java/lang/Object", "<init>", "()V"⟩ ∈ lw_g := lw_gin 954 (by decide +kernel) (by decide +kernel)
theorem ml_L_93 : Cond.methodLink "GapSetsLaw" 93 (kY KX9_thrown) ∈ lw_g := lw_gin 1010 (by decide +kernel) (by decide +kernel)
theorem ml_L_92 : Cond.methodLink "GapSetsLaw" 92 (kY KX9_add) ∈ lw_g := lw_gin 1014 (by decide +kernel) (by decide +kernel)
theorem ml_X9_81 : Cond.methodLink "GapSetsModel" 81 (kY KX9_isSet) ∈ lw_g := lw_gin 1018 (by decide +kernel) (by decide +kernel)
theorem ml_X9_41 : Cond.methodLink "GapSetsModel" 41 (kY KX9_within) ∈ lw_g := lw_gin 1021 (by decide +kernel) (by decide +kernel)
theorem ml_X9_85 : Cond.methodLink "GapSetsModel" 85 (kY KX9_isNumber) ∈ lw_g := lw_gin 1024 (by decide +kernel) (by decide +kernel)
theorem ml_X9_88 : Cond.methodLink "GapSetsModel" 88 (kY KX9_isMember) ∈ lw_g := lw_gin 1027 (by decide +kernel) (by decide +kernel)
theorem ml_X9_53 : Cond.methodLink "GapSetsModel" 53 (kY KX9_lessThan) ∈ lw_g := lw_gin 1031 (by decide +kernel) (by decide +kernel)
theorem ml_X9_45 : Cond.methodLink "GapSetsModel" 45 (kY KX9_many) ∈ lw_g := lw_gin 1035 (by decide +kernel) (by decide +kernel)
theorem ml_X9_49 : Cond.methodLink "GapSetsModel" 49 (kY KX9_at) ∈ lw_g := lw_gin 1039 (by decide +kernel) (by decide +kernel)
theorem ml_X9_92 : Cond.methodLink "GapSetsModel" 92 (kY KX9_save) ∈ lw_g := lw_gin 1043 (by decide +kernel) (by decide +kernel)
theorem ml_X9_95 : Cond.methodLink "GapSetsModel" 95 (kY KX9_insert) ∈ lw_g := lw_gin 1047 (by decide +kernel) (by decide +kernel)
theorem ml_L_98 : Cond.methodLink "GapSetsLaw" 98 (kY KX9_remove) ∈ lw_g := lw_gin 1051 (by decide +kernel) (by decide +kernel)
theorem ml_X9_101 : Cond.methodLink "GapSetsModel" 101 (kY KX9_takeAway) ∈ lw_g := lw_gin 1055 (by decide +kernel) (by decide +kernel)
theorem ml_X9_62 : Cond.methodLink "GapSetsModel" 62 (kY KX9_takeRow) ∈ lw_g := lw_gin 1059 (by decide +kernel) (by decide +kernel)
theorem ml_X9_98 : Cond.methodLink "GapSetsModel" 98 (kY KX9_layRow) ∈ lw_g := lw_gin 1063 (by decide +kernel) (by decide +kernel)
theorem ml_L_102 : Cond.methodLink "GapSetsLaw" 102 (kY KX9_removeRange) ∈ lw_g := lw_gin 1067 (by decide +kernel) (by decide +kernel)
theorem ml_L_105 : Cond.methodLink "GapSetsLaw" 105 (kY KX9_shift) ∈ lw_g := lw_gin 1071 (by decide +kernel) (by decide +kernel)
theorem ml_X9_110 : Cond.methodLink "GapSetsModel" 110 (kY KX9_canShift) ∈ lw_g := lw_gin 1075 (by decide +kernel) (by decide +kernel)
theorem ml_X9_104 : Cond.methodLink "GapSetsModel" 104 (kY KX9_leastOf) ∈ lw_g := lw_gin 1079 (by decide +kernel) (by decide +kernel)
theorem ml_X9_107 : Cond.methodLink "GapSetsModel" 107 (kY KX9_greatestOf) ∈ lw_g := lw_gin 1083 (by decide +kernel) (by decide +kernel)
theorem ml_L_109 : Cond.methodLink "GapSetsLaw" 109 (kY KX9_combine) ∈ lw_g := lw_gin 1087 (by decide +kernel) (by decide +kernel)
theorem ml_X9_117 : Cond.methodLink "GapSetsModel" 117 (kY KX9_layCombined) ∈ lw_g := lw_gin 1091 (by decide +kernel) (by decide +kernel)
theorem ml_X9_113 : Cond.methodLink "GapSetsModel" 113 (kY KX9_belongs) ∈ lw_g := lw_gin 1095 (by decide +kernel) (by decide +kernel)
theorem ml_L_112 : Cond.methodLink "GapSetsLaw" 112 (kY KX9_set) ∈ lw_g := lw_gin 1098 (by decide +kernel) (by decide +kernel)
theorem ml_X9_121 : Cond.methodLink "GapSetsModel" 121 (kY KX9_isMost) ∈ lw_g := lw_gin 1102 (by decide +kernel) (by decide +kernel)
theorem ml_X9_124 : Cond.methodLink "GapSetsModel" 124 (kY KX9_isWidth) ∈ lw_g := lw_gin 1105 (by decide +kernel) (by decide +kernel)
theorem ml_L_116 : Cond.methodLink "GapSetsLaw" 116 (kY KX9_append) ∈ lw_g := lw_gin 1108 (by decide +kernel) (by decide +kernel)
theorem ml_L_120 : Cond.methodLink "GapSetsLaw" 120 (kY KX9_clearBuffer) ∈ lw_g := lw_gin 1112 (by decide +kernel) (by decide +kernel)
theorem ml_L_124 : Cond.methodLink "GapSetsLaw" 124 (kY KX9_firstError) ∈ lw_g := lw_gin 1116 (by decide +kernel) (by decide +kernel)
theorem ml_X9_159 : Cond.methodLink "GapSetsModel" 159 (kY KX9_rightUpTo) ∈ lw_g := lw_gin 1120 (by decide +kernel) (by decide +kernel)
theorem ml_X9_156 : Cond.methodLink "GapSetsModel" 156 (kY KX9_takes) ∈ lw_g := lw_gin 1124 (by decide +kernel) (by decide +kernel)
theorem ml_X9_146 : Cond.methodLink "GapSetsModel" 146 (kY KX9_isEnded) ∈ lw_g := lw_gin 1128 (by decide +kernel) (by decide +kernel)
theorem ml_X9_150 : Cond.methodLink "GapSetsModel" 150 (kY KX9_endNumber) ∈ lw_g := lw_gin 1132 (by decide +kernel) (by decide +kernel)
theorem ml_X9_153 : Cond.methodLink "GapSetsModel" 153 (kY KX9_takesDigit) ∈ lw_g := lw_gin 1136 (by decide +kernel) (by decide +kernel)
theorem ml_X9_133 : Cond.methodLink "GapSetsModel" 133 (kY KX9_greatestFrom) ∈ lw_g := lw_gin 1140 (by decide +kernel) (by decide +kernel)
theorem ml_L_127 : Cond.methodLink "GapSetsLaw" 127 (kY KX9_read) ∈ lw_g := lw_gin 1143 (by decide +kernel) (by decide +kernel)
theorem ml_X9_162 : Cond.methodLink "GapSetsModel" 162 (kY KX9_toldMany) ∈ lw_g := lw_gin 1147 (by decide +kernel) (by decide +kernel)
theorem ml_L_131 : Cond.methodLink "GapSetsLaw" 131 (kY KX9_undo) ∈ lw_g := lw_gin 1151 (by decide +kernel) (by decide +kernel)
theorem ml_L_134 : Cond.methodLink "GapSetsLaw" 134 (kY KX9_has) ∈ lw_g := lw_gin 1155 (by decide +kernel) (by decide +kernel)
theorem ml_L_137 : Cond.methodLink "GapSetsLaw" 137 (kY KX9_member) ∈ lw_g := lw_gin 1159 (by decide +kernel) (by decide +kernel)
theorem ml_L_140 : Cond.methodLink "GapSetsLaw" 140 (kY KX9_less) ∈ lw_g := lw_gin 1163 (by decide +kernel) (by decide +kernel)
theorem ml_L_143 : Cond.methodLink "GapSetsLaw" 143 (kY KX9_nearest) ∈ lw_g := lw_gin 1167 (by decide +kernel) (by decide +kernel)
theorem ml_X9_165 : Cond.methodLink "GapSetsModel" 165 (kY KX9_nearestTo) ∈ lw_g := lw_gin 1171 (by decide +kernel) (by decide +kernel)
theorem ml_L_146 : Cond.methodLink "GapSetsLaw" 146 (kY KX9_block) ∈ lw_g := lw_gin 1175 (by decide +kernel) (by decide +kernel)
theorem ml_X9_174 : Cond.methodLink "GapSetsModel" 174 (kY KX9_blockNow) ∈ lw_g := lw_gin 1179 (by decide +kernel) (by decide +kernel)
theorem ml_X9_168 : Cond.methodLink "GapSetsModel" 168 (kY KX9_blocksOf) ∈ lw_g := lw_gin 1183 (by decide +kernel) (by decide +kernel)
theorem ml_X9_66 : Cond.methodLink "GapSetsModel" 66 (kY KX9_layBlocks) ∈ lw_g := lw_gin 1187 (by decide +kernel) (by decide +kernel)
theorem ml_X9_70 : Cond.methodLink "GapSetsModel" 70 (kY KX9_bytesOf) ∈ lw_g := lw_gin 1191 (by decide +kernel) (by decide +kernel)
theorem ml_X9_171 : Cond.methodLink "GapSetsModel" 171 (kY KX9_greatestGap) ∈ lw_g := lw_gin 1195 (by decide +kernel) (by decide +kernel)
theorem ml_L_149 : Cond.methodLink "GapSetsLaw" 149 (kY KX9_of) ∈ lw_g := lw_gin 1199 (by decide +kernel) (by decide +kernel)
theorem ml_X9_189 : Cond.methodLink "GapSetsModel" 189 (kY KX9_setNow) ∈ lw_g := lw_gin 1203 (by decide +kernel) (by decide +kernel)
theorem ml_X9_177 : Cond.methodLink "GapSetsModel" 177 (kY KX9_blockCount) ∈ lw_g := lw_gin 1207 (by decide +kernel) (by decide +kernel)
theorem ml_X9_180 : Cond.methodLink "GapSetsModel" 180 (kY KX9_sizeOf) ∈ lw_g := lw_gin 1211 (by decide +kernel) (by decide +kernel)
theorem ml_X9_77 : Cond.methodLink "GapSetsModel" 77 (kY KX9_sizeBy) ∈ lw_g := lw_gin 1215 (by decide +kernel) (by decide +kernel)
theorem ml_X9_73 : Cond.methodLink "GapSetsModel" 73 (kY KX9_bytes) ∈ lw_g := lw_gin 1219 (by decide +kernel) (by decide +kernel)
theorem ml_X9_183 : Cond.methodLink "GapSetsModel" 183 (kY KX9_longestRun) ∈ lw_g := lw_gin 1223 (by decide +kernel) (by decide +kernel)
theorem ml_X9_186 : Cond.methodLink "GapSetsModel" 186 (kY KX9_wideGaps) ∈ lw_g := lw_gin 1227 (by decide +kernel) (by decide +kernel)
theorem ml_L_152 : Cond.methodLink "GapSetsLaw" 152 (kY KX9_leaps) ∈ lw_g := lw_gin 1231 (by decide +kernel) (by decide +kernel)
theorem ml_X9_201 : Cond.methodLink "GapSetsModel" 201 (kY KX9_leapsNow) ∈ lw_g := lw_gin 1235 (by decide +kernel) (by decide +kernel)
theorem ml_X9_198 : Cond.methodLink "GapSetsModel" 198 (kY KX9_goThrough) ∈ lw_g := lw_gin 1239 (by decide +kernel) (by decide +kernel)
theorem ml_X9_192 : Cond.methodLink "GapSetsModel" 192 (kY KX9_leap) ∈ lw_g := lw_gin 1243 (by decide +kernel) (by decide +kernel)
theorem ml_X9_195 : Cond.methodLink "GapSetsModel" 195 (kY KX9_blockWith) ∈ lw_g := lw_gin 1247 (by decide +kernel) (by decide +kernel)
theorem ml_L_155 : Cond.methodLink "GapSetsLaw" 155 (kY KX9_count) ∈ lw_g := lw_gin 1251 (by decide +kernel) (by decide +kernel)
theorem ml_X9_220 : Cond.methodLink "GapSetsModel" 220 (kY KX9_counted) ∈ lw_g := lw_gin 1255 (by decide +kernel) (by decide +kernel)
theorem ml_X9_210 : Cond.methodLink "GapSetsModel" 210 (kY KX9_sumOf) ∈ lw_g := lw_gin 1259 (by decide +kernel) (by decide +kernel)
theorem ml_X9_213 : Cond.methodLink "GapSetsModel" 213 (kY KX9_membersOfAll) ∈ lw_g := lw_gin 1263 (by decide +kernel) (by decide +kernel)
theorem ml_X9_204 : Cond.methodLink "GapSetsModel" 204 (kY KX9_setsWith) ∈ lw_g := lw_gin 1267 (by decide +kernel) (by decide +kernel)
theorem ml_X9_217 : Cond.methodLink "GapSetsModel" 217 (kY KX9_alikePairs) ∈ lw_g := lw_gin 1271 (by decide +kernel) (by decide +kernel)
theorem ml_X9_207 : Cond.methodLink "GapSetsModel" 207 (kY KX9_areAlike) ∈ lw_g := lw_gin 1275 (by decide +kernel) (by decide +kernel)
theorem ml_L_158 : Cond.methodLink "GapSetsLaw" 158 (kY KX9_setting) ∈ lw_g := lw_gin 1279 (by decide +kernel) (by decide +kernel)
theorem ml_L_161 : Cond.methodLink "GapSetsLaw" 161 (kY KX9_ifSet) ∈ lw_g := lw_gin 1283 (by decide +kernel) (by decide +kernel)
theorem ml_L_164 : Cond.methodLink "GapSetsLaw" 164 (kY KX9_ifAdded) ∈ lw_g := lw_gin 1287 (by decide +kernel) (by decide +kernel)
theorem ml_X9_223 : Cond.methodLink "GapSetsModel" 223 (kY KX9_addedThen) ∈ lw_g := lw_gin 1291 (by decide +kernel) (by decide +kernel)
theorem ml_L_167 : Cond.methodLink "GapSetsLaw" 167 (kY KX9_dearest) ∈ lw_g := lw_gin 1295 (by decide +kernel) (by decide +kernel)
theorem ml_X9_229 : Cond.methodLink "GapSetsModel" 229 (kY KX9_dearestNow) ∈ lw_g := lw_gin 1299 (by decide +kernel) (by decide +kernel)
theorem ml_X9_226 : Cond.methodLink "GapSetsModel" 226 (kY KX9_sizeWithout) ∈ lw_g := lw_gin 1303 (by decide +kernel) (by decide +kernel)
theorem ml_L_171 : Cond.methodLink "GapSetsLaw" 171 (kY KX9_bestWidth) ∈ lw_g := lw_gin 1307 (by decide +kernel) (by decide +kernel)
theorem ml_X9_235 : Cond.methodLink "GapSetsModel" 235 (kY KX9_bestNow) ∈ lw_g := lw_gin 1311 (by decide +kernel) (by decide +kernel)
theorem ml_X9_232 : Cond.methodLink "GapSetsModel" 232 (kY KX9_sizesBy) ∈ lw_g := lw_gin 1315 (by decide +kernel) (by decide +kernel)
theorem ml_L_176 : Cond.methodLink "GapSetsLaw" 176 (kY KX9_smallness) ∈ lw_g := lw_gin 1319 (by decide +kernel) (by decide +kernel)
theorem ml_X9_238 : Cond.methodLink "GapSetsModel" 238 (kY KX9_small) ∈ lw_g := lw_gin 1323 (by decide +kernel) (by decide +kernel)
theorem ml_L_181 : Cond.methodLink "GapSetsLaw" 181 (kY KX9_digest) ∈ lw_g := lw_gin 1327 (by decide +kernel) (by decide +kernel)
theorem ml_X9_248 : Cond.methodLink "GapSetsModel" 248 (kY KX9_mix) ∈ lw_g := lw_gin 1332 (by decide +kernel) (by decide +kernel)
theorem ml_X9_254 : Cond.methodLink "GapSetsModel" 254 (kY KX9_mixSet) ∈ lw_g := lw_gin 1337 (by decide +kernel) (by decide +kernel)
theorem ml_X9_257 : Cond.methodLink "GapSetsModel" 257 (kY KD_d2l) ∈ lw_g := lw_gin 1341 (by decide +kernel) (by decide +kernel)
theorem ml_D_122 : Cond.methodLink "java/lang/Double" 122 (kY KD_isNaN) ∈ lw_g := lw_gin 1344 (by decide +kernel) (by decide +kernel)
theorem ml_D_134 : Cond.methodLink "java/lang/Double" 134 ⟨"java/lang/Double", "doubleToRawLongBits", "(D)J"⟩ ∈ lw_g := lw_gin 1347 (by decide +kernel) (by decide +kernel)
theorem nl_X5_48 : ∀ (B : Nat) (s : State), Zt B s → va_Nw (.methodLinkNest "GapSets$Members" 48 (kY KX8_gapBytes) "GapSets") s := fun _ _ h => h.2.2.2.2.1
theorem nl_X0_60 : ∀ (B : Nat) (s : State), Zt B s → va_Nw (.methodLinkNest "GapSets$Blocks" 60 (kY KX8_gapBytes) "GapSets") s := fun _ _ h => h.2.2.2.2.2
theorem cn_L_8 : Cond.classLink "GapSetsLaw" 8 "GapSets" ∈ lw_g := lw_gin 94 (by decide +kernel) (by decide +kernel)
theorem cn_X8_7 : Cond.classLink "GapSets" 7 "GapSets$State" ∈ lw_g := lw_gin 102 (by decide +kernel) (by decide +kernel)
theorem cn_X7_9 : Cond.classLink "GapSets$State" 9 "GapSets$Members" ∈ lw_g := lw_gin 108 (by decide +kernel) (by decide +kernel)
theorem cn_X8_16 : Cond.classLink "GapSets" 16 "GapSets$History" ∈ lw_g := lw_gin 133 (by decide +kernel) (by decide +kernel)
theorem cn_X2_9 : Cond.classLink "GapSets$History" 9 "GapSets$State" ∈ lw_g := lw_gin 139 (by decide +kernel) (by decide +kernel)
theorem cn_X8_23 : Cond.classLink "GapSets" 23 "GapSets$Buffer" ∈ lw_g := lw_gin 152 (by decide +kernel) (by decide +kernel)
theorem cn_X8_30 : Cond.classLink "GapSets" 30 "GapSets$Parser" ∈ lw_g := lw_gin 165 (by decide +kernel) (by decide +kernel)
theorem cn_X8_37 : Cond.classLink "GapSets" 37 "GapSets$Blocks" ∈ lw_g := lw_gin 204 (by decide +kernel) (by decide +kernel)
theorem cn_X0_19 : Cond.classLink "GapSets$Blocks" 19 "GapSets$Members" ∈ lw_g := lw_gin 210 (by decide +kernel) (by decide +kernel)
theorem cn_X8_44 : Cond.classLink "GapSets" 44 "GapSets$Meeting" ∈ lw_g := lw_gin 222 (by decide +kernel) (by decide +kernel)
theorem cn_X4_9 : Cond.classLink "GapSets$Meeting" 9 "GapSets$Leaper" ∈ lw_g := lw_gin 228 (by decide +kernel) (by decide +kernel)
theorem cn_X3_7 : Cond.classLink "GapSets$Leaper" 7 "GapSets$Blocks" ∈ lw_g := lw_gin 234 (by decide +kernel) (by decide +kernel)
theorem cn_X3_16 : Cond.classLink "GapSets$Leaper" 16 "GapSets$Members" ∈ lw_g := lw_gin 236 (by decide +kernel) (by decide +kernel)
theorem cn_X8_51 : Cond.classLink "GapSets" 51 "GapSets$Members" ∈ lw_g := lw_gin 264 (by decide +kernel) (by decide +kernel)
theorem cn_X8_275 : Cond.classLink "GapSets" 275 "java/lang/IllegalArgumentException" ∈ lw_g := lw_gin 424 (by decide +kernel) (by decide +kernel)
theorem cn_X8_266 : Cond.classLink "GapSets" 266 "java/lang/IndexOutOfBoundsException" ∈ lw_g := lw_gin 549 (by decide +kernel) (by decide +kernel)
theorem cn_L_13 : Cond.classLink "GapSetsLaw" 13 "java/lang/IndexOutOfBoundsException" ∈ lw_g := lw_gin 738 (by decide +kernel) (by decide +kernel)
theorem cn_L_15 : Cond.classLink "GapSetsLaw" 15 "java/lang/IllegalArgumentException" ∈ lw_g := lw_gin 739 (by decide +kernel) (by decide +kernel)
theorem cn_L_17 : Cond.classLink "GapSetsLaw" 17 "java/lang/IllegalStateException" ∈ lw_g := lw_gin 740 (by decide +kernel) (by decide +kernel)
theorem cn_X8_280 : Cond.classLink "GapSets" 280 "java/lang/IllegalStateException" ∈ lw_g := lw_gin 748 (by decide +kernel) (by decide +kernel)
theorem cn_L_84 : Cond.classLink "GapSetsLaw" 84 "GapSetsModel" ∈ lw_g := lw_gin 949 (by decide +kernel) (by decide +kernel)
theorem kl_X8_232 : Cond.constantLong "GapSets" 232 2617 ∈ lw_g := lw_gin 416 (by decide +kernel) (by decide +kernel)
theorem kl_X8_296 : Cond.constantLong "GapSets" 296 31 ∈ lw_g := lw_gin 537 (by decide +kernel) (by decide +kernel)
theorem kl_X8_315 : Cond.constantLong "GapSets" 315 1023 ∈ lw_g := lw_gin 727 (by decide +kernel) (by decide +kernel)
theorem kl_X9_252 : Cond.constantLong "GapSetsModel" 252 2617 ∈ lw_g := lw_gin 1331 (by decide +kernel) (by decide +kernel)
theorem kl_X9_242 : Cond.constantLong "GapSetsModel" 242 31 ∈ lw_g := lw_gin 1336 (by decide +kernel) (by decide +kernel)
theorem kl_D_137 : Cond.constantLong "java/lang/Double" 137 9221120237041090560 ∈ lw_g := lw_gin 1350 (by decide +kernel) (by decide +kernel)
theorem kd_X8_317 : Cond.constantDouble "GapSets" 317 4611686018427387904 ∈ lw_g := lw_gin 728 (by decide +kernel) (by decide +kernel)
theorem kd_X8_319 : Cond.constantDouble "GapSets" 319 4841369599423283200 ∈ lw_g := lw_gin 729 (by decide +kernel) (by decide +kernel)
theorem ac_int : Cond.arrayClass .int ∈ lw_g := lw_gin 122 (by decide +kernel) (by decide +kernel)
theorem ac_long : Cond.arrayClass .long ∈ lw_g := lw_gin 1351 (by decide +kernel) (by decide +kernel)
theorem ov_Members : ∀ (B : Nat) (s : State), Zt B s → va_AO "GapSets$Members" s := fun _ _ h => h.2.2.1
theorem ov_State : ∀ (B : Nat) (s : State), Zt B s → va_AO "GapSets$State" s := fun _ _ h => h.2.2.2.1
theorem oi_inst : Cond.instanceMethod objectInit ∈ lw_g := lw_gin 100 (by decide +kernel) (by decide +kernel)
theorem oi_code : Cond.code objectInit ⟨#[0xb1]⟩ 1 none ∈ lw_g := lw_gin 101 (by decide +kernel) (by decide +kernel)
end
