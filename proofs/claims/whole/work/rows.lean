section
-- ===== PART A: goes FIRST, ahead of the names: the tables' words, and 'selects' of the private methods out of them =====
/-- a private method of a class that the tables say can be made, by its rows of tables_1 -/
def lw_okq (q : MethodName × Nat) : Prop := (q.1.cls ≠ "java/lang/invoke/MethodHandle" ∧ q.1.cls ≠ "java/lang/invoke/VarHandle") ∧ Cond.instantiable q.1.cls q.2 ∈ tables_1 ∧ Cond.privateMethod q.1 ∈ tables_1 ∧ Cond.instanceMethod q.1 ∈ tables_1
theorem lw_p0 : lw_okq (⟨"NearGroups", "forgetGroupings", "()V"⟩, 7) := ⟨⟨by decide +kernel, by decide +kernel⟩, List.mem_of_getElem? (i := 12) (by decide +kernel), List.mem_of_getElem? (i := 253) (by decide +kernel), List.mem_of_getElem? (i := 254) (by decide +kernel)⟩
theorem lw_p1 : lw_okq (⟨"NearGroups$Table", "measure", "(II)V"⟩, 4) := ⟨⟨by decide +kernel, by decide +kernel⟩, List.mem_of_getElem? (i := 20) (by decide +kernel), List.mem_of_getElem? (i := 261) (by decide +kernel), List.mem_of_getElem? (i := 262) (by decide +kernel)⟩
theorem lw_p2 : lw_okq (⟨"NearGroups$Table", "note", "(IIII)V"⟩, 4) := ⟨⟨by decide +kernel, by decide +kernel⟩, List.mem_of_getElem? (i := 20) (by decide +kernel), List.mem_of_getElem? (i := 275) (by decide +kernel), List.mem_of_getElem? (i := 276) (by decide +kernel)⟩
theorem lw_p3 : lw_okq (⟨"NearGroups", "isRow", "(I)Z"⟩, 7) := ⟨⟨by decide +kernel, by decide +kernel⟩, List.mem_of_getElem? (i := 12) (by decide +kernel), List.mem_of_getElem? (i := 295) (by decide +kernel), List.mem_of_getElem? (i := 296) (by decide +kernel)⟩
theorem lw_p4 : lw_okq (⟨"NearGroups$MeanRounds", "chooseFirstMeans", "(LNearGroups$Table;)V"⟩, 7) := ⟨⟨by decide +kernel, by decide +kernel⟩, List.mem_of_getElem? (i := 73) (by decide +kernel), List.mem_of_getElem? (i := 327) (by decide +kernel), List.mem_of_getElem? (i := 328) (by decide +kernel)⟩
theorem lw_p5 : lw_okq (⟨"NearGroups$MeanRounds", "putFirstMean", "(LNearGroups$Table;II)V"⟩, 7) := ⟨⟨by decide +kernel, by decide +kernel⟩, List.mem_of_getElem? (i := 73) (by decide +kernel), List.mem_of_getElem? (i := 332) (by decide +kernel), List.mem_of_getElem? (i := 333) (by decide +kernel)⟩
theorem lw_p6 : lw_okq (⟨"NearGroups$MeanRounds", "farthestFromChosen", "(LNearGroups$Table;I)I"⟩, 7) := ⟨⟨by decide +kernel, by decide +kernel⟩, List.mem_of_getElem? (i := 73) (by decide +kernel), List.mem_of_getElem? (i := 337) (by decide +kernel), List.mem_of_getElem? (i := 338) (by decide +kernel)⟩
theorem lw_p7 : lw_okq (⟨"NearGroups$MeanRounds", "moveRows", "(LNearGroups$Table;)Z"⟩, 7) := ⟨⟨by decide +kernel, by decide +kernel⟩, List.mem_of_getElem? (i := 73) (by decide +kernel), List.mem_of_getElem? (i := 345) (by decide +kernel), List.mem_of_getElem? (i := 346) (by decide +kernel)⟩
theorem lw_p8 : lw_okq (⟨"NearGroups$MeanRounds", "nearestMean", "(LNearGroups$Table;I)I"⟩, 7) := ⟨⟨by decide +kernel, by decide +kernel⟩, List.mem_of_getElem? (i := 73) (by decide +kernel), List.mem_of_getElem? (i := 349) (by decide +kernel), List.mem_of_getElem? (i := 350) (by decide +kernel)⟩
theorem lw_p9 : lw_okq (⟨"NearGroups$MeanRounds", "squaresAbove", "(LNearGroups$Table;II)J"⟩, 7) := ⟨⟨by decide +kernel, by decide +kernel⟩, List.mem_of_getElem? (i := 73) (by decide +kernel), List.mem_of_getElem? (i := 353) (by decide +kernel), List.mem_of_getElem? (i := 354) (by decide +kernel)⟩
theorem lw_p10 : lw_okq (⟨"NearGroups$MeanRounds", "squaresBelow", "(I)J"⟩, 7) := ⟨⟨by decide +kernel, by decide +kernel⟩, List.mem_of_getElem? (i := 73) (by decide +kernel), List.mem_of_getElem? (i := 357) (by decide +kernel), List.mem_of_getElem? (i := 358) (by decide +kernel)⟩
theorem lw_p11 : lw_okq (⟨"NearGroups$MeanRounds", "takeFarthest", "(LNearGroups$Table;I)V"⟩, 7) := ⟨⟨by decide +kernel, by decide +kernel⟩, List.mem_of_getElem? (i := 73) (by decide +kernel), List.mem_of_getElem? (i := 364) (by decide +kernel), List.mem_of_getElem? (i := 365) (by decide +kernel)⟩
theorem lw_p12 : lw_okq (⟨"NearGroups$MeanRounds", "noteMoves", "(I)Z"⟩, 7) := ⟨⟨by decide +kernel, by decide +kernel⟩, List.mem_of_getElem? (i := 73) (by decide +kernel), List.mem_of_getElem? (i := 368) (by decide +kernel), List.mem_of_getElem? (i := 369) (by decide +kernel)⟩
theorem lw_p13 : lw_okq (⟨"NearGroups$MeanRounds", "remakeMeans", "(LNearGroups$Table;)V"⟩, 7) := ⟨⟨by decide +kernel, by decide +kernel⟩, List.mem_of_getElem? (i := 73) (by decide +kernel), List.mem_of_getElem? (i := 372) (by decide +kernel), List.mem_of_getElem? (i := 373) (by decide +kernel)⟩
theorem lw_p14 : lw_okq (⟨"NearGroups$BestRows", "tryRows", "(LNearGroups$Table;III)V"⟩, 6) := ⟨⟨by decide +kernel, by decide +kernel⟩, List.mem_of_getElem? (i := 102) (by decide +kernel), List.mem_of_getElem? (i := 389) (by decide +kernel), List.mem_of_getElem? (i := 390) (by decide +kernel)⟩
theorem lw_p15 : lw_okq (⟨"NearGroups$BestRows", "lowerLeasts", "(LNearGroups$Table;III)V"⟩, 6) := ⟨⟨by decide +kernel, by decide +kernel⟩, List.mem_of_getElem? (i := 102) (by decide +kernel), List.mem_of_getElem? (i := 393) (by decide +kernel), List.mem_of_getElem? (i := 394) (by decide +kernel)⟩
def lw_privs_1 : List (MethodName × Nat) := [(⟨"NearGroups", "forgetGroupings", "()V"⟩, 7), (⟨"NearGroups$Table", "measure", "(II)V"⟩, 4), (⟨"NearGroups$Table", "note", "(IIII)V"⟩, 4), (⟨"NearGroups", "isRow", "(I)Z"⟩, 7), (⟨"NearGroups$MeanRounds", "chooseFirstMeans", "(LNearGroups$Table;)V"⟩, 7), (⟨"NearGroups$MeanRounds", "putFirstMean", "(LNearGroups$Table;II)V"⟩, 7), (⟨"NearGroups$MeanRounds", "farthestFromChosen", "(LNearGroups$Table;I)I"⟩, 7), (⟨"NearGroups$MeanRounds", "moveRows", "(LNearGroups$Table;)Z"⟩, 7), (⟨"NearGroups$MeanRounds", "nearestMean", "(LNearGroups$Table;I)I"⟩, 7), (⟨"NearGroups$MeanRounds", "squaresAbove", "(LNearGroups$Table;II)J"⟩, 7), (⟨"NearGroups$MeanRounds", "squaresBelow", "(I)J"⟩, 7), (⟨"NearGroups$MeanRounds", "takeFarthest", "(LNearGroups$Table;I)V"⟩, 7), (⟨"NearGroups$MeanRounds", "noteMoves", "(I)Z"⟩, 7), (⟨"NearGroups$MeanRounds", "remakeMeans", "(LNearGroups$Table;)V"⟩, 7), (⟨"NearGroups$BestRows", "tryRows", "(LNearGroups$Table;III)V"⟩, 6), (⟨"NearGroups$BestRows", "lowerLeasts", "(LNearGroups$Table;III)V"⟩, 6)]
theorem lw_r1 : ∀ q ∈ lw_privs_1, lw_okq q := List.forall_mem_cons.mpr ⟨lw_p0, List.forall_mem_cons.mpr ⟨lw_p1, List.forall_mem_cons.mpr ⟨lw_p2, List.forall_mem_cons.mpr ⟨lw_p3, List.forall_mem_cons.mpr ⟨lw_p4, List.forall_mem_cons.mpr ⟨lw_p5, List.forall_mem_cons.mpr ⟨lw_p6, List.forall_mem_cons.mpr ⟨lw_p7, List.forall_mem_cons.mpr ⟨lw_p8, List.forall_mem_cons.mpr ⟨lw_p9, List.forall_mem_cons.mpr ⟨lw_p10, List.forall_mem_cons.mpr ⟨lw_p11, List.forall_mem_cons.mpr ⟨lw_p12, List.forall_mem_cons.mpr ⟨lw_p13, List.forall_mem_cons.mpr ⟨lw_p14, List.forall_mem_cons.mpr ⟨lw_p15, fun _ h => absurd h List.not_mem_nil⟩⟩⟩⟩⟩⟩⟩⟩⟩⟩⟩⟩⟩⟩⟩⟩
theorem lw_p16 : lw_okq (⟨"NearGroups$BestRows", "weighTrial", "(LNearGroups$Table;III)V"⟩, 6) := ⟨⟨by decide +kernel, by decide +kernel⟩, List.mem_of_getElem? (i := 102) (by decide +kernel), List.mem_of_getElem? (i := 399) (by decide +kernel), List.mem_of_getElem? (i := 400) (by decide +kernel)⟩
theorem lw_p17 : lw_okq (⟨"NearGroups$BestRows", "nearestBest", "(LNearGroups$Table;II)I"⟩, 6) := ⟨⟨by decide +kernel, by decide +kernel⟩, List.mem_of_getElem? (i := 102) (by decide +kernel), List.mem_of_getElem? (i := 403) (by decide +kernel), List.mem_of_getElem? (i := 404) (by decide +kernel)⟩
theorem lw_p18 : lw_okq (⟨"NearGroups$DenseRows", "rowsWithin", "(LNearGroups$Table;III)I"⟩, 3) := ⟨⟨by decide +kernel, by decide +kernel⟩, List.mem_of_getElem? (i := 130) (by decide +kernel), List.mem_of_getElem? (i := 421) (by decide +kernel), List.mem_of_getElem? (i := 422) (by decide +kernel)⟩
theorem lw_p19 : lw_okq (⟨"NearGroups$DenseRows", "spreadFrom", "(LNearGroups$Table;IIII)V"⟩, 3) := ⟨⟨by decide +kernel, by decide +kernel⟩, List.mem_of_getElem? (i := 130) (by decide +kernel), List.mem_of_getElem? (i := 426) (by decide +kernel), List.mem_of_getElem? (i := 427) (by decide +kernel)⟩
theorem lw_p20 : lw_okq (⟨"NearGroups$DenseRows", "leastGroupWithin", "(LNearGroups$Table;III)I"⟩, 3) := ⟨⟨by decide +kernel, by decide +kernel⟩, List.mem_of_getElem? (i := 130) (by decide +kernel), List.mem_of_getElem? (i := 430) (by decide +kernel), List.mem_of_getElem? (i := 431) (by decide +kernel)⟩
theorem lw_p21 : lw_okq (⟨"NearGroups$Joins", "placeRows", "(LNearGroups$Table;I)V"⟩, 12) := ⟨⟨by decide +kernel, by decide +kernel⟩, List.mem_of_getElem? (i := 148) (by decide +kernel), List.mem_of_getElem? (i := 442) (by decide +kernel), List.mem_of_getElem? (i := 443) (by decide +kernel)⟩
theorem lw_p22 : lw_okq (⟨"NearGroups$Joins", "findNearest", "(LNearGroups$Table;)V"⟩, 12) := ⟨⟨by decide +kernel, by decide +kernel⟩, List.mem_of_getElem? (i := 148) (by decide +kernel), List.mem_of_getElem? (i := 448) (by decide +kernel), List.mem_of_getElem? (i := 449) (by decide +kernel)⟩
theorem lw_p23 : lw_okq (⟨"NearGroups$Joins", "gapAbove", "(LNearGroups$Table;II)J"⟩, 12) := ⟨⟨by decide +kernel, by decide +kernel⟩, List.mem_of_getElem? (i := 148) (by decide +kernel), List.mem_of_getElem? (i := 452) (by decide +kernel), List.mem_of_getElem? (i := 453) (by decide +kernel)⟩
theorem lw_p24 : lw_okq (⟨"NearGroups$Joins", "gapBelow", "(II)J"⟩, 12) := ⟨⟨by decide +kernel, by decide +kernel⟩, List.mem_of_getElem? (i := 148) (by decide +kernel), List.mem_of_getElem? (i := 456) (by decide +kernel), List.mem_of_getElem? (i := 457) (by decide +kernel)⟩
theorem lw_p25 : lw_okq (⟨"NearGroups$Joins", "merge", "(LNearGroups$Table;II)V"⟩, 12) := ⟨⟨by decide +kernel, by decide +kernel⟩, List.mem_of_getElem? (i := 148) (by decide +kernel), List.mem_of_getElem? (i := 471) (by decide +kernel), List.mem_of_getElem? (i := 472) (by decide +kernel)⟩
theorem lw_p26 : lw_okq (⟨"NearGroups$Joins", "gapToBoth", "(JJ)J"⟩, 12) := ⟨⟨by decide +kernel, by decide +kernel⟩, List.mem_of_getElem? (i := 148) (by decide +kernel), List.mem_of_getElem? (i := 475) (by decide +kernel), List.mem_of_getElem? (i := 476) (by decide +kernel)⟩
theorem lw_p27 : lw_okq (⟨"NearGroups$Joins", "numberByLeastRows", "(I)V"⟩, 12) := ⟨⟨by decide +kernel, by decide +kernel⟩, List.mem_of_getElem? (i := 148) (by decide +kernel), List.mem_of_getElem? (i := 500) (by decide +kernel), List.mem_of_getElem? (i := 501) (by decide +kernel)⟩
theorem lw_p28 : lw_okq (⟨"NearGroups", "refusalOfGroup", "(II)I"⟩, 7) := ⟨⟨by decide +kernel, by decide +kernel⟩, List.mem_of_getElem? (i := 12) (by decide +kernel), List.mem_of_getElem? (i := 516) (by decide +kernel), List.mem_of_getElem? (i := 517) (by decide +kernel)⟩
theorem lw_p29 : lw_okq (⟨"NearGroups", "reckonMean", "(LNearGroups$Grouping;II)V"⟩, 7) := ⟨⟨by decide +kernel, by decide +kernel⟩, List.mem_of_getElem? (i := 12) (by decide +kernel), List.mem_of_getElem? (i := 527) (by decide +kernel), List.mem_of_getElem? (i := 528) (by decide +kernel)⟩
theorem lw_p30 : lw_okq (⟨"NearGroups", "reckonSum", "(LNearGroups$Grouping;)V"⟩, 7) := ⟨⟨by decide +kernel, by decide +kernel⟩, List.mem_of_getElem? (i := 12) (by decide +kernel), List.mem_of_getElem? (i := 545) (by decide +kernel), List.mem_of_getElem? (i := 546) (by decide +kernel)⟩
theorem lw_p31 : lw_okq (⟨"NearGroups$Grouping", "totalOfSquares", "(LNearGroups$Table;II)J"⟩, 4) := ⟨⟨by decide +kernel, by decide +kernel⟩, List.mem_of_getElem? (i := 51) (by decide +kernel), List.mem_of_getElem? (i := 554) (by decide +kernel), List.mem_of_getElem? (i := 555) (by decide +kernel)⟩
def lw_privs_2 : List (MethodName × Nat) := [(⟨"NearGroups$BestRows", "weighTrial", "(LNearGroups$Table;III)V"⟩, 6), (⟨"NearGroups$BestRows", "nearestBest", "(LNearGroups$Table;II)I"⟩, 6), (⟨"NearGroups$DenseRows", "rowsWithin", "(LNearGroups$Table;III)I"⟩, 3), (⟨"NearGroups$DenseRows", "spreadFrom", "(LNearGroups$Table;IIII)V"⟩, 3), (⟨"NearGroups$DenseRows", "leastGroupWithin", "(LNearGroups$Table;III)I"⟩, 3), (⟨"NearGroups$Joins", "placeRows", "(LNearGroups$Table;I)V"⟩, 12), (⟨"NearGroups$Joins", "findNearest", "(LNearGroups$Table;)V"⟩, 12), (⟨"NearGroups$Joins", "gapAbove", "(LNearGroups$Table;II)J"⟩, 12), (⟨"NearGroups$Joins", "gapBelow", "(II)J"⟩, 12), (⟨"NearGroups$Joins", "merge", "(LNearGroups$Table;II)V"⟩, 12), (⟨"NearGroups$Joins", "gapToBoth", "(JJ)J"⟩, 12), (⟨"NearGroups$Joins", "numberByLeastRows", "(I)V"⟩, 12), (⟨"NearGroups", "refusalOfGroup", "(II)I"⟩, 7), (⟨"NearGroups", "reckonMean", "(LNearGroups$Grouping;II)V"⟩, 7), (⟨"NearGroups", "reckonSum", "(LNearGroups$Grouping;)V"⟩, 7), (⟨"NearGroups$Grouping", "totalOfSquares", "(LNearGroups$Table;II)J"⟩, 4)]
theorem lw_r2 : ∀ q ∈ lw_privs_2, lw_okq q := List.forall_mem_cons.mpr ⟨lw_p16, List.forall_mem_cons.mpr ⟨lw_p17, List.forall_mem_cons.mpr ⟨lw_p18, List.forall_mem_cons.mpr ⟨lw_p19, List.forall_mem_cons.mpr ⟨lw_p20, List.forall_mem_cons.mpr ⟨lw_p21, List.forall_mem_cons.mpr ⟨lw_p22, List.forall_mem_cons.mpr ⟨lw_p23, List.forall_mem_cons.mpr ⟨lw_p24, List.forall_mem_cons.mpr ⟨lw_p25, List.forall_mem_cons.mpr ⟨lw_p26, List.forall_mem_cons.mpr ⟨lw_p27, List.forall_mem_cons.mpr ⟨lw_p28, List.forall_mem_cons.mpr ⟨lw_p29, List.forall_mem_cons.mpr ⟨lw_p30, List.forall_mem_cons.mpr ⟨lw_p31, fun _ h => absurd h List.not_mem_nil⟩⟩⟩⟩⟩⟩⟩⟩⟩⟩⟩⟩⟩⟩⟩⟩
theorem lw_p32 : lw_okq (⟨"NearGroups", "reckonWell", "(LNearGroups$Grouping;II)V"⟩, 7) := ⟨⟨by decide +kernel, by decide +kernel⟩, List.mem_of_getElem? (i := 12) (by decide +kernel), List.mem_of_getElem? (i := 568) (by decide +kernel), List.mem_of_getElem? (i := 569) (by decide +kernel)⟩
theorem lw_p33 : lw_okq (⟨"NearGroups", "nearestOtherGroup", "(LNearGroups$Grouping;II)I"⟩, 7) := ⟨⟨by decide +kernel, by decide +kernel⟩, List.mem_of_getElem? (i := 12) (by decide +kernel), List.mem_of_getElem? (i := 572) (by decide +kernel), List.mem_of_getElem? (i := 573) (by decide +kernel)⟩
theorem lw_p34 : lw_okq (⟨"NearGroups", "agreementOf", "(II)I"⟩, 7) := ⟨⟨by decide +kernel, by decide +kernel⟩, List.mem_of_getElem? (i := 12) (by decide +kernel), List.mem_of_getElem? (i := 587) (by decide +kernel), List.mem_of_getElem? (i := 588) (by decide +kernel)⟩
theorem lw_p35 : lw_okq (⟨"NearGroupsModel", "forget", "()V"⟩, 29) := ⟨⟨by decide +kernel, by decide +kernel⟩, List.mem_of_getElem? (i := 595) (by decide +kernel), List.mem_of_getElem? (i := 703) (by decide +kernel), List.mem_of_getElem? (i := 704) (by decide +kernel)⟩
theorem lw_p36 : lw_okq (⟨"NearGroupsModel", "isRow", "(I)Z"⟩, 29) := ⟨⟨by decide +kernel, by decide +kernel⟩, List.mem_of_getElem? (i := 595) (by decide +kernel), List.mem_of_getElem? (i := 719) (by decide +kernel), List.mem_of_getElem? (i := 720) (by decide +kernel)⟩
theorem lw_p37 : lw_okq (⟨"NearGroupsModel", "apart", "(III)I"⟩, 29) := ⟨⟨by decide +kernel, by decide +kernel⟩, List.mem_of_getElem? (i := 595) (by decide +kernel), List.mem_of_getElem? (i := 724) (by decide +kernel), List.mem_of_getElem? (i := 725) (by decide +kernel)⟩
theorem lw_p38 : lw_okq (⟨"NearGroupsModel", "lay", "(I)V"⟩, 29) := ⟨⟨by decide +kernel, by decide +kernel⟩, List.mem_of_getElem? (i := 595) (by decide +kernel), List.mem_of_getElem? (i := 732) (by decide +kernel), List.mem_of_getElem? (i := 733) (by decide +kernel)⟩
theorem lw_p39 : lw_okq (⟨"NearGroupsModel", "chooseFirst", "(I)V"⟩, 29) := ⟨⟨by decide +kernel, by decide +kernel⟩, List.mem_of_getElem? (i := 595) (by decide +kernel), List.mem_of_getElem? (i := 740) (by decide +kernel), List.mem_of_getElem? (i := 741) (by decide +kernel)⟩
theorem lw_p40 : lw_okq (⟨"NearGroupsModel", "farthest", "()I"⟩, 29) := ⟨⟨by decide +kernel, by decide +kernel⟩, List.mem_of_getElem? (i := 595) (by decide +kernel), List.mem_of_getElem? (i := 744) (by decide +kernel), List.mem_of_getElem? (i := 745) (by decide +kernel)⟩
theorem lw_p41 : lw_okq (⟨"NearGroupsModel", "isNearer", "(IIII)Z"⟩, 29) := ⟨⟨by decide +kernel, by decide +kernel⟩, List.mem_of_getElem? (i := 595) (by decide +kernel), List.mem_of_getElem? (i := 748) (by decide +kernel), List.mem_of_getElem? (i := 749) (by decide +kernel)⟩
theorem lw_p42 : lw_okq (⟨"NearGroupsModel", "square", "(II)J"⟩, 29) := ⟨⟨by decide +kernel, by decide +kernel⟩, List.mem_of_getElem? (i := 595) (by decide +kernel), List.mem_of_getElem? (i := 752) (by decide +kernel), List.mem_of_getElem? (i := 753) (by decide +kernel)⟩
theorem lw_p43 : lw_okq (⟨"NearGroupsModel", "fill", "(I)V"⟩, 29) := ⟨⟨by decide +kernel, by decide +kernel⟩, List.mem_of_getElem? (i := 595) (by decide +kernel), List.mem_of_getElem? (i := 756) (by decide +kernel), List.mem_of_getElem? (i := 757) (by decide +kernel)⟩
theorem lw_p44 : lw_okq (⟨"NearGroupsModel", "sizeNow", "(I)I"⟩, 29) := ⟨⟨by decide +kernel, by decide +kernel⟩, List.mem_of_getElem? (i := 595) (by decide +kernel), List.mem_of_getElem? (i := 760) (by decide +kernel), List.mem_of_getElem? (i := 761) (by decide +kernel)⟩
theorem lw_p45 : lw_okq (⟨"NearGroupsModel", "takeMeans", "(I)V"⟩, 29) := ⟨⟨by decide +kernel, by decide +kernel⟩, List.mem_of_getElem? (i := 595) (by decide +kernel), List.mem_of_getElem? (i := 764) (by decide +kernel), List.mem_of_getElem? (i := 765) (by decide +kernel)⟩
theorem lw_p46 : lw_okq (⟨"NearGroupsModel", "sumOf", "(IIII)I"⟩, 29) := ⟨⟨by decide +kernel, by decide +kernel⟩, List.mem_of_getElem? (i := 595) (by decide +kernel), List.mem_of_getElem? (i := 772) (by decide +kernel), List.mem_of_getElem? (i := 773) (by decide +kernel)⟩
theorem lw_p47 : lw_okq (⟨"NearGroupsModel", "nearestOf", "(IIIII)I"⟩, 29) := ⟨⟨by decide +kernel, by decide +kernel⟩, List.mem_of_getElem? (i := 595) (by decide +kernel), List.mem_of_getElem? (i := 776) (by decide +kernel), List.mem_of_getElem? (i := 777) (by decide +kernel)⟩
def lw_privs_3 : List (MethodName × Nat) := [(⟨"NearGroups", "reckonWell", "(LNearGroups$Grouping;II)V"⟩, 7), (⟨"NearGroups", "nearestOtherGroup", "(LNearGroups$Grouping;II)I"⟩, 7), (⟨"NearGroups", "agreementOf", "(II)I"⟩, 7), (⟨"NearGroupsModel", "forget", "()V"⟩, 29), (⟨"NearGroupsModel", "isRow", "(I)Z"⟩, 29), (⟨"NearGroupsModel", "apart", "(III)I"⟩, 29), (⟨"NearGroupsModel", "lay", "(I)V"⟩, 29), (⟨"NearGroupsModel", "chooseFirst", "(I)V"⟩, 29), (⟨"NearGroupsModel", "farthest", "()I"⟩, 29), (⟨"NearGroupsModel", "isNearer", "(IIII)Z"⟩, 29), (⟨"NearGroupsModel", "square", "(II)J"⟩, 29), (⟨"NearGroupsModel", "fill", "(I)V"⟩, 29), (⟨"NearGroupsModel", "sizeNow", "(I)I"⟩, 29), (⟨"NearGroupsModel", "takeMeans", "(I)V"⟩, 29), (⟨"NearGroupsModel", "sumOf", "(IIII)I"⟩, 29), (⟨"NearGroupsModel", "nearestOf", "(IIIII)I"⟩, 29)]
theorem lw_r3 : ∀ q ∈ lw_privs_3, lw_okq q := List.forall_mem_cons.mpr ⟨lw_p32, List.forall_mem_cons.mpr ⟨lw_p33, List.forall_mem_cons.mpr ⟨lw_p34, List.forall_mem_cons.mpr ⟨lw_p35, List.forall_mem_cons.mpr ⟨lw_p36, List.forall_mem_cons.mpr ⟨lw_p37, List.forall_mem_cons.mpr ⟨lw_p38, List.forall_mem_cons.mpr ⟨lw_p39, List.forall_mem_cons.mpr ⟨lw_p40, List.forall_mem_cons.mpr ⟨lw_p41, List.forall_mem_cons.mpr ⟨lw_p42, List.forall_mem_cons.mpr ⟨lw_p43, List.forall_mem_cons.mpr ⟨lw_p44, List.forall_mem_cons.mpr ⟨lw_p45, List.forall_mem_cons.mpr ⟨lw_p46, List.forall_mem_cons.mpr ⟨lw_p47, fun _ h => absurd h List.not_mem_nil⟩⟩⟩⟩⟩⟩⟩⟩⟩⟩⟩⟩⟩⟩⟩⟩
theorem lw_p48 : lw_okq (⟨"NearGroupsModel", "spread", "(III)V"⟩, 29) := ⟨⟨by decide +kernel, by decide +kernel⟩, List.mem_of_getElem? (i := 595) (by decide +kernel), List.mem_of_getElem? (i := 789) (by decide +kernel), List.mem_of_getElem? (i := 790) (by decide +kernel)⟩
theorem lw_p49 : lw_okq (⟨"NearGroupsModel", "joinNext", "(I)V"⟩, 29) := ⟨⟨by decide +kernel, by decide +kernel⟩, List.mem_of_getElem? (i := 595) (by decide +kernel), List.mem_of_getElem? (i := 797) (by decide +kernel), List.mem_of_getElem? (i := 798) (by decide +kernel)⟩
theorem lw_p50 : lw_okq (⟨"NearGroupsModel", "gather", "()V"⟩, 29) := ⟨⟨by decide +kernel, by decide +kernel⟩, List.mem_of_getElem? (i := 595) (by decide +kernel), List.mem_of_getElem? (i := 801) (by decide +kernel), List.mem_of_getElem? (i := 802) (by decide +kernel)⟩
theorem lw_p51 : lw_okq (⟨"NearGroupsModel", "apartOf", "(III)V"⟩, 29) := ⟨⟨by decide +kernel, by decide +kernel⟩, List.mem_of_getElem? (i := 595) (by decide +kernel), List.mem_of_getElem? (i := 806) (by decide +kernel), List.mem_of_getElem? (i := 807) (by decide +kernel)⟩
theorem lw_p52 : lw_okq (⟨"NearGroupsModel", "of0", "(II)I"⟩, 29) := ⟨⟨by decide +kernel, by decide +kernel⟩, List.mem_of_getElem? (i := 595) (by decide +kernel), List.mem_of_getElem? (i := 827) (by decide +kernel), List.mem_of_getElem? (i := 828) (by decide +kernel)⟩
theorem lw_p53 : lw_okq (⟨"NearGroupsModel", "refused", "(II)I"⟩, 29) := ⟨⟨by decide +kernel, by decide +kernel⟩, List.mem_of_getElem? (i := 595) (by decide +kernel), List.mem_of_getElem? (i := 835) (by decide +kernel), List.mem_of_getElem? (i := 836) (by decide +kernel)⟩
theorem lw_p54 : lw_okq (⟨"NearGroupsModel", "sizeIn", "(II)I"⟩, 29) := ⟨⟨by decide +kernel, by decide +kernel⟩, List.mem_of_getElem? (i := 595) (by decide +kernel), List.mem_of_getElem? (i := 839) (by decide +kernel), List.mem_of_getElem? (i := 840) (by decide +kernel)⟩
theorem lw_p55 : lw_okq (⟨"NearGroupsModel", "sumIn", "(III)J"⟩, 29) := ⟨⟨by decide +kernel, by decide +kernel⟩, List.mem_of_getElem? (i := 595) (by decide +kernel), List.mem_of_getElem? (i := 847) (by decide +kernel), List.mem_of_getElem? (i := 848) (by decide +kernel)⟩
theorem lw_p56 : lw_okq (⟨"NearGroupsModel", "farFrom", "(IIII)J"⟩, 29) := ⟨⟨by decide +kernel, by decide +kernel⟩, List.mem_of_getElem? (i := 595) (by decide +kernel), List.mem_of_getElem? (i := 860) (by decide +kernel), List.mem_of_getElem? (i := 861) (by decide +kernel)⟩
def lw_privs_4 : List (MethodName × Nat) := [(⟨"NearGroupsModel", "spread", "(III)V"⟩, 29), (⟨"NearGroupsModel", "joinNext", "(I)V"⟩, 29), (⟨"NearGroupsModel", "gather", "()V"⟩, 29), (⟨"NearGroupsModel", "apartOf", "(III)V"⟩, 29), (⟨"NearGroupsModel", "of0", "(II)I"⟩, 29), (⟨"NearGroupsModel", "refused", "(II)I"⟩, 29), (⟨"NearGroupsModel", "sizeIn", "(II)I"⟩, 29), (⟨"NearGroupsModel", "sumIn", "(III)J"⟩, 29), (⟨"NearGroupsModel", "farFrom", "(IIII)J"⟩, 29)]
theorem lw_r4 : ∀ q ∈ lw_privs_4, lw_okq q := List.forall_mem_cons.mpr ⟨lw_p48, List.forall_mem_cons.mpr ⟨lw_p49, List.forall_mem_cons.mpr ⟨lw_p50, List.forall_mem_cons.mpr ⟨lw_p51, List.forall_mem_cons.mpr ⟨lw_p52, List.forall_mem_cons.mpr ⟨lw_p53, List.forall_mem_cons.mpr ⟨lw_p54, List.forall_mem_cons.mpr ⟨lw_p55, List.forall_mem_cons.mpr ⟨lw_p56, fun _ h => absurd h List.not_mem_nil⟩⟩⟩⟩⟩⟩⟩⟩⟩
def lw_privs : List (MethodName × Nat) := lw_privs_1 ++ (lw_privs_2 ++ (lw_privs_3 ++ (lw_privs_4)))
def lw_tbl : List Cond := k2_sels lw_privs ++ tables_1
theorem lw_privs_ok : ∀ q ∈ lw_privs, lw_okq q := by
  show ∀ q ∈ lw_privs_1 ++ (lw_privs_2 ++ (lw_privs_3 ++ (lw_privs_4))), lw_okq q
  exact List.forall_mem_append.mpr ⟨lw_r1, List.forall_mem_append.mpr ⟨lw_r2, List.forall_mem_append.mpr ⟨lw_r3, lw_r4⟩⟩⟩
end
section
def RX0 : String := "NearGroups$BestRows"
def TX0 : u_T := fun k => match k with
  | 0 => ("NearGroups$BestRows", "labels", "[I", true)
  | 1 => ("NearGroups$BestRows", "best", "[I", true)
  | 2 => ("NearGroups$BestRows", "trial", "[I", true)
  | 3 => ("NearGroups$BestRows", "leasts", "[I", true)
  | 4 => ("NearGroups$BestRows", "wanted", "I", false)
  | _ => ("NearGroups$BestRows", "bestTotal", "I", false)
def tyX0 : Nat → FieldType := fun k => match k with
  | 0 => .array .int
  | 1 => .array .int
  | 2 => .array .int
  | 3 => .array .int
  | 4 => .int
  | _ => .int
abbrev wsX00 : List Cond := u_ws RX0 TX0 6
theorem nmX0 : ∀ a, a < 6 → ∀ b, b < 6 → a ≠ b → (TX0 a).2.1 ≠ (TX0 b).2.1 := by decide +kernel
theorem tyX0_ok : ∀ k, k < 6 → parseFieldDescriptor (TX0 k).2.2.1 = some (tyX0 k) := by decide +kernel
abbrev cX0_init : ByteArray := prog_2_method_1_code
def yX0_init : MethodName := ⟨RX0, "<init>", "()V"⟩
abbrev cX0_search : ByteArray := prog_2_method_2_code
def yX0_search : MethodName := ⟨RX0, "search", "(LNearGroups$Table;II)I"⟩
abbrev cX0_tryRows : ByteArray := prog_2_method_3_code
def yX0_tryRows : MethodName := ⟨RX0, "tryRows", "(LNearGroups$Table;III)V"⟩
abbrev cX0_lowerLeasts : ByteArray := prog_2_method_4_code
def yX0_lowerLeasts : MethodName := ⟨RX0, "lowerLeasts", "(LNearGroups$Table;III)V"⟩
abbrev cX0_weighTrial : ByteArray := prog_2_method_5_code
def yX0_weighTrial : MethodName := ⟨RX0, "weighTrial", "(LNearGroups$Table;III)V"⟩
abbrev cX0_nearestBest : ByteArray := prog_2_method_6_code
def yX0_nearestBest : MethodName := ⟨RX0, "nearestBest", "(LNearGroups$Table;II)I"⟩
def RX1 : String := "NearGroups$DenseRows"
def TX1 : u_T := fun k => match k with
  | 0 => ("NearGroups$DenseRows", "labels", "[I", true)
  | 1 => ("NearGroups$DenseRows", "cores", "[Z", true)
  | _ => ("NearGroups$DenseRows", "waiting", "[I", true)
def tyX1 : Nat → FieldType := fun k => match k with
  | 0 => .array .int
  | 1 => .array .boolean
  | _ => .array .int
abbrev wsX10 : List Cond := u_ws RX1 TX1 3
theorem nmX1 : ∀ a, a < 3 → ∀ b, b < 3 → a ≠ b → (TX1 a).2.1 ≠ (TX1 b).2.1 := by decide +kernel
theorem tyX1_ok : ∀ k, k < 3 → parseFieldDescriptor (TX1 k).2.2.1 = some (tyX1 k) := by decide +kernel
abbrev cX1_init : ByteArray := prog_3_method_1_code
def yX1_init : MethodName := ⟨RX1, "<init>", "()V"⟩
abbrev cX1_spread : ByteArray := prog_3_method_2_code
def yX1_spread : MethodName := ⟨RX1, "spread", "(LNearGroups$Table;III)I"⟩
abbrev cX1_rowsWithin : ByteArray := prog_3_method_3_code
def yX1_rowsWithin : MethodName := ⟨RX1, "rowsWithin", "(LNearGroups$Table;III)I"⟩
abbrev cX1_spreadFrom : ByteArray := prog_3_method_4_code
def yX1_spreadFrom : MethodName := ⟨RX1, "spreadFrom", "(LNearGroups$Table;IIII)V"⟩
abbrev cX1_leastGroupWithin : ByteArray := prog_3_method_5_code
def yX1_leastGroupWithin : MethodName := ⟨RX1, "leastGroupWithin", "(LNearGroups$Table;III)I"⟩
def RX2 : String := "NearGroups$Fraction"
def TX2 : u_T := fun k => match k with
  | 0 => ("NearGroups$Fraction", "above", "J", false)
  | _ => ("NearGroups$Fraction", "below", "J", false)
def tyX2 : Nat → FieldType := fun k => match k with
  | 0 => .long
  | _ => .long
abbrev wsX20 : List Cond := u_ws RX2 TX2 2
theorem nmX2 : ∀ a, a < 2 → ∀ b, b < 2 → a ≠ b → (TX2 a).2.1 ≠ (TX2 b).2.1 := by decide +kernel
theorem tyX2_ok : ∀ k, k < 2 → parseFieldDescriptor (TX2 k).2.2.1 = some (tyX2 k) := by decide +kernel
abbrev cX2_init : ByteArray := prog_4_method_1_code
def yX2_init : MethodName := ⟨RX2, "<init>", "()V"⟩
abbrev cX2_put : ByteArray := prog_4_method_2_code
def yX2_put : MethodName := ⟨RX2, "put", "(JJ)V"⟩
abbrev cX2_add : ByteArray := prog_4_method_3_code
def yX2_add : MethodName := ⟨RX2, "add", "(JJ)V"⟩
abbrev cX2_part : ByteArray := prog_4_method_4_code
def yX2_part : MethodName := ⟨RX2, "part", "(I)J"⟩
abbrev cX2_commonDivisor : ByteArray := prog_4_method_5_code
def yX2_commonDivisor : MethodName := ⟨RX2, "commonDivisor", "(JJ)J"⟩
def RX3 : String := "NearGroups$Grouping"
def TX3 : u_T := fun k => match k with
  | 0 => ("NearGroups$Grouping", "groupOf", "[I", true)
  | 1 => ("NearGroups$Grouping", "sizes", "[I", true)
  | 2 => ("NearGroups$Grouping", "rows", "I", false)
  | _ => ("NearGroups$Grouping", "groups", "I", false)
def tyX3 : Nat → FieldType := fun k => match k with
  | 0 => .array .int
  | 1 => .array .int
  | 2 => .int
  | _ => .int
abbrev wsX30 : List Cond := u_ws RX3 TX3 4
theorem nmX3 : ∀ a, a < 4 → ∀ b, b < 4 → a ≠ b → (TX3 a).2.1 ≠ (TX3 b).2.1 := by decide +kernel
theorem tyX3_ok : ∀ k, k < 4 → parseFieldDescriptor (TX3 k).2.2.1 = some (tyX3 k) := by decide +kernel
abbrev cX3_init : ByteArray := prog_5_method_1_code
def yX3_init : MethodName := ⟨RX3, "<init>", "()V"⟩
abbrev cX3_isEmpty : ByteArray := prog_5_method_2_code
def yX3_isEmpty : MethodName := ⟨RX3, "isEmpty", "()Z"⟩
abbrev cX3_fill : ByteArray := prog_5_method_3_code
def yX3_fill : MethodName := ⟨RX3, "fill", "([III)V"⟩
abbrev cX3_holdsBoth : ByteArray := prog_5_method_4_code
def yX3_holdsBoth : MethodName := ⟨RX3, "holdsBoth", "(II)Z"⟩
abbrev cX3_total : ByteArray := prog_5_method_5_code
def yX3_total : MethodName := ⟨RX3, "total", "(LNearGroups$Table;II)J"⟩
abbrev cX3_squaresTimesSize : ByteArray := prog_5_method_6_code
def yX3_squaresTimesSize : MethodName := ⟨RX3, "squaresTimesSize", "(LNearGroups$Table;I)J"⟩
abbrev cX3_distancesTo : ByteArray := prog_5_method_7_code
def yX3_distancesTo : MethodName := ⟨RX3, "distancesTo", "(LNearGroups$Table;III)J"⟩
abbrev cX3_totalOfSquares : ByteArray := prog_5_method_8_code
def yX3_totalOfSquares : MethodName := ⟨RX3, "totalOfSquares", "(LNearGroups$Table;II)J"⟩
def RX4 : String := "NearGroups$Joins"
def TX4 : u_T := fun k => match k with
  | 0 => ("NearGroups$Joins", "firsts", "[I", true)
  | 1 => ("NearGroups$Joins", "seconds", "[I", true)
  | 2 => ("NearGroups$Joins", "together", "[I", true)
  | 3 => ("NearGroups$Joins", "aboves", "[J", true)
  | 4 => ("NearGroups$Joins", "belows", "[J", true)
  | 5 => ("NearGroups$Joins", "labels", "[I", true)
  | 6 => ("NearGroups$Joins", "sizes", "[I", true)
  | 7 => ("NearGroups$Joins", "totals", "[J", true)
  | 8 => ("NearGroups$Joins", "gaps", "[J", true)
  | 9 => ("NearGroups$Joins", "told", "LNearGroups$Fraction;", true)
  | 10 => ("NearGroups$Joins", "way", "I", false)
  | _ => ("NearGroups$Joins", "made", "I", false)
def tyX4 : Nat → FieldType := fun k => match k with
  | 0 => .array .int
  | 1 => .array .int
  | 2 => .array .int
  | 3 => .array .long
  | 4 => .array .long
  | 5 => .array .int
  | 6 => .array .int
  | 7 => .array .long
  | 8 => .array .long
  | 9 => .object "NearGroups$Fraction"
  | 10 => .int
  | _ => .int
abbrev wsX40 : List Cond := u_ws RX4 TX4 12
theorem nmX4 : ∀ a, a < 12 → ∀ b, b < 12 → a ≠ b → (TX4 a).2.1 ≠ (TX4 b).2.1 := by decide +kernel
theorem tyX4_ok : ∀ k, k < 12 → parseFieldDescriptor (TX4 k).2.2.1 = some (tyX4 k) := by decide +kernel
abbrev cX4_init : ByteArray := prog_6_method_1_code
def yX4_init : MethodName := ⟨RX4, "<init>", "()V"⟩
abbrev cX4_build : ByteArray := prog_6_method_2_code
def yX4_build : MethodName := ⟨RX4, "build", "(LNearGroups$Table;II)I"⟩
abbrev cX4_split : ByteArray := prog_6_method_3_code
def yX4_split : MethodName := ⟨RX4, "split", "(II)V"⟩
abbrev cX4_numberByLeastRows : ByteArray := prog_6_method_4_code
def yX4_numberByLeastRows : MethodName := ⟨RX4, "numberByLeastRows", "(I)V"⟩
abbrev cX4_placeRows : ByteArray := prog_6_method_5_code
def yX4_placeRows : MethodName := ⟨RX4, "placeRows", "(LNearGroups$Table;I)V"⟩
abbrev cX4_findNearest : ByteArray := prog_6_method_6_code
def yX4_findNearest : MethodName := ⟨RX4, "findNearest", "(LNearGroups$Table;)V"⟩
abbrev cX4_gapAbove : ByteArray := prog_6_method_7_code
def yX4_gapAbove : MethodName := ⟨RX4, "gapAbove", "(LNearGroups$Table;II)J"⟩
abbrev cX4_gapBelow : ByteArray := prog_6_method_8_code
def yX4_gapBelow : MethodName := ⟨RX4, "gapBelow", "(II)J"⟩
abbrev cX4_merge : ByteArray := prog_6_method_9_code
def yX4_merge : MethodName := ⟨RX4, "merge", "(LNearGroups$Table;II)V"⟩
abbrev cX4_gapToBoth : ByteArray := prog_6_method_10_code
def yX4_gapToBoth : MethodName := ⟨RX4, "gapToBoth", "(JJ)J"⟩
def RX5 : String := "NearGroups$MeanRounds"
def TX5 : u_T := fun k => match k with
  | 0 => ("NearGroups$MeanRounds", "labels", "[I", true)
  | 1 => ("NearGroups$MeanRounds", "before", "[I", true)
  | 2 => ("NearGroups$MeanRounds", "sizes", "[I", true)
  | 3 => ("NearGroups$MeanRounds", "totals", "[I", true)
  | 4 => ("NearGroups$MeanRounds", "divisors", "[I", true)
  | 5 => ("NearGroups$MeanRounds", "leasts", "[I", true)
  | _ => ("NearGroups$MeanRounds", "groups", "I", false)
def tyX5 : Nat → FieldType := fun k => match k with
  | 0 => .array .int
  | 1 => .array .int
  | 2 => .array .int
  | 3 => .array .int
  | 4 => .array .int
  | 5 => .array .int
  | _ => .int
abbrev wsX50 : List Cond := u_ws RX5 TX5 7
theorem nmX5 : ∀ a, a < 7 → ∀ b, b < 7 → a ≠ b → (TX5 a).2.1 ≠ (TX5 b).2.1 := by decide +kernel
theorem tyX5_ok : ∀ k, k < 7 → parseFieldDescriptor (TX5 k).2.2.1 = some (tyX5 k) := by decide +kernel
abbrev cX5_init : ByteArray := prog_7_method_1_code
def yX5_init : MethodName := ⟨RX5, "<init>", "()V"⟩
abbrev cX5_run : ByteArray := prog_7_method_2_code
def yX5_run : MethodName := ⟨RX5, "run", "(LNearGroups$Table;I)I"⟩
abbrev cX5_chooseFirstMeans : ByteArray := prog_7_method_3_code
def yX5_chooseFirstMeans : MethodName := ⟨RX5, "chooseFirstMeans", "(LNearGroups$Table;)V"⟩
abbrev cX5_putFirstMean : ByteArray := prog_7_method_4_code
def yX5_putFirstMean : MethodName := ⟨RX5, "putFirstMean", "(LNearGroups$Table;II)V"⟩
abbrev cX5_farthestFromChosen : ByteArray := prog_7_method_5_code
def yX5_farthestFromChosen : MethodName := ⟨RX5, "farthestFromChosen", "(LNearGroups$Table;I)I"⟩
abbrev cX5_moveRows : ByteArray := prog_7_method_6_code
def yX5_moveRows : MethodName := ⟨RX5, "moveRows", "(LNearGroups$Table;)Z"⟩
abbrev cX5_nearestMean : ByteArray := prog_7_method_7_code
def yX5_nearestMean : MethodName := ⟨RX5, "nearestMean", "(LNearGroups$Table;I)I"⟩
abbrev cX5_takeFarthest : ByteArray := prog_7_method_8_code
def yX5_takeFarthest : MethodName := ⟨RX5, "takeFarthest", "(LNearGroups$Table;I)V"⟩
abbrev cX5_noteMoves : ByteArray := prog_7_method_9_code
def yX5_noteMoves : MethodName := ⟨RX5, "noteMoves", "(I)Z"⟩
abbrev cX5_remakeMeans : ByteArray := prog_7_method_10_code
def yX5_remakeMeans : MethodName := ⟨RX5, "remakeMeans", "(LNearGroups$Table;)V"⟩
abbrev cX5_squaresAbove : ByteArray := prog_7_method_11_code
def yX5_squaresAbove : MethodName := ⟨RX5, "squaresAbove", "(LNearGroups$Table;II)J"⟩
abbrev cX5_squaresBelow : ByteArray := prog_7_method_12_code
def yX5_squaresBelow : MethodName := ⟨RX5, "squaresBelow", "(I)J"⟩
def RX6 : String := "NearGroups$Table"
def TX6 : u_T := fun k => match k with
  | 0 => ("NearGroups$Table", "cells", "[I", true)
  | 1 => ("NearGroups$Table", "distances", "[I", true)
  | 2 => ("NearGroups$Table", "width", "I", false)
  | _ => ("NearGroups$Table", "rows", "I", false)
def tyX6 : Nat → FieldType := fun k => match k with
  | 0 => .array .int
  | 1 => .array .int
  | 2 => .int
  | _ => .int
abbrev wsX60 : List Cond := u_ws RX6 TX6 4
theorem nmX6 : ∀ a, a < 4 → ∀ b, b < 4 → a ≠ b → (TX6 a).2.1 ≠ (TX6 b).2.1 := by decide +kernel
theorem tyX6_ok : ∀ k, k < 4 → parseFieldDescriptor (TX6 k).2.2.1 = some (tyX6 k) := by decide +kernel
abbrev cX6_init : ByteArray := prog_8_method_1_code
def yX6_init : MethodName := ⟨RX6, "<init>", "()V"⟩
abbrev cX6_takes : ByteArray := prog_8_method_2_code
def yX6_takes : MethodName := ⟨RX6, "takes", "(II)Z"⟩
abbrev cX6_append : ByteArray := prog_8_method_3_code
def yX6_append : MethodName := ⟨RX6, "append", "(IIII)I"⟩
abbrev cX6_cell : ByteArray := prog_8_method_4_code
def yX6_cell : MethodName := ⟨RX6, "cell", "(II)I"⟩
abbrev cX6_apart : ByteArray := prog_8_method_5_code
def yX6_apart : MethodName := ⟨RX6, "apart", "(III)I"⟩
abbrev cX6_placeOf : ByteArray := prog_8_method_6_code
def yX6_placeOf : MethodName := ⟨RX6, "placeOf", "(II)I"⟩
abbrev cX6_nearerThan : ByteArray := prog_8_method_7_code
def yX6_nearerThan : MethodName := ⟨RX6, "nearerThan", "(III)I"⟩
abbrev cX6_measure : ByteArray := prog_8_method_8_code
def yX6_measure : MethodName := ⟨RX6, "measure", "(II)V"⟩
abbrev cX6_note : ByteArray := prog_8_method_9_code
def yX6_note : MethodName := ⟨RX6, "note", "(IIII)V"⟩
def RX7 : String := "NearGroups"
def TX7 : u_T := fun k => match k with
  | 0 => ("NearGroups", "table", "LNearGroups$Table;", true)
  | 1 => ("NearGroups", "slots", "[LNearGroups$Grouping;", true)
  | 2 => ("NearGroups", "meanRounds", "LNearGroups$MeanRounds;", true)
  | 3 => ("NearGroups", "bestRows", "LNearGroups$BestRows;", true)
  | 4 => ("NearGroups", "denseRows", "LNearGroups$DenseRows;", true)
  | 5 => ("NearGroups", "joins", "LNearGroups$Joins;", true)
  | _ => ("NearGroups", "told", "LNearGroups$Fraction;", true)
def tyX7 : Nat → FieldType := fun k => match k with
  | 0 => .object "NearGroups$Table"
  | 1 => .array (.object "NearGroups$Grouping")
  | 2 => .object "NearGroups$MeanRounds"
  | 3 => .object "NearGroups$BestRows"
  | 4 => .object "NearGroups$DenseRows"
  | 5 => .object "NearGroups$Joins"
  | _ => .object "NearGroups$Fraction"
abbrev wsX70 : List Cond := u_ws RX7 TX7 7
theorem nmX7 : ∀ a, a < 7 → ∀ b, b < 7 → a ≠ b → (TX7 a).2.1 ≠ (TX7 b).2.1 := by decide +kernel
theorem tyX7_ok : ∀ k, k < 7 → parseFieldDescriptor (TX7 k).2.2.1 = some (tyX7 k) := by decide +kernel
abbrev cX7_init : ByteArray := prog_1_method_1_code
def yX7_init : MethodName := ⟨RX7, "<init>", "()V"⟩
abbrev cX7_columns : ByteArray := prog_1_method_2_code
def yX7_columns : MethodName := ⟨RX7, "columns", "(I)I"⟩
abbrev cX7_row : ByteArray := prog_1_method_3_code
def yX7_row : MethodName := ⟨RX7, "row", "(IIII)I"⟩
abbrev cX7_clear : ByteArray := prog_1_method_4_code
def yX7_clear : MethodName := ⟨RX7, "clear", "()I"⟩
abbrev cX7_count : ByteArray := prog_1_method_5_code
def yX7_count : MethodName := ⟨RX7, "count", "(I)I"⟩
abbrev cX7_distance : ByteArray := prog_1_method_6_code
def yX7_distance : MethodName := ⟨RX7, "distance", "(III)I"⟩
abbrev cX7_near : ByteArray := prog_1_method_7_code
def yX7_near : MethodName := ⟨RX7, "near", "(III)I"⟩
abbrev cX7_means : ByteArray := prog_1_method_8_code
def yX7_means : MethodName := ⟨RX7, "means", "(II)I"⟩
abbrev cX7_medoids : ByteArray := prog_1_method_9_code
def yX7_medoids : MethodName := ⟨RX7, "medoids", "(III)I"⟩
abbrev cX7_medoid : ByteArray := prog_1_method_10_code
def yX7_medoid : MethodName := ⟨RX7, "medoid", "(I)I"⟩
abbrev cX7_density : ByteArray := prog_1_method_11_code
def yX7_density : MethodName := ⟨RX7, "density", "(IIII)I"⟩
abbrev cX7_tree : ByteArray := prog_1_method_12_code
def yX7_tree : MethodName := ⟨RX7, "tree", "(II)I"⟩
abbrev cX7_join : ByteArray := prog_1_method_13_code
def yX7_join : MethodName := ⟨RX7, "join", "(II)J"⟩
abbrev cX7_cut : ByteArray := prog_1_method_14_code
def yX7_cut : MethodName := ⟨RX7, "cut", "(II)I"⟩
abbrev cX7_of : ByteArray := prog_1_method_15_code
def yX7_of : MethodName := ⟨RX7, "of", "(II)I"⟩
abbrev cX7_size : ByteArray := prog_1_method_16_code
def yX7_size : MethodName := ⟨RX7, "size", "(II)I"⟩
abbrev cX7_mean : ByteArray := prog_1_method_17_code
def yX7_mean : MethodName := ⟨RX7, "mean", "(IIII)I"⟩
abbrev cX7_sum : ByteArray := prog_1_method_18_code
def yX7_sum : MethodName := ⟨RX7, "sum", "(II)J"⟩
abbrev cX7_well : ByteArray := prog_1_method_19_code
def yX7_well : MethodName := ⟨RX7, "well", "(IIII)J"⟩
abbrev cX7_agree : ByteArray := prog_1_method_20_code
def yX7_agree : MethodName := ⟨RX7, "agree", "(I)I"⟩
abbrev cX7_forgetGroupings : ByteArray := prog_1_method_21_code
def yX7_forgetGroupings : MethodName := ⟨RX7, "forgetGroupings", "()V"⟩
abbrev cX7_isRow : ByteArray := prog_1_method_22_code
def yX7_isRow : MethodName := ⟨RX7, "isRow", "(I)Z"⟩
abbrev cX7_isKind : ByteArray := prog_1_method_23_code
def yX7_isKind : MethodName := ⟨RX7, "isKind", "(I)Z"⟩
abbrev cX7_isSlot : ByteArray := prog_1_method_24_code
def yX7_isSlot : MethodName := ⟨RX7, "isSlot", "(I)Z"⟩
abbrev cX7_isSide : ByteArray := prog_1_method_25_code
def yX7_isSide : MethodName := ⟨RX7, "isSide", "(I)Z"⟩
abbrev cX7_refusalOfGroup : ByteArray := prog_1_method_26_code
def yX7_refusalOfGroup : MethodName := ⟨RX7, "refusalOfGroup", "(II)I"⟩
abbrev cX7_reckonMean : ByteArray := prog_1_method_27_code
def yX7_reckonMean : MethodName := ⟨RX7, "reckonMean", "(LNearGroups$Grouping;II)V"⟩
abbrev cX7_reckonSum : ByteArray := prog_1_method_28_code
def yX7_reckonSum : MethodName := ⟨RX7, "reckonSum", "(LNearGroups$Grouping;)V"⟩
abbrev cX7_reckonWell : ByteArray := prog_1_method_29_code
def yX7_reckonWell : MethodName := ⟨RX7, "reckonWell", "(LNearGroups$Grouping;II)V"⟩
abbrev cX7_nearestOtherGroup : ByteArray := prog_1_method_30_code
def yX7_nearestOtherGroup : MethodName := ⟨RX7, "nearestOtherGroup", "(LNearGroups$Grouping;II)I"⟩
abbrev cX7_agreementOf : ByteArray := prog_1_method_31_code
def yX7_agreementOf : MethodName := ⟨RX7, "agreementOf", "(II)I"⟩
abbrev cX7_isLess : ByteArray := prog_1_method_32_code
def yX7_isLess : MethodName := ⟨RX7, "isLess", "(JJJJ)Z"⟩
def RX8 : String := "NearGroupsModel"
def TX8 : u_T := fun k => match k with
  | 0 => ("NearGroupsModel", "rows", "I", false)
  | 1 => ("NearGroupsModel", "columns", "I", false)
  | 2 => ("NearGroupsModel", "numbers", "[I", true)
  | 3 => ("NearGroupsModel", "isTold", "[Z", true)
  | 4 => ("NearGroupsModel", "groups", "[I", true)
  | 5 => ("NearGroupsModel", "groupOf", "[I", true)
  | 6 => ("NearGroupsModel", "medoidMany", "I", false)
  | 7 => ("NearGroupsModel", "medoids", "[I", true)
  | 8 => ("NearGroupsModel", "isTree", "Z", false)
  | 9 => ("NearGroupsModel", "joins", "I", false)
  | 10 => ("NearGroupsModel", "joinA", "[I", true)
  | 11 => ("NearGroupsModel", "joinB", "[I", true)
  | 12 => ("NearGroupsModel", "joinSize", "[I", true)
  | 13 => ("NearGroupsModel", "joinAbove", "[J", true)
  | 14 => ("NearGroupsModel", "joinBelow", "[J", true)
  | 15 => ("NearGroupsModel", "table", "[I", true)
  | 16 => ("NearGroupsModel", "sums", "[J", true)
  | 17 => ("NearGroupsModel", "many", "[I", true)
  | 18 => ("NearGroupsModel", "now", "[I", true)
  | 19 => ("NearGroupsModel", "chosen", "[Z", true)
  | 20 => ("NearGroupsModel", "isCore", "[Z", true)
  | 21 => ("NearGroupsModel", "cluster", "[I", true)
  | 22 => ("NearGroupsModel", "above", "J", false)
  | 23 => ("NearGroupsModel", "below", "J", false)
  | 24 => ("NearGroupsModel", "sizes", "[J", true)
  | 25 => ("NearGroupsModel", "columnSums", "[J", true)
  | 26 => ("NearGroupsModel", "least", "[J", true)
  | 27 => ("NearGroupsModel", "most", "[J", true)
  | _ => ("NearGroupsModel", "whole", "[J", true)
def tyX8 : Nat → FieldType := fun k => match k with
  | 0 => .int
  | 1 => .int
  | 2 => .array .int
  | 3 => .array .boolean
  | 4 => .array .int
  | 5 => .array .int
  | 6 => .int
  | 7 => .array .int
  | 8 => .boolean
  | 9 => .int
  | 10 => .array .int
  | 11 => .array .int
  | 12 => .array .int
  | 13 => .array .long
  | 14 => .array .long
  | 15 => .array .int
  | 16 => .array .long
  | 17 => .array .int
  | 18 => .array .int
  | 19 => .array .boolean
  | 20 => .array .boolean
  | 21 => .array .int
  | 22 => .long
  | 23 => .long
  | 24 => .array .long
  | 25 => .array .long
  | 26 => .array .long
  | 27 => .array .long
  | _ => .array .long
abbrev wsX80 : List Cond := u_ws RX8 TX8 29
theorem nmX8 : ∀ a, a < 29 → ∀ b, b < 29 → a ≠ b → (TX8 a).2.1 ≠ (TX8 b).2.1 := by decide +kernel
theorem tyX8_ok : ∀ k, k < 29 → parseFieldDescriptor (TX8 k).2.2.1 = some (tyX8 k) := by decide +kernel
abbrev cX8_init : ByteArray := prog_10_method_1_code
def yX8_init : MethodName := ⟨RX8, "<init>", "()V"⟩
abbrev cX8_within : ByteArray := prog_10_method_3_code
def yX8_within : MethodName := ⟨RX8, "within", "(III)Z"⟩
abbrev cX8_isRow : ByteArray := prog_10_method_4_code
def yX8_isRow : MethodName := ⟨RX8, "isRow", "(I)Z"⟩
abbrev cX8_common : ByteArray := prog_10_method_5_code
def yX8_common : MethodName := ⟨RX8, "common", "(JJ)J"⟩
abbrev cX8_forget : ByteArray := prog_10_method_6_code
def yX8_forget : MethodName := ⟨RX8, "forget", "()V"⟩
abbrev cX8_columns : ByteArray := prog_10_method_7_code
def yX8_columns : MethodName := ⟨RX8, "columns", "(I)I"⟩
abbrev cX8_row : ByteArray := prog_10_method_8_code
def yX8_row : MethodName := ⟨RX8, "row", "(IIII)I"⟩
abbrev cX8_clear : ByteArray := prog_10_method_9_code
def yX8_clear : MethodName := ⟨RX8, "clear", "()I"⟩
abbrev cX8_count : ByteArray := prog_10_method_10_code
def yX8_count : MethodName := ⟨RX8, "count", "(I)I"⟩
abbrev cX8_apart : ByteArray := prog_10_method_11_code
def yX8_apart : MethodName := ⟨RX8, "apart", "(III)I"⟩
abbrev cX8_lay : ByteArray := prog_10_method_12_code
def yX8_lay : MethodName := ⟨RX8, "lay", "(I)V"⟩
abbrev cX8_distance : ByteArray := prog_10_method_13_code
def yX8_distance : MethodName := ⟨RX8, "distance", "(III)I"⟩
abbrev cX8_near : ByteArray := prog_10_method_14_code
def yX8_near : MethodName := ⟨RX8, "near", "(III)I"⟩
abbrev cX8_chooseFirst : ByteArray := prog_10_method_15_code
def yX8_chooseFirst : MethodName := ⟨RX8, "chooseFirst", "(I)V"⟩
abbrev cX8_farthest : ByteArray := prog_10_method_16_code
def yX8_farthest : MethodName := ⟨RX8, "farthest", "()I"⟩
abbrev cX8_square : ByteArray := prog_10_method_17_code
def yX8_square : MethodName := ⟨RX8, "square", "(II)J"⟩
abbrev cX8_isNearer : ByteArray := prog_10_method_18_code
def yX8_isNearer : MethodName := ⟨RX8, "isNearer", "(IIII)Z"⟩
abbrev cX8_sizeNow : ByteArray := prog_10_method_19_code
def yX8_sizeNow : MethodName := ⟨RX8, "sizeNow", "(I)I"⟩
abbrev cX8_fill : ByteArray := prog_10_method_20_code
def yX8_fill : MethodName := ⟨RX8, "fill", "(I)V"⟩
abbrev cX8_takeMeans : ByteArray := prog_10_method_21_code
def yX8_takeMeans : MethodName := ⟨RX8, "takeMeans", "(I)V"⟩
abbrev cX8_means : ByteArray := prog_10_method_22_code
def yX8_means : MethodName := ⟨RX8, "means", "(II)I"⟩
abbrev cX8_nearestOf : ByteArray := prog_10_method_23_code
def yX8_nearestOf : MethodName := ⟨RX8, "nearestOf", "(IIIII)I"⟩
abbrev cX8_sumOf : ByteArray := prog_10_method_24_code
def yX8_sumOf : MethodName := ⟨RX8, "sumOf", "(IIII)I"⟩
abbrev cX8_medoids : ByteArray := prog_10_method_25_code
def yX8_medoids : MethodName := ⟨RX8, "medoids", "(III)I"⟩
abbrev cX8_medoid : ByteArray := prog_10_method_26_code
def yX8_medoid : MethodName := ⟨RX8, "medoid", "(I)I"⟩
abbrev cX8_density : ByteArray := prog_10_method_27_code
def yX8_density : MethodName := ⟨RX8, "density", "(IIII)I"⟩
abbrev cX8_spread : ByteArray := prog_10_method_28_code
def yX8_spread : MethodName := ⟨RX8, "spread", "(III)V"⟩
abbrev cX8_gather : ByteArray := prog_10_method_29_code
def yX8_gather : MethodName := ⟨RX8, "gather", "()V"⟩
abbrev cX8_apartOf : ByteArray := prog_10_method_30_code
def yX8_apartOf : MethodName := ⟨RX8, "apartOf", "(III)V"⟩
abbrev cX8_tree : ByteArray := prog_10_method_31_code
def yX8_tree : MethodName := ⟨RX8, "tree", "(II)I"⟩
abbrev cX8_joinNext : ByteArray := prog_10_method_32_code
def yX8_joinNext : MethodName := ⟨RX8, "joinNext", "(I)V"⟩
abbrev cX8_join : ByteArray := prog_10_method_33_code
def yX8_join : MethodName := ⟨RX8, "join", "(II)J"⟩
abbrev cX8_cut : ByteArray := prog_10_method_34_code
def yX8_cut : MethodName := ⟨RX8, "cut", "(II)I"⟩
abbrev cX8_of0 : ByteArray := prog_10_method_35_code
def yX8_of0 : MethodName := ⟨RX8, "of0", "(II)I"⟩
abbrev cX8_of : ByteArray := prog_10_method_36_code
def yX8_of : MethodName := ⟨RX8, "of", "(II)I"⟩
abbrev cX8_sizeIn : ByteArray := prog_10_method_37_code
def yX8_sizeIn : MethodName := ⟨RX8, "sizeIn", "(II)I"⟩
abbrev cX8_refused : ByteArray := prog_10_method_38_code
def yX8_refused : MethodName := ⟨RX8, "refused", "(II)I"⟩
abbrev cX8_size : ByteArray := prog_10_method_39_code
def yX8_size : MethodName := ⟨RX8, "size", "(II)I"⟩
abbrev cX8_sumIn : ByteArray := prog_10_method_40_code
def yX8_sumIn : MethodName := ⟨RX8, "sumIn", "(III)J"⟩
abbrev cX8_mean : ByteArray := prog_10_method_41_code
def yX8_mean : MethodName := ⟨RX8, "mean", "(IIII)I"⟩
abbrev cX8_sum : ByteArray := prog_10_method_42_code
def yX8_sum : MethodName := ⟨RX8, "sum", "(II)J"⟩
abbrev cX8_farFrom : ByteArray := prog_10_method_43_code
def yX8_farFrom : MethodName := ⟨RX8, "farFrom", "(IIII)J"⟩
abbrev cX8_well : ByteArray := prog_10_method_44_code
def yX8_well : MethodName := ⟨RX8, "well", "(IIII)J"⟩
abbrev cX8_agree : ByteArray := prog_10_method_45_code
def yX8_agree : MethodName := ⟨RX8, "agree", "(I)I"⟩
def RL : String := "NearGroupsLaw"
abbrev cL_law : ByteArray := code
def yL_law : MethodName := ⟨RL, "law", "([I)Z"⟩
abbrev vwCl : List vw_C := [(RX0, TX0, 6), (RX1, TX1, 3), (RX2, TX2, 2), (RX3, TX3, 4), (RX4, TX4, 12), (RX5, TX5, 7), (RX6, TX6, 4), (RX7, TX7, 7), (RX8, TX8, 29)]
end
section
-- the words of the tables that stand all through; those that only warm
abbrev qcl : List vw_C := vwCl
def qgr : String := "NearGroups$Grouping"
def qALL : List Cond := lw_tbl.filter goodWord
def qnest : Cond → Bool
  | .fieldLinkNest .. => true
  | .methodLinkNest .. => true
  | .arrayOver (.object _) => true
  | _ => false
def qNZ : List Cond := lw_tbl.filter qnest
theorem q_same {w : Cond} (h : w ∈ qNZ) {u U : State} (hv : u.vm = U.vm) (hz : va_Nw w u) : va_Nw w U := by
  have h2 := (List.mem_filter.mp h).2
  cases w
  case fieldLinkNest => exact va_Nw.same rfl hv hz
  case methodLinkNest => exact va_Nw.same rfl hv hz
  case arrayOver t =>
    cases t
    case object C => exact va_AO.moved (by rw [hv]; exact Vm.Alike.refl _) hz
    all_goals exact absurd h2 (by simp [qnest])
  all_goals exact absurd h2 (by simp [qnest])
theorem q_nw {w : Cond} (h : w ∈ qNZ) {A : Array Value} {U : State} (hz : w.before A U = true) : va_Nw w U := by
  have h2 := (List.mem_filter.mp h).2
  cases w
  case fieldLinkNest => exact va_Nw.of rfl hz
  case methodLinkNest => exact va_Nw.of rfl hz
  case arrayOver t =>
    cases t
    case object C => exact va_AO.of hz
    all_goals exact absurd h2 (by simp [qnest])
  all_goals exact absurd h2 (by simp [qnest])
/-! THE q LAYER: a machine over whole numbers. A state is: pc, locals, stack, and what the cells hold ('c k i': cell k, place i, a whole number); the cells lie at B, B + 1, .. and their kinds ('qL') stand apart from what they hold. 'qG' says: from such a state the machine comes to its end as Z says. -/
abbrev iR (z : Int) : Prop := -2147483648 ≤ z ∧ z ≤ 2147483647
abbrev lR (z : Int) : Prop := -9223372036854775808 ≤ z ∧ z ≤ 9223372036854775807
theorem q_it {z : Int} (h : iR z) : (Int32.ofInt z).toInt = z := Int32.toInt_ofInt_of_le (by omega) (by omega)
theorem q_lt {z : Int} (h : lR z) : (Int64.ofInt z).toInt = z := Int64.toInt_ofInt_of_le (by omega) (by omega)
theorem q_ofi (x : Int32) : iR x.toInt := ⟨by have := Int32.le_toInt x; omega, by have := Int32.toInt_lt x; omega⟩
theorem q_i0 : (0 : Int32) = Int32.ofInt 0 := by decide
theorem q_l0 : (0 : Int64) = Int64.ofInt 0 := by decide
theorem q_ilt {x y : Int} (hx : iR x) (hy : iR y) : Int32.ofInt x < Int32.ofInt y ↔ x < y := by rw [Int32.lt_iff_toInt_lt, q_it hx, q_it hy]
theorem q_ile {x y : Int} (hx : iR x) (hy : iR y) : Int32.ofInt x ≤ Int32.ofInt y ↔ x ≤ y := by rw [Int32.le_iff_toInt_le, q_it hx, q_it hy]
theorem q_ieq {x y : Int} (hx : iR x) (hy : iR y) : Int32.ofInt x = Int32.ofInt y ↔ x = y := by rw [← Int32.toInt_inj, q_it hx, q_it hy]
theorem q_llt {x y : Int} (hx : lR x) (hy : lR y) : Int64.ofInt x < Int64.ofInt y ↔ x < y := by rw [Int64.lt_iff_toInt_lt, q_lt hx, q_lt hy]
theorem q_leq {x y : Int} (hx : lR x) (hy : lR y) : Int64.ofInt x = Int64.ofInt y ↔ x = y := by rw [← Int64.toInt_inj, q_lt hx, q_lt hy]
theorem q_r0 : iR 0 := by omega
theorem q_i2l {z : Int} (h : iR z) : (Int32.ofInt z).toInt64 = Int64.ofInt z := Int32.toInt64_ofInt (by show (-2147483648 : Int) ≤ z; exact h.1) (by show z ≤ (2147483647 : Int); exact h.2)
theorem q_ldiv {a b : Int} (ha : lR a) (hb : lR b) : Int64.ofInt a / Int64.ofInt b = Int64.ofInt (a.tdiv b) := (Int64.ofInt_tdiv (by show (-9223372036854775808 : Int) ≤ a; exact ha.1) (by show a ≤ (9223372036854775807 : Int); exact ha.2) (by show (-9223372036854775808 : Int) ≤ b; exact hb.1) (by show b ≤ (9223372036854775807 : Int); exact hb.2)).symm
theorem q_lrem {a b : Int} (ha : lR a) (hb : lR b) : Int64.ofInt a - Int64.ofInt a / Int64.ofInt b * Int64.ofInt b = Int64.ofInt (a.tmod b) := by
  rw [q_ldiv ha hb, ← Int64.ofInt_mul, ← Int64.ofInt_sub]
  congr 1
  have := Int.tdiv_mul_add_tmod a b
  omega
theorem q_cl {z : Int} (h0 : 0 ≤ z) (h1 : z ≤ 2147483647) : (Int32.ofInt z).toNatClampNeg = z.toNat := Int32.toNatClampNeg_ofInt_of_le (by omega) (by omega)
theorem q_in {z : Int} {n : Nat} (h0 : 0 ≤ z) (h1 : z < n) (hn : n < 2147483648) : vp_in (Int32.ofInt z) n := by
  rw [vp_in_iff, q_it (by omega)]
  exact ⟨h0, h1⟩
theorem q_cmp {x y : Int} (hx : lR x) (hy : lR y) : lg_cmp (Int64.ofInt x) (Int64.ofInt y) = Int32.ofInt (if y < x then 1 else if x = y then 0 else -1) := by
  by_cases h1 : y < x
  · rw [if_pos h1]; simp [lg_cmp, (q_llt hy hx).mpr h1]; try decide
  · rw [if_neg h1]
    by_cases h2 : x = y
    · rw [if_pos h2]; subst h2; simp [lg_cmp]; try decide
    · rw [if_neg h2]
      have h3 : ¬ Int64.ofInt y < Int64.ofInt x := fun h => h1 ((q_llt hy hx).mp h)
      have h4 : ¬ Int64.ofInt x = Int64.ofInt y := fun h => h2 ((q_leq hx hy).mp h)
      simp [lg_cmp, h3, h4]; try decide
-- values, cells
abbrev qV : Type := Int ⊕ Int ⊕ Option Nat ⊕ Nat
def qI (z : Int) : qV := .inl z
def qJ (z : Int) : qV := .inr (.inl z)
def qP (k : Nat) : qV := .inr (.inr (.inl (some k)))
def qO (a : Nat) : qV := .inr (.inr (.inr a))
def qv (B : Nat) : qV → Value
  | .inl z => .int (Int32.ofInt z)
  | .inr (.inl z) => .long (Int64.ofInt z)
  | .inr (.inr (.inl none)) => .null
  | .inr (.inr (.inl (some k))) => .ref (B + k)
  | .inr (.inr (.inr a)) => .ref a
def qcat : qV → Nat
  | .inr (.inl _) => 2
  | _ => 1
theorem q_cat (B : Nat) (v : qV) : (qv B v).category = qcat v := by
  rcases v with z | z | (_ | k) | a <;> rfl
def qcs : List qV → Nat
  | [] => 0
  | v :: t => qcat v + qcs t
theorem q_cs (B : Nat) (st : List qV) : ((st.map (qv B)).map fun v => v.category).sum = qcs st := by
  induction st with
  | nil => rfl
  | cons v t ih => simp only [List.map_cons, List.sum_cons, ih, q_cat, qcs]
abbrev qF : Type := Option Nat ⊕ Nat
abbrev qL : Type := (Nat × Nat) ⊕ (Nat × (Nat → Option Nat)) ⊕ (Nat × List qF)
abbrev qS : Type := ClassId × ClassId × ClassId × ClassId
abbrev qC : Type := Nat → Int → Int
def qf (B : Nat) (z : Int) : qF → Value
  | .inl r => va_rf (r.map (B + ·))
  | .inr 1 => .long (Int64.ofInt z)
  | .inr _ => .int (Int32.ofInt z)
def qfs (B : Nat) (g : Int → Int) : Nat → List qF → List Value
  | _, [] => []
  | j, f :: t => qf B (g j) f :: qfs B g (j + 1) t
theorem q_fs (B : Nat) (g : Int → Int) (fs : List qF) : ∀ (j i : Nat), (qfs B g j fs)[i]? = (fs[i]?).map (qf B (g ((j + i : Nat) : Int))) := by
  induction fs with
  | nil => intro j i; simp [qfs]
  | cons f t ih =>
    intro j i
    cases i with
    | zero => simp [qfs]
    | succ i => simp only [qfs, List.getElem?_cons_succ, ih]; rw [show j + 1 + i = j + (i + 1) by omega]
theorem q_fsl (B : Nat) (g : Int → Int) (fs : List qF) : ∀ j : Nat, (qfs B g j fs).length = fs.length := by
  induction fs with
  | nil => intro j; rfl
  | cons f t ih => intro j; simp [qfs, ih]
def qE (B : Nat) (cs : qS) (g : Int → Int) : qL → va_E
  | .inl (0, n) => .inl (cs.1, n, .inl fun j => Int32.ofInt (g j))
  | .inl (1, n) => .inl (cs.2.1, n, .inr (.inl fun j => Int64.ofInt (g j)))
  | .inl (_, n) => .inl (cs.2.2.1, n, .inl fun j => Int32.ofInt (g j))
  | .inr (.inl (n, f)) => .inl (cs.2.2.2, n, .inr (.inr (.inr (.inr fun j => (f j).map (B + ·)))))
  | .inr (.inr (ci, fs)) => .inr (ci, qfs B g 0 fs)
def qu (c : qC) (k : Nat) (i x : Int) : qC := fun a => if a = k then (fun b => if b = i then x else c a b) else c a
theorem qu_ne {c : qC} {k a : Nat} {i x : Int} (h : a ≠ k) : qu c k i x a = c a := if_neg h
theorem qu_at (c : qC) (k : Nat) (i x j : Int) : qu c k i x k j = if j = i then x else c k j := by simp [qu]
theorem qu_eq (c : qC) (k : Nat) (i x : Int) : qu c k i x k i = x := by simp [qu]
theorem qu_off {c : qC} {k : Nat} {i x j : Int} (h : j ≠ i) : qu c k i x k j = c k j := by simp [qu, h]
def quL (L : Nat → qL) (k : Nat) (e : qL) : Nat → qL := fun a => if a = k then e else L a
def qtys (cs : qS) : List (ClassId × FieldType) := [(cs.1, .int), (cs.2.1, .long), (cs.2.2.1, .boolean), (cs.2.2.2, .object qgr)]
/-- the heap holds the cells -/
def qH (D : va_G) (cs : qS) (B : Nat) (L : Nat → qL) (n : Nat) (c : qC) (H : Heap) : Prop := H.size = B + n ∧ ∀ k, k < n → va_at D qcl (B + k, qE B cs (c k) (L k)) H
theorem qH.one {D : va_G} {cs : qS} {B : Nat} {L : Nat → qL} {n : Nat} {c : qC} {H : Heap} (h : qH D cs B L n c H) {k : Nat} (hk : k < n) {e : qL} (he : L k = e) : va_P D qcl [(B + k, qE B cs (c k) e)] H := by
  subst he
  intro j q hq
  cases j with
  | zero => cases hq; exact h.2 k hk
  | succ j => cases hq
theorem qH.set {D : va_G} {cs : qS} {B : Nat} {L L' : Nat → qL} {n : Nat} {c c' : qC} {H H1 : Heap} (h : qH D cs B L n c H) {k : Nat} (hz : H1.size = H.size) (ho : ∀ q, q ≠ B + k → H1[q]? = H[q]?) (ha : va_at D qcl (B + k, qE B cs (c' k) (L' k)) H1) (hc : ∀ j, j ≠ k → c' j = c j ∧ L' j = L j) : qH D cs B L' n c' H1 := by
  refine ⟨by rw [hz]; exact h.1, fun j hj => ?_⟩
  by_cases e : j = k
  · subst e; exact ha
  · rw [(hc j e).1, (hc j e).2]
    exact (h.2 j hj).kept (ho _ (by show B + j ≠ B + k; omega))
theorem qH.push {D : va_G} {cs : qS} {B : Nat} {L L' : Nat → qL} {n : Nat} {c c' : qC} {H H1 : Heap} (h : qH D cs B L n c H) (hz : H1.size = H.size + 1) (ho : ∀ q, q < H.size → H1[q]? = H[q]?) (ha : va_at D qcl (B + n, qE B cs (c' n) (L' n)) H1) (hc : ∀ j, j ≠ n → c' j = c j ∧ L' j = L j) : qH D cs B L' (n + 1) c' H1 := by
  refine ⟨by rw [hz, h.1]; omega, fun j hj => ?_⟩
  by_cases e : j = n
  · subst e; exact ha
  · rw [(hc j e).1, (hc j e).2]
    exact (h.2 j (by omega)).kept (ho _ (by show B + j < H.size; rw [h.1]; omega))
-- locals
def qLs (B : Nat) (ls : Array Slot) (lo : List (Option qV)) : Prop := ls.size = lo.length ∧ lv_wf ls ∧ ∀ (i : Nat) (v : qV), lo[i]? = some (some v) → ls[i]? = some (.val (qv B v))
def qlv (B : Nat) : Nat → List (Option qV) → List (Nat × Value)
  | _, [] => []
  | i, none :: t => qlv B (i + 1) t
  | i, some v :: t => (i, qv B v) :: qlv B (i + 1) t
theorem q_lvm (B : Nat) (lo : List (Option qV)) : ∀ (j i : Nat) (v : qV), lo[i]? = some (some v) → (j + i, qv B v) ∈ qlv B j lo := by
  induction lo with
  | nil => intro j i v h; cases h
  | cons a t ih =>
    intro j i v h
    cases i with
    | zero =>
      have e : a = some v := by simpa using h
      subst e
      exact List.mem_cons_self
    | succ i =>
      have h2 := ih (j + 1) i v (by simpa using h)
      rw [show j + 1 + i = j + (i + 1) by omega] at h2
      cases a with
      | none => exact h2
      | some u => exact List.mem_cons_of_mem _ h2
theorem q_lvo (B : Nat) (lo : List (Option qV)) : ∀ (j : Nat) (q : Nat × Value), q ∈ qlv B j lo → ∃ (i : Nat) (v : qV), lo[i]? = some (some v) ∧ q = (j + i, qv B v) := by
  induction lo with
  | nil => intro j q h; cases h
  | cons a t ih =>
    intro j q h
    cases a with
    | none =>
      obtain ⟨i, v, h1, h2⟩ := ih (j + 1) q h
      exact ⟨i + 1, v, by simpa using h1, by rw [h2, show j + 1 + i = j + (i + 1) by omega]⟩
    | some u =>
      rcases List.mem_cons.mp h with h | h
      · exact ⟨0, u, rfl, h⟩
      · obtain ⟨i, v, h1, h2⟩ := ih (j + 1) q h
        exact ⟨i + 1, v, by simpa using h1, by rw [h2, show j + 1 + i = j + (i + 1) by omega]⟩
theorem qLs.has {B : Nat} {ls : Array Slot} {lo : List (Option qV)} (h : qLs B ls lo) : lv_has ls lo.length (qlv B 0 lo) := by
  refine ⟨h.1, h.2.1, fun q hq => ?_⟩
  obtain ⟨i, v, h1, h2⟩ := q_lvo B lo 0 q hq
  subst h2
  have h3 := h.2.2 i v h1
  simpa using h3
theorem qLs.of {B : Nat} {ls : Array Slot} {lo : List (Option qV)} {l : List (Nat × Value)} (h : lv_has ls lo.length l) (hl : ∀ (i : Nat) (v : qV), lo[i]? = some (some v) → (i, qv B v) ∈ l) : qLs B ls lo :=
  ⟨h.1, h.2.1, fun i v hi => h.2.2 _ (hl i v hi)⟩
/-- is it a long? -/
def qlg : Option qV → Bool
  | some (.inr (.inl _)) => true
  | _ => false
/-- a value of one slot at place i -/
def qs1 (v : qV) : List (Option qV) → Nat → List (Option qV)
  | [], _ => []
  | _ :: t, 0 => some v :: t
  | a :: t, 1 => (if qlg a = true then none else a) :: qs1 v t 0
  | a :: t, i + 2 => a :: qs1 v t (i + 1)
/-- a value of two slots at place i -/
def qs2 (v : qV) : List (Option qV) → Nat → List (Option qV)
  | [], _ => []
  | _ :: [], 0 => [some v]
  | _ :: _ :: t, 0 => some v :: none :: t
  | a :: t, 1 => (if qlg a = true then none else a) :: qs2 v t 0
  | a :: t, i + 2 => a :: qs2 v t (i + 1)
theorem q_s1l (v : qV) : ∀ (lo : List (Option qV)) (i : Nat), (qs1 v lo i).length = lo.length
  | [], _ => rfl
  | _ :: _, 0 => rfl
  | a :: t, 1 => by simp [qs1, q_s1l v t 0]
  | a :: t, i + 2 => by simp [qs1, q_s1l v t (i + 1)]
theorem q_s2l (v : qV) : ∀ (lo : List (Option qV)) (i : Nat), (qs2 v lo i).length = lo.length
  | [], _ => rfl
  | _ :: [], 0 => rfl
  | _ :: _ :: _, 0 => rfl
  | a :: t, 1 => by simp [qs2, q_s2l v t 0]
  | a :: t, i + 2 => by simp [qs2, q_s2l v t (i + 1)]
theorem q_s1 (v : qV) : ∀ (lo : List (Option qV)) (i j : Nat) (u : qV), (qs1 v lo i)[j]? = some (some u) → (j = i ∧ u = v) ∨ (j ≠ i ∧ lo[j]? = some (some u) ∧ ¬ (j + 1 = i ∧ qcat u = 2))
  | [], i, j, u, h => by cases h
  | a :: t, 0, j, u, h => by
    cases j with
    | zero => left; refine ⟨rfl, ?_⟩; have : v = u := by simpa [qs1] using h
              exact this.symm
    | succ j => right; exact ⟨by omega, by simpa [qs1] using h, fun q => by omega⟩
  | a :: t, 1, j, u, h => by
    cases j with
    | zero =>
      right
      refine ⟨by omega, ?_, ?_⟩
      · by_cases ha : qlg a = true
        · simp [qs1, ha] at h
        · simpa [qs1, ha] using h
      · intro q
        by_cases ha : qlg a = true
        · simp [qs1, ha] at h
        · have e : a = some u := by simpa [qs1, ha] using h
          subst e
          rcases u with z | z | (_ | k) | b <;> simp [qcat, qlg] at q ha
    | succ j =>
      rcases q_s1 v t 0 j u (by simpa [qs1] using h) with ⟨h1, h2⟩ | ⟨h1, h2, h3⟩
      · left; exact ⟨by omega, h2⟩
      · right; exact ⟨by omega, by simpa using h2, fun q => by omega⟩
  | a :: t, i + 2, j, u, h => by
    cases j with
    | zero => right; exact ⟨by omega, by simpa [qs1] using h, fun q => by omega⟩
    | succ j =>
      rcases q_s1 v t (i + 1) j u (by simpa [qs1] using h) with ⟨h1, h2⟩ | ⟨h1, h2, h3⟩
      · left; exact ⟨by omega, h2⟩
      · right; exact ⟨by omega, by simpa using h2, fun q => h3 ⟨by omega, q.2⟩⟩
theorem q_s2 (v : qV) : ∀ (lo : List (Option qV)) (i j : Nat) (u : qV), (qs2 v lo i)[j]? = some (some u) → (j = i ∧ u = v) ∨ (j ≠ i ∧ j ≠ i + 1 ∧ lo[j]? = some (some u) ∧ ¬ (j + 1 = i ∧ qcat u = 2)) ∨ lo.length ≤ i + 1
  | [], i, j, u, h => by cases h
  | a :: [], 0, j, u, h => by right; right; simp
  | a :: b :: t, 0, j, u, h => by
    match j with
    | 0 => left; refine ⟨rfl, ?_⟩; have : v = u := by simpa [qs2] using h
           exact this.symm
    | 1 => simp [qs2] at h
    | j + 2 => right; left; exact ⟨by omega, by omega, by simpa [qs2] using h, fun q => by omega⟩
  | a :: t, 1, j, u, h => by
    cases j with
    | zero =>
      right; left
      refine ⟨by omega, by omega, ?_, ?_⟩
      · by_cases ha : qlg a = true
        · simp [qs2, ha] at h
        · simpa [qs2, ha] using h
      · intro q
        by_cases ha : qlg a = true
        · simp [qs2, ha] at h
        · have e : a = some u := by simpa [qs2, ha] using h
          subst e
          rcases u with z | z | (_ | k) | b <;> simp [qcat, qlg] at q ha
    | succ j =>
      rcases q_s2 v t 0 j u (by simpa [qs2] using h) with ⟨h1, h2⟩ | ⟨h1, h2, h3, h4⟩ | h1
      · left; exact ⟨by omega, h2⟩
      · right; left; exact ⟨by omega, by omega, by simpa using h3, fun q => by omega⟩
      · right; right; simp; omega
  | a :: t, i + 2, j, u, h => by
    cases j with
    | zero => right; left; exact ⟨by omega, by omega, by simpa [qs2] using h, fun q => by omega⟩
    | succ j =>
      rcases q_s2 v t (i + 1) j u (by simpa [qs2] using h) with ⟨h1, h2⟩ | ⟨h1, h2, h3, h4⟩ | h1
      · left; exact ⟨by omega, h2⟩
      · right; left; exact ⟨by omega, by omega, by simpa using h3, fun q => h4 ⟨by omega, q.2⟩⟩
      · right; right; simp; omega
theorem qLs.s1 {B : Nat} {ls : Array Slot} {lo : List (Option qV)} {i : Nat} {v : qV} (h : lv_has ls lo.length ((i, qv B v) :: (qlv B 0 lo).filter (fun q => !(q.1 == i) && !(q.1 + 1 == i && q.2.category == 2)))) : qLs B ls (qs1 v lo i) := by
  refine qLs.of (by rw [q_s1l]; exact h) (fun j u hj => ?_)
  rcases q_s1 v lo i j u hj with ⟨rfl, rfl⟩ | ⟨h1, h2, h3⟩
  · exact List.mem_cons_self
  · refine List.mem_cons_of_mem _ (List.mem_filter.mpr ⟨by have := q_lvm B lo 0 j u h2; simpa using this, ?_⟩)
    have h5 : ¬ (j + 1 = i ∧ (qv B u).category = 2) := by rw [q_cat]; exact h3
    simp only [Bool.and_eq_true, Bool.not_eq_true', beq_eq_false_iff_ne, Bool.and_eq_false_iff]
    refine ⟨h1, ?_⟩
    by_cases e : j + 1 = i
    · right; simpa using fun q => h5 ⟨e, q⟩
    · left; simpa using e
theorem qLs.s2 {B : Nat} {ls : Array Slot} {lo : List (Option qV)} {i : Nat} {v : qV} (hi : i + 1 < lo.length) (h : lv_has ls lo.length ((i, qv B v) :: (qlv B 0 lo).filter (fun q => !(q.1 == i) && (!(q.1 == i + 1) && !(q.1 + 1 == i && q.2.category == 2))))) : qLs B ls (qs2 v lo i) := by
  refine qLs.of (by rw [q_s2l]; exact h) (fun j u hj => ?_)
  rcases q_s2 v lo i j u hj with ⟨rfl, rfl⟩ | ⟨h1, h2, h3, h4⟩ | h1
  · exact List.mem_cons_self
  · refine List.mem_cons_of_mem _ (List.mem_filter.mpr ⟨by have := q_lvm B lo 0 j u h3; simpa using this, ?_⟩)
    have h5 : ¬ (j + 1 = i ∧ (qv B u).category = 2) := by rw [q_cat]; exact h4
    simp only [Bool.and_eq_true, Bool.not_eq_true', beq_eq_false_iff_ne, Bool.and_eq_false_iff]
    refine ⟨h1, h2, ?_⟩
    by_cases e : j + 1 = i
    · right; simpa using fun q => h5 ⟨e, q⟩
    · left; simpa using e
  · omega
end
section
/-! the judgement qG, the contract qK, a rule an instruction -/
abbrev qM : Type := MethodName × ByteArray × Nat × Option FieldType
abbrev qZt : Type := va_G → qS → Nat → State → Array Value → List Frame → State → Prop
abbrev qY : Type := qM × (Nat × Nat × Nat) × (State → Array Value → Nat → Prop) × qZt
abbrev qW : Type := (Nat → qL) × Nat × Nat × Nat
/-- what holds of the machine all through a method -/
def qCx (X : qM) (r : Nat × Nat × Nat) (p : Program) (R : Room) (s : State) (m : MethodId) (args : Array Value) (meth : Method) (cd : Code) (D : va_G) (cs : qS) (B : Nat) : Prop :=
  p.tables.exec = Jvm.exec ∧ cd.code = X.2.1 ∧ meth.sig.returnType = X.2.2.2 ∧ cd.maxLocals = X.2.2.1 ∧ s.vm.findClass X.1.cls = some m.cls ∧ (∀ w ∈ qALL, w.before args s = true) ∧ (∀ w ∈ qNZ, va_Nw w s) ∧ va_K D qcl (qtys cs) s ∧ meth.locks = false ∧ meth.name = X.1.name ∧ B ≤ s.heap.size ∧ r.1 ≤ R.frames ∧ 48 * r.1 ≤ R.locals ∧ r.2.1 ≤ R.cells ∧ r.2.2 ≤ R.slots
def qG (Y : qY) (w : qW) (pc : Nat) (lo : List (Option qV)) (st : List qV) (c : qC) : Prop :=
  ∀ (p : Program) (l : Launch) (e : Env) (R : Room) (s : State) (m : MethodId) (args : Array Value) (below : List Frame) (meth : Method) (cd : Code) (D : va_G) (cs : qS) (B : Nat) (H : Heap) (locs : List Loc) (ls : Array Slot),
    qCx Y.1 Y.2.1 p R s m args meth cd D cs B → Y.2.2.1 s args B → qH D cs B w.1 w.2.1 c H → va_S (fun q : Nat => B ≤ q) s.heap H locs → qLs B ls lo → ls.size = Y.1.2.2.1 →
    W p l e R s m args below meth cd H locs w.2.2.1 w.2.2.2 (Y.2.2.2 D cs B s args below) (F0 m pc ls (st.map (qv B)))
def qE0 : State → Array Value → Nat → Prop := fun _ _ _ => True
/-- a method's end -/
def qQ (post : Option qV → (Nat → qL) → Nat → qC → Prop) (D : va_G) (cs : qS) (B : Nat) : Array Value → State → Outcome → State → Prop := fun _ st oc t => (∃ (r : Option qV) (L : Nat → qL) (n : Nat) (c : qC), oc = .returned (r.map (qv B)) ∧ post r L n c ∧ qH D cs B L n c t.heap) ∧ va_F (fun q : Nat => B ≤ q) st t
def qZm (post : Option qV → (Nat → qL) → Nat → qC → Prop) (mc ms : Nat) : qZt := fun D cs B s args below => MQ below (qQ post D cs B) args s mc ms (fun q : Nat => B ≤ q)
def qrm (r : Nat × Nat × Nat) : Room := { frames := r.1, cells := r.2.1, slots := r.2.2, locals := 48 * r.1 }
/-- a state in which a method may be called -/
def qU (D : va_G) (cs : qS) (B : Nat) (L : Nat → qL) (n : Nat) (c : qC) (U : State) : Prop := B ≤ U.heap.size ∧ qH D cs B L n c U.heap ∧ va_K D qcl (qtys cs) U ∧ ∀ w ∈ qNZ, va_Nw w U
/-- THE CONTRACT: from these arguments and cells the method X returns, with 'post' of its answer and of the cells -/
def qK (X : qM) (r : Nat × Nat × Nat) (as : List qV) (L : Nat → qL) (n : Nat) (c : qC) (post : Option qV → (Nat → qL) → Nat → qC → Prop) : Prop :=
  ∀ (l : Launch) (D : va_G) (cs : qS) (B : Nat), Met l X.1 (Cond.code X.1 X.2.1 X.2.2.1 X.2.2.2 :: qALL) (qrm r) (va_Pc (as.map (qv B)) (qU D cs B L n c)) (qQ post D cs B) r.2.1 r.2.2 (fun q : Nat => B ≤ q)
theorem qK.of {X : qM} {r : Nat × Nat × Nat} {as : List qV} {L : Nat → qL} {n : Nat} {c : qC} {post : Option qV → (Nat → qL) → Nat → qC → Prop} (lo : List (Option qV)) (hp : plainName X.1.cls = true) (hlen : lo.length = X.2.2.1) (hlo : ∀ B : Nat, qlv B 0 lo = lv_args 0 (as.map (qv B))) (hsl : ∀ B : Nat, (lg_sl (as.map (qv B))).length ≤ X.2.2.1)
    (h : qG (X, r, qE0, qZm post r.2.1 r.2.2) (L, n, 0, 0) 0 lo [] c) : qK X r as L n c post := by
  intro l D cs B
  refine Met.ofW (cc := X.2.1) (maxL := X.2.2.1) (ret := X.2.2.2) hp rfl ?_
  intro p e s m args below meth cd s₁ Bd hml hv
  obtain ⟨rfl, hB, hH, hK, hN⟩ := hv
  have hts := atoms_spec (ws := Cond.code X.1 X.2.1 X.2.2.1 X.2.2.2 :: qALL) Bd.pre
  have hl := lv_entry (as.map (qv B)) (n := X.2.2.1) (hsl B)
  rw [lg_entry_eq]
  generalize (lg_sl (as.map (qv B)) ++ List.replicate (X.2.2.1 - (lg_sl (as.map (qv B))).length) Slot.unset).toArray = ls at hl ⊢
  refine h p l e _ s m _ below meth cd D cs B s.heap [] ls ⟨Bd.exec, Bd.bytes, Bd.returns, hml, findClass_of_methodNamed Bd.named, fun w hw => hts w (List.mem_cons_of_mem _ hw), hN, hK, Bd.notSynchronized, (name_of_methodNamed Bd.named Bd.method).1, hB, Nat.le_refl _, Nat.le_refl _, Nat.le_refl _, Nat.le_refl _⟩ trivial hH va_S.rf ?_ hl.1
  refine qLs.of (by rw [hlen]; exact hl) (fun i v hi => ?_)
  rw [← hlo B]
  have := q_lvm B lo 0 i v hi
  simpa using this
section QG
variable {Y : qY} {w : qW} {pc : Nat} {lo : List (Option qV)} {st : List qV} {c : qC}
theorem qG.name {x : Int} (h : ∀ y : Int, y = x → qG Y w pc lo (qI y :: st) c) : qG Y w pc lo (qI x :: st) c := h x rfl
theorem qG.nameJ {x : Int} (h : ∀ y : Int, y = x → qG Y w pc lo (qJ y :: st) c) : qG Y w pc lo (qJ x :: st) c := h x rfl
theorem qG.to {pc' : Nat} {lo' : List (Option qV)} {st' : List qV} {c' : qC} (h : qG Y w pc lo st c) (h1 : pc = pc') (h2 : lo = lo') (h3 : st = st') (h4 : c = c') : qG Y w pc' lo' st' c' := by
  subst h1; subst h2; subst h3; subst h4; exact h
/-- fewer locals are named -/
theorem qG.fewer {lo' : List (Option qV)} (h : qG Y w pc lo st c) (hl : lo.length = lo'.length) (h2 : ∀ (i : Nat) (v : qV), lo[i]? = some (some v) → lo'[i]? = some (some v)) : qG Y w pc lo' st c :=
  fun p l e R s m args below meth cd D cs B H locs ls C hE hH hS hl0 hn => h p l e R s m args below meth cd D cs B H locs ls C hE hH hS ⟨hl0.1.trans hl.symm, hl0.2.1, fun i v hi => hl0.2.2 i v (h2 i v hi)⟩ hn

theorem q_lr0 : lR 0 := by omega
theorem g_iconst {n : Int} (hd : decode Y.1.2.1 pc = .ok (.iconst n, 1)) (h : qG Y w (pc + 1) lo (qI n :: st) c) : qG Y w pc lo st c := by
  intro p l e R s m args below meth cd D cs B H locs ls C hE hH hS hl hn
  refine lv_iconst C.1 C.2.1 hd rfl ?_
  exact h p l e R s m args below meth cd D cs B H locs ls C hE hH hS hl hn
theorem g_bipush {n : Int} (hd : decode Y.1.2.1 pc = .ok (.bipush n, 2)) (hr : (Int8.ofInt n).toInt32 = Int32.ofInt n) (h : qG Y w (pc + 2) lo (qI n :: st) c) : qG Y w pc lo st c := by
  intro p l e R s m args below meth cd D cs B H locs ls C hE hH hS hl hn
  refine lv_bipush C.1 C.2.1 hd hr ?_
  exact h p l e R s m args below meth cd D cs B H locs ls C hE hH hS hl hn
theorem g_sipush {n : Int} (hd : decode Y.1.2.1 pc = .ok (.sipush n, 3)) (hr : (Int16.ofInt n).toInt32 = Int32.ofInt n) (h : qG Y w (pc + 3) lo (qI n :: st) c) : qG Y w pc lo st c := by
  intro p l e R s m args below meth cd D cs B H locs ls C hE hH hS hl hn
  refine lv_sipush C.1 C.2.1 hd hr ?_
  exact h p l e R s m args below meth cd D cs B H locs ls C hE hH hS hl hn
theorem g_lconst {n : Fin 2} {z : Int} (hd : decode Y.1.2.1 pc = .ok (.lconst n, 1)) (hz : Int64.ofNat (n : Nat) = Int64.ofInt z) (h : qG Y w (pc + 1) lo (qJ z :: st) c) : qG Y w pc lo st c := by
  intro p l e R s m args below meth cd D cs B H locs ls C hE hH hS hl hn
  refine lv_lconst C.1 C.2.1 hd hz ?_
  exact h p l e R s m args below meth cd D cs B H locs ls C hE hH hS hl hn
theorem g_ldc {i : Nat} {z : Int} (hd : decode Y.1.2.1 pc = .ok (.ldc i, 2)) (hw : Cond.constant Y.1.1.cls i (Int32.ofInt z) ∈ qALL) (h : qG Y w (pc + 2) lo (qI z :: st) c) : qG Y w pc lo st c := by
  intro p l e R s m args below meth cd D cs B H locs ls C hE hH hS hl hn
  refine lv_ldc C.1 C.2.1 C.2.2.2.2.1 (C.2.2.2.2.2.1 _ hw) hd ?_
  exact h p l e R s m args below meth cd D cs B H locs ls C hE hH hS hl hn
theorem g_ldc2 {i : Nat} {z : Int} (hd : decode Y.1.2.1 pc = .ok (.ldc2_w i, 3)) (hw : Cond.constantLong Y.1.1.cls i (Int64.ofInt z) ∈ qALL) (h : qG Y w (pc + 3) lo (qJ z :: st) c) : qG Y w pc lo st c := by
  intro p l e R s m args below meth cd D cs B H locs ls C hE hH hS hl hn
  refine lv_ldc2 C.1 C.2.1 C.2.2.2.2.1 (C.2.2.2.2.2.1 _ hw) hd ?_
  exact h p l e R s m args below meth cd D cs B H locs ls C hE hH hS hl hn
theorem g_iload {i : Nat} {z : Int} (hd : decode Y.1.2.1 pc = .ok (.iload i, 2)) (hi : lo[i]? = some (some (qI z))) (h : qG Y w (pc + 2) lo (qI z :: st) c) : qG Y w pc lo st c := by
  intro p l e R s m args below meth cd D cs B H locs ls C hE hH hS hl hn
  refine lv_iload C.1 C.2.1 hd (hl.2.2 i _ hi) ?_
  exact h p l e R s m args below meth cd D cs B H locs ls C hE hH hS hl hn
theorem g_iload_n {k : Fin 4} {i : Nat} {z : Int} (hd : decode Y.1.2.1 pc = .ok (.iload_n k, 1)) (hk : (k : Nat) = i) (hi : lo[i]? = some (some (qI z))) (h : qG Y w (pc + 1) lo (qI z :: st) c) : qG Y w pc lo st c := by
  intro p l e R s m args below meth cd D cs B H locs ls C hE hH hS hl hn
  refine lv_iload_n C.1 C.2.1 hd hk (hl.2.2 i _ hi) ?_
  exact h p l e R s m args below meth cd D cs B H locs ls C hE hH hS hl hn
theorem g_lload {i : Nat} {z : Int} (hd : decode Y.1.2.1 pc = .ok (.lload i, 2)) (hi : lo[i]? = some (some (qJ z))) (h : qG Y w (pc + 2) lo (qJ z :: st) c) : qG Y w pc lo st c := by
  intro p l e R s m args below meth cd D cs B H locs ls C hE hH hS hl hn
  refine lv_lload C.1 C.2.1 hd (hl.2.2 i _ hi) ?_
  exact h p l e R s m args below meth cd D cs B H locs ls C hE hH hS hl hn
theorem g_lload_n {k : Fin 4} {i : Nat} {z : Int} (hd : decode Y.1.2.1 pc = .ok (.lload_n k, 1)) (hk : (k : Nat) = i) (hi : lo[i]? = some (some (qJ z))) (h : qG Y w (pc + 1) lo (qJ z :: st) c) : qG Y w pc lo st c := by
  intro p l e R s m args below meth cd D cs B H locs ls C hE hH hS hl hn
  refine lv_lload_n C.1 C.2.1 hd hk (hl.2.2 i _ hi) ?_
  exact h p l e R s m args below meth cd D cs B H locs ls C hE hH hS hl hn
theorem g_aload {i : Nat} {z : Nat} (hd : decode Y.1.2.1 pc = .ok (.aload i, 2)) (hi : lo[i]? = some (some (qP z))) (h : qG Y w (pc + 2) lo (qP z :: st) c) : qG Y w pc lo st c := by
  intro p l e R s m args below meth cd D cs B H locs ls C hE hH hS hl hn
  refine lv_aload C.1 C.2.1 hd (hl.2.2 i _ hi) ?_
  exact h p l e R s m args below meth cd D cs B H locs ls C hE hH hS hl hn
theorem g_aload_n {k : Fin 4} {i : Nat} {z : Nat} (hd : decode Y.1.2.1 pc = .ok (.aload_n k, 1)) (hk : (k : Nat) = i) (hi : lo[i]? = some (some (qP z))) (h : qG Y w (pc + 1) lo (qP z :: st) c) : qG Y w pc lo st c := by
  intro p l e R s m args below meth cd D cs B H locs ls C hE hH hS hl hn
  refine lv_aload_n C.1 C.2.1 hd hk (hl.2.2 i _ hi) ?_
  exact h p l e R s m args below meth cd D cs B H locs ls C hE hH hS hl hn
theorem g_aloadO_n {k : Fin 4} {i z : Nat} (hd : decode Y.1.2.1 pc = .ok (.aload_n k, 1)) (hk : (k : Nat) = i) (hi : lo[i]? = some (some (qO z))) (h : qG Y w (pc + 1) lo (qO z :: st) c) : qG Y w pc lo st c := by
  intro p l e R s m args below meth cd D cs B H locs ls C hE hH hS hl hn
  refine lv_aload_n C.1 C.2.1 hd hk (hl.2.2 i _ hi) ?_
  exact h p l e R s m args below meth cd D cs B H locs ls C hE hH hS hl hn
theorem g_istore_g {i : Nat} {z : Int} {lo' : List (Option qV)} (hd : decode Y.1.2.1 pc = .ok (.istore i, 2)) (hb : i < lo.length) (hlo : qs1 (qI z) lo i = lo') (h : qG Y w (pc + 2) lo' st c) : qG Y w pc lo (qI z :: st) c := by
  subst hlo
  intro p l e R s m args below meth cd D cs B H locs ls C hE hH hS hl hn
  refine lv_istore C.1 C.2.1 hd hl.has hb rfl (fun ls2 hl2 => ?_)
  exact h p l e R s m args below meth cd D cs B H locs ls2 C hE hH hS (qLs.s1 hl2) (by rw [hl2.1, ← hl.1, hn])
theorem g_istore_ng {k : Fin 4} {i : Nat} {z : Int} {lo' : List (Option qV)} (hd : decode Y.1.2.1 pc = .ok (.istore_n k, 1)) (hk : (k : Nat) = i) (hb : i < lo.length) (hlo : qs1 (qI z) lo i = lo') (h : qG Y w (pc + 1) lo' st c) : qG Y w pc lo (qI z :: st) c := by
  subst hlo
  intro p l e R s m args below meth cd D cs B H locs ls C hE hH hS hl hn
  refine lv_istore_n C.1 C.2.1 hd hk hl.has hb rfl (fun ls2 hl2 => ?_)
  exact h p l e R s m args below meth cd D cs B H locs ls2 C hE hH hS (qLs.s1 hl2) (by rw [hl2.1, ← hl.1, hn])
theorem g_lstore_g {i : Nat} {z : Int} {lo' : List (Option qV)} (hd : decode Y.1.2.1 pc = .ok (.lstore i, 2)) (hb : i + 1 < lo.length) (hlo : qs2 (qJ z) lo i = lo') (h : qG Y w (pc + 2) lo' st c) : qG Y w pc lo (qJ z :: st) c := by
  subst hlo
  intro p l e R s m args below meth cd D cs B H locs ls C hE hH hS hl hn
  refine lv_lstore C.1 C.2.1 hd hl.has hb rfl (fun ls2 hl2 => ?_)
  exact h p l e R s m args below meth cd D cs B H locs ls2 C hE hH hS (qLs.s2 hb hl2) (by rw [hl2.1, ← hl.1, hn])
theorem g_lstore_ng {k : Fin 4} {i : Nat} {z : Int} {lo' : List (Option qV)} (hd : decode Y.1.2.1 pc = .ok (.lstore_n k, 1)) (hk : (k : Nat) = i) (hb : i + 1 < lo.length) (hlo : qs2 (qJ z) lo i = lo') (h : qG Y w (pc + 1) lo' st c) : qG Y w pc lo (qJ z :: st) c := by
  subst hlo
  intro p l e R s m args below meth cd D cs B H locs ls C hE hH hS hl hn
  refine lv_lstore_n C.1 C.2.1 hd hk hl.has hb rfl (fun ls2 hl2 => ?_)
  exact h p l e R s m args below meth cd D cs B H locs ls2 C hE hH hS (qLs.s2 hb hl2) (by rw [hl2.1, ← hl.1, hn])
theorem g_astore_g {i : Nat} {z : Nat} {lo' : List (Option qV)} (hd : decode Y.1.2.1 pc = .ok (.astore i, 2)) (hb : i < lo.length) (hlo : qs1 (qP z) lo i = lo') (h : qG Y w (pc + 2) lo' st c) : qG Y w pc lo (qP z :: st) c := by
  subst hlo
  intro p l e R s m args below meth cd D cs B H locs ls C hE hH hS hl hn
  refine lv_astore C.1 C.2.1 hd hl.has hb rfl (fun ls2 hl2 => ?_)
  exact h p l e R s m args below meth cd D cs B H locs ls2 C hE hH hS (qLs.s1 hl2) (by rw [hl2.1, ← hl.1, hn])
theorem g_astore_ng {k : Fin 4} {i : Nat} {z : Nat} {lo' : List (Option qV)} (hd : decode Y.1.2.1 pc = .ok (.astore_n k, 1)) (hk : (k : Nat) = i) (hb : i < lo.length) (hlo : qs1 (qP z) lo i = lo') (h : qG Y w (pc + 1) lo' st c) : qG Y w pc lo (qP z :: st) c := by
  subst hlo
  intro p l e R s m args below meth cd D cs B H locs ls C hE hH hS hl hn
  refine lv_astore_n C.1 C.2.1 hd hk hl.has hb rfl (fun ls2 hl2 => ?_)
  exact h p l e R s m args below meth cd D cs B H locs ls2 C hE hH hS (qLs.s1 hl2) (by rw [hl2.1, ← hl.1, hn])
theorem g_iinc_g {i : Nat} {n z : Int} {lo' : List (Option qV)} (hd : decode Y.1.2.1 pc = .ok (.iinc i n, 3)) (hi : lo[i]? = some (some (qI z))) (hlo : qs1 (qI (z + n)) lo i = lo') (h : qG Y w (pc + 3) lo' st c) : qG Y w pc lo st c := by
  subst hlo
  intro p l e R s m args below meth cd D cs B H locs ls C hE hH hS hl hn
  have hm := q_lvm B lo 0 i _ hi
  rw [Nat.zero_add] at hm
  obtain ⟨k, hk⟩ := List.getElem?_of_mem hm
  have hb : i < lo.length := (List.getElem?_eq_some_iff.mp hi).1
  refine lv_iinc (v := Int32.ofInt (z + n)) C.1 C.2.1 hd hl.has (k := k) hk (Int32.ofInt_add z n).symm hb rfl (fun ls2 hl2 => ?_)
  exact h p l e R s m args below meth cd D cs B H locs ls2 C hE hH hS (qLs.s1 (v := qI (z + n)) hl2) (by rw [hl2.1, ← hl.1, hn])
theorem g_iadd {x y : Int} (hd : decode Y.1.2.1 pc = .ok (.iadd, 1))
    (h : qG Y w (pc + 1) lo (qI (x + y) :: st) c) : qG Y w pc lo (qI y :: qI x :: st) c := by
  intro p l e R s m args below meth cd D cs B H locs ls C hE hH hS hl hn
  refine lv_iadd (x := Int32.ofInt x) (y := Int32.ofInt y) C.1 C.2.1 hd ?_
  rw [← Int32.ofInt_add]
  exact h p l e R s m args below meth cd D cs B H locs ls C hE hH hS hl hn
theorem g_isub {x y : Int} (hd : decode Y.1.2.1 pc = .ok (.isub, 1))
    (h : qG Y w (pc + 1) lo (qI (x - y) :: st) c) : qG Y w pc lo (qI y :: qI x :: st) c := by
  intro p l e R s m args below meth cd D cs B H locs ls C hE hH hS hl hn
  refine lv_isub (x := Int32.ofInt x) (y := Int32.ofInt y) C.1 C.2.1 hd ?_
  rw [← Int32.ofInt_sub]
  exact h p l e R s m args below meth cd D cs B H locs ls C hE hH hS hl hn
theorem g_imul {x y : Int} (hd : decode Y.1.2.1 pc = .ok (.imul, 1))
    (h : qG Y w (pc + 1) lo (qI (x * y) :: st) c) : qG Y w pc lo (qI y :: qI x :: st) c := by
  intro p l e R s m args below meth cd D cs B H locs ls C hE hH hS hl hn
  refine lv_imul (x := Int32.ofInt x) (y := Int32.ofInt y) C.1 C.2.1 hd ?_
  rw [← Int32.ofInt_mul]
  exact h p l e R s m args below meth cd D cs B H locs ls C hE hH hS hl hn
theorem g_ladd {x y : Int} (hd : decode Y.1.2.1 pc = .ok (.ladd, 1))
    (h : qG Y w (pc + 1) lo (qJ (x + y) :: st) c) : qG Y w pc lo (qJ y :: qJ x :: st) c := by
  intro p l e R s m args below meth cd D cs B H locs ls C hE hH hS hl hn
  refine lv_ladd (x := Int64.ofInt x) (y := Int64.ofInt y) C.1 C.2.1 hd ?_
  rw [← Int64.ofInt_add]
  exact h p l e R s m args below meth cd D cs B H locs ls C hE hH hS hl hn
theorem g_lsub {x y : Int} (hd : decode Y.1.2.1 pc = .ok (.lsub, 1))
    (h : qG Y w (pc + 1) lo (qJ (x - y) :: st) c) : qG Y w pc lo (qJ y :: qJ x :: st) c := by
  intro p l e R s m args below meth cd D cs B H locs ls C hE hH hS hl hn
  refine lv_lsub (x := Int64.ofInt x) (y := Int64.ofInt y) C.1 C.2.1 hd ?_
  rw [← Int64.ofInt_sub]
  exact h p l e R s m args below meth cd D cs B H locs ls C hE hH hS hl hn
theorem g_lmul {x y : Int} (hd : decode Y.1.2.1 pc = .ok (.lmul, 1))
    (h : qG Y w (pc + 1) lo (qJ (x * y) :: st) c) : qG Y w pc lo (qJ y :: qJ x :: st) c := by
  intro p l e R s m args below meth cd D cs B H locs ls C hE hH hS hl hn
  refine lv_lmul (x := Int64.ofInt x) (y := Int64.ofInt y) C.1 C.2.1 hd ?_
  rw [← Int64.ofInt_mul]
  exact h p l e R s m args below meth cd D cs B H locs ls C hE hH hS hl hn
theorem g_i2l {x : Int} (hd : decode Y.1.2.1 pc = .ok (.i2l, 1)) (hx : iR x := by omega)
    (h : qG Y w (pc + 1) lo (qJ x :: st) c) : qG Y w pc lo (qI x :: st) c := by
  intro p l e R s m args below meth cd D cs B H locs ls C hE hH hS hl hn
  refine lv_i2l C.1 C.2.1 hd (q_i2l hx) ?_
  exact h p l e R s m args below meth cd D cs B H locs ls C hE hH hS hl hn
theorem g_l2i {x : Int} (hd : decode Y.1.2.1 pc = .ok (.l2i, 1))
    (h : qG Y w (pc + 1) lo (qI x :: st) c) : qG Y w pc lo (qJ x :: st) c := by
  intro p l e R s m args below meth cd D cs B H locs ls C hE hH hS hl hn
  refine lv_l2i C.1 C.2.1 hd Int64.toInt32_ofInt ?_
  exact h p l e R s m args below meth cd D cs B H locs ls C hE hH hS hl hn
theorem g_ldiv {x y : Int} (hd : decode Y.1.2.1 pc = .ok (.ldiv, 1)) (hy0 : y ≠ 0) (hx : lR x) (hy : lR y)
    (h : qG Y w (pc + 1) lo (qJ (x.tdiv y) :: st) c) : qG Y w pc lo (qJ y :: qJ x :: st) c := by
  intro p l e R s m args below meth cd D cs B H locs ls C hE hH hS hl hn
  refine lv_ldiv (x := Int64.ofInt x) (y := Int64.ofInt y) C.1 C.2.1 hd (fun q => hy0 ((q_leq hy q_lr0).mp (q.trans q_l0))) ?_
  rw [q_ldiv hx hy]
  exact h p l e R s m args below meth cd D cs B H locs ls C hE hH hS hl hn
theorem g_lrem {x y : Int} (hd : decode Y.1.2.1 pc = .ok (.lrem, 1)) (hy0 : y ≠ 0) (hx : lR x) (hy : lR y)
    (h : qG Y w (pc + 1) lo (qJ (x.tmod y) :: st) c) : qG Y w pc lo (qJ y :: qJ x :: st) c := by
  intro p l e R s m args below meth cd D cs B H locs ls C hE hH hS hl hn
  refine lv_lrem (x := Int64.ofInt x) (y := Int64.ofInt y) C.1 C.2.1 hd (fun q => hy0 ((q_leq hy q_lr0).mp (q.trans q_l0))) ?_
  rw [q_lrem hx hy]
  exact h p l e R s m args below meth cd D cs B H locs ls C hE hH hS hl hn
theorem g_lcmp {x y : Int} (hd : decode Y.1.2.1 pc = .ok (.lcmp, 1)) (hx : lR x) (hy : lR y)
    (h : qG Y w (pc + 1) lo (qI (if y < x then 1 else if x = y then 0 else -1) :: st) c) : qG Y w pc lo (qJ y :: qJ x :: st) c := by
  intro p l e R s m args below meth cd D cs B H locs ls C hE hH hS hl hn
  refine W.lcmp (x := Int64.ofInt x) (y := Int64.ofInt y) C.1 C.2.1 hd ?_
  rw [q_cmp hx hy]
  exact h p l e R s m args below meth cd D cs B H locs ls C hE hH hS hl hn
theorem g_dup {v : qV} (hd : decode Y.1.2.1 pc = .ok (.dup, 1)) (hv : qcat v = 1)
    (h : qG Y w (pc + 1) lo (v :: v :: st) c) : qG Y w pc lo (v :: st) c := by
  intro p l e R s m args below meth cd D cs B H locs ls C hE hH hS hl hn
  refine lv_dup C.1 C.2.1 hd ((q_cat B v).trans hv) ?_
  exact h p l e R s m args below meth cd D cs B H locs ls C hE hH hS hl hn
theorem g_pop {v : qV} (hd : decode Y.1.2.1 pc = .ok (.pop, 1)) (hv : qcat v = 1)
    (h : qG Y w (pc + 1) lo st c) : qG Y w pc lo (v :: st) c := by
  intro p l e R s m args below meth cd D cs B H locs ls C hE hH hS hl hn
  refine lv_pop (va := qv B v) C.1 C.2.1 hd ((q_cat B v).trans hv) ?_
  exact h p l e R s m args below meth cd D cs B H locs ls C hE hH hS hl hn
theorem g_pop2 {v : qV} (hd : decode Y.1.2.1 pc = .ok (.pop2, 1)) (hv : qcat v = 2)
    (h : qG Y w (pc + 1) lo st c) : qG Y w pc lo (v :: st) c := by
  intro p l e R s m args below meth cd D cs B H locs ls C hE hH hS hl hn
  refine lv_pop2_2 (va := qv B v) C.1 C.2.1 hd ((q_cat B v).trans hv) ?_
  exact h p l e R s m args below meth cd D cs B H locs ls C hE hH hS hl hn
theorem g_dup_x1 {v u : qV} (hd : decode Y.1.2.1 pc = .ok (.dup_x1, 1)) (hv : qcat v = 1) (hu : qcat u = 1)
    (h : qG Y w (pc + 1) lo (v :: u :: v :: st) c) : qG Y w pc lo (v :: u :: st) c := by
  intro p l e R s m args below meth cd D cs B H locs ls C hE hH hS hl hn
  refine lv_dup_x1 C.1 C.2.1 hd ((q_cat B v).trans hv) ((q_cat B u).trans hu) ?_
  exact h p l e R s m args below meth cd D cs B H locs ls C hE hH hS hl hn
theorem g_dup_x2 {v u t : qV} (hd : decode Y.1.2.1 pc = .ok (.dup_x2, 1)) (hv : qcat v = 1) (hu : qcat u = 1) (ht : qcat t = 1)
    (h : qG Y w (pc + 1) lo (v :: u :: t :: v :: st) c) : qG Y w pc lo (v :: u :: t :: st) c := by
  intro p l e R s m args below meth cd D cs B H locs ls C hE hH hS hl hn
  refine lv_dup_x2 C.1 C.2.1 hd ((q_cat B v).trans hv) ((q_cat B u).trans hu) ((q_cat B t).trans ht) ?_
  exact h p l e R s m args below meth cd D cs B H locs ls C hE hH hS hl hn
theorem g_dup2 {v u : qV} (hd : decode Y.1.2.1 pc = .ok (.dup2, 1)) (hv : qcat v = 1) (hu : qcat u = 1)
    (h : qG Y w (pc + 1) lo (v :: u :: v :: u :: st) c) : qG Y w pc lo (v :: u :: st) c := by
  intro p l e R s m args below meth cd D cs B H locs ls C hE hH hS hl hn
  refine lv_dup2_11 C.1 C.2.1 hd ((q_cat B v).trans hv) ((q_cat B u).trans hu) ?_
  exact h p l e R s m args below meth cd D cs B H locs ls C hE hH hS hl hn
theorem g_dup2l {v : qV} (hd : decode Y.1.2.1 pc = .ok (.dup2, 1)) (hv : qcat v = 2)
    (h : qG Y w (pc + 1) lo (v :: v :: st) c) : qG Y w pc lo (v :: st) c := by
  intro p l e R s m args below meth cd D cs B H locs ls C hE hH hS hl hn
  refine lv_dup2_2 C.1 C.2.1 hd ((q_cat B v).trans hv) ?_
  exact h p l e R s m args below meth cd D cs B H locs ls C hE hH hS hl hn
theorem g_goto {off : Int} (tgt : Nat) (hd : decode Y.1.2.1 pc = .ok (.goto off, 3)) (ht : (pc : Int) + off = (tgt : Int)) (h : qG Y w tgt lo st c) : qG Y w pc lo st c := by
  intro p l e R s m args below meth cd D cs B H locs ls C hE hH hS hl hn
  refine lv_goto (tgt := tgt) C.1 C.2.1 hd ht ?_
  exact h p l e R s m args below meth cd D cs B H locs ls C hE hH hS hl hn
theorem g_icmp_eq {x y : Int} {off : Int} (tgt : Nat) (hd : decode Y.1.2.1 pc = .ok (.if_icmp .eq off, 3)) (ht : (pc : Int) + off = (tgt : Int)) (kt : x = y → qG Y w tgt lo st c) (kf : ¬ (x = y) → qG Y w (pc + 3) lo st c) (hx : iR x := by omega) (hy : iR y := by omega) : qG Y w pc lo (qI y :: qI x :: st) c := by
  intro p l e R s m args below meth cd D cs B H locs ls C hE hH hS hl hn
  refine lv_icmp_eq (x := Int32.ofInt x) (y := Int32.ofInt y) (tgt := tgt) C.1 C.2.1 hd ht (fun q => ?_) (fun q => ?_)
  · exact kt ((q_ieq hx hy).mp q) p l e R s m args below meth cd D cs B H locs ls C hE hH hS hl hn
  · exact kf (fun z => q ((q_ieq hx hy).mpr z)) p l e R s m args below meth cd D cs B H locs ls C hE hH hS hl hn
theorem g_if_eq {x : Int} {off : Int} (tgt : Nat) (hd : decode Y.1.2.1 pc = .ok (.ifCond .eq off, 3)) (ht : (pc : Int) + off = (tgt : Int)) (kt : x = 0 → qG Y w tgt lo st c) (kf : ¬ (x = 0) → qG Y w (pc + 3) lo st c) (hx : iR x := by omega) : qG Y w pc lo (qI x :: st) c := by
  intro p l e R s m args below meth cd D cs B H locs ls C hE hH hS hl hn
  refine lv_if_eq (x := Int32.ofInt x) (tgt := tgt) C.1 C.2.1 hd ht (fun q => ?_) (fun q => ?_)
  · exact kt ((q_ieq hx q_r0).mp (by rw [← q_i0]; exact q)) p l e R s m args below meth cd D cs B H locs ls C hE hH hS hl hn
  · exact kf (fun z => q (by rw [q_i0]; exact (q_ieq hx q_r0).mpr z)) p l e R s m args below meth cd D cs B H locs ls C hE hH hS hl hn
theorem g_icmp_ne {x y : Int} {off : Int} (tgt : Nat) (hd : decode Y.1.2.1 pc = .ok (.if_icmp .ne off, 3)) (ht : (pc : Int) + off = (tgt : Int)) (kt : ¬ x = y → qG Y w tgt lo st c) (kf : x = y → qG Y w (pc + 3) lo st c) (hx : iR x := by omega) (hy : iR y := by omega) : qG Y w pc lo (qI y :: qI x :: st) c := by
  intro p l e R s m args below meth cd D cs B H locs ls C hE hH hS hl hn
  refine lv_icmp_ne (x := Int32.ofInt x) (y := Int32.ofInt y) (tgt := tgt) C.1 C.2.1 hd ht (fun q => ?_) (fun q => ?_)
  · exact kt ((not_congr (q_ieq hx hy)).mp q) p l e R s m args below meth cd D cs B H locs ls C hE hH hS hl hn
  · exact kf ((q_ieq hx hy).mp q) p l e R s m args below meth cd D cs B H locs ls C hE hH hS hl hn
theorem g_if_ne {x : Int} {off : Int} (tgt : Nat) (hd : decode Y.1.2.1 pc = .ok (.ifCond .ne off, 3)) (ht : (pc : Int) + off = (tgt : Int)) (kt : ¬ x = 0 → qG Y w tgt lo st c) (kf : x = 0 → qG Y w (pc + 3) lo st c) (hx : iR x := by omega) : qG Y w pc lo (qI x :: st) c := by
  intro p l e R s m args below meth cd D cs B H locs ls C hE hH hS hl hn
  refine lv_if_ne (x := Int32.ofInt x) (tgt := tgt) C.1 C.2.1 hd ht (fun q => ?_) (fun q => ?_)
  · exact kt (fun z => q (((q_ieq hx q_r0).mpr z).trans q_i0.symm)) p l e R s m args below meth cd D cs B H locs ls C hE hH hS hl hn
  · exact kf ((q_ieq hx q_r0).mp (q.trans q_i0)) p l e R s m args below meth cd D cs B H locs ls C hE hH hS hl hn
theorem g_icmp_lt {x y : Int} {off : Int} (tgt : Nat) (hd : decode Y.1.2.1 pc = .ok (.if_icmp .lt off, 3)) (ht : (pc : Int) + off = (tgt : Int)) (kt : x < y → qG Y w tgt lo st c) (kf : ¬ (x < y) → qG Y w (pc + 3) lo st c) (hx : iR x := by omega) (hy : iR y := by omega) : qG Y w pc lo (qI y :: qI x :: st) c := by
  intro p l e R s m args below meth cd D cs B H locs ls C hE hH hS hl hn
  refine lv_icmp_lt (x := Int32.ofInt x) (y := Int32.ofInt y) (tgt := tgt) C.1 C.2.1 hd ht (fun q => ?_) (fun q => ?_)
  · exact kt ((q_ilt hx hy).mp q) p l e R s m args below meth cd D cs B H locs ls C hE hH hS hl hn
  · exact kf (fun z => q ((q_ilt hx hy).mpr z)) p l e R s m args below meth cd D cs B H locs ls C hE hH hS hl hn
theorem g_if_lt {x : Int} {off : Int} (tgt : Nat) (hd : decode Y.1.2.1 pc = .ok (.ifCond .lt off, 3)) (ht : (pc : Int) + off = (tgt : Int)) (kt : x < 0 → qG Y w tgt lo st c) (kf : ¬ (x < 0) → qG Y w (pc + 3) lo st c) (hx : iR x := by omega) : qG Y w pc lo (qI x :: st) c := by
  intro p l e R s m args below meth cd D cs B H locs ls C hE hH hS hl hn
  refine lv_if_lt (x := Int32.ofInt x) (tgt := tgt) C.1 C.2.1 hd ht (fun q => ?_) (fun q => ?_)
  · exact kt ((q_ilt hx q_r0).mp (by rw [← q_i0]; exact q)) p l e R s m args below meth cd D cs B H locs ls C hE hH hS hl hn
  · exact kf (fun z => q (by rw [q_i0]; exact (q_ilt hx q_r0).mpr z)) p l e R s m args below meth cd D cs B H locs ls C hE hH hS hl hn
theorem g_icmp_ge {x y : Int} {off : Int} (tgt : Nat) (hd : decode Y.1.2.1 pc = .ok (.if_icmp .ge off, 3)) (ht : (pc : Int) + off = (tgt : Int)) (kt : y ≤ x → qG Y w tgt lo st c) (kf : ¬ (y ≤ x) → qG Y w (pc + 3) lo st c) (hx : iR x := by omega) (hy : iR y := by omega) : qG Y w pc lo (qI y :: qI x :: st) c := by
  intro p l e R s m args below meth cd D cs B H locs ls C hE hH hS hl hn
  refine lv_icmp_ge (x := Int32.ofInt x) (y := Int32.ofInt y) (tgt := tgt) C.1 C.2.1 hd ht (fun q => ?_) (fun q => ?_)
  · exact kt ((q_ile hy hx).mp q) p l e R s m args below meth cd D cs B H locs ls C hE hH hS hl hn
  · exact kf (fun z => q ((q_ile hy hx).mpr z)) p l e R s m args below meth cd D cs B H locs ls C hE hH hS hl hn
theorem g_if_ge {x : Int} {off : Int} (tgt : Nat) (hd : decode Y.1.2.1 pc = .ok (.ifCond .ge off, 3)) (ht : (pc : Int) + off = (tgt : Int)) (kt : 0 ≤ x → qG Y w tgt lo st c) (kf : ¬ (0 ≤ x) → qG Y w (pc + 3) lo st c) (hx : iR x := by omega) : qG Y w pc lo (qI x :: st) c := by
  intro p l e R s m args below meth cd D cs B H locs ls C hE hH hS hl hn
  refine lv_if_ge (x := Int32.ofInt x) (tgt := tgt) C.1 C.2.1 hd ht (fun q => ?_) (fun q => ?_)
  · exact kt ((q_ile q_r0 hx).mp (by rw [← q_i0]; exact q)) p l e R s m args below meth cd D cs B H locs ls C hE hH hS hl hn
  · exact kf (fun z => q (by rw [q_i0]; exact (q_ile q_r0 hx).mpr z)) p l e R s m args below meth cd D cs B H locs ls C hE hH hS hl hn
theorem g_icmp_gt {x y : Int} {off : Int} (tgt : Nat) (hd : decode Y.1.2.1 pc = .ok (.if_icmp .gt off, 3)) (ht : (pc : Int) + off = (tgt : Int)) (kt : y < x → qG Y w tgt lo st c) (kf : ¬ (y < x) → qG Y w (pc + 3) lo st c) (hx : iR x := by omega) (hy : iR y := by omega) : qG Y w pc lo (qI y :: qI x :: st) c := by
  intro p l e R s m args below meth cd D cs B H locs ls C hE hH hS hl hn
  refine lv_icmp_gt (x := Int32.ofInt x) (y := Int32.ofInt y) (tgt := tgt) C.1 C.2.1 hd ht (fun q => ?_) (fun q => ?_)
  · exact kt ((q_ilt hy hx).mp q) p l e R s m args below meth cd D cs B H locs ls C hE hH hS hl hn
  · exact kf (fun z => q ((q_ilt hy hx).mpr z)) p l e R s m args below meth cd D cs B H locs ls C hE hH hS hl hn
theorem g_if_gt {x : Int} {off : Int} (tgt : Nat) (hd : decode Y.1.2.1 pc = .ok (.ifCond .gt off, 3)) (ht : (pc : Int) + off = (tgt : Int)) (kt : 0 < x → qG Y w tgt lo st c) (kf : ¬ (0 < x) → qG Y w (pc + 3) lo st c) (hx : iR x := by omega) : qG Y w pc lo (qI x :: st) c := by
  intro p l e R s m args below meth cd D cs B H locs ls C hE hH hS hl hn
  refine lv_if_gt (x := Int32.ofInt x) (tgt := tgt) C.1 C.2.1 hd ht (fun q => ?_) (fun q => ?_)
  · exact kt ((q_ilt q_r0 hx).mp (by rw [← q_i0]; exact q)) p l e R s m args below meth cd D cs B H locs ls C hE hH hS hl hn
  · exact kf (fun z => q (by rw [q_i0]; exact (q_ilt q_r0 hx).mpr z)) p l e R s m args below meth cd D cs B H locs ls C hE hH hS hl hn
theorem g_icmp_le {x y : Int} {off : Int} (tgt : Nat) (hd : decode Y.1.2.1 pc = .ok (.if_icmp .le off, 3)) (ht : (pc : Int) + off = (tgt : Int)) (kt : x ≤ y → qG Y w tgt lo st c) (kf : ¬ (x ≤ y) → qG Y w (pc + 3) lo st c) (hx : iR x := by omega) (hy : iR y := by omega) : qG Y w pc lo (qI y :: qI x :: st) c := by
  intro p l e R s m args below meth cd D cs B H locs ls C hE hH hS hl hn
  refine lv_icmp_le (x := Int32.ofInt x) (y := Int32.ofInt y) (tgt := tgt) C.1 C.2.1 hd ht (fun q => ?_) (fun q => ?_)
  · exact kt ((q_ile hx hy).mp q) p l e R s m args below meth cd D cs B H locs ls C hE hH hS hl hn
  · exact kf (fun z => q ((q_ile hx hy).mpr z)) p l e R s m args below meth cd D cs B H locs ls C hE hH hS hl hn
theorem g_if_le {x : Int} {off : Int} (tgt : Nat) (hd : decode Y.1.2.1 pc = .ok (.ifCond .le off, 3)) (ht : (pc : Int) + off = (tgt : Int)) (kt : x ≤ 0 → qG Y w tgt lo st c) (kf : ¬ (x ≤ 0) → qG Y w (pc + 3) lo st c) (hx : iR x := by omega) : qG Y w pc lo (qI x :: st) c := by
  intro p l e R s m args below meth cd D cs B H locs ls C hE hH hS hl hn
  refine lv_if_le (x := Int32.ofInt x) (tgt := tgt) C.1 C.2.1 hd ht (fun q => ?_) (fun q => ?_)
  · exact kt ((q_ile hx q_r0).mp (by rw [← q_i0]; exact q)) p l e R s m args below meth cd D cs B H locs ls C hE hH hS hl hn
  · exact kf (fun z => q (by rw [q_i0]; exact (q_ile hx q_r0).mpr z)) p l e R s m args below meth cd D cs B H locs ls C hE hH hS hl hn
theorem g_lif_eq {x y : Int} {off : Int} (tgt : Nat) (hd : decode Y.1.2.1 pc = .ok (.lcmp, 1)) (hd2 : decode Y.1.2.1 (pc + 1) = .ok (.ifCond .eq off, 3)) (ht : ((pc + 1 : Nat) : Int) + off = (tgt : Int)) (kt : x = y → qG Y w tgt lo st c) (kf : ¬ (x = y) → qG Y w (pc + 1 + 3) lo st c) (hx : lR x := by omega) (hy : lR y := by omega) : qG Y w pc lo (qJ y :: qJ x :: st) c := by
  refine g_lcmp hd hx hy (g_if_eq tgt hd2 ht (fun q => kt ?_) (fun q => kf ?_) ?_)
  · split at q <;> first | omega | (split at q <;> omega)
  · split at q <;> first | omega | (split at q <;> omega)
  · split <;> first | omega | (split <;> omega)
theorem g_lif_ne {x y : Int} {off : Int} (tgt : Nat) (hd : decode Y.1.2.1 pc = .ok (.lcmp, 1)) (hd2 : decode Y.1.2.1 (pc + 1) = .ok (.ifCond .ne off, 3)) (ht : ((pc + 1 : Nat) : Int) + off = (tgt : Int)) (kt : ¬ x = y → qG Y w tgt lo st c) (kf : x = y → qG Y w (pc + 1 + 3) lo st c) (hx : lR x := by omega) (hy : lR y := by omega) : qG Y w pc lo (qJ y :: qJ x :: st) c := by
  refine g_lcmp hd hx hy (g_if_ne tgt hd2 ht (fun q => kt ?_) (fun q => kf ?_) ?_)
  · split at q <;> first | omega | (split at q <;> omega)
  · split at q <;> first | omega | (split at q <;> omega)
  · split <;> first | omega | (split <;> omega)
theorem g_lif_lt {x y : Int} {off : Int} (tgt : Nat) (hd : decode Y.1.2.1 pc = .ok (.lcmp, 1)) (hd2 : decode Y.1.2.1 (pc + 1) = .ok (.ifCond .lt off, 3)) (ht : ((pc + 1 : Nat) : Int) + off = (tgt : Int)) (kt : x < y → qG Y w tgt lo st c) (kf : ¬ (x < y) → qG Y w (pc + 1 + 3) lo st c) (hx : lR x := by omega) (hy : lR y := by omega) : qG Y w pc lo (qJ y :: qJ x :: st) c := by
  refine g_lcmp hd hx hy (g_if_lt tgt hd2 ht (fun q => kt ?_) (fun q => kf ?_) ?_)
  · split at q <;> first | omega | (split at q <;> omega)
  · split at q <;> first | omega | (split at q <;> omega)
  · split <;> first | omega | (split <;> omega)
theorem g_lif_ge {x y : Int} {off : Int} (tgt : Nat) (hd : decode Y.1.2.1 pc = .ok (.lcmp, 1)) (hd2 : decode Y.1.2.1 (pc + 1) = .ok (.ifCond .ge off, 3)) (ht : ((pc + 1 : Nat) : Int) + off = (tgt : Int)) (kt : y ≤ x → qG Y w tgt lo st c) (kf : ¬ (y ≤ x) → qG Y w (pc + 1 + 3) lo st c) (hx : lR x := by omega) (hy : lR y := by omega) : qG Y w pc lo (qJ y :: qJ x :: st) c := by
  refine g_lcmp hd hx hy (g_if_ge tgt hd2 ht (fun q => kt ?_) (fun q => kf ?_) ?_)
  · split at q <;> first | omega | (split at q <;> omega)
  · split at q <;> first | omega | (split at q <;> omega)
  · split <;> first | omega | (split <;> omega)
theorem g_lif_gt {x y : Int} {off : Int} (tgt : Nat) (hd : decode Y.1.2.1 pc = .ok (.lcmp, 1)) (hd2 : decode Y.1.2.1 (pc + 1) = .ok (.ifCond .gt off, 3)) (ht : ((pc + 1 : Nat) : Int) + off = (tgt : Int)) (kt : y < x → qG Y w tgt lo st c) (kf : ¬ (y < x) → qG Y w (pc + 1 + 3) lo st c) (hx : lR x := by omega) (hy : lR y := by omega) : qG Y w pc lo (qJ y :: qJ x :: st) c := by
  refine g_lcmp hd hx hy (g_if_gt tgt hd2 ht (fun q => kt ?_) (fun q => kf ?_) ?_)
  · split at q <;> first | omega | (split at q <;> omega)
  · split at q <;> first | omega | (split at q <;> omega)
  · split <;> first | omega | (split <;> omega)
theorem g_lif_le {x y : Int} {off : Int} (tgt : Nat) (hd : decode Y.1.2.1 pc = .ok (.lcmp, 1)) (hd2 : decode Y.1.2.1 (pc + 1) = .ok (.ifCond .le off, 3)) (ht : ((pc + 1 : Nat) : Int) + off = (tgt : Int)) (kt : x ≤ y → qG Y w tgt lo st c) (kf : ¬ (x ≤ y) → qG Y w (pc + 1 + 3) lo st c) (hx : lR x := by omega) (hy : lR y := by omega) : qG Y w pc lo (qJ y :: qJ x :: st) c := by
  refine g_lcmp hd hx hy (g_if_le tgt hd2 ht (fun q => kt ?_) (fun q => kf ?_) ?_)
  · split at q <;> first | omega | (split at q <;> omega)
  · split at q <;> first | omega | (split at q <;> omega)
  · split <;> first | omega | (split <;> omega)
theorem g_tableOut {x dflt lo0 hi : Int} {offs : Array Int} {len : Nat} (tgt : Nat) (hd : decode Y.1.2.1 pc = .ok (.tableswitch dflt lo0 hi offs, len)) (ho : x < lo0 ∨ hi < x) (ht : (pc : Int) + dflt = (tgt : Int)) (h : qG Y w tgt lo st c) (hx : iR x := by omega) : qG Y w pc lo (qI x :: st) c := by
  intro p l e R s m args below meth cd D cs B H locs ls C hE hH hS hl hn
  refine lv_tableOut (x := Int32.ofInt x) (tgt := tgt) C.1 C.2.1 hd (by rw [q_it hx]; exact ho) ht ?_
  exact h p l e R s m args below meth cd D cs B H locs ls C hE hH hS hl hn
theorem g_tableIn {x dflt lo0 hi off : Int} {offs : Array Int} {len : Nat} (tgt : Nat) (hd : decode Y.1.2.1 pc = .ok (.tableswitch dflt lo0 hi offs, len)) (h1 : ¬ x < lo0) (h2 : ¬ hi < x) (ho : offs[(x - lo0).toNat]? = some off) (ht : (pc : Int) + off = (tgt : Int)) (h : qG Y w tgt lo st c) (hx : iR x := by omega) : qG Y w pc lo (qI x :: st) c := by
  intro p l e R s m args below meth cd D cs B H locs ls C hE hH hS hl hn
  refine lv_tableIn (x := Int32.ofInt x) (tgt := tgt) C.1 C.2.1 hd (by rw [q_it hx]; exact h1) (by rw [q_it hx]; exact h2) (by rw [q_it hx]; exact ho) ht ?_
  exact h p l e R s m args below meth cd D cs B H locs ls C hE hH hS hl hn
theorem g_lookup {x dflt off : Int} {ps : Array (Int × Int)} {len : Nat} (tgt : Nat) (hd : decode Y.1.2.1 pc = .ok (.lookupswitch dflt ps, len)) (hp : (ps.toList.zip (ps.toList.drop 1)).all (fun (a, next) => a.1 < next.1) = true) (ho : Op.lookupswitch.offset ps.toList dflt x = off) (ht : (pc : Int) + off = (tgt : Int)) (h : qG Y w tgt lo st c) (hx : iR x := by omega) : qG Y w pc lo (qI x :: st) c := by
  intro p l e R s m args below meth cd D cs B H locs ls C hE hH hS hl hn
  refine lv_lookup (x := Int32.ofInt x) (tgt := tgt) C.1 C.2.1 hd hp (by rw [q_it hx]; exact ho) ht ?_
  exact h p l e R s m args below meth cd D cs B H locs ls C hE hH hS hl hn
theorem g_iaload {a n : Nat} {i : Int} (hd : decode Y.1.2.1 pc = .ok (.iaload, 1)) (hL : w.1 a = .inl (0, n)) (ha : a < w.2.1) (h : qG Y w (pc + 1) lo (qI (c a i) :: st) c) (h0 : 0 ≤ i := by omega) (h1 : i < (n : Int) := by omega) (hn0 : n < 2147483648 := by decide) : qG Y w pc lo (qI i :: qP a :: st) c := by
  intro p l e R s m args below meth cd D cs B H locs ls C hE hH hS hl hn
  refine va_iald (D := D) (cl := qcl) (tys := qtys cs) C.1 C.2.1 C.2.2.2.2.2.2.2.1 (hH.one ha hL) 0 0 rfl rfl (q_in h0 h1 hn0) hd ?_
  rw [q_cl h0 (by omega)]
  have ei : ((i.toNat : Nat) : Int) = i := by omega
  show W p l e R s m args below meth cd H locs _ _ _ (F0 m (pc + 1) ls (qv B (qI (c a ((i.toNat : Nat) : Int))) :: st.map (qv B)))
  rw [ei]
  exact h p l e R s m args below meth cd D cs B H locs ls C hE hH hS hl hn
theorem g_laload {a n : Nat} {i : Int} (hd : decode Y.1.2.1 pc = .ok (.laload, 1)) (hL : w.1 a = .inl (1, n)) (ha : a < w.2.1) (h : qG Y w (pc + 1) lo (qJ (c a i) :: st) c) (h0 : 0 ≤ i := by omega) (h1 : i < (n : Int) := by omega) (hn0 : n < 2147483648 := by decide) : qG Y w pc lo (qI i :: qP a :: st) c := by
  intro p l e R s m args below meth cd D cs B H locs ls C hE hH hS hl hn
  refine va_lald (D := D) (cl := qcl) (tys := qtys cs) C.1 C.2.1 C.2.2.2.2.2.2.2.1 (hH.one ha hL) 0 1 rfl rfl (q_in h0 h1 hn0) hd ?_
  rw [q_cl h0 (by omega)]
  have ei : ((i.toNat : Nat) : Int) = i := by omega
  show W p l e R s m args below meth cd H locs _ _ _ (F0 m (pc + 1) ls (qv B (qJ (c a ((i.toNat : Nat) : Int))) :: st.map (qv B)))
  rw [ei]
  exact h p l e R s m args below meth cd D cs B H locs ls C hE hH hS hl hn
theorem g_baload {a n : Nat} {i : Int} (hd : decode Y.1.2.1 pc = .ok (.baload, 1)) (hL : w.1 a = .inl (2, n)) (ha : a < w.2.1) (h : qG Y w (pc + 1) lo (qI (c a i) :: st) c) (h0 : 0 ≤ i := by omega) (h1 : i < (n : Int) := by omega) (hn0 : n < 2147483648 := by decide) : qG Y w pc lo (qI i :: qP a :: st) c := by
  intro p l e R s m args below meth cd D cs B H locs ls C hE hH hS hl hn
  refine va_zald (D := D) (cl := qcl) (tys := qtys cs) C.1 C.2.1 C.2.2.2.2.2.2.2.1 (hH.one ha hL) 0 2 rfl rfl (q_in h0 h1 hn0) hd ?_
  rw [q_cl h0 (by omega)]
  have ei : ((i.toNat : Nat) : Int) = i := by omega
  show W p l e R s m args below meth cd H locs _ _ _ (F0 m (pc + 1) ls (qv B (qI (c a ((i.toNat : Nat) : Int))) :: st.map (qv B)))
  rw [ei]
  exact h p l e R s m args below meth cd D cs B H locs ls C hE hH hS hl hn
theorem q_put {A : Nat → Prop} {H0 H H1 : Heap} {locs : List Loc} {a k : Nat} (h : va_S A H0 H locs) (z : H1.size = H.size) (oq : ∀ q : Nat, q ≠ a → H1[q]? = H[q]?) (ha : A a) : va_S A H0 H1 (locs ++ [⟨a, k⟩]) := h.put z oq ha
theorem g_iastore {a n : Nat} {i x : Int} (hd : decode Y.1.2.1 pc = .ok (.iastore, 1)) (hL : w.1 a = .inl (0, n)) (ha : a < w.2.1) (h : qG Y w (pc + 1) lo st (qu c a i x)) (h0 : 0 ≤ i := by omega) (h1 : i < (n : Int) := by omega) (hn0 : n < 2147483648 := by decide) : qG Y w pc lo (qI x :: qI i :: qP a :: st) c := by
  intro p l e R s m args below meth cd D cs B H locs ls C hE hH hS hl hn
  have hc : H[B + a]? = some (arrV cs.1 n (fun j => .int (Int32.ofInt (c a j)))) := by
    have := hH.2 a ha
    rw [hL] at this
    exact this
  refine W.iast (a := B + a) (j := Int32.ofInt i) C.1 C.2.1 hc ((C.2.2.2.2.2.2.2.1.2 0 _ rfl).1 n _) (fun q => by cases q) (by rw [arrV_size]; exact q_in h0 h1 hn0) rfl rfl hd fun H1 e1 z1 o1 => ?_
  refine h p l e R s m args below meth cd D cs B H1 _ ls C hE (hH.set (k := a) z1 o1 ?_ (fun j hj => ⟨qu_ne hj, rfl⟩)) (hS.put z1 o1 (by show B ≤ B + a; omega)) hl hn
  rw [hL]
  show H1[B + a]? = some (arrV cs.1 n (fun j => .int (Int32.ofInt (qu c a i x a j))))
  rw [e1, q_cl h0 (by omega), arrV_store]
  congr 2
  funext j
  by_cases hj : j = i.toNat
  · have ei : (j : Int) = i := by omega
    have ej : i.toNat = j := hj.symm
    simp [updV, qu, ei, ej]
  · have e : ¬ (j : Int) = i := by omega
    simp [updV, hj, qu, e]
theorem g_lastore {a n : Nat} {i x : Int} (hd : decode Y.1.2.1 pc = .ok (.lastore, 1)) (hL : w.1 a = .inl (1, n)) (ha : a < w.2.1) (h : qG Y w (pc + 1) lo st (qu c a i x)) (h0 : 0 ≤ i := by omega) (h1 : i < (n : Int) := by omega) (hn0 : n < 2147483648 := by decide) : qG Y w pc lo (qJ x :: qI i :: qP a :: st) c := by
  intro p l e R s m args below meth cd D cs B H locs ls C hE hH hS hl hn
  have hc : H[B + a]? = some (arrV cs.2.1 n (fun j => .long (Int64.ofInt (c a j)))) := by
    have := hH.2 a ha
    rw [hL] at this
    exact this
  refine W.last (a := B + a) (j := Int32.ofInt i) C.1 C.2.1 hc ((C.2.2.2.2.2.2.2.1.2 1 _ rfl).1 n _) (fun q => by cases q) (by rw [arrV_size]; exact q_in h0 h1 hn0) rfl rfl hd fun H1 e1 z1 o1 => ?_
  refine h p l e R s m args below meth cd D cs B H1 _ ls C hE (hH.set (k := a) z1 o1 ?_ (fun j hj => ⟨qu_ne hj, rfl⟩)) (hS.put z1 o1 (by show B ≤ B + a; omega)) hl hn
  rw [hL]
  show H1[B + a]? = some (arrV cs.2.1 n (fun j => .long (Int64.ofInt (qu c a i x a j))))
  rw [e1, q_cl h0 (by omega), arrV_store]
  congr 2
  funext j
  by_cases hj : j = i.toNat
  · have ei : (j : Int) = i := by omega
    have ej : i.toNat = j := hj.symm
    simp [updV, qu, ei, ej]
  · have e : ¬ (j : Int) = i := by omega
    simp [updV, hj, qu, e]
theorem g_bastore {a n : Nat} {i x : Int} (hd : decode Y.1.2.1 pc = .ok (.bastore, 1)) (hL : w.1 a = .inl (2, n)) (ha : a < w.2.1) (hb : x = 0 ∨ x = 1) (h : qG Y w (pc + 1) lo st (qu c a i x)) (h0 : 0 ≤ i := by omega) (h1 : i < (n : Int) := by omega) (hn0 : n < 2147483648 := by decide) : qG Y w pc lo (qI x :: qI i :: qP a :: st) c := by
  intro p l e R s m args below meth cd D cs B H locs ls C hE hH hS hl hn
  have hnar : narrow .boolean (.int (Int32.ofInt x)) = .int (Int32.ofInt x) := by rcases hb with rfl | rfl <;> decide
  have hc : H[B + a]? = some (arrV cs.2.2.1 n (fun j => .int (Int32.ofInt (c a j)))) := by
    have := hH.2 a ha
    rw [hL] at this
    exact this
  refine W.zast (a := B + a) (j := Int32.ofInt i) C.1 C.2.1 hc ((C.2.2.2.2.2.2.2.1.2 2 _ rfl).1 n _) (fun q => by cases q) (by rw [arrV_size]; exact q_in h0 h1 hn0) rfl rfl hd fun H1 e1 z1 o1 => ?_
  rw [hnar] at e1
  refine h p l e R s m args below meth cd D cs B H1 _ ls C hE (hH.set (k := a) z1 o1 ?_ (fun j hj => ⟨qu_ne hj, rfl⟩)) (hS.put z1 o1 (by show B ≤ B + a; omega)) hl hn
  rw [hL]
  show H1[B + a]? = some (arrV cs.2.2.1 n (fun j => .int (Int32.ofInt (qu c a i x a j))))
  rw [e1, q_cl h0 (by omega), arrV_store]
  congr 2
  funext j
  by_cases hj : j = i.toNat
  · have ei : (j : Int) = i := by omega
    have ej : i.toNat = j := hj.symm
    simp [updV, qu, ei, ej]
  · have e : ¬ (j : Int) = i := by omega
    simp [updV, hj, qu, e]
theorem g_aaload {a n b : Nat} {f : Nat → Option Nat} {i : Int} (hd : decode Y.1.2.1 pc = .ok (.aaload, 1)) (hL : w.1 a = .inr (.inl (n, f))) (ha : a < w.2.1) (hf : f i.toNat = some b) (h : qG Y w (pc + 1) lo (qP b :: st) c) (h0 : 0 ≤ i := by omega) (h1 : i < (n : Int) := by omega) (hn0 : n < 2147483648 := by decide) : qG Y w pc lo (qI i :: qP a :: st) c := by
  intro p l e R s m args below meth cd D cs B H locs ls C hE hH hS hl hn
  refine va_aldq (D := D) (cl := qcl) (tys := qtys cs) (C := qgr) C.1 C.2.1 C.2.2.2.2.2.2.2.1 (hH.one ha hL) 0 3 rfl rfl (q_in h0 h1 hn0) hd ?_
  rw [q_cl h0 (by omega), hf]
  exact h p l e R s m args below meth cd D cs B H locs ls C hE hH hS hl hn
end QG
end
section
section QH
variable {Y : qY} {w : qW} {pc : Nat} {lo : List (Option qV)} {st : List qV} {c : qC}
/-- a field by its link: class number, place -/
def qFl (own : String) (idx ci j : Nat) : Prop := ∃ (C : String) (T : u_T) (N : Nat), qcl[ci]? = some (C, T, N) ∧ j < N ∧ (∀ w ∈ u_ws C T N, w ∈ qALL) ∧ (Cond.fieldLink own idx (T j).1 (T j).2.1 (T j).2.2.1 ∈ qALL ∨ ∃ host : String, Cond.fieldLinkNest own idx (T j).1 (T j).2.1 (T j).2.2.1 host ∈ qNZ)
def qFw (ci j : Nat) (ty : FieldType) (fin : Bool) : Prop := ∃ (C : String) (T : u_T) (N : Nat) (ty0 : Nat → FieldType), qcl[ci]? = some (C, T, N) ∧ (∀ k, k < N → parseFieldDescriptor (T k).2.2.1 = some (ty0 k)) ∧ (∀ a, a < N → ∀ b, b < N → a ≠ b → (T a).2.1 ≠ (T b).2.1) ∧ (T j).2.2.2 = fin ∧ parseFieldDescriptor (T j).2.2.1 = some ty ∧ (T j).1 = C
theorem q_fi {B : Nat} {z : Int} {kd : Nat} (h : kd ≠ 1) : qf B z (.inr kd) = .int (Int32.ofInt z) := by
  match kd, h with
  | 0, _ => rfl
  | 1, h => exact absurd rfl h
  | _ + 2, _ => rfl
theorem q_get {v : Value} {a ci j idx : Nat} {fs : List qF} {f : qF} {p : Program} {l : Launch} {e : Env} {R : Room} {s : State} {m : MethodId} {args : Array Value} {below : List Frame} {meth : Method} {cd : Code} {D : va_G} {cs : qS} {B n k z : Nat} {L : Nat → qL} {H : Heap} {locs : List Loc} {ls : Array Slot} {X : qM} {r : Nat × Nat × Nat} {Q : State → Prop} {rest : List Value}
    (C : qCx X r p R s m args meth cd D cs B) (hH : qH D cs B L n c H) (hd : decode X.2.1 pc = .ok (.getfield idx, 3)) (hf : qFl X.1.cls idx ci j) (hL : L a = .inr (.inr (ci, fs))) (ha : a < n) (hfs : fs[j]? = some f) (hv : qf B (c a j) f = v)
    (h : W p l e R s m args below meth cd H locs k z Q (F0 m (pc + 3) ls (v :: rest))) : W p l e R s m args below meth cd H locs k z Q (F0 m pc ls (.ref (B + a) :: rest)) := by
  obtain ⟨C0, T, N, h1, h2, h3, h4⟩ := hf
  have hP := hH.one ha hL
  have hval : (qfs B (c a) 0 fs)[j]? = some v := by rw [q_fs, hfs, ← hv, Nat.zero_add]; rfl
  rcases h4 with h4 | ⟨host, h4⟩
  · exact va_get (D := D) (cl := qcl) (tys := qtys cs) (C := C0) (T := T) (N := N) (Ts := qALL) (fs := qfs B (c a) 0 fs) C.1 C.2.1 C.2.2.2.2.2.1 h3 C.2.2.2.2.1 C.2.2.2.2.2.2.2.1 hP 0 rfl h1 j h2 (C.2.2.2.2.2.1 _ h4) (fun _ q => q) hval hd h
  · exact va_getN (D := D) (cl := qcl) (tys := qtys cs) (C := C0) (T := T) (N := N) (Ts := qALL) (fs := qfs B (c a) 0 fs) C.1 C.2.1 C.2.2.2.2.2.1 h3 C.2.2.2.2.1 C.2.2.2.2.2.2.2.1 hP 0 rfl h1 j h2 (va_Nw.use rfl (C.2.2.2.2.2.2.1 _ h4)) (fun _ q => q) hval hd h
theorem g_getI {a ci j idx kd : Nat} {fs : List qF} {ji v : Int} (hd : decode Y.1.2.1 pc = .ok (.getfield idx, 3)) (hf : qFl Y.1.1.cls idx ci j) (hL : w.1 a = .inr (.inr (ci, fs))) (ha : a < w.2.1) (hfs : fs[j]? = some (.inr kd)) (hkd : kd ≠ 1) (hj : ji = (j : Int)) (hv : c a ji = v) (h : qG Y w (pc + 3) lo (qI v :: st) c) : qG Y w pc lo (qP a :: st) c := by
  subst hj; subst hv
  intro p l e R s m args below meth cd D cs B H locs ls C hE hH hS hl hn
  exact q_get C hH hd hf hL ha hfs (q_fi hkd) (h p l e R s m args below meth cd D cs B H locs ls C hE hH hS hl hn)
theorem g_getJ {a ci j idx : Nat} {fs : List qF} {ji v : Int} (hd : decode Y.1.2.1 pc = .ok (.getfield idx, 3)) (hf : qFl Y.1.1.cls idx ci j) (hL : w.1 a = .inr (.inr (ci, fs))) (ha : a < w.2.1) (hfs : fs[j]? = some (.inr 1)) (hj : ji = (j : Int)) (hv : c a ji = v) (h : qG Y w (pc + 3) lo (qJ v :: st) c) : qG Y w pc lo (qP a :: st) c := by
  subst hj; subst hv
  intro p l e R s m args below meth cd D cs B H locs ls C hE hH hS hl hn
  exact q_get C hH hd hf hL ha hfs rfl (h p l e R s m args below meth cd D cs B H locs ls C hE hH hS hl hn)
theorem g_getP {a ci j idx b : Nat} {fs : List qF} (hd : decode Y.1.2.1 pc = .ok (.getfield idx, 3)) (hf : qFl Y.1.1.cls idx ci j) (hL : w.1 a = .inr (.inr (ci, fs))) (ha : a < w.2.1) (hfs : fs[j]? = some (.inl (some b))) (h : qG Y w (pc + 3) lo (qP b :: st) c) : qG Y w pc lo (qP a :: st) c := by
  intro p l e R s m args below meth cd D cs B H locs ls C hE hH hS hl hn
  exact q_get C hH hd hf hL ha hfs rfl (h p l e R s m args below meth cd D cs B H locs ls C hE hH hS hl hn)
theorem q_putW {v : Value} {a ci j idx : Nat} {fs : List qF} {ty : FieldType} {fin : Bool} {p : Program} {l : Launch} {e : Env} {R : Room} {s : State} {m : MethodId} {args : Array Value} {below : List Frame} {meth : Method} {cd : Code} {D : va_G} {cs : qS} {B n k z : Nat} {L : Nat → qL} {H : Heap} {locs : List Loc} {ls : Array Slot} {X : qM} {r : Nat × Nat × Nat} {Q : State → Prop} {rest : List Value}
    (C : qCx X r p R s m args meth cd D cs B) (hH : qH D cs B L n c H) (hS : va_S (fun q : Nat => B ≤ q) s.heap H locs) (hd : decode X.2.1 pc = .ok (.putfield idx, 3)) (hf : qFl X.1.cls idx ci j) (hw : qFw ci j ty fin) (hfin : fin = true → X.1.name = "<init>" ∧ (∀ q : vw_C, qcl[ci]? = some q → X.1.cls = q.1) ∧ ∀ (host : String) (T : u_T) (C0 : String) (N : Nat), qcl[ci]? = some (C0, T, N) → Cond.fieldLinkNest X.1.cls idx (T j).1 (T j).2.1 (T j).2.2.1 host ∉ qNZ) (hL : L a = .inr (.inr (ci, fs))) (ha : a < n) (hjl : j < fs.length) (hn : narrow ty v = v) (hfit : fits ty v = true)
    (h : ∀ (H1 : Heap) (locs1 : List Loc), H1.size = H.size → (∀ q, q ≠ B + a → H1[q]? = H[q]?) → va_at D qcl (B + a, .inr (ci, (qfs B (c a) 0 fs).set j v)) H1 → va_S (fun q : Nat => B ≤ q) s.heap H1 locs1 → W p l e R s m args below meth cd H1 locs1 k z Q (F0 m (pc + 3) ls rest)) : W p l e R s m args below meth cd H locs k z Q (F0 m pc ls (v :: .ref (B + a) :: rest)) := by
  obtain ⟨C0, T, N, h1, h2, h3, h4⟩ := hf
  obtain ⟨C1, T1, N1, ty0, g1, g2, g3, g4, g5, g6⟩ := hw
  cases h1.symm.trans g1
  obtain ⟨hx, hb, -, -, hown, hts, hNZ, hK, -, hname, -⟩ := C
  have hap := va_apart (own := X.1.cls) hts h3 ty0 g2 g3 hK h1
  have hat := hH.2 a ha
  rw [hL] at hat
  obtain ⟨r0, q0, cell, q1, q2, q3, q4⟩ := hat
  cases q0.symm.trans h1
  obtain ⟨hSl, hfc, kC, hkC, hkind⟩ := hK.1 ci _ h1
  obtain ⟨cf, kf, fi, f, hi, hsl⟩ := hSl j h2
  have hst := (u_facts hfc hkC (u_lays hts h3 h2) hi).1
  have hlen : j < (qfs B (c a) 0 fs).length := by rw [q_fsl]; exact hjl
  have fin1 : ∀ (H' : Heap), H'[B + a]? = some (cell.setSlot f.slot v) → H'.size = H.size → (∀ q, q ≠ B + a → H'[q]? = H[q]?) → W p l e R s m args below meth cd H' (locs ++ [⟨B + a, f.slot⟩]) k z Q (F0 m (pc + 3) ls rest) := by
    intro H' e1 e2 e3
    rw [hsl] at e1
    refine h H' _ e2 e3 ⟨_, h1, t_OB.to (V := updV (vp_V (qfs B (c a) 0 fs)) j v) ⟨_, e1, q2, q3, t_set q4 hap h2 v⟩ (fun i _ => vp_updV_set hlen v i)⟩ (hS.put e2 e3 (by show B ≤ B + a; omega))
  cases fin with
  | false =>
    have hlay := hts _ (h3 _ (u_in_lay h2))
    unfold u_lay at hlay
    rw [if_neg (by rw [g4]; decide)] at hlay
    have h6 := u_store hfc hkC hkind hlay hi g5 hn hfit
    rcases h4 with h4 | ⟨host, h4⟩
    · exact W.putK hx hb (f := f) ⟨hown, hts _ h4, ⟨_, _, _, hi⟩, hst⟩ (by rw [q2]; exact h6) q1 q3 (by rw [hsl]; exact k2_hasslot (q4 j h2)) rfl rfl hd fin1
    · exact va_WputK hx hb (f := f) hown (va_Nw.use rfl (hNZ _ h4)) hi hst (by rw [q2]; exact h6) q1 q3 (by rw [hsl]; exact k2_hasslot (q4 j h2)) rfl rfl hd fin1
  | true =>
    obtain ⟨f1, f2, f3⟩ := hfin rfl
    have hlay := hts _ (h3 _ (u_in_lay h2))
    unfold u_lay at hlay
    rw [if_pos g4] at hlay
    have hcf : m.cls = cf := by
      obtain ⟨_, _, c', _, _, _, -, -, hf', -, -, -, hown2, -⟩ := Cond.laysFinal_spec hlay
      have e1 : c' = cf := by have := hi.symm.trans hf'; simp at this; exact this.1.symm
      have f2' : X.1.cls = C0 := f2 _ h1
      rw [g6, ← f2'] at hown2
      rw [← e1]; exact Option.some.inj (hown.symm.trans hown2)
    have h6 := u_fits hfc hkC hkind (Or.inr hlay) hi g5 hn hfit
    rcases h4 with h4 | ⟨host, h4⟩
    · exact W.putFinK hx hb hown (hts _ h4) hi hst hcf (hname.trans f1) (by rw [q2]; exact h6) q1 q3 (by rw [hsl]; exact k2_hasslot (q4 j h2)) rfl rfl hd fin1
    · exact absurd h4 (f3 _ _ _ _ h1)
theorem q_fset {B : Nat} {g g' : Int → Int} {fs fs' : List qF} {j : Nat} {f : qF} {v : Value} (hl : fs'.length = fs.length) (hf : fs'[j]? = some f) (hv : qf B (g' j) f = v) (ho : ∀ i : Nat, i ≠ j → fs'[i]? = fs[i]? ∧ g' i = g i) : (qfs B g 0 fs).set j v = qfs B g' 0 fs' := by
  apply List.ext_getElem?
  intro i
  have hj : j < fs'.length := (List.getElem?_eq_some_iff.mp hf).1
  rw [List.getElem?_set, q_fsl]
  by_cases e : j = i
  · subst e
    rw [if_pos rfl, if_pos (by omega), q_fs, hf, Nat.zero_add, ← hv]; rfl
  · rw [if_neg e, q_fs, q_fs, (ho i (fun q => e q.symm)).1, Nat.zero_add, (ho i (fun q => e q.symm)).2]
theorem g_putI {a ci j idx kd : Nat} {fs : List qF} {x : Int} (ji : Int) (hd : decode Y.1.2.1 pc = .ok (.putfield idx, 3)) (hf : qFl Y.1.1.cls idx ci j) (hw : qFw ci j .int false) (hL : w.1 a = .inr (.inr (ci, fs))) (ha : a < w.2.1) (hfs : fs[j]? = some (.inr kd)) (hkd : kd ≠ 1) (hj : ji = (j : Int)) (h : qG Y w (pc + 3) lo st (qu c a ji x)) : qG Y w pc lo (qI x :: qP a :: st) c := by
  subst hj
  intro p l e R s m args below meth cd D cs B H locs ls C hE hH hS hl hn
  have hjl : j < fs.length := (List.getElem?_eq_some_iff.mp hfs).1
  refine q_putW (v := .int (Int32.ofInt x)) C hH hS hd hf hw (fun q => by cases q) hL ha hjl rfl rfl (fun H1 locs1 z1 o1 a1 s1 => ?_)
  refine h p l e R s m args below meth cd D cs B H1 locs1 ls C hE (hH.set (k := a) z1 o1 ?_ (fun i hi => ⟨qu_ne hi, rfl⟩)) s1 hl hn
  rw [hL]
  rw [q_fset (g' := qu c a j x a) (fs' := fs) rfl hfs (by rw [qu_eq]; exact q_fi hkd) (fun i hi => ⟨rfl, qu_off (by omega)⟩)] at a1
  exact a1
theorem g_putZ {a ci j idx kd : Nat} {fs : List qF} {x : Int} (ji : Int) (hd : decode Y.1.2.1 pc = .ok (.putfield idx, 3)) (hf : qFl Y.1.1.cls idx ci j) (hw : qFw ci j .boolean false) (hL : w.1 a = .inr (.inr (ci, fs))) (ha : a < w.2.1) (hfs : fs[j]? = some (.inr kd)) (hkd : kd ≠ 1) (hj : ji = (j : Int)) (hb : x = 0 ∨ x = 1) (h : qG Y w (pc + 3) lo st (qu c a ji x)) : qG Y w pc lo (qI x :: qP a :: st) c := by
  subst hj
  intro p l e R s m args below meth cd D cs B H locs ls C hE hH hS hl hn
  have hjl : j < fs.length := (List.getElem?_eq_some_iff.mp hfs).1
  refine q_putW (v := .int (Int32.ofInt x)) C hH hS hd hf hw (fun q => by cases q) hL ha hjl (by rcases hb with rfl | rfl <;> decide) (by rcases hb with rfl | rfl <;> decide) (fun H1 locs1 z1 o1 a1 s1 => ?_)
  refine h p l e R s m args below meth cd D cs B H1 locs1 ls C hE (hH.set (k := a) z1 o1 ?_ (fun i hi => ⟨qu_ne hi, rfl⟩)) s1 hl hn
  rw [hL]
  rw [q_fset (g' := qu c a j x a) (fs' := fs) rfl hfs (by rw [qu_eq]; exact q_fi hkd) (fun i hi => ⟨rfl, qu_off (by omega)⟩)] at a1
  exact a1
theorem g_putJ {a ci j idx : Nat} {fs : List qF} {x : Int} (ji : Int) (hd : decode Y.1.2.1 pc = .ok (.putfield idx, 3)) (hf : qFl Y.1.1.cls idx ci j) (hw : qFw ci j .long false) (hL : w.1 a = .inr (.inr (ci, fs))) (ha : a < w.2.1) (hfs : fs[j]? = some (.inr 1)) (hj : ji = (j : Int)) (h : qG Y w (pc + 3) lo st (qu c a ji x)) : qG Y w pc lo (qJ x :: qP a :: st) c := by
  subst hj
  intro p l e R s m args below meth cd D cs B H locs ls C hE hH hS hl hn
  have hjl : j < fs.length := (List.getElem?_eq_some_iff.mp hfs).1
  refine q_putW (v := .long (Int64.ofInt x)) C hH hS hd hf hw (fun q => by cases q) hL ha hjl rfl rfl (fun H1 locs1 z1 o1 a1 s1 => ?_)
  refine h p l e R s m args below meth cd D cs B H1 locs1 ls C hE (hH.set (k := a) z1 o1 ?_ (fun i hi => ⟨qu_ne hi, rfl⟩)) s1 hl hn
  rw [hL]
  rw [q_fset (g' := qu c a j x a) (fs' := fs) rfl hfs (by rw [qu_eq]; rfl) (fun i hi => ⟨rfl, qu_off (by omega)⟩)] at a1
  exact a1
-- returns
section RET
variable {X : qM} {r : Nat × Nat × Nat} {E : State → Array Value → Nat → Prop} {post : Option qV → (Nat → qL) → Nat → qC → Prop}
theorem g_iret {v : Int} (hd : decode X.2.1 pc = .ok (.ireturn, 1)) (hr : X.2.2.2 = some .int) (hk : w.2.2.1 ≤ r.2.1) (hz : w.2.2.2 ≤ r.2.2) (hq : post (some (qI v)) w.1 w.2.1 c) : qG (X, r, E, qZm post r.2.1 r.2.2) w pc lo [qI v] c := by
  intro p l e R s m args below meth cd D cs B H locs ls C hE hH hS hl hn
  have hlocks : meth.locks = false := C.2.2.2.2.2.2.2.2.1
  refine W.widen (k := r.2.1) (n := r.2.2) hk hz ?_
  exact W.iret (v := Int32.ofInt v) C.1 C.2.1 (C.2.2.1.trans hr) (fun t ht hW => ⟨⟨some (qI v), w.1, w.2.1, c, rfl, hq, by rw [ht]; exact hH⟩, hS.F ht⟩) hS.2.2 hd
theorem g_zret {v : Int} (hd : decode X.2.1 pc = .ok (.ireturn, 1)) (hr : X.2.2.2 = some .boolean) (hb : v = 0 ∨ v = 1) (hk : w.2.2.1 ≤ r.2.1) (hz : w.2.2.2 ≤ r.2.2) (hq : post (some (qI v)) w.1 w.2.1 c) : qG (X, r, E, qZm post r.2.1 r.2.2) w pc lo [qI v] c := by
  intro p l e R s m args below meth cd D cs B H locs ls C hE hH hS hl hn
  have hlocks : meth.locks = false := C.2.2.2.2.2.2.2.2.1
  refine W.widen (k := r.2.1) (n := r.2.2) hk hz ?_
  exact W.zret (v := Int32.ofInt v) (ty := .boolean) C.1 C.2.1 (C.2.2.1.trans hr) (by rcases hb with rfl | rfl <;> decide) (fun t ht hW => ⟨⟨some (qI v), w.1, w.2.1, c, rfl, hq, by rw [ht]; exact hH⟩, hS.F ht⟩) hS.2.2 hd
theorem g_lret {v : Int} (hd : decode X.2.1 pc = .ok (.lreturn, 1)) (hr : X.2.2.2 = some .long) (hk : w.2.2.1 ≤ r.2.1) (hz : w.2.2.2 ≤ r.2.2) (hq : post (some (qJ v)) w.1 w.2.1 c) : qG (X, r, E, qZm post r.2.1 r.2.2) w pc lo [qJ v] c := by
  intro p l e R s m args below meth cd D cs B H locs ls C hE hH hS hl hn
  have hlocks : meth.locks = false := C.2.2.2.2.2.2.2.2.1
  refine W.widen (k := r.2.1) (n := r.2.2) hk hz ?_
  exact W.lret (v := Int64.ofInt v) C.1 C.2.1 (C.2.2.1.trans hr) (fun t ht hW => ⟨⟨some (qJ v), w.1, w.2.1, c, rfl, hq, by rw [ht]; exact hH⟩, hS.F ht⟩) hS.2.2 hd
theorem g_vret (hd : decode X.2.1 pc = .ok (.return_, 1)) (hr : X.2.2.2 = none) (hk : w.2.2.1 ≤ r.2.1) (hz : w.2.2.2 ≤ r.2.2) (hq : post none w.1 w.2.1 c) : qG (X, r, E, qZm post r.2.1 r.2.2) w pc lo [] c := by
  intro p l e R s m args below meth cd D cs B H locs ls C hE hH hS hl hn
  have hlocks : meth.locks = false := C.2.2.2.2.2.2.2.2.1
  refine W.widen (k := r.2.1) (n := r.2.2) hk hz ?_
  exact W.vret C.1 C.2.1 (C.2.2.1.trans hr) (fun t ht hW => ⟨⟨none, w.1, w.2.1, c, rfl, hq, by rw [ht]; exact hH⟩, hS.F ht⟩) hS.2.2 hd
end RET
-- calls
theorem q_after {post : Option qV → (Nat → qL) → Nat → qC → Prop} {p : Program} {l : Launch} {e : Env} {R : Room} {s : State} {m : MethodId} {args : Array Value} {below : List Frame} {meth : Method} {cd : Code} {D : va_G} {cs : qS} {B k z mc ms : Nat} {H : Heap} {locs : List Loc} {ls : Array Slot} {Q : State → Prop} {st0 rest : List Value} {a : Array Value}
    (hr : va_Run p l e R s m args below meth cd H locs k z mc ms (F0 m pc ls st0) rest (qQ post D cs B a) (fun q : Nat => B ≤ q)) (hS : va_S (fun q : Nat => B ≤ q) s.heap H locs)
    (kk : ∀ (r : Option qV) (L : Nat → qL) (n : Nat) (c' : qC) (H1 : Heap) (locs1 : List Loc), post r L n c' → qH D cs B L n c' H1 → va_S (fun q : Nat => B ≤ q) s.heap H1 locs1 → W p l e R s m args below meth cd H1 locs1 (k + mc) (z + ms) Q (F0 m (pc + 3) ls ((r.map (qv B)).toList ++ rest))) : W p l e R s m args below meth cd H locs k z Q (F0 m pc ls st0) := by
  intro T hT X
  obtain ⟨v, st₀, t, T', L, h0, X', hL, e1, e2, ⟨⟨r, L', n', c', hv, hp, hh⟩, hz, hk⟩, st⟩ := hr T hT X
  cases hv
  rw [h0] at hz hk
  obtain ⟨t2, a1, b1⟩ := kk r L' n' c' T'.heap (locs ++ L) hp (by rw [e1]; exact hh)
    ⟨Nat.le_trans hS.1 (by rw [e1]; exact hz), fun q h1 h2 => by rw [e1, hk q (Nat.lt_of_lt_of_le h1 hS.1) h2]; exact hS.2.1 q h1 h2, fun q hq => by
      rcases List.mem_append.mp hq with h | h
      · exact hS.2.2 q h
      · exact hL q h⟩ T' rfl X'
  exact ⟨t2, st t2 a1, b1⟩
/-- the words of a call -/
def qLk (own : String) (idx np : Nat) (X : qM) : Prop := Cond.code X.1 X.2.1 X.2.2.1 X.2.2.2 ∈ qALL ∧ Cond.initialized X.1.cls ∈ qALL ∧ (X.1.cls ≠ "java/lang/invoke/MethodHandle" ∧ X.1.cls ≠ "java/lang/invoke/VarHandle" ∧ (parseMethodDescriptor X.1.desc).map (fun d => d.parameters.length) = some np) ∧ X.2.2.1 ≤ 29 ∧ (Cond.methodLink own idx X.1 ∈ qALL ∨ ∃ host : String, Cond.methodLinkNest own idx X.1 host ∈ qNZ)
def qIm (X : qM) : Prop := Cond.instanceMethod X.1 ∈ qALL ∧ Cond.selects X.1.cls X.1 X.1 ∈ qALL
theorem q_good {X : qM} (h : Cond.code X.1 X.2.1 X.2.2.1 X.2.2.2 ∈ qALL) : GoodIn qALL (Cond.code X.1 X.2.1 X.2.2.1 X.2.2.2 :: qALL) := by
  intro w hw
  have h1 : w ∈ qALL := by
    rcases List.mem_cons.mp hw with e | e
    · rw [e]; exact h
    · exact e
  exact ⟨h1, good_of_word (List.mem_filter.mp h1).2⟩
theorem q_warm {w : Cond} (hw : w ∈ qNZ) {s U : State} (hW : s.WarmedH U.vm) (h : va_Nw w s) : va_Nw w U := by
  have h2 := (List.mem_filter.mp hw).2
  cases w
  case fieldLinkNest => exact va_Nw.warmF hW h
  case methodLinkNest => exact va_Nw.warmM hW h
  case arrayOver t =>
    cases t
    case object C => exact va_AO.moved hW.alike h
    all_goals exact absurd h2 (by simp [qnest])
  all_goals exact absurd h2 (by simp [qnest])
theorem q_blind (D : va_G) (cs : qS) (B : Nat) (L : Nat → qL) (n : Nat) (c : qC) (as : List Value) : FrameBlind (va_Pc as (qU D cs B L n c)) := by
  intro a U g mk q
  obtain ⟨q0, q1, qH, qK, qN⟩ := q
  exact ⟨q0, q1, qH, va_K.moved (u := U) (U := U.calling g mk a) (Vm.Alike.refl U.vm) qK, fun w hw => q_same hw (rfl : U.vm = (U.calling g mk a).vm) (qN w hw)⟩
theorem q_pre {X : qM} {r : Nat × Nat × Nat} {p : Program} {R : Room} {s : State} {m : MethodId} {args : Array Value} {meth : Method} {cd : Code} {D : va_G} {cs : qS} {B n : Nat} {L : Nat → qL} {H : Heap} {locs : List Loc} (C : qCx X r p R s m args meth cd D cs B) (hH : qH D cs B L n c H) (hS : va_S (fun q : Nat => B ≤ q) s.heap H locs) (U : State) (hU : U.heap = H) (hW : s.WarmedH U.vm) : qU D cs B L n c U :=
  ⟨by rw [hU]; exact Nat.le_trans C.2.2.2.2.2.2.2.2.2.2.1 hS.1, by rw [hU]; exact hH, va_K.moved hW.alike C.2.2.2.2.2.2.2.1, fun w hw => q_warm hw hW (C.2.2.2.2.2.2.1 w hw)⟩
theorem q_stk {B : Nat} {As rest : List qV} {a : Nat} {st0 : List qV} (h : st0 = As.reverse ++ qP a :: rest) : st0.map (qv B) = (As.map (qv B)).reverse ++ .ref (B + a) :: rest.map (qv B) := by
  rw [h, List.map_append, List.map_reverse]; rfl
theorem q_stkS {B : Nat} {As rest : List qV} {st0 : List qV} (h : st0 = As.reverse ++ rest) : st0.map (qv B) = (As.map (qv B)).reverse ++ rest.map (qv B) := by
  rw [h, List.map_append, List.map_reverse]
theorem q_ret {B : Nat} {r : Option qV} {rest : List qV} : (r.map (qv B)).toList ++ rest.map (qv B) = (r.toList ++ rest).map (qv B) := by
  cases r <;> rfl
theorem g_callV {X : qM} {r : Nat × Nat × Nat} {As rest st0 : List qV} {a ci idx np : Nat} {fs : List qF} {post : Option qV → (Nat → qL) → Nat → qC → Prop} (hM : qK X r (qP a :: As) w.1 w.2.1 c post) (hd : decode Y.1.2.1 pc = .ok (.invokevirtual idx, 3)) (hk : qLk Y.1.1.cls idx np X) (hi : qIm X) (hL : w.1 a = .inr (.inr (ci, fs))) (ha : a < w.2.1) (hci : (qcl[ci]?).map (fun q => q.1) = some X.1.cls) (hn : As.length = np) (hst : st0 = As.reverse ++ qP a :: rest) (hcs : Nat.ble (qcs rest) 8 = true) (hr : r.1 + 1 ≤ Y.2.1.1) (hmc : w.2.2.1 + r.2.1 ≤ Y.2.1.2.1) (hms : w.2.2.2 + r.2.2 ≤ Y.2.1.2.2)
    (kk : ∀ (v : Option qV) (L : Nat → qL) (n : Nat) (c' : qC), post v L n c' → qG Y (L, n, w.2.2.1 + r.2.1, w.2.2.2 + r.2.2) (pc + 3) lo (v.toList ++ rest) c') : qG Y w pc lo st0 c := by
  intro p l e R s m args below meth cd D cs B H locs ls C hE hH hS hl hnl
  have C' := C
  obtain ⟨hx, hb, -, hml, hown, hts, hNZ, hK, -, hname, hB, hfr, hlc, hce, hso⟩ := C
  obtain ⟨k1, k2, k3, k4, k5⟩ := hk
  have hR : (qrm r).frames + 1 ≤ R.frames ∧ 8 + (X.2.2.1 + 11) + (qrm r).locals ≤ R.locals := ⟨by show r.1 + 1 ≤ _; omega, by show 8 + (X.2.2.1 + 11) + 48 * r.1 ≤ _; omega⟩
  have hsz : ls.size = Y.1.2.2.1 := hnl
  obtain ⟨q, hq, hqc⟩ : ∃ q, qcl[ci]? = some q ∧ q.1 = X.1.cls := by
    cases h : qcl[ci]? with
    | none => rw [h] at hci; cases hci
    | some q => rw [h] at hci; exact ⟨q, rfl, Option.some.inj hci⟩
  have hrecv := va_recv hK (hH.one ha hL) (ci := ci) (q0 := 0) hq rfl
  rw [hqc] at hrecv
  have hpre : PreV s H X.1.cls (B + a) (va_Pc ((qP a :: As).map (qv B)) (qU D cs B w.1 w.2.1 c)) (As.map (qv B)) := ⟨q_blind _ _ _ _ _ _ _, hrecv, fun U hU hW => ⟨rfl, q_pre C' hH hS U hU hW⟩⟩
  have hW0 : 2 * (F0 m pc ls (st0.map (qv B))).monitorRoom + ((rest.map (qv B)).map fun v => v.category).sum ≤ 8 := by
    rw [q_cs]; show 2 * 0 + _ ≤ 8; have := Nat.le_of_ble_eq_true hcs; omega
  have hS2 := hS
  rcases k5 with k5 | ⟨host, k5⟩
  · refine q_after (va_runV (As := As.map (qv B)) (rest := rest.map (qv B)) (b := B + a) (n := np) ⟨hx, hb, hml, hown, hts⟩ (hM l D cs B) ⟨callB_of np hts (q_good k1) rfl rfl rfl (hts _ k2) (hts _ k5) k3 hR, hts _ hi.1, hts _ hi.2⟩ hpre rfl (by rw [List.length_map]; exact hn) hsz (q_stk hst) hW0 hd ⟨by show _ + r.2.1 ≤ _; omega, by show _ + r.2.2 ≤ _; omega⟩) hS (fun v L n c' H1 locs1 hp hH1 hS1 => ?_)
    rw [q_ret]
    exact kk v L n c' hp p l e R s m args below meth cd D cs B H1 locs1 ls C' hE hH1 hS1 hl hnl
  · refine q_after (va_runVN (As := As.map (qv B)) (rest := rest.map (qv B)) (b := B + a) (n := np) ⟨hx, hb, hml, hown, hts⟩ (hM l D cs B) ⟨va_cnB np hts (q_good k1) rfl rfl rfl (hNZ _ k5) (hts _ k2) k3 hR, hts _ hi.1, hts _ hi.2⟩ hpre rfl (by rw [List.length_map]; exact hn) hsz (q_stk hst) hW0 hd ⟨by show _ + r.2.1 ≤ _; omega, by show _ + r.2.2 ≤ _; omega⟩) hS (fun v L n c' H1 locs1 hp hH1 hS1 => ?_)
    rw [q_ret]
    exact kk v L n c' hp p l e R s m args below meth cd D cs B H1 locs1 ls C' hE hH1 hS1 hl hnl
theorem g_callS {X : qM} {r : Nat × Nat × Nat} {As rest st0 : List qV} {idx np : Nat} {post : Option qV → (Nat → qL) → Nat → qC → Prop} (hM : qK X r As w.1 w.2.1 c post) (hd : decode Y.1.2.1 pc = .ok (.invokestatic idx, 3)) (hk : qLk Y.1.1.cls idx np X) (hi : Cond.static X.1 ∈ qALL) (hn : As.length = np) (hst : st0 = As.reverse ++ rest) (hcs : Nat.ble (qcs rest) 8 = true) (hr : r.1 + 1 ≤ Y.2.1.1) (hmc : w.2.2.1 + r.2.1 ≤ Y.2.1.2.1) (hms : w.2.2.2 + r.2.2 ≤ Y.2.1.2.2)
    (kk : ∀ (v : Option qV) (L : Nat → qL) (n : Nat) (c' : qC), post v L n c' → qG Y (L, n, w.2.2.1 + r.2.1, w.2.2.2 + r.2.2) (pc + 3) lo (v.toList ++ rest) c') : qG Y w pc lo st0 c := by
  intro p l e R s m args below meth cd D cs B H locs ls C hE hH hS hl hnl
  have C' := C
  obtain ⟨hx, hb, -, hml, hown, hts, hNZ, hK, -, hname, hB, hfr, hlc, hce, hso⟩ := C
  obtain ⟨k1, k2, k3, k4, k5⟩ := hk
  have hR : (qrm r).frames + 1 ≤ R.frames ∧ 8 + (X.2.2.1 + 11) + (qrm r).locals ≤ R.locals := ⟨by show r.1 + 1 ≤ _; omega, by show 8 + (X.2.2.1 + 11) + 48 * r.1 ≤ _; omega⟩
  have hsz : ls.size = Y.1.2.2.1 := hnl
  have hpre : PreS s H (va_Pc (As.map (qv B)) (qU D cs B w.1 w.2.1 c)) (As.map (qv B)) := ⟨q_blind _ _ _ _ _ _ _, fun U hU hW => ⟨rfl, q_pre C' hH hS U hU hW⟩⟩
  have hW0 : 2 * (F0 m pc ls (st0.map (qv B))).monitorRoom + ((rest.map (qv B)).map fun v => v.category).sum ≤ 8 := by
    rw [q_cs]; show 2 * 0 + _ ≤ 8; have := Nat.le_of_ble_eq_true hcs; omega
  rcases k5 with k5 | ⟨host, k5⟩
  · refine q_after (va_runS (As := As.map (qv B)) (rest := rest.map (qv B)) (n := np) ⟨hx, hb, hml, hown, hts⟩ (hM l D cs B) ⟨callB_of np hts (q_good k1) rfl rfl rfl (hts _ k2) (hts _ k5) k3 hR, hts _ hi⟩ hpre rfl (by rw [List.length_map]; exact hn) hsz (q_stkS hst) hW0 hd ⟨by show _ + r.2.1 ≤ _; omega, by show _ + r.2.2 ≤ _; omega⟩) hS (fun v L n c' H1 locs1 hp hH1 hS1 => ?_)
    rw [q_ret]
    exact kk v L n c' hp p l e R s m args below meth cd D cs B H1 locs1 ls C' hE hH1 hS1 hl hnl
  · refine q_after (va_runSN (As := As.map (qv B)) (rest := rest.map (qv B)) (n := np) ⟨hx, hb, hml, hown, hts⟩ (hM l D cs B) ⟨va_cnB np hts (q_good k1) rfl rfl rfl (hNZ _ k5) (hts _ k2) k3 hR, hts _ hi, trivial⟩ hpre rfl (by rw [List.length_map]; exact hn) hsz (q_stkS hst) hW0 hd ⟨by show _ + r.2.1 ≤ _; omega, by show _ + r.2.2 ≤ _; omega⟩) hS (fun v L n c' H1 locs1 hp hH1 hS1 => ?_)
    rw [q_ret]
    exact kk v L n c' hp p l e R s m args below meth cd D cs B H1 locs1 ls C' hE hH1 hS1 hl hnl
theorem g_callI {X : qM} {r : Nat × Nat × Nat} {As rest st0 : List qV} {a idx np : Nat} {post : Option qV → (Nat → qL) → Nat → qC → Prop} (hM : qK X r (qP a :: As) w.1 w.2.1 c post) (hd : decode Y.1.2.1 pc = .ok (.invokespecial idx, 3)) (hk : qLk Y.1.1.cls idx np X) (hnest : ∀ host : String, Cond.methodLinkNest Y.1.1.cls idx X.1 host ∉ qNZ) (hi : Cond.instanceMethod X.1 ∈ qALL) (hy : X.1.name = "<init>") (hv : X.2.2.2 = none) (hn : As.length = np) (hst : st0 = As.reverse ++ qP a :: rest) (hcs : Nat.ble (qcs rest) 8 = true) (hr : r.1 + 1 ≤ Y.2.1.1) (hmc : w.2.2.1 + r.2.1 ≤ Y.2.1.2.1) (hms : w.2.2.2 + r.2.2 ≤ Y.2.1.2.2)
    (kk : ∀ (v : Option qV) (L : Nat → qL) (n : Nat) (c' : qC), post v L n c' → qG Y (L, n, w.2.2.1 + r.2.1, w.2.2.2 + r.2.2) (pc + 3) lo (v.toList ++ rest) c') : qG Y w pc lo st0 c := by
  intro p l e R s m args below meth cd D cs B H locs ls C hE hH hS hl hnl
  have C' := C
  obtain ⟨hx, hb, -, hml, hown, hts, hNZ, hK, -, hname, hB, hfr, hlc, hce, hso⟩ := C
  obtain ⟨k1, k2, k3, k4, k5⟩ := hk
  have hR : (qrm r).frames + 1 ≤ R.frames ∧ 8 + (X.2.2.1 + 11) + (qrm r).locals ≤ R.locals := ⟨by show r.1 + 1 ≤ _; omega, by show 8 + (X.2.2.1 + 11) + 48 * r.1 ≤ _; omega⟩
  have hsz : ls.size = Y.1.2.2.1 := hnl
  have hpre : PreS s H (va_Pc ((qP a :: As).map (qv B)) (qU D cs B w.1 w.2.1 c)) (.ref (B + a) :: As.map (qv B)) := ⟨q_blind _ _ _ _ _ _ _, fun U hU hW => ⟨rfl, q_pre C' hH hS U hU hW⟩⟩
  have hW0 : 2 * (F0 m pc ls (st0.map (qv B))).monitorRoom + ((rest.map (qv B)).map fun v => v.category).sum ≤ 8 := by
    rw [q_cs]; show 2 * 0 + _ ≤ 8; have := Nat.le_of_ble_eq_true hcs; omega
  have hMl := hM l D cs B
  rw [hv] at hMl k1
  have hg := q_good (X := (X.1, X.2.1, X.2.2.1, none)) k1
  rcases k5 with k5 | ⟨host, k5⟩
  · refine q_after (va_runI (As := As.map (qv B)) (rest := rest.map (qv B)) (b := B + a) (n := np) ⟨hx, hb, hml, hown, hts⟩ hMl ⟨callB_of np hts hg rfl rfl rfl (hts _ k2) (hts _ k5) k3 hR, hy, hts _ hi⟩ hpre rfl (by rw [List.length_map]; exact hn) hsz (q_stk hst) hW0 hd ⟨by show _ + r.2.1 ≤ _; omega, by show _ + r.2.2 ≤ _; omega⟩) hS (fun v L n c' H1 locs1 hp hH1 hS1 => ?_)
    rw [q_ret]
    exact kk v L n c' hp p l e R s m args below meth cd D cs B H1 locs1 ls C' hE hH1 hS1 hl hnl
  · exact absurd k5 (hnest host)
end QH
end
section
/-! THE CELLS, in the order in which the law makes them: 0 the class's object, 1 its Table (2 cells, 3 distances), 4 slots, 5 and 8 the Groupings (groupOf, sizes behind each), 11 MeanRounds, 18 BestRows, 23 DenseRows, 27 Joins, 37 and 38 the Fractions (Joins', the class's), 39 the reference and its arrays -/
def LAYs : Nat → Option Nat
  | 0 => some 5
  | 1 => some 8
  | _ => none
def LAY : Nat → qL
  | 0 => .inr (.inr (7, [.inl (some 1), .inl (some 4), .inl (some 11), .inl (some 18), .inl (some 23), .inl (some 27), .inl (some 38)]))
  | 1 => .inr (.inr (6, [.inl (some 2), .inl (some 3), .inr 0, .inr 0]))
  | 2 => .inl (0, 120)
  | 3 => .inl (0, 2700)
  | 4 => .inr (.inl (2, LAYs))
  | 5 => .inr (.inr (3, [.inl (some 6), .inl (some 7), .inr 0, .inr 0]))
  | 6 => .inl (0, 30)
  | 7 => .inl (0, 30)
  | 8 => .inr (.inr (3, [.inl (some 9), .inl (some 10), .inr 0, .inr 0]))
  | 9 => .inl (0, 30)
  | 10 => .inl (0, 30)
  | 11 => .inr (.inr (5, [.inl (some 12), .inl (some 13), .inl (some 14), .inl (some 15), .inl (some 16), .inl (some 17), .inr 0]))
  | 12 => .inl (0, 30)
  | 13 => .inl (0, 30)
  | 14 => .inl (0, 6)
  | 15 => .inl (0, 24)
  | 16 => .inl (0, 6)
  | 17 => .inl (0, 30)
  | 18 => .inr (.inr (0, [.inl (some 19), .inl (some 20), .inl (some 21), .inl (some 22), .inr 0, .inr 0]))
  | 19 => .inl (0, 30)
  | 20 => .inl (0, 3)
  | 21 => .inl (0, 3)
  | 22 => .inl (0, 90)
  | 23 => .inr (.inr (1, [.inl (some 24), .inl (some 25), .inl (some 26)]))
  | 24 => .inl (0, 30)
  | 25 => .inl (2, 30)
  | 26 => .inl (0, 30)
  | 27 => .inr (.inr (4, [.inl (some 28), .inl (some 29), .inl (some 30), .inl (some 31), .inl (some 32), .inl (some 33), .inl (some 34), .inl (some 35), .inl (some 36), .inl (some 37), .inr 0, .inr 0]))
  | 28 => .inl (0, 30)
  | 29 => .inl (0, 30)
  | 30 => .inl (0, 30)
  | 31 => .inl (1, 30)
  | 32 => .inl (1, 30)
  | 33 => .inl (0, 30)
  | 34 => .inl (0, 30)
  | 35 => .inl (1, 120)
  | 36 => .inl (1, 900)
  | 37 => .inr (.inr (2, [.inr 1, .inr 1]))
  | 38 => .inr (.inr (2, [.inr 1, .inr 1]))
  | 39 => .inr (.inr (8, [.inr 0, .inr 0, .inl (some 40), .inl (some 41), .inl (some 42), .inl (some 43), .inr 0, .inl (some 44), .inr 2, .inr 0, .inl (some 45), .inl (some 46), .inl (some 47), .inl (some 48), .inl (some 49), .inl (some 50), .inl (some 51), .inl (some 52), .inl (some 53), .inl (some 54), .inl (some 55), .inl (some 56), .inr 1, .inr 1, .inl (some 57), .inl (some 58), .inl (some 59), .inl (some 60), .inl (some 61)]))
  | 40 => .inl (0, 120)
  | 41 => .inl (2, 2)
  | 42 => .inl (0, 2)
  | 43 => .inl (0, 60)
  | 44 => .inl (0, 3)
  | 45 => .inl (0, 29)
  | 46 => .inl (0, 29)
  | 47 => .inl (0, 29)
  | 48 => .inl (1, 29)
  | 49 => .inl (1, 29)
  | 50 => .inl (0, 900)
  | 51 => .inl (1, 24)
  | 52 => .inl (0, 6)
  | 53 => .inl (0, 30)
  | 54 => .inl (2, 30)
  | 55 => .inl (2, 30)
  | 56 => .inl (0, 30)
  | 57 => .inl (1, 30)
  | 58 => .inl (1, 120)
  | 59 => .inl (1, 900)
  | 60 => .inl (1, 900)
  | 61 => .inl (1, 900)
  | _ => .inl (0, 0)
abbrev NN : Nat := 62
abbrev wN : qW := (LAY, NN, 0, 0)
/-- a normal contract: the cells stay, what they hold changes -/
def qN (X : qM) (d : Nat) (as : List qV) (c : qC) (post : Option qV → qC → Prop) : Prop := qK X (d, 0, 0) as LAY NN c (fun r L n c' => L = LAY ∧ n = NN ∧ post r c')
abbrev qYn (X : qM) (d : Nat) (post : Option qV → qC → Prop) : qY := (X, (d, 0, 0), qE0, qZm (fun r L n c' => L = LAY ∧ n = NN ∧ post r c') 0 0)
abbrev pI (P : Int → qC → Prop) : Option qV → qC → Prop := fun r c' => ∃ z, r = some (qI z) ∧ P z c'
abbrev pJ (P : Int → qC → Prop) : Option qV → qC → Prop := fun r c' => ∃ z, r = some (qJ z) ∧ P z c'
abbrev pV (P : qC → Prop) : Option qV → qC → Prop := fun r c' => r = none ∧ P c'
theorem qN.of {X : qM} {d : Nat} {as : List qV} {c : qC} {post : Option qV → qC → Prop} (lo : List (Option qV)) (hp : plainName X.1.cls = true) (hlen : lo.length = X.2.2.1) (hlo : ∀ B : Nat, qlv B 0 lo = lv_args 0 (as.map (qv B))) (hsl : ∀ B : Nat, (lg_sl (as.map (qv B))).length ≤ X.2.2.1) (h : qG (qYn X d post) wN 0 lo [] c) : qN X d as c post := qK.of lo hp hlen hlo hsl h
section QN
variable {Y : qY} {X : qM} {d pc : Nat} {lo : List (Option qV)} {st : List qV} {c : qC}
theorem n_reti {P : Int → qC → Prop} {v : Int} (hd : decode X.2.1 pc = .ok (.ireturn, 1)) (hr : X.2.2.2 = some .int) (hq : P v c) : qG (qYn X d (pI P)) wN pc lo [qI v] c := g_iret hd hr (Nat.le_refl 0) (Nat.le_refl 0) ⟨rfl, rfl, v, rfl, hq⟩
theorem n_retz {P : Int → qC → Prop} {v : Int} (hd : decode X.2.1 pc = .ok (.ireturn, 1)) (hr : X.2.2.2 = some .boolean) (hb : v = 0 ∨ v = 1) (hq : P v c) : qG (qYn X d (pI P)) wN pc lo [qI v] c := g_zret hd hr hb (Nat.le_refl 0) (Nat.le_refl 0) ⟨rfl, rfl, v, rfl, hq⟩
theorem n_retj {P : Int → qC → Prop} {v : Int} (hd : decode X.2.1 pc = .ok (.lreturn, 1)) (hr : X.2.2.2 = some .long) (hq : P v c) : qG (qYn X d (pJ P)) wN pc lo [qJ v] c := g_lret hd hr (Nat.le_refl 0) (Nat.le_refl 0) ⟨rfl, rfl, v, rfl, hq⟩
theorem n_retv {P : qC → Prop} (hd : decode X.2.1 pc = .ok (.return_, 1)) (hr : X.2.2.2 = none) (hq : P c) : qG (qYn X d (pV P)) wN pc lo [] c := g_vret hd hr (Nat.le_refl 0) (Nat.le_refl 0) ⟨rfl, rfl, rfl, hq⟩
variable {X' : qM} {d' : Nat} {As rest st0 : List qV} {a ci idx np : Nat} {fs : List qF}
theorem n_callVi {P : Int → qC → Prop} (hM : qN X' d' (qP a :: As) c (pI P)) (hd : decode Y.1.2.1 pc = .ok (.invokevirtual idx, 3)) (hk : qLk Y.1.1.cls idx np X') (hi : qIm X') (hL : LAY a = .inr (.inr (ci, fs))) (ha : a < NN) (hci : (qcl[ci]?).map (fun q => q.1) = some X'.1.cls) (hn : As.length = np) (hst : st0 = As.reverse ++ qP a :: rest) (hcs : Nat.ble (qcs rest) 8 = true) (hr : d' + 1 ≤ Y.2.1.1) (kk : ∀ (z : Int) (c' : qC), P z c' → qG Y wN (pc + 3) lo (qI z :: rest) c') : qG Y wN pc lo st0 c := by
  refine g_callV (w := wN) hM hd hk hi hL ha hci hn hst hcs hr (Nat.zero_le _) (Nat.zero_le _) ?_
  rintro v L n c' ⟨rfl, rfl, z, rfl, hp⟩
  exact kk z c' hp
theorem n_callSi {P : Int → qC → Prop} (hM : qN X' d' As c (pI P)) (hd : decode Y.1.2.1 pc = .ok (.invokestatic idx, 3)) (hk : qLk Y.1.1.cls idx np X') (hi : Cond.static X'.1 ∈ qALL) (hn : As.length = np) (hst : st0 = As.reverse ++ rest) (hcs : Nat.ble (qcs rest) 8 = true) (hr : d' + 1 ≤ Y.2.1.1) (kk : ∀ (z : Int) (c' : qC), P z c' → qG Y wN (pc + 3) lo (qI z :: rest) c') : qG Y wN pc lo st0 c := by
  refine g_callS (w := wN) hM hd hk hi hn hst hcs hr (Nat.zero_le _) (Nat.zero_le _) ?_
  rintro v L n c' ⟨rfl, rfl, z, rfl, hp⟩
  exact kk z c' hp
theorem n_callVj {P : Int → qC → Prop} (hM : qN X' d' (qP a :: As) c (pJ P)) (hd : decode Y.1.2.1 pc = .ok (.invokevirtual idx, 3)) (hk : qLk Y.1.1.cls idx np X') (hi : qIm X') (hL : LAY a = .inr (.inr (ci, fs))) (ha : a < NN) (hci : (qcl[ci]?).map (fun q => q.1) = some X'.1.cls) (hn : As.length = np) (hst : st0 = As.reverse ++ qP a :: rest) (hcs : Nat.ble (qcs rest) 8 = true) (hr : d' + 1 ≤ Y.2.1.1) (kk : ∀ (z : Int) (c' : qC), P z c' → qG Y wN (pc + 3) lo (qJ z :: rest) c') : qG Y wN pc lo st0 c := by
  refine g_callV (w := wN) hM hd hk hi hL ha hci hn hst hcs hr (Nat.zero_le _) (Nat.zero_le _) ?_
  rintro v L n c' ⟨rfl, rfl, z, rfl, hp⟩
  exact kk z c' hp
theorem n_callSj {P : Int → qC → Prop} (hM : qN X' d' As c (pJ P)) (hd : decode Y.1.2.1 pc = .ok (.invokestatic idx, 3)) (hk : qLk Y.1.1.cls idx np X') (hi : Cond.static X'.1 ∈ qALL) (hn : As.length = np) (hst : st0 = As.reverse ++ rest) (hcs : Nat.ble (qcs rest) 8 = true) (hr : d' + 1 ≤ Y.2.1.1) (kk : ∀ (z : Int) (c' : qC), P z c' → qG Y wN (pc + 3) lo (qJ z :: rest) c') : qG Y wN pc lo st0 c := by
  refine g_callS (w := wN) hM hd hk hi hn hst hcs hr (Nat.zero_le _) (Nat.zero_le _) ?_
  rintro v L n c' ⟨rfl, rfl, z, rfl, hp⟩
  exact kk z c' hp
theorem n_callVv {P : qC → Prop} (hM : qN X' d' (qP a :: As) c (pV P)) (hd : decode Y.1.2.1 pc = .ok (.invokevirtual idx, 3)) (hk : qLk Y.1.1.cls idx np X') (hi : qIm X') (hL : LAY a = .inr (.inr (ci, fs))) (ha : a < NN) (hci : (qcl[ci]?).map (fun q => q.1) = some X'.1.cls) (hn : As.length = np) (hst : st0 = As.reverse ++ qP a :: rest) (hcs : Nat.ble (qcs rest) 8 = true) (hr : d' + 1 ≤ Y.2.1.1) (kk : ∀ (c' : qC), P c' → qG Y wN (pc + 3) lo (rest) c') : qG Y wN pc lo st0 c := by
  refine g_callV (w := wN) hM hd hk hi hL ha hci hn hst hcs hr (Nat.zero_le _) (Nat.zero_le _) ?_
  rintro v L n c' ⟨rfl, rfl, rfl, hp⟩
  exact kk c' hp
theorem n_callSv {P : qC → Prop} (hM : qN X' d' As c (pV P)) (hd : decode Y.1.2.1 pc = .ok (.invokestatic idx, 3)) (hk : qLk Y.1.1.cls idx np X') (hi : Cond.static X'.1 ∈ qALL) (hn : As.length = np) (hst : st0 = As.reverse ++ rest) (hcs : Nat.ble (qcs rest) 8 = true) (hr : d' + 1 ≤ Y.2.1.1) (kk : ∀ (c' : qC), P c' → qG Y wN (pc + 3) lo (rest) c') : qG Y wN pc lo st0 c := by
  refine g_callS (w := wN) hM hd hk hi hn hst hcs hr (Nat.zero_le _) (Nat.zero_le _) ?_
  rintro v L n c' ⟨rfl, rfl, rfl, hp⟩
  exact kk c' hp
end QN
section QST
variable {Y : qY} {w : qW} {pc : Nat} {st : List qV} {c : qC} {t : List (Option qV)}
theorem g_istore0 {x : Option qV} {z : Int} (hd : decode Y.1.2.1 pc = .ok (.istore 0, 2)) (h : qG Y w (pc + 2) (some (qI z) :: t) st c) : qG Y w pc (x :: t) (qI z :: st) c := g_istore_g hd (by simp only [List.length_cons]; omega) (by simp [qs1]) h
theorem g_istore_n0 {x : Option qV} {z : Int} (hd : decode Y.1.2.1 pc = .ok (.istore_n 0, 1)) (h : qG Y w (pc + 1) (some (qI z) :: t) st c) : qG Y w pc (x :: t) (qI z :: st) c := g_istore_ng hd rfl (by simp only [List.length_cons]; omega) (by simp [qs1]) h
theorem g_astore0 {x : Option qV} {z : Nat} (hd : decode Y.1.2.1 pc = .ok (.astore 0, 2)) (h : qG Y w (pc + 2) (some (qP z) :: t) st c) : qG Y w pc (x :: t) (qP z :: st) c := g_astore_g hd (by simp only [List.length_cons]; omega) (by simp [qs1]) h
theorem g_astore_n0 {x : Option qV} {z : Nat} (hd : decode Y.1.2.1 pc = .ok (.astore_n 0, 1)) (h : qG Y w (pc + 1) (some (qP z) :: t) st c) : qG Y w pc (x :: t) (qP z :: st) c := g_astore_ng hd rfl (by simp only [List.length_cons]; omega) (by simp [qs1]) h
theorem g_lstore0 {x : Option qV} {y : Option qV} {z : Int} (hd : decode Y.1.2.1 pc = .ok (.lstore 0, 2)) (h : qG Y w (pc + 2) (some (qJ z) :: none :: t) st c) : qG Y w pc (x :: y :: t) (qJ z :: st) c := g_lstore_g hd (by simp only [List.length_cons]; omega) (by simp [qs2]) h
theorem g_lstore_n0 {x : Option qV} {y : Option qV} {z : Int} (hd : decode Y.1.2.1 pc = .ok (.lstore_n 0, 1)) (h : qG Y w (pc + 1) (some (qJ z) :: none :: t) st c) : qG Y w pc (x :: y :: t) (qJ z :: st) c := g_lstore_ng hd rfl (by simp only [List.length_cons]; omega) (by simp [qs2]) h
theorem g_iinc0 {z n : Int} (hd : decode Y.1.2.1 pc = .ok (.iinc 0 n, 3)) (h : qG Y w (pc + 3) (some (qI (z + n)) :: t) st c) : qG Y w pc (some (qI z) :: t) st c := g_iinc_g hd rfl (by simp [qs1]) h
theorem g_istore1 {a0 x : Option qV} {z : Int} (hd : decode Y.1.2.1 pc = .ok (.istore 1, 2)) (hp : qlg a0 = false) (h : qG Y w (pc + 2) (a0 :: some (qI z) :: t) st c) : qG Y w pc (a0 :: x :: t) (qI z :: st) c := g_istore_g hd (by simp only [List.length_cons]; omega) (by simp [qs1, hp]) h
theorem g_istore_n1 {a0 x : Option qV} {z : Int} (hd : decode Y.1.2.1 pc = .ok (.istore_n 1, 1)) (hp : qlg a0 = false) (h : qG Y w (pc + 1) (a0 :: some (qI z) :: t) st c) : qG Y w pc (a0 :: x :: t) (qI z :: st) c := g_istore_ng hd rfl (by simp only [List.length_cons]; omega) (by simp [qs1, hp]) h
theorem g_astore1 {a0 x : Option qV} {z : Nat} (hd : decode Y.1.2.1 pc = .ok (.astore 1, 2)) (hp : qlg a0 = false) (h : qG Y w (pc + 2) (a0 :: some (qP z) :: t) st c) : qG Y w pc (a0 :: x :: t) (qP z :: st) c := g_astore_g hd (by simp only [List.length_cons]; omega) (by simp [qs1, hp]) h
theorem g_astore_n1 {a0 x : Option qV} {z : Nat} (hd : decode Y.1.2.1 pc = .ok (.astore_n 1, 1)) (hp : qlg a0 = false) (h : qG Y w (pc + 1) (a0 :: some (qP z) :: t) st c) : qG Y w pc (a0 :: x :: t) (qP z :: st) c := g_astore_ng hd rfl (by simp only [List.length_cons]; omega) (by simp [qs1, hp]) h
theorem g_lstore1 {a0 x : Option qV} {y : Option qV} {z : Int} (hd : decode Y.1.2.1 pc = .ok (.lstore 1, 2)) (hp : qlg a0 = false) (h : qG Y w (pc + 2) (a0 :: some (qJ z) :: none :: t) st c) : qG Y w pc (a0 :: x :: y :: t) (qJ z :: st) c := g_lstore_g hd (by simp only [List.length_cons]; omega) (by simp [qs2, hp]) h
theorem g_lstore_n1 {a0 x : Option qV} {y : Option qV} {z : Int} (hd : decode Y.1.2.1 pc = .ok (.lstore_n 1, 1)) (hp : qlg a0 = false) (h : qG Y w (pc + 1) (a0 :: some (qJ z) :: none :: t) st c) : qG Y w pc (a0 :: x :: y :: t) (qJ z :: st) c := g_lstore_ng hd rfl (by simp only [List.length_cons]; omega) (by simp [qs2, hp]) h
theorem g_iinc1 {a0 : Option qV} {z n : Int} (hd : decode Y.1.2.1 pc = .ok (.iinc 1 n, 3)) (hp : qlg a0 = false) (h : qG Y w (pc + 3) (a0 :: some (qI (z + n)) :: t) st c) : qG Y w pc (a0 :: some (qI z) :: t) st c := g_iinc_g hd rfl (by simp [qs1, hp]) h
theorem g_istore2 {a0 a1 x : Option qV} {z : Int} (hd : decode Y.1.2.1 pc = .ok (.istore 2, 2)) (hp : qlg a1 = false) (h : qG Y w (pc + 2) (a0 :: a1 :: some (qI z) :: t) st c) : qG Y w pc (a0 :: a1 :: x :: t) (qI z :: st) c := g_istore_g hd (by simp only [List.length_cons]; omega) (by simp [qs1, hp]) h
theorem g_istore_n2 {a0 a1 x : Option qV} {z : Int} (hd : decode Y.1.2.1 pc = .ok (.istore_n 2, 1)) (hp : qlg a1 = false) (h : qG Y w (pc + 1) (a0 :: a1 :: some (qI z) :: t) st c) : qG Y w pc (a0 :: a1 :: x :: t) (qI z :: st) c := g_istore_ng hd rfl (by simp only [List.length_cons]; omega) (by simp [qs1, hp]) h
theorem g_astore2 {a0 a1 x : Option qV} {z : Nat} (hd : decode Y.1.2.1 pc = .ok (.astore 2, 2)) (hp : qlg a1 = false) (h : qG Y w (pc + 2) (a0 :: a1 :: some (qP z) :: t) st c) : qG Y w pc (a0 :: a1 :: x :: t) (qP z :: st) c := g_astore_g hd (by simp only [List.length_cons]; omega) (by simp [qs1, hp]) h
theorem g_astore_n2 {a0 a1 x : Option qV} {z : Nat} (hd : decode Y.1.2.1 pc = .ok (.astore_n 2, 1)) (hp : qlg a1 = false) (h : qG Y w (pc + 1) (a0 :: a1 :: some (qP z) :: t) st c) : qG Y w pc (a0 :: a1 :: x :: t) (qP z :: st) c := g_astore_ng hd rfl (by simp only [List.length_cons]; omega) (by simp [qs1, hp]) h
theorem g_lstore2 {a0 a1 x : Option qV} {y : Option qV} {z : Int} (hd : decode Y.1.2.1 pc = .ok (.lstore 2, 2)) (hp : qlg a1 = false) (h : qG Y w (pc + 2) (a0 :: a1 :: some (qJ z) :: none :: t) st c) : qG Y w pc (a0 :: a1 :: x :: y :: t) (qJ z :: st) c := g_lstore_g hd (by simp only [List.length_cons]; omega) (by simp [qs2, hp]) h
theorem g_lstore_n2 {a0 a1 x : Option qV} {y : Option qV} {z : Int} (hd : decode Y.1.2.1 pc = .ok (.lstore_n 2, 1)) (hp : qlg a1 = false) (h : qG Y w (pc + 1) (a0 :: a1 :: some (qJ z) :: none :: t) st c) : qG Y w pc (a0 :: a1 :: x :: y :: t) (qJ z :: st) c := g_lstore_ng hd rfl (by simp only [List.length_cons]; omega) (by simp [qs2, hp]) h
theorem g_iinc2 {a0 a1 : Option qV} {z n : Int} (hd : decode Y.1.2.1 pc = .ok (.iinc 2 n, 3)) (hp : qlg a1 = false) (h : qG Y w (pc + 3) (a0 :: a1 :: some (qI (z + n)) :: t) st c) : qG Y w pc (a0 :: a1 :: some (qI z) :: t) st c := g_iinc_g hd rfl (by simp [qs1, hp]) h
theorem g_istore3 {a0 a1 a2 x : Option qV} {z : Int} (hd : decode Y.1.2.1 pc = .ok (.istore 3, 2)) (hp : qlg a2 = false) (h : qG Y w (pc + 2) (a0 :: a1 :: a2 :: some (qI z) :: t) st c) : qG Y w pc (a0 :: a1 :: a2 :: x :: t) (qI z :: st) c := g_istore_g hd (by simp only [List.length_cons]; omega) (by simp [qs1, hp]) h
theorem g_istore_n3 {a0 a1 a2 x : Option qV} {z : Int} (hd : decode Y.1.2.1 pc = .ok (.istore_n 3, 1)) (hp : qlg a2 = false) (h : qG Y w (pc + 1) (a0 :: a1 :: a2 :: some (qI z) :: t) st c) : qG Y w pc (a0 :: a1 :: a2 :: x :: t) (qI z :: st) c := g_istore_ng hd rfl (by simp only [List.length_cons]; omega) (by simp [qs1, hp]) h
theorem g_astore3 {a0 a1 a2 x : Option qV} {z : Nat} (hd : decode Y.1.2.1 pc = .ok (.astore 3, 2)) (hp : qlg a2 = false) (h : qG Y w (pc + 2) (a0 :: a1 :: a2 :: some (qP z) :: t) st c) : qG Y w pc (a0 :: a1 :: a2 :: x :: t) (qP z :: st) c := g_astore_g hd (by simp only [List.length_cons]; omega) (by simp [qs1, hp]) h
theorem g_astore_n3 {a0 a1 a2 x : Option qV} {z : Nat} (hd : decode Y.1.2.1 pc = .ok (.astore_n 3, 1)) (hp : qlg a2 = false) (h : qG Y w (pc + 1) (a0 :: a1 :: a2 :: some (qP z) :: t) st c) : qG Y w pc (a0 :: a1 :: a2 :: x :: t) (qP z :: st) c := g_astore_ng hd rfl (by simp only [List.length_cons]; omega) (by simp [qs1, hp]) h
theorem g_lstore3 {a0 a1 a2 x : Option qV} {y : Option qV} {z : Int} (hd : decode Y.1.2.1 pc = .ok (.lstore 3, 2)) (hp : qlg a2 = false) (h : qG Y w (pc + 2) (a0 :: a1 :: a2 :: some (qJ z) :: none :: t) st c) : qG Y w pc (a0 :: a1 :: a2 :: x :: y :: t) (qJ z :: st) c := g_lstore_g hd (by simp only [List.length_cons]; omega) (by simp [qs2, hp]) h
theorem g_lstore_n3 {a0 a1 a2 x : Option qV} {y : Option qV} {z : Int} (hd : decode Y.1.2.1 pc = .ok (.lstore_n 3, 1)) (hp : qlg a2 = false) (h : qG Y w (pc + 1) (a0 :: a1 :: a2 :: some (qJ z) :: none :: t) st c) : qG Y w pc (a0 :: a1 :: a2 :: x :: y :: t) (qJ z :: st) c := g_lstore_ng hd rfl (by simp only [List.length_cons]; omega) (by simp [qs2, hp]) h
theorem g_iinc3 {a0 a1 a2 : Option qV} {z n : Int} (hd : decode Y.1.2.1 pc = .ok (.iinc 3 n, 3)) (hp : qlg a2 = false) (h : qG Y w (pc + 3) (a0 :: a1 :: a2 :: some (qI (z + n)) :: t) st c) : qG Y w pc (a0 :: a1 :: a2 :: some (qI z) :: t) st c := g_iinc_g hd rfl (by simp [qs1, hp]) h
theorem g_istore4 {a0 a1 a2 a3 x : Option qV} {z : Int} (hd : decode Y.1.2.1 pc = .ok (.istore 4, 2)) (hp : qlg a3 = false) (h : qG Y w (pc + 2) (a0 :: a1 :: a2 :: a3 :: some (qI z) :: t) st c) : qG Y w pc (a0 :: a1 :: a2 :: a3 :: x :: t) (qI z :: st) c := g_istore_g hd (by simp only [List.length_cons]; omega) (by simp [qs1, hp]) h
theorem g_astore4 {a0 a1 a2 a3 x : Option qV} {z : Nat} (hd : decode Y.1.2.1 pc = .ok (.astore 4, 2)) (hp : qlg a3 = false) (h : qG Y w (pc + 2) (a0 :: a1 :: a2 :: a3 :: some (qP z) :: t) st c) : qG Y w pc (a0 :: a1 :: a2 :: a3 :: x :: t) (qP z :: st) c := g_astore_g hd (by simp only [List.length_cons]; omega) (by simp [qs1, hp]) h
theorem g_lstore4 {a0 a1 a2 a3 x : Option qV} {y : Option qV} {z : Int} (hd : decode Y.1.2.1 pc = .ok (.lstore 4, 2)) (hp : qlg a3 = false) (h : qG Y w (pc + 2) (a0 :: a1 :: a2 :: a3 :: some (qJ z) :: none :: t) st c) : qG Y w pc (a0 :: a1 :: a2 :: a3 :: x :: y :: t) (qJ z :: st) c := g_lstore_g hd (by simp only [List.length_cons]; omega) (by simp [qs2, hp]) h
theorem g_iinc4 {a0 a1 a2 a3 : Option qV} {z n : Int} (hd : decode Y.1.2.1 pc = .ok (.iinc 4 n, 3)) (hp : qlg a3 = false) (h : qG Y w (pc + 3) (a0 :: a1 :: a2 :: a3 :: some (qI (z + n)) :: t) st c) : qG Y w pc (a0 :: a1 :: a2 :: a3 :: some (qI z) :: t) st c := g_iinc_g hd rfl (by simp [qs1, hp]) h
theorem g_istore5 {a0 a1 a2 a3 a4 x : Option qV} {z : Int} (hd : decode Y.1.2.1 pc = .ok (.istore 5, 2)) (hp : qlg a4 = false) (h : qG Y w (pc + 2) (a0 :: a1 :: a2 :: a3 :: a4 :: some (qI z) :: t) st c) : qG Y w pc (a0 :: a1 :: a2 :: a3 :: a4 :: x :: t) (qI z :: st) c := g_istore_g hd (by simp only [List.length_cons]; omega) (by simp [qs1, hp]) h
theorem g_astore5 {a0 a1 a2 a3 a4 x : Option qV} {z : Nat} (hd : decode Y.1.2.1 pc = .ok (.astore 5, 2)) (hp : qlg a4 = false) (h : qG Y w (pc + 2) (a0 :: a1 :: a2 :: a3 :: a4 :: some (qP z) :: t) st c) : qG Y w pc (a0 :: a1 :: a2 :: a3 :: a4 :: x :: t) (qP z :: st) c := g_astore_g hd (by simp only [List.length_cons]; omega) (by simp [qs1, hp]) h
theorem g_lstore5 {a0 a1 a2 a3 a4 x : Option qV} {y : Option qV} {z : Int} (hd : decode Y.1.2.1 pc = .ok (.lstore 5, 2)) (hp : qlg a4 = false) (h : qG Y w (pc + 2) (a0 :: a1 :: a2 :: a3 :: a4 :: some (qJ z) :: none :: t) st c) : qG Y w pc (a0 :: a1 :: a2 :: a3 :: a4 :: x :: y :: t) (qJ z :: st) c := g_lstore_g hd (by simp only [List.length_cons]; omega) (by simp [qs2, hp]) h
theorem g_iinc5 {a0 a1 a2 a3 a4 : Option qV} {z n : Int} (hd : decode Y.1.2.1 pc = .ok (.iinc 5 n, 3)) (hp : qlg a4 = false) (h : qG Y w (pc + 3) (a0 :: a1 :: a2 :: a3 :: a4 :: some (qI (z + n)) :: t) st c) : qG Y w pc (a0 :: a1 :: a2 :: a3 :: a4 :: some (qI z) :: t) st c := g_iinc_g hd rfl (by simp [qs1, hp]) h
theorem g_istore6 {a0 a1 a2 a3 a4 a5 x : Option qV} {z : Int} (hd : decode Y.1.2.1 pc = .ok (.istore 6, 2)) (hp : qlg a5 = false) (h : qG Y w (pc + 2) (a0 :: a1 :: a2 :: a3 :: a4 :: a5 :: some (qI z) :: t) st c) : qG Y w pc (a0 :: a1 :: a2 :: a3 :: a4 :: a5 :: x :: t) (qI z :: st) c := g_istore_g hd (by simp only [List.length_cons]; omega) (by simp [qs1, hp]) h
theorem g_astore6 {a0 a1 a2 a3 a4 a5 x : Option qV} {z : Nat} (hd : decode Y.1.2.1 pc = .ok (.astore 6, 2)) (hp : qlg a5 = false) (h : qG Y w (pc + 2) (a0 :: a1 :: a2 :: a3 :: a4 :: a5 :: some (qP z) :: t) st c) : qG Y w pc (a0 :: a1 :: a2 :: a3 :: a4 :: a5 :: x :: t) (qP z :: st) c := g_astore_g hd (by simp only [List.length_cons]; omega) (by simp [qs1, hp]) h
theorem g_lstore6 {a0 a1 a2 a3 a4 a5 x : Option qV} {y : Option qV} {z : Int} (hd : decode Y.1.2.1 pc = .ok (.lstore 6, 2)) (hp : qlg a5 = false) (h : qG Y w (pc + 2) (a0 :: a1 :: a2 :: a3 :: a4 :: a5 :: some (qJ z) :: none :: t) st c) : qG Y w pc (a0 :: a1 :: a2 :: a3 :: a4 :: a5 :: x :: y :: t) (qJ z :: st) c := g_lstore_g hd (by simp only [List.length_cons]; omega) (by simp [qs2, hp]) h
theorem g_iinc6 {a0 a1 a2 a3 a4 a5 : Option qV} {z n : Int} (hd : decode Y.1.2.1 pc = .ok (.iinc 6 n, 3)) (hp : qlg a5 = false) (h : qG Y w (pc + 3) (a0 :: a1 :: a2 :: a3 :: a4 :: a5 :: some (qI (z + n)) :: t) st c) : qG Y w pc (a0 :: a1 :: a2 :: a3 :: a4 :: a5 :: some (qI z) :: t) st c := g_iinc_g hd rfl (by simp [qs1, hp]) h
theorem g_istore7 {a0 a1 a2 a3 a4 a5 a6 x : Option qV} {z : Int} (hd : decode Y.1.2.1 pc = .ok (.istore 7, 2)) (hp : qlg a6 = false) (h : qG Y w (pc + 2) (a0 :: a1 :: a2 :: a3 :: a4 :: a5 :: a6 :: some (qI z) :: t) st c) : qG Y w pc (a0 :: a1 :: a2 :: a3 :: a4 :: a5 :: a6 :: x :: t) (qI z :: st) c := g_istore_g hd (by simp only [List.length_cons]; omega) (by simp [qs1, hp]) h
theorem g_astore7 {a0 a1 a2 a3 a4 a5 a6 x : Option qV} {z : Nat} (hd : decode Y.1.2.1 pc = .ok (.astore 7, 2)) (hp : qlg a6 = false) (h : qG Y w (pc + 2) (a0 :: a1 :: a2 :: a3 :: a4 :: a5 :: a6 :: some (qP z) :: t) st c) : qG Y w pc (a0 :: a1 :: a2 :: a3 :: a4 :: a5 :: a6 :: x :: t) (qP z :: st) c := g_astore_g hd (by simp only [List.length_cons]; omega) (by simp [qs1, hp]) h
theorem g_lstore7 {a0 a1 a2 a3 a4 a5 a6 x : Option qV} {y : Option qV} {z : Int} (hd : decode Y.1.2.1 pc = .ok (.lstore 7, 2)) (hp : qlg a6 = false) (h : qG Y w (pc + 2) (a0 :: a1 :: a2 :: a3 :: a4 :: a5 :: a6 :: some (qJ z) :: none :: t) st c) : qG Y w pc (a0 :: a1 :: a2 :: a3 :: a4 :: a5 :: a6 :: x :: y :: t) (qJ z :: st) c := g_lstore_g hd (by simp only [List.length_cons]; omega) (by simp [qs2, hp]) h
theorem g_iinc7 {a0 a1 a2 a3 a4 a5 a6 : Option qV} {z n : Int} (hd : decode Y.1.2.1 pc = .ok (.iinc 7 n, 3)) (hp : qlg a6 = false) (h : qG Y w (pc + 3) (a0 :: a1 :: a2 :: a3 :: a4 :: a5 :: a6 :: some (qI (z + n)) :: t) st c) : qG Y w pc (a0 :: a1 :: a2 :: a3 :: a4 :: a5 :: a6 :: some (qI z) :: t) st c := g_iinc_g hd rfl (by simp [qs1, hp]) h
theorem g_istore8 {a0 a1 a2 a3 a4 a5 a6 a7 x : Option qV} {z : Int} (hd : decode Y.1.2.1 pc = .ok (.istore 8, 2)) (hp : qlg a7 = false) (h : qG Y w (pc + 2) (a0 :: a1 :: a2 :: a3 :: a4 :: a5 :: a6 :: a7 :: some (qI z) :: t) st c) : qG Y w pc (a0 :: a1 :: a2 :: a3 :: a4 :: a5 :: a6 :: a7 :: x :: t) (qI z :: st) c := g_istore_g hd (by simp only [List.length_cons]; omega) (by simp [qs1, hp]) h
theorem g_astore8 {a0 a1 a2 a3 a4 a5 a6 a7 x : Option qV} {z : Nat} (hd : decode Y.1.2.1 pc = .ok (.astore 8, 2)) (hp : qlg a7 = false) (h : qG Y w (pc + 2) (a0 :: a1 :: a2 :: a3 :: a4 :: a5 :: a6 :: a7 :: some (qP z) :: t) st c) : qG Y w pc (a0 :: a1 :: a2 :: a3 :: a4 :: a5 :: a6 :: a7 :: x :: t) (qP z :: st) c := g_astore_g hd (by simp only [List.length_cons]; omega) (by simp [qs1, hp]) h
theorem g_lstore8 {a0 a1 a2 a3 a4 a5 a6 a7 x : Option qV} {y : Option qV} {z : Int} (hd : decode Y.1.2.1 pc = .ok (.lstore 8, 2)) (hp : qlg a7 = false) (h : qG Y w (pc + 2) (a0 :: a1 :: a2 :: a3 :: a4 :: a5 :: a6 :: a7 :: some (qJ z) :: none :: t) st c) : qG Y w pc (a0 :: a1 :: a2 :: a3 :: a4 :: a5 :: a6 :: a7 :: x :: y :: t) (qJ z :: st) c := g_lstore_g hd (by simp only [List.length_cons]; omega) (by simp [qs2, hp]) h
theorem g_iinc8 {a0 a1 a2 a3 a4 a5 a6 a7 : Option qV} {z n : Int} (hd : decode Y.1.2.1 pc = .ok (.iinc 8 n, 3)) (hp : qlg a7 = false) (h : qG Y w (pc + 3) (a0 :: a1 :: a2 :: a3 :: a4 :: a5 :: a6 :: a7 :: some (qI (z + n)) :: t) st c) : qG Y w pc (a0 :: a1 :: a2 :: a3 :: a4 :: a5 :: a6 :: a7 :: some (qI z) :: t) st c := g_iinc_g hd rfl (by simp [qs1, hp]) h
theorem g_istore9 {a0 a1 a2 a3 a4 a5 a6 a7 a8 x : Option qV} {z : Int} (hd : decode Y.1.2.1 pc = .ok (.istore 9, 2)) (hp : qlg a8 = false) (h : qG Y w (pc + 2) (a0 :: a1 :: a2 :: a3 :: a4 :: a5 :: a6 :: a7 :: a8 :: some (qI z) :: t) st c) : qG Y w pc (a0 :: a1 :: a2 :: a3 :: a4 :: a5 :: a6 :: a7 :: a8 :: x :: t) (qI z :: st) c := g_istore_g hd (by simp only [List.length_cons]; omega) (by simp [qs1, hp]) h
theorem g_astore9 {a0 a1 a2 a3 a4 a5 a6 a7 a8 x : Option qV} {z : Nat} (hd : decode Y.1.2.1 pc = .ok (.astore 9, 2)) (hp : qlg a8 = false) (h : qG Y w (pc + 2) (a0 :: a1 :: a2 :: a3 :: a4 :: a5 :: a6 :: a7 :: a8 :: some (qP z) :: t) st c) : qG Y w pc (a0 :: a1 :: a2 :: a3 :: a4 :: a5 :: a6 :: a7 :: a8 :: x :: t) (qP z :: st) c := g_astore_g hd (by simp only [List.length_cons]; omega) (by simp [qs1, hp]) h
theorem g_lstore9 {a0 a1 a2 a3 a4 a5 a6 a7 a8 x : Option qV} {y : Option qV} {z : Int} (hd : decode Y.1.2.1 pc = .ok (.lstore 9, 2)) (hp : qlg a8 = false) (h : qG Y w (pc + 2) (a0 :: a1 :: a2 :: a3 :: a4 :: a5 :: a6 :: a7 :: a8 :: some (qJ z) :: none :: t) st c) : qG Y w pc (a0 :: a1 :: a2 :: a3 :: a4 :: a5 :: a6 :: a7 :: a8 :: x :: y :: t) (qJ z :: st) c := g_lstore_g hd (by simp only [List.length_cons]; omega) (by simp [qs2, hp]) h
theorem g_iinc9 {a0 a1 a2 a3 a4 a5 a6 a7 a8 : Option qV} {z n : Int} (hd : decode Y.1.2.1 pc = .ok (.iinc 9 n, 3)) (hp : qlg a8 = false) (h : qG Y w (pc + 3) (a0 :: a1 :: a2 :: a3 :: a4 :: a5 :: a6 :: a7 :: a8 :: some (qI (z + n)) :: t) st c) : qG Y w pc (a0 :: a1 :: a2 :: a3 :: a4 :: a5 :: a6 :: a7 :: a8 :: some (qI z) :: t) st c := g_iinc_g hd rfl (by simp [qs1, hp]) h
theorem g_istore10 {a0 a1 a2 a3 a4 a5 a6 a7 a8 a9 x : Option qV} {z : Int} (hd : decode Y.1.2.1 pc = .ok (.istore 10, 2)) (hp : qlg a9 = false) (h : qG Y w (pc + 2) (a0 :: a1 :: a2 :: a3 :: a4 :: a5 :: a6 :: a7 :: a8 :: a9 :: some (qI z) :: t) st c) : qG Y w pc (a0 :: a1 :: a2 :: a3 :: a4 :: a5 :: a6 :: a7 :: a8 :: a9 :: x :: t) (qI z :: st) c := g_istore_g hd (by simp only [List.length_cons]; omega) (by simp [qs1, hp]) h
theorem g_astore10 {a0 a1 a2 a3 a4 a5 a6 a7 a8 a9 x : Option qV} {z : Nat} (hd : decode Y.1.2.1 pc = .ok (.astore 10, 2)) (hp : qlg a9 = false) (h : qG Y w (pc + 2) (a0 :: a1 :: a2 :: a3 :: a4 :: a5 :: a6 :: a7 :: a8 :: a9 :: some (qP z) :: t) st c) : qG Y w pc (a0 :: a1 :: a2 :: a3 :: a4 :: a5 :: a6 :: a7 :: a8 :: a9 :: x :: t) (qP z :: st) c := g_astore_g hd (by simp only [List.length_cons]; omega) (by simp [qs1, hp]) h
theorem g_lstore10 {a0 a1 a2 a3 a4 a5 a6 a7 a8 a9 x : Option qV} {y : Option qV} {z : Int} (hd : decode Y.1.2.1 pc = .ok (.lstore 10, 2)) (hp : qlg a9 = false) (h : qG Y w (pc + 2) (a0 :: a1 :: a2 :: a3 :: a4 :: a5 :: a6 :: a7 :: a8 :: a9 :: some (qJ z) :: none :: t) st c) : qG Y w pc (a0 :: a1 :: a2 :: a3 :: a4 :: a5 :: a6 :: a7 :: a8 :: a9 :: x :: y :: t) (qJ z :: st) c := g_lstore_g hd (by simp only [List.length_cons]; omega) (by simp [qs2, hp]) h
theorem g_iinc10 {a0 a1 a2 a3 a4 a5 a6 a7 a8 a9 : Option qV} {z n : Int} (hd : decode Y.1.2.1 pc = .ok (.iinc 10 n, 3)) (hp : qlg a9 = false) (h : qG Y w (pc + 3) (a0 :: a1 :: a2 :: a3 :: a4 :: a5 :: a6 :: a7 :: a8 :: a9 :: some (qI (z + n)) :: t) st c) : qG Y w pc (a0 :: a1 :: a2 :: a3 :: a4 :: a5 :: a6 :: a7 :: a8 :: a9 :: some (qI z) :: t) st c := g_iinc_g hd rfl (by simp [qs1, hp]) h
theorem g_istore11 {a0 a1 a2 a3 a4 a5 a6 a7 a8 a9 a10 x : Option qV} {z : Int} (hd : decode Y.1.2.1 pc = .ok (.istore 11, 2)) (hp : qlg a10 = false) (h : qG Y w (pc + 2) (a0 :: a1 :: a2 :: a3 :: a4 :: a5 :: a6 :: a7 :: a8 :: a9 :: a10 :: some (qI z) :: t) st c) : qG Y w pc (a0 :: a1 :: a2 :: a3 :: a4 :: a5 :: a6 :: a7 :: a8 :: a9 :: a10 :: x :: t) (qI z :: st) c := g_istore_g hd (by simp only [List.length_cons]; omega) (by simp [qs1, hp]) h
theorem g_astore11 {a0 a1 a2 a3 a4 a5 a6 a7 a8 a9 a10 x : Option qV} {z : Nat} (hd : decode Y.1.2.1 pc = .ok (.astore 11, 2)) (hp : qlg a10 = false) (h : qG Y w (pc + 2) (a0 :: a1 :: a2 :: a3 :: a4 :: a5 :: a6 :: a7 :: a8 :: a9 :: a10 :: some (qP z) :: t) st c) : qG Y w pc (a0 :: a1 :: a2 :: a3 :: a4 :: a5 :: a6 :: a7 :: a8 :: a9 :: a10 :: x :: t) (qP z :: st) c := g_astore_g hd (by simp only [List.length_cons]; omega) (by simp [qs1, hp]) h
theorem g_lstore11 {a0 a1 a2 a3 a4 a5 a6 a7 a8 a9 a10 x : Option qV} {y : Option qV} {z : Int} (hd : decode Y.1.2.1 pc = .ok (.lstore 11, 2)) (hp : qlg a10 = false) (h : qG Y w (pc + 2) (a0 :: a1 :: a2 :: a3 :: a4 :: a5 :: a6 :: a7 :: a8 :: a9 :: a10 :: some (qJ z) :: none :: t) st c) : qG Y w pc (a0 :: a1 :: a2 :: a3 :: a4 :: a5 :: a6 :: a7 :: a8 :: a9 :: a10 :: x :: y :: t) (qJ z :: st) c := g_lstore_g hd (by simp only [List.length_cons]; omega) (by simp [qs2, hp]) h
theorem g_iinc11 {a0 a1 a2 a3 a4 a5 a6 a7 a8 a9 a10 : Option qV} {z n : Int} (hd : decode Y.1.2.1 pc = .ok (.iinc 11 n, 3)) (hp : qlg a10 = false) (h : qG Y w (pc + 3) (a0 :: a1 :: a2 :: a3 :: a4 :: a5 :: a6 :: a7 :: a8 :: a9 :: a10 :: some (qI (z + n)) :: t) st c) : qG Y w pc (a0 :: a1 :: a2 :: a3 :: a4 :: a5 :: a6 :: a7 :: a8 :: a9 :: a10 :: some (qI z) :: t) st c := g_iinc_g hd rfl (by simp [qs1, hp]) h
theorem g_istore12 {a0 a1 a2 a3 a4 a5 a6 a7 a8 a9 a10 a11 x : Option qV} {z : Int} (hd : decode Y.1.2.1 pc = .ok (.istore 12, 2)) (hp : qlg a11 = false) (h : qG Y w (pc + 2) (a0 :: a1 :: a2 :: a3 :: a4 :: a5 :: a6 :: a7 :: a8 :: a9 :: a10 :: a11 :: some (qI z) :: t) st c) : qG Y w pc (a0 :: a1 :: a2 :: a3 :: a4 :: a5 :: a6 :: a7 :: a8 :: a9 :: a10 :: a11 :: x :: t) (qI z :: st) c := g_istore_g hd (by simp only [List.length_cons]; omega) (by simp [qs1, hp]) h
theorem g_astore12 {a0 a1 a2 a3 a4 a5 a6 a7 a8 a9 a10 a11 x : Option qV} {z : Nat} (hd : decode Y.1.2.1 pc = .ok (.astore 12, 2)) (hp : qlg a11 = false) (h : qG Y w (pc + 2) (a0 :: a1 :: a2 :: a3 :: a4 :: a5 :: a6 :: a7 :: a8 :: a9 :: a10 :: a11 :: some (qP z) :: t) st c) : qG Y w pc (a0 :: a1 :: a2 :: a3 :: a4 :: a5 :: a6 :: a7 :: a8 :: a9 :: a10 :: a11 :: x :: t) (qP z :: st) c := g_astore_g hd (by simp only [List.length_cons]; omega) (by simp [qs1, hp]) h
theorem g_lstore12 {a0 a1 a2 a3 a4 a5 a6 a7 a8 a9 a10 a11 x : Option qV} {y : Option qV} {z : Int} (hd : decode Y.1.2.1 pc = .ok (.lstore 12, 2)) (hp : qlg a11 = false) (h : qG Y w (pc + 2) (a0 :: a1 :: a2 :: a3 :: a4 :: a5 :: a6 :: a7 :: a8 :: a9 :: a10 :: a11 :: some (qJ z) :: none :: t) st c) : qG Y w pc (a0 :: a1 :: a2 :: a3 :: a4 :: a5 :: a6 :: a7 :: a8 :: a9 :: a10 :: a11 :: x :: y :: t) (qJ z :: st) c := g_lstore_g hd (by simp only [List.length_cons]; omega) (by simp [qs2, hp]) h
theorem g_iinc12 {a0 a1 a2 a3 a4 a5 a6 a7 a8 a9 a10 a11 : Option qV} {z n : Int} (hd : decode Y.1.2.1 pc = .ok (.iinc 12 n, 3)) (hp : qlg a11 = false) (h : qG Y w (pc + 3) (a0 :: a1 :: a2 :: a3 :: a4 :: a5 :: a6 :: a7 :: a8 :: a9 :: a10 :: a11 :: some (qI (z + n)) :: t) st c) : qG Y w pc (a0 :: a1 :: a2 :: a3 :: a4 :: a5 :: a6 :: a7 :: a8 :: a9 :: a10 :: a11 :: some (qI z) :: t) st c := g_iinc_g hd rfl (by simp [qs1, hp]) h
theorem g_istore13 {a0 a1 a2 a3 a4 a5 a6 a7 a8 a9 a10 a11 a12 x : Option qV} {z : Int} (hd : decode Y.1.2.1 pc = .ok (.istore 13, 2)) (hp : qlg a12 = false) (h : qG Y w (pc + 2) (a0 :: a1 :: a2 :: a3 :: a4 :: a5 :: a6 :: a7 :: a8 :: a9 :: a10 :: a11 :: a12 :: some (qI z) :: t) st c) : qG Y w pc (a0 :: a1 :: a2 :: a3 :: a4 :: a5 :: a6 :: a7 :: a8 :: a9 :: a10 :: a11 :: a12 :: x :: t) (qI z :: st) c := g_istore_g hd (by simp only [List.length_cons]; omega) (by simp [qs1, hp]) h
theorem g_astore13 {a0 a1 a2 a3 a4 a5 a6 a7 a8 a9 a10 a11 a12 x : Option qV} {z : Nat} (hd : decode Y.1.2.1 pc = .ok (.astore 13, 2)) (hp : qlg a12 = false) (h : qG Y w (pc + 2) (a0 :: a1 :: a2 :: a3 :: a4 :: a5 :: a6 :: a7 :: a8 :: a9 :: a10 :: a11 :: a12 :: some (qP z) :: t) st c) : qG Y w pc (a0 :: a1 :: a2 :: a3 :: a4 :: a5 :: a6 :: a7 :: a8 :: a9 :: a10 :: a11 :: a12 :: x :: t) (qP z :: st) c := g_astore_g hd (by simp only [List.length_cons]; omega) (by simp [qs1, hp]) h
theorem g_lstore13 {a0 a1 a2 a3 a4 a5 a6 a7 a8 a9 a10 a11 a12 x : Option qV} {y : Option qV} {z : Int} (hd : decode Y.1.2.1 pc = .ok (.lstore 13, 2)) (hp : qlg a12 = false) (h : qG Y w (pc + 2) (a0 :: a1 :: a2 :: a3 :: a4 :: a5 :: a6 :: a7 :: a8 :: a9 :: a10 :: a11 :: a12 :: some (qJ z) :: none :: t) st c) : qG Y w pc (a0 :: a1 :: a2 :: a3 :: a4 :: a5 :: a6 :: a7 :: a8 :: a9 :: a10 :: a11 :: a12 :: x :: y :: t) (qJ z :: st) c := g_lstore_g hd (by simp only [List.length_cons]; omega) (by simp [qs2, hp]) h
theorem g_iinc13 {a0 a1 a2 a3 a4 a5 a6 a7 a8 a9 a10 a11 a12 : Option qV} {z n : Int} (hd : decode Y.1.2.1 pc = .ok (.iinc 13 n, 3)) (hp : qlg a12 = false) (h : qG Y w (pc + 3) (a0 :: a1 :: a2 :: a3 :: a4 :: a5 :: a6 :: a7 :: a8 :: a9 :: a10 :: a11 :: a12 :: some (qI (z + n)) :: t) st c) : qG Y w pc (a0 :: a1 :: a2 :: a3 :: a4 :: a5 :: a6 :: a7 :: a8 :: a9 :: a10 :: a11 :: a12 :: some (qI z) :: t) st c := g_iinc_g hd rfl (by simp [qs1, hp]) h
theorem g_istore14 {a0 a1 a2 a3 a4 a5 a6 a7 a8 a9 a10 a11 a12 a13 x : Option qV} {z : Int} (hd : decode Y.1.2.1 pc = .ok (.istore 14, 2)) (hp : qlg a13 = false) (h : qG Y w (pc + 2) (a0 :: a1 :: a2 :: a3 :: a4 :: a5 :: a6 :: a7 :: a8 :: a9 :: a10 :: a11 :: a12 :: a13 :: some (qI z) :: t) st c) : qG Y w pc (a0 :: a1 :: a2 :: a3 :: a4 :: a5 :: a6 :: a7 :: a8 :: a9 :: a10 :: a11 :: a12 :: a13 :: x :: t) (qI z :: st) c := g_istore_g hd (by simp only [List.length_cons]; omega) (by simp [qs1, hp]) h
theorem g_astore14 {a0 a1 a2 a3 a4 a5 a6 a7 a8 a9 a10 a11 a12 a13 x : Option qV} {z : Nat} (hd : decode Y.1.2.1 pc = .ok (.astore 14, 2)) (hp : qlg a13 = false) (h : qG Y w (pc + 2) (a0 :: a1 :: a2 :: a3 :: a4 :: a5 :: a6 :: a7 :: a8 :: a9 :: a10 :: a11 :: a12 :: a13 :: some (qP z) :: t) st c) : qG Y w pc (a0 :: a1 :: a2 :: a3 :: a4 :: a5 :: a6 :: a7 :: a8 :: a9 :: a10 :: a11 :: a12 :: a13 :: x :: t) (qP z :: st) c := g_astore_g hd (by simp only [List.length_cons]; omega) (by simp [qs1, hp]) h
theorem g_lstore14 {a0 a1 a2 a3 a4 a5 a6 a7 a8 a9 a10 a11 a12 a13 x : Option qV} {y : Option qV} {z : Int} (hd : decode Y.1.2.1 pc = .ok (.lstore 14, 2)) (hp : qlg a13 = false) (h : qG Y w (pc + 2) (a0 :: a1 :: a2 :: a3 :: a4 :: a5 :: a6 :: a7 :: a8 :: a9 :: a10 :: a11 :: a12 :: a13 :: some (qJ z) :: none :: t) st c) : qG Y w pc (a0 :: a1 :: a2 :: a3 :: a4 :: a5 :: a6 :: a7 :: a8 :: a9 :: a10 :: a11 :: a12 :: a13 :: x :: y :: t) (qJ z :: st) c := g_lstore_g hd (by simp only [List.length_cons]; omega) (by simp [qs2, hp]) h
theorem g_iinc14 {a0 a1 a2 a3 a4 a5 a6 a7 a8 a9 a10 a11 a12 a13 : Option qV} {z n : Int} (hd : decode Y.1.2.1 pc = .ok (.iinc 14 n, 3)) (hp : qlg a13 = false) (h : qG Y w (pc + 3) (a0 :: a1 :: a2 :: a3 :: a4 :: a5 :: a6 :: a7 :: a8 :: a9 :: a10 :: a11 :: a12 :: a13 :: some (qI (z + n)) :: t) st c) : qG Y w pc (a0 :: a1 :: a2 :: a3 :: a4 :: a5 :: a6 :: a7 :: a8 :: a9 :: a10 :: a11 :: a12 :: a13 :: some (qI z) :: t) st c := g_iinc_g hd rfl (by simp [qs1, hp]) h
theorem g_istore15 {a0 a1 a2 a3 a4 a5 a6 a7 a8 a9 a10 a11 a12 a13 a14 x : Option qV} {z : Int} (hd : decode Y.1.2.1 pc = .ok (.istore 15, 2)) (hp : qlg a14 = false) (h : qG Y w (pc + 2) (a0 :: a1 :: a2 :: a3 :: a4 :: a5 :: a6 :: a7 :: a8 :: a9 :: a10 :: a11 :: a12 :: a13 :: a14 :: some (qI z) :: t) st c) : qG Y w pc (a0 :: a1 :: a2 :: a3 :: a4 :: a5 :: a6 :: a7 :: a8 :: a9 :: a10 :: a11 :: a12 :: a13 :: a14 :: x :: t) (qI z :: st) c := g_istore_g hd (by simp only [List.length_cons]; omega) (by simp [qs1, hp]) h
theorem g_astore15 {a0 a1 a2 a3 a4 a5 a6 a7 a8 a9 a10 a11 a12 a13 a14 x : Option qV} {z : Nat} (hd : decode Y.1.2.1 pc = .ok (.astore 15, 2)) (hp : qlg a14 = false) (h : qG Y w (pc + 2) (a0 :: a1 :: a2 :: a3 :: a4 :: a5 :: a6 :: a7 :: a8 :: a9 :: a10 :: a11 :: a12 :: a13 :: a14 :: some (qP z) :: t) st c) : qG Y w pc (a0 :: a1 :: a2 :: a3 :: a4 :: a5 :: a6 :: a7 :: a8 :: a9 :: a10 :: a11 :: a12 :: a13 :: a14 :: x :: t) (qP z :: st) c := g_astore_g hd (by simp only [List.length_cons]; omega) (by simp [qs1, hp]) h
theorem g_lstore15 {a0 a1 a2 a3 a4 a5 a6 a7 a8 a9 a10 a11 a12 a13 a14 x : Option qV} {y : Option qV} {z : Int} (hd : decode Y.1.2.1 pc = .ok (.lstore 15, 2)) (hp : qlg a14 = false) (h : qG Y w (pc + 2) (a0 :: a1 :: a2 :: a3 :: a4 :: a5 :: a6 :: a7 :: a8 :: a9 :: a10 :: a11 :: a12 :: a13 :: a14 :: some (qJ z) :: none :: t) st c) : qG Y w pc (a0 :: a1 :: a2 :: a3 :: a4 :: a5 :: a6 :: a7 :: a8 :: a9 :: a10 :: a11 :: a12 :: a13 :: a14 :: x :: y :: t) (qJ z :: st) c := g_lstore_g hd (by simp only [List.length_cons]; omega) (by simp [qs2, hp]) h
theorem g_iinc15 {a0 a1 a2 a3 a4 a5 a6 a7 a8 a9 a10 a11 a12 a13 a14 : Option qV} {z n : Int} (hd : decode Y.1.2.1 pc = .ok (.iinc 15 n, 3)) (hp : qlg a14 = false) (h : qG Y w (pc + 3) (a0 :: a1 :: a2 :: a3 :: a4 :: a5 :: a6 :: a7 :: a8 :: a9 :: a10 :: a11 :: a12 :: a13 :: a14 :: some (qI (z + n)) :: t) st c) : qG Y w pc (a0 :: a1 :: a2 :: a3 :: a4 :: a5 :: a6 :: a7 :: a8 :: a9 :: a10 :: a11 :: a12 :: a13 :: a14 :: some (qI z) :: t) st c := g_iinc_g hd rfl (by simp [qs1, hp]) h
theorem g_istore16 {a0 a1 a2 a3 a4 a5 a6 a7 a8 a9 a10 a11 a12 a13 a14 a15 x : Option qV} {z : Int} (hd : decode Y.1.2.1 pc = .ok (.istore 16, 2)) (hp : qlg a15 = false) (h : qG Y w (pc + 2) (a0 :: a1 :: a2 :: a3 :: a4 :: a5 :: a6 :: a7 :: a8 :: a9 :: a10 :: a11 :: a12 :: a13 :: a14 :: a15 :: some (qI z) :: t) st c) : qG Y w pc (a0 :: a1 :: a2 :: a3 :: a4 :: a5 :: a6 :: a7 :: a8 :: a9 :: a10 :: a11 :: a12 :: a13 :: a14 :: a15 :: x :: t) (qI z :: st) c := g_istore_g hd (by simp only [List.length_cons]; omega) (by simp [qs1, hp]) h
theorem g_astore16 {a0 a1 a2 a3 a4 a5 a6 a7 a8 a9 a10 a11 a12 a13 a14 a15 x : Option qV} {z : Nat} (hd : decode Y.1.2.1 pc = .ok (.astore 16, 2)) (hp : qlg a15 = false) (h : qG Y w (pc + 2) (a0 :: a1 :: a2 :: a3 :: a4 :: a5 :: a6 :: a7 :: a8 :: a9 :: a10 :: a11 :: a12 :: a13 :: a14 :: a15 :: some (qP z) :: t) st c) : qG Y w pc (a0 :: a1 :: a2 :: a3 :: a4 :: a5 :: a6 :: a7 :: a8 :: a9 :: a10 :: a11 :: a12 :: a13 :: a14 :: a15 :: x :: t) (qP z :: st) c := g_astore_g hd (by simp only [List.length_cons]; omega) (by simp [qs1, hp]) h
theorem g_lstore16 {a0 a1 a2 a3 a4 a5 a6 a7 a8 a9 a10 a11 a12 a13 a14 a15 x : Option qV} {y : Option qV} {z : Int} (hd : decode Y.1.2.1 pc = .ok (.lstore 16, 2)) (hp : qlg a15 = false) (h : qG Y w (pc + 2) (a0 :: a1 :: a2 :: a3 :: a4 :: a5 :: a6 :: a7 :: a8 :: a9 :: a10 :: a11 :: a12 :: a13 :: a14 :: a15 :: some (qJ z) :: none :: t) st c) : qG Y w pc (a0 :: a1 :: a2 :: a3 :: a4 :: a5 :: a6 :: a7 :: a8 :: a9 :: a10 :: a11 :: a12 :: a13 :: a14 :: a15 :: x :: y :: t) (qJ z :: st) c := g_lstore_g hd (by simp only [List.length_cons]; omega) (by simp [qs2, hp]) h
theorem g_iinc16 {a0 a1 a2 a3 a4 a5 a6 a7 a8 a9 a10 a11 a12 a13 a14 a15 : Option qV} {z n : Int} (hd : decode Y.1.2.1 pc = .ok (.iinc 16 n, 3)) (hp : qlg a15 = false) (h : qG Y w (pc + 3) (a0 :: a1 :: a2 :: a3 :: a4 :: a5 :: a6 :: a7 :: a8 :: a9 :: a10 :: a11 :: a12 :: a13 :: a14 :: a15 :: some (qI (z + n)) :: t) st c) : qG Y w pc (a0 :: a1 :: a2 :: a3 :: a4 :: a5 :: a6 :: a7 :: a8 :: a9 :: a10 :: a11 :: a12 :: a13 :: a14 :: a15 :: some (qI z) :: t) st c := g_iinc_g hd rfl (by simp [qs1, hp]) h
theorem g_istore17 {a0 a1 a2 a3 a4 a5 a6 a7 a8 a9 a10 a11 a12 a13 a14 a15 a16 x : Option qV} {z : Int} (hd : decode Y.1.2.1 pc = .ok (.istore 17, 2)) (hp : qlg a16 = false) (h : qG Y w (pc + 2) (a0 :: a1 :: a2 :: a3 :: a4 :: a5 :: a6 :: a7 :: a8 :: a9 :: a10 :: a11 :: a12 :: a13 :: a14 :: a15 :: a16 :: some (qI z) :: t) st c) : qG Y w pc (a0 :: a1 :: a2 :: a3 :: a4 :: a5 :: a6 :: a7 :: a8 :: a9 :: a10 :: a11 :: a12 :: a13 :: a14 :: a15 :: a16 :: x :: t) (qI z :: st) c := g_istore_g hd (by simp only [List.length_cons]; omega) (by simp [qs1, hp]) h
theorem g_astore17 {a0 a1 a2 a3 a4 a5 a6 a7 a8 a9 a10 a11 a12 a13 a14 a15 a16 x : Option qV} {z : Nat} (hd : decode Y.1.2.1 pc = .ok (.astore 17, 2)) (hp : qlg a16 = false) (h : qG Y w (pc + 2) (a0 :: a1 :: a2 :: a3 :: a4 :: a5 :: a6 :: a7 :: a8 :: a9 :: a10 :: a11 :: a12 :: a13 :: a14 :: a15 :: a16 :: some (qP z) :: t) st c) : qG Y w pc (a0 :: a1 :: a2 :: a3 :: a4 :: a5 :: a6 :: a7 :: a8 :: a9 :: a10 :: a11 :: a12 :: a13 :: a14 :: a15 :: a16 :: x :: t) (qP z :: st) c := g_astore_g hd (by simp only [List.length_cons]; omega) (by simp [qs1, hp]) h
theorem g_lstore17 {a0 a1 a2 a3 a4 a5 a6 a7 a8 a9 a10 a11 a12 a13 a14 a15 a16 x : Option qV} {y : Option qV} {z : Int} (hd : decode Y.1.2.1 pc = .ok (.lstore 17, 2)) (hp : qlg a16 = false) (h : qG Y w (pc + 2) (a0 :: a1 :: a2 :: a3 :: a4 :: a5 :: a6 :: a7 :: a8 :: a9 :: a10 :: a11 :: a12 :: a13 :: a14 :: a15 :: a16 :: some (qJ z) :: none :: t) st c) : qG Y w pc (a0 :: a1 :: a2 :: a3 :: a4 :: a5 :: a6 :: a7 :: a8 :: a9 :: a10 :: a11 :: a12 :: a13 :: a14 :: a15 :: a16 :: x :: y :: t) (qJ z :: st) c := g_lstore_g hd (by simp only [List.length_cons]; omega) (by simp [qs2, hp]) h
theorem g_iinc17 {a0 a1 a2 a3 a4 a5 a6 a7 a8 a9 a10 a11 a12 a13 a14 a15 a16 : Option qV} {z n : Int} (hd : decode Y.1.2.1 pc = .ok (.iinc 17 n, 3)) (hp : qlg a16 = false) (h : qG Y w (pc + 3) (a0 :: a1 :: a2 :: a3 :: a4 :: a5 :: a6 :: a7 :: a8 :: a9 :: a10 :: a11 :: a12 :: a13 :: a14 :: a15 :: a16 :: some (qI (z + n)) :: t) st c) : qG Y w pc (a0 :: a1 :: a2 :: a3 :: a4 :: a5 :: a6 :: a7 :: a8 :: a9 :: a10 :: a11 :: a12 :: a13 :: a14 :: a15 :: a16 :: some (qI z) :: t) st c := g_iinc_g hd rfl (by simp [qs1, hp]) h
theorem g_istore18 {a0 a1 a2 a3 a4 a5 a6 a7 a8 a9 a10 a11 a12 a13 a14 a15 a16 a17 x : Option qV} {z : Int} (hd : decode Y.1.2.1 pc = .ok (.istore 18, 2)) (hp : qlg a17 = false) (h : qG Y w (pc + 2) (a0 :: a1 :: a2 :: a3 :: a4 :: a5 :: a6 :: a7 :: a8 :: a9 :: a10 :: a11 :: a12 :: a13 :: a14 :: a15 :: a16 :: a17 :: some (qI z) :: t) st c) : qG Y w pc (a0 :: a1 :: a2 :: a3 :: a4 :: a5 :: a6 :: a7 :: a8 :: a9 :: a10 :: a11 :: a12 :: a13 :: a14 :: a15 :: a16 :: a17 :: x :: t) (qI z :: st) c := g_istore_g hd (by simp only [List.length_cons]; omega) (by simp [qs1, hp]) h
theorem g_astore18 {a0 a1 a2 a3 a4 a5 a6 a7 a8 a9 a10 a11 a12 a13 a14 a15 a16 a17 x : Option qV} {z : Nat} (hd : decode Y.1.2.1 pc = .ok (.astore 18, 2)) (hp : qlg a17 = false) (h : qG Y w (pc + 2) (a0 :: a1 :: a2 :: a3 :: a4 :: a5 :: a6 :: a7 :: a8 :: a9 :: a10 :: a11 :: a12 :: a13 :: a14 :: a15 :: a16 :: a17 :: some (qP z) :: t) st c) : qG Y w pc (a0 :: a1 :: a2 :: a3 :: a4 :: a5 :: a6 :: a7 :: a8 :: a9 :: a10 :: a11 :: a12 :: a13 :: a14 :: a15 :: a16 :: a17 :: x :: t) (qP z :: st) c := g_astore_g hd (by simp only [List.length_cons]; omega) (by simp [qs1, hp]) h
theorem g_lstore18 {a0 a1 a2 a3 a4 a5 a6 a7 a8 a9 a10 a11 a12 a13 a14 a15 a16 a17 x : Option qV} {y : Option qV} {z : Int} (hd : decode Y.1.2.1 pc = .ok (.lstore 18, 2)) (hp : qlg a17 = false) (h : qG Y w (pc + 2) (a0 :: a1 :: a2 :: a3 :: a4 :: a5 :: a6 :: a7 :: a8 :: a9 :: a10 :: a11 :: a12 :: a13 :: a14 :: a15 :: a16 :: a17 :: some (qJ z) :: none :: t) st c) : qG Y w pc (a0 :: a1 :: a2 :: a3 :: a4 :: a5 :: a6 :: a7 :: a8 :: a9 :: a10 :: a11 :: a12 :: a13 :: a14 :: a15 :: a16 :: a17 :: x :: y :: t) (qJ z :: st) c := g_lstore_g hd (by simp only [List.length_cons]; omega) (by simp [qs2, hp]) h
theorem g_iinc18 {a0 a1 a2 a3 a4 a5 a6 a7 a8 a9 a10 a11 a12 a13 a14 a15 a16 a17 : Option qV} {z n : Int} (hd : decode Y.1.2.1 pc = .ok (.iinc 18 n, 3)) (hp : qlg a17 = false) (h : qG Y w (pc + 3) (a0 :: a1 :: a2 :: a3 :: a4 :: a5 :: a6 :: a7 :: a8 :: a9 :: a10 :: a11 :: a12 :: a13 :: a14 :: a15 :: a16 :: a17 :: some (qI (z + n)) :: t) st c) : qG Y w pc (a0 :: a1 :: a2 :: a3 :: a4 :: a5 :: a6 :: a7 :: a8 :: a9 :: a10 :: a11 :: a12 :: a13 :: a14 :: a15 :: a16 :: a17 :: some (qI z) :: t) st c := g_iinc_g hd rfl (by simp [qs1, hp]) h
theorem g_istore19 {a0 a1 a2 a3 a4 a5 a6 a7 a8 a9 a10 a11 a12 a13 a14 a15 a16 a17 a18 x : Option qV} {z : Int} (hd : decode Y.1.2.1 pc = .ok (.istore 19, 2)) (hp : qlg a18 = false) (h : qG Y w (pc + 2) (a0 :: a1 :: a2 :: a3 :: a4 :: a5 :: a6 :: a7 :: a8 :: a9 :: a10 :: a11 :: a12 :: a13 :: a14 :: a15 :: a16 :: a17 :: a18 :: some (qI z) :: t) st c) : qG Y w pc (a0 :: a1 :: a2 :: a3 :: a4 :: a5 :: a6 :: a7 :: a8 :: a9 :: a10 :: a11 :: a12 :: a13 :: a14 :: a15 :: a16 :: a17 :: a18 :: x :: t) (qI z :: st) c := g_istore_g hd (by simp only [List.length_cons]; omega) (by simp [qs1, hp]) h
theorem g_astore19 {a0 a1 a2 a3 a4 a5 a6 a7 a8 a9 a10 a11 a12 a13 a14 a15 a16 a17 a18 x : Option qV} {z : Nat} (hd : decode Y.1.2.1 pc = .ok (.astore 19, 2)) (hp : qlg a18 = false) (h : qG Y w (pc + 2) (a0 :: a1 :: a2 :: a3 :: a4 :: a5 :: a6 :: a7 :: a8 :: a9 :: a10 :: a11 :: a12 :: a13 :: a14 :: a15 :: a16 :: a17 :: a18 :: some (qP z) :: t) st c) : qG Y w pc (a0 :: a1 :: a2 :: a3 :: a4 :: a5 :: a6 :: a7 :: a8 :: a9 :: a10 :: a11 :: a12 :: a13 :: a14 :: a15 :: a16 :: a17 :: a18 :: x :: t) (qP z :: st) c := g_astore_g hd (by simp only [List.length_cons]; omega) (by simp [qs1, hp]) h
theorem g_lstore19 {a0 a1 a2 a3 a4 a5 a6 a7 a8 a9 a10 a11 a12 a13 a14 a15 a16 a17 a18 x : Option qV} {y : Option qV} {z : Int} (hd : decode Y.1.2.1 pc = .ok (.lstore 19, 2)) (hp : qlg a18 = false) (h : qG Y w (pc + 2) (a0 :: a1 :: a2 :: a3 :: a4 :: a5 :: a6 :: a7 :: a8 :: a9 :: a10 :: a11 :: a12 :: a13 :: a14 :: a15 :: a16 :: a17 :: a18 :: some (qJ z) :: none :: t) st c) : qG Y w pc (a0 :: a1 :: a2 :: a3 :: a4 :: a5 :: a6 :: a7 :: a8 :: a9 :: a10 :: a11 :: a12 :: a13 :: a14 :: a15 :: a16 :: a17 :: a18 :: x :: y :: t) (qJ z :: st) c := g_lstore_g hd (by simp only [List.length_cons]; omega) (by simp [qs2, hp]) h
theorem g_iinc19 {a0 a1 a2 a3 a4 a5 a6 a7 a8 a9 a10 a11 a12 a13 a14 a15 a16 a17 a18 : Option qV} {z n : Int} (hd : decode Y.1.2.1 pc = .ok (.iinc 19 n, 3)) (hp : qlg a18 = false) (h : qG Y w (pc + 3) (a0 :: a1 :: a2 :: a3 :: a4 :: a5 :: a6 :: a7 :: a8 :: a9 :: a10 :: a11 :: a12 :: a13 :: a14 :: a15 :: a16 :: a17 :: a18 :: some (qI (z + n)) :: t) st c) : qG Y w pc (a0 :: a1 :: a2 :: a3 :: a4 :: a5 :: a6 :: a7 :: a8 :: a9 :: a10 :: a11 :: a12 :: a13 :: a14 :: a15 :: a16 :: a17 :: a18 :: some (qI z) :: t) st c := g_iinc_g hd rfl (by simp [qs1, hp]) h
theorem g_istore20 {a0 a1 a2 a3 a4 a5 a6 a7 a8 a9 a10 a11 a12 a13 a14 a15 a16 a17 a18 a19 x : Option qV} {z : Int} (hd : decode Y.1.2.1 pc = .ok (.istore 20, 2)) (hp : qlg a19 = false) (h : qG Y w (pc + 2) (a0 :: a1 :: a2 :: a3 :: a4 :: a5 :: a6 :: a7 :: a8 :: a9 :: a10 :: a11 :: a12 :: a13 :: a14 :: a15 :: a16 :: a17 :: a18 :: a19 :: some (qI z) :: t) st c) : qG Y w pc (a0 :: a1 :: a2 :: a3 :: a4 :: a5 :: a6 :: a7 :: a8 :: a9 :: a10 :: a11 :: a12 :: a13 :: a14 :: a15 :: a16 :: a17 :: a18 :: a19 :: x :: t) (qI z :: st) c := g_istore_g hd (by simp only [List.length_cons]; omega) (by simp [qs1, hp]) h
theorem g_astore20 {a0 a1 a2 a3 a4 a5 a6 a7 a8 a9 a10 a11 a12 a13 a14 a15 a16 a17 a18 a19 x : Option qV} {z : Nat} (hd : decode Y.1.2.1 pc = .ok (.astore 20, 2)) (hp : qlg a19 = false) (h : qG Y w (pc + 2) (a0 :: a1 :: a2 :: a3 :: a4 :: a5 :: a6 :: a7 :: a8 :: a9 :: a10 :: a11 :: a12 :: a13 :: a14 :: a15 :: a16 :: a17 :: a18 :: a19 :: some (qP z) :: t) st c) : qG Y w pc (a0 :: a1 :: a2 :: a3 :: a4 :: a5 :: a6 :: a7 :: a8 :: a9 :: a10 :: a11 :: a12 :: a13 :: a14 :: a15 :: a16 :: a17 :: a18 :: a19 :: x :: t) (qP z :: st) c := g_astore_g hd (by simp only [List.length_cons]; omega) (by simp [qs1, hp]) h
theorem g_lstore20 {a0 a1 a2 a3 a4 a5 a6 a7 a8 a9 a10 a11 a12 a13 a14 a15 a16 a17 a18 a19 x : Option qV} {y : Option qV} {z : Int} (hd : decode Y.1.2.1 pc = .ok (.lstore 20, 2)) (hp : qlg a19 = false) (h : qG Y w (pc + 2) (a0 :: a1 :: a2 :: a3 :: a4 :: a5 :: a6 :: a7 :: a8 :: a9 :: a10 :: a11 :: a12 :: a13 :: a14 :: a15 :: a16 :: a17 :: a18 :: a19 :: some (qJ z) :: none :: t) st c) : qG Y w pc (a0 :: a1 :: a2 :: a3 :: a4 :: a5 :: a6 :: a7 :: a8 :: a9 :: a10 :: a11 :: a12 :: a13 :: a14 :: a15 :: a16 :: a17 :: a18 :: a19 :: x :: y :: t) (qJ z :: st) c := g_lstore_g hd (by simp only [List.length_cons]; omega) (by simp [qs2, hp]) h
theorem g_iinc20 {a0 a1 a2 a3 a4 a5 a6 a7 a8 a9 a10 a11 a12 a13 a14 a15 a16 a17 a18 a19 : Option qV} {z n : Int} (hd : decode Y.1.2.1 pc = .ok (.iinc 20 n, 3)) (hp : qlg a19 = false) (h : qG Y w (pc + 3) (a0 :: a1 :: a2 :: a3 :: a4 :: a5 :: a6 :: a7 :: a8 :: a9 :: a10 :: a11 :: a12 :: a13 :: a14 :: a15 :: a16 :: a17 :: a18 :: a19 :: some (qI (z + n)) :: t) st c) : qG Y w pc (a0 :: a1 :: a2 :: a3 :: a4 :: a5 :: a6 :: a7 :: a8 :: a9 :: a10 :: a11 :: a12 :: a13 :: a14 :: a15 :: a16 :: a17 :: a18 :: a19 :: some (qI z) :: t) st c := g_iinc_g hd rfl (by simp [qs1, hp]) h
theorem g_istore21 {a0 a1 a2 a3 a4 a5 a6 a7 a8 a9 a10 a11 a12 a13 a14 a15 a16 a17 a18 a19 a20 x : Option qV} {z : Int} (hd : decode Y.1.2.1 pc = .ok (.istore 21, 2)) (hp : qlg a20 = false) (h : qG Y w (pc + 2) (a0 :: a1 :: a2 :: a3 :: a4 :: a5 :: a6 :: a7 :: a8 :: a9 :: a10 :: a11 :: a12 :: a13 :: a14 :: a15 :: a16 :: a17 :: a18 :: a19 :: a20 :: some (qI z) :: t) st c) : qG Y w pc (a0 :: a1 :: a2 :: a3 :: a4 :: a5 :: a6 :: a7 :: a8 :: a9 :: a10 :: a11 :: a12 :: a13 :: a14 :: a15 :: a16 :: a17 :: a18 :: a19 :: a20 :: x :: t) (qI z :: st) c := g_istore_g hd (by simp only [List.length_cons]; omega) (by simp [qs1, hp]) h
theorem g_astore21 {a0 a1 a2 a3 a4 a5 a6 a7 a8 a9 a10 a11 a12 a13 a14 a15 a16 a17 a18 a19 a20 x : Option qV} {z : Nat} (hd : decode Y.1.2.1 pc = .ok (.astore 21, 2)) (hp : qlg a20 = false) (h : qG Y w (pc + 2) (a0 :: a1 :: a2 :: a3 :: a4 :: a5 :: a6 :: a7 :: a8 :: a9 :: a10 :: a11 :: a12 :: a13 :: a14 :: a15 :: a16 :: a17 :: a18 :: a19 :: a20 :: some (qP z) :: t) st c) : qG Y w pc (a0 :: a1 :: a2 :: a3 :: a4 :: a5 :: a6 :: a7 :: a8 :: a9 :: a10 :: a11 :: a12 :: a13 :: a14 :: a15 :: a16 :: a17 :: a18 :: a19 :: a20 :: x :: t) (qP z :: st) c := g_astore_g hd (by simp only [List.length_cons]; omega) (by simp [qs1, hp]) h
theorem g_lstore21 {a0 a1 a2 a3 a4 a5 a6 a7 a8 a9 a10 a11 a12 a13 a14 a15 a16 a17 a18 a19 a20 x : Option qV} {y : Option qV} {z : Int} (hd : decode Y.1.2.1 pc = .ok (.lstore 21, 2)) (hp : qlg a20 = false) (h : qG Y w (pc + 2) (a0 :: a1 :: a2 :: a3 :: a4 :: a5 :: a6 :: a7 :: a8 :: a9 :: a10 :: a11 :: a12 :: a13 :: a14 :: a15 :: a16 :: a17 :: a18 :: a19 :: a20 :: some (qJ z) :: none :: t) st c) : qG Y w pc (a0 :: a1 :: a2 :: a3 :: a4 :: a5 :: a6 :: a7 :: a8 :: a9 :: a10 :: a11 :: a12 :: a13 :: a14 :: a15 :: a16 :: a17 :: a18 :: a19 :: a20 :: x :: y :: t) (qJ z :: st) c := g_lstore_g hd (by simp only [List.length_cons]; omega) (by simp [qs2, hp]) h
theorem g_iinc21 {a0 a1 a2 a3 a4 a5 a6 a7 a8 a9 a10 a11 a12 a13 a14 a15 a16 a17 a18 a19 a20 : Option qV} {z n : Int} (hd : decode Y.1.2.1 pc = .ok (.iinc 21 n, 3)) (hp : qlg a20 = false) (h : qG Y w (pc + 3) (a0 :: a1 :: a2 :: a3 :: a4 :: a5 :: a6 :: a7 :: a8 :: a9 :: a10 :: a11 :: a12 :: a13 :: a14 :: a15 :: a16 :: a17 :: a18 :: a19 :: a20 :: some (qI (z + n)) :: t) st c) : qG Y w pc (a0 :: a1 :: a2 :: a3 :: a4 :: a5 :: a6 :: a7 :: a8 :: a9 :: a10 :: a11 :: a12 :: a13 :: a14 :: a15 :: a16 :: a17 :: a18 :: a19 :: a20 :: some (qI z) :: t) st c := g_iinc_g hd rfl (by simp [qs1, hp]) h
end QST
section QMATH
variable {Y : qY} {w : qW} {pc : Nat} {lo : List (Option qV)} {st : List qV} {c : qC}
def ab (x : Int) : Int := if x < 0 then 0 - x else x
def mx (x y : Int) : Int := if x < y then y else x
def mn (x y : Int) : Int := if y < x then y else x
def qMw (own : String) (idx : Nat) (y : MethodName) (b : ByteArray) (n : Nat) (ret : Option FieldType) : Prop := Cond.methodLink own idx y ∈ qALL ∧ Cond.static y ∈ qALL ∧ Cond.initialized "java/lang/Math" ∈ qALL ∧ Cond.code y b n ret ∈ qALL
theorem g_mabs {x : Int} {idx : Nat} (hd : decode Y.1.2.1 pc = .ok (.invokestatic idx, 3)) (hw : qMw Y.1.1.cls idx Lib.Math.abs.name Lib.Math.abs.code 1 (some .int)) (h : qG Y w (pc + 3) lo (qI (ab x) :: st) c) (hk : w.2.2.1 ≤ Y.2.1.2.1) (hz : w.2.2.2 ≤ Y.2.1.2.2) (hcs : Nat.ble (qcs st) 8 = true) (hr : 1 ≤ Y.2.1.1) (hx : iR x := by omega) : qG Y w pc lo (qI x :: st) c := by
  intro p l e R s m args below meth cd D cs B H locs ls C hE hH hS hl hn
  have hts := C.2.2.2.2.2.1
  refine va_mabs (x := Int32.ofInt x) C.1 C.2.1 (by rw [C.2.2.2.1, hn]) C.2.2.2.2.1 (hts _ hw.1) (hts _ hw.2.1) (hts _ hw.2.2.1) (hts _ hw.2.2.2) (by have := C.2.2.2.2.2.2.2.2.2.2.2.1; omega) (by have h1 := C.2.2.2.2.2.2.2.2.2.2.2.2.1; have h2 := Nat.le_of_ble_eq_true hcs; rw [q_cs]; omega) (Nat.le_trans hk C.2.2.2.2.2.2.2.2.2.2.2.2.2.1) (Nat.le_trans hz C.2.2.2.2.2.2.2.2.2.2.2.2.2.2) hd ?_
  have e1 : (if 0 ≤ Int32.ofInt x then Int32.ofInt x else 0 - Int32.ofInt x) = Int32.ofInt (ab x) := by
    unfold ab
    by_cases q : x < 0
    · rw [if_pos q, if_neg (by rw [q_i0]; exact fun z => by have := (q_ile q_r0 hx).mp z; omega), Int32.ofInt_sub]; rfl
    · rw [if_neg q, if_pos (by rw [q_i0]; exact (q_ile q_r0 hx).mpr (by omega))]
  rw [e1]
  exact h p l e R s m args below meth cd D cs B H locs ls C hE hH hS hl hn
theorem g_mmax {x y : Int} {idx : Nat} (hd : decode Y.1.2.1 pc = .ok (.invokestatic idx, 3)) (hw : qMw Y.1.1.cls idx Lib.Math.max.name Lib.Math.max.code 2 (some .int)) (h : qG Y w (pc + 3) lo (qI (mx x y) :: st) c) (hk : w.2.2.1 ≤ Y.2.1.2.1) (hz : w.2.2.2 ≤ Y.2.1.2.2) (hcs : Nat.ble (qcs st) 8 = true) (hr : 1 ≤ Y.2.1.1) (hx : iR x := by omega) (hy : iR y := by omega) : qG Y w pc lo (qI y :: qI x :: st) c := by
  intro p l e R s m args below meth cd D cs B H locs ls C hE hH hS hl hn
  have hts := C.2.2.2.2.2.1
  refine va_mmax (x := Int32.ofInt x) (y := Int32.ofInt y) C.1 C.2.1 (by rw [C.2.2.2.1, hn]) C.2.2.2.2.1 (hts _ hw.1) (hts _ hw.2.1) (hts _ hw.2.2.1) (hts _ hw.2.2.2) (by have := C.2.2.2.2.2.2.2.2.2.2.2.1; omega) (by have h1 := C.2.2.2.2.2.2.2.2.2.2.2.2.1; have h2 := Nat.le_of_ble_eq_true hcs; rw [q_cs]; omega) (Nat.le_trans hk C.2.2.2.2.2.2.2.2.2.2.2.2.2.1) (Nat.le_trans hz C.2.2.2.2.2.2.2.2.2.2.2.2.2.2) hd ?_
  have e1 : (if Int32.ofInt x < Int32.ofInt y then Int32.ofInt y else Int32.ofInt x) = Int32.ofInt (mx x y) := by
    unfold mx
    by_cases q : x < y
    · rw [if_pos q, if_pos ((q_ilt hx hy).mpr q)]
    · rw [if_neg q, if_neg (fun z => q ((q_ilt hx hy).mp z))]
  rw [e1]
  exact h p l e R s m args below meth cd D cs B H locs ls C hE hH hS hl hn
theorem g_mmin {x y : Int} {idx : Nat} (hd : decode Y.1.2.1 pc = .ok (.invokestatic idx, 3)) (hw : qMw Y.1.1.cls idx Lib.Math.min.name Lib.Math.min.code 2 (some .int)) (h : qG Y w (pc + 3) lo (qI (mn x y) :: st) c) (hk : w.2.2.1 ≤ Y.2.1.2.1) (hz : w.2.2.2 ≤ Y.2.1.2.2) (hcs : Nat.ble (qcs st) 8 = true) (hr : 1 ≤ Y.2.1.1) (hx : iR x := by omega) (hy : iR y := by omega) : qG Y w pc lo (qI y :: qI x :: st) c := by
  intro p l e R s m args below meth cd D cs B H locs ls C hE hH hS hl hn
  have hts := C.2.2.2.2.2.1
  refine va_mmin (x := Int32.ofInt x) (y := Int32.ofInt y) C.1 C.2.1 (by rw [C.2.2.2.1, hn]) C.2.2.2.2.1 (hts _ hw.1) (hts _ hw.2.1) (hts _ hw.2.2.1) (hts _ hw.2.2.2) (by have := C.2.2.2.2.2.2.2.2.2.2.2.1; omega) (by have h1 := C.2.2.2.2.2.2.2.2.2.2.2.2.1; have h2 := Nat.le_of_ble_eq_true hcs; rw [q_cs]; omega) (Nat.le_trans hk C.2.2.2.2.2.2.2.2.2.2.2.2.2.1) (Nat.le_trans hz C.2.2.2.2.2.2.2.2.2.2.2.2.2.2) hd ?_
  have e1 : (if Int32.ofInt y < Int32.ofInt x then Int32.ofInt y else Int32.ofInt x) = Int32.ofInt (mn x y) := by
    unfold mn
    by_cases q : y < x
    · rw [if_pos q, if_pos ((q_ilt hy hx).mpr q)]
    · rw [if_neg q, if_neg (fun z => q ((q_ilt hy hx).mp z))]
  rw [e1]
  exact h p l e R s m args below meth cd D cs B H locs ls C hE hH hS hl hn
theorem g_mabsJ {x : Int} {idx : Nat} (hd : decode Y.1.2.1 pc = .ok (.invokestatic idx, 3)) (hw : qMw Y.1.1.cls idx Lib.MathLoose.abs_long.x Lib.MathLoose.abs_long.code 2 (some .long)) (h : qG Y w (pc + 3) lo (qJ (ab x) :: st) c) (hk : w.2.2.1 ≤ Y.2.1.2.1) (hz : w.2.2.2 ≤ Y.2.1.2.2) (hcs : Nat.ble (qcs st) 8 = true) (hr : 1 ≤ Y.2.1.1) (hx : lR x := by omega) : qG Y w pc lo (qJ x :: st) c := by
  intro p l e R s m args below meth cd D cs B H locs ls C hE hH hS hl hn
  have hts := C.2.2.2.2.2.1
  refine va_mabs_long (x := Int64.ofInt x) C.1 C.2.1 (by rw [C.2.2.2.1, hn]) C.2.2.2.2.1 (hts _ hw.1) (hts _ hw.2.1) (hts _ hw.2.2.1) (hts _ hw.2.2.2) (by have := C.2.2.2.2.2.2.2.2.2.2.2.1; omega) (by have h1 := C.2.2.2.2.2.2.2.2.2.2.2.2.1; have h2 := Nat.le_of_ble_eq_true hcs; rw [q_cs]; omega) (Nat.le_trans hk C.2.2.2.2.2.2.2.2.2.2.2.2.2.1) (Nat.le_trans hz C.2.2.2.2.2.2.2.2.2.2.2.2.2.2) hd ?_
  have e1 : (if 0 < Int64.ofInt x then Int64.ofInt x else -Int64.ofInt x) = Int64.ofInt (ab x) := by
    unfold ab
    by_cases q : x < 0
    · rw [if_pos q, if_neg (by rw [q_l0]; exact fun z => by have := (q_llt q_lr0 hx).mp z; omega), Int64.ofInt_sub, ← Int64.ofInt_neg, ← Int64.ofInt_sub]; congr 1; omega
    · rw [if_neg q]
      by_cases q2 : 0 < x
      · rw [if_pos (by rw [q_l0]; exact (q_llt q_lr0 hx).mpr q2)]
      · have : x = 0 := by omega
        subst this
        decide
  rw [e1]
  exact h p l e R s m args below meth cd D cs B H locs ls C hE hH hS hl hn
theorem g_mmaxJ {x y : Int} {idx : Nat} (hd : decode Y.1.2.1 pc = .ok (.invokestatic idx, 3)) (hw : qMw Y.1.1.cls idx Lib.MathLoose.max_long.x Lib.MathLoose.max_long.code 4 (some .long)) (h : qG Y w (pc + 3) lo (qJ (mx x y) :: st) c) (hk : w.2.2.1 ≤ Y.2.1.2.1) (hz : w.2.2.2 ≤ Y.2.1.2.2) (hcs : Nat.ble (qcs st) 8 = true) (hr : 1 ≤ Y.2.1.1) (hx : lR x := by omega) (hy : lR y := by omega) : qG Y w pc lo (qJ y :: qJ x :: st) c := by
  intro p l e R s m args below meth cd D cs B H locs ls C hE hH hS hl hn
  have hts := C.2.2.2.2.2.1
  refine va_mmax_long (x := Int64.ofInt x) (y := Int64.ofInt y) C.1 C.2.1 (by rw [C.2.2.2.1, hn]) C.2.2.2.2.1 (hts _ hw.1) (hts _ hw.2.1) (hts _ hw.2.2.1) (hts _ hw.2.2.2) (by have := C.2.2.2.2.2.2.2.2.2.2.2.1; omega) (by have h1 := C.2.2.2.2.2.2.2.2.2.2.2.2.1; have h2 := Nat.le_of_ble_eq_true hcs; rw [q_cs]; omega) (Nat.le_trans hk C.2.2.2.2.2.2.2.2.2.2.2.2.2.1) (Nat.le_trans hz C.2.2.2.2.2.2.2.2.2.2.2.2.2.2) hd ?_
  have e1 : (if Int64.ofInt y < Int64.ofInt x then Int64.ofInt x else Int64.ofInt y) = Int64.ofInt (mx x y) := by
    unfold mx
    by_cases q : x < y
    · rw [if_pos q, if_neg (fun z => by have := (q_llt hy hx).mp z; omega)]
    · rw [if_neg q]
      by_cases q2 : y < x
      · rw [if_pos ((q_llt hy hx).mpr q2)]
      · rw [if_neg (fun z => q2 ((q_llt hy hx).mp z)), show x = y by omega]
  rw [e1]
  exact h p l e R s m args below meth cd D cs B H locs ls C hE hH hS hl hn
theorem g_mminJ {x y : Int} {idx : Nat} (hd : decode Y.1.2.1 pc = .ok (.invokestatic idx, 3)) (hw : qMw Y.1.1.cls idx Lib.MathLoose.min_long.x Lib.MathLoose.min_long.code 4 (some .long)) (h : qG Y w (pc + 3) lo (qJ (mn x y) :: st) c) (hk : w.2.2.1 ≤ Y.2.1.2.1) (hz : w.2.2.2 ≤ Y.2.1.2.2) (hcs : Nat.ble (qcs st) 8 = true) (hr : 1 ≤ Y.2.1.1) (hx : lR x := by omega) (hy : lR y := by omega) : qG Y w pc lo (qJ y :: qJ x :: st) c := by
  intro p l e R s m args below meth cd D cs B H locs ls C hE hH hS hl hn
  have hts := C.2.2.2.2.2.1
  refine va_mmin_long (x := Int64.ofInt x) (y := Int64.ofInt y) C.1 C.2.1 (by rw [C.2.2.2.1, hn]) C.2.2.2.2.1 (hts _ hw.1) (hts _ hw.2.1) (hts _ hw.2.2.1) (hts _ hw.2.2.2) (by have := C.2.2.2.2.2.2.2.2.2.2.2.1; omega) (by have h1 := C.2.2.2.2.2.2.2.2.2.2.2.2.1; have h2 := Nat.le_of_ble_eq_true hcs; rw [q_cs]; omega) (Nat.le_trans hk C.2.2.2.2.2.2.2.2.2.2.2.2.2.1) (Nat.le_trans hz C.2.2.2.2.2.2.2.2.2.2.2.2.2.2) hd ?_
  have e1 : (if Int64.ofInt y < Int64.ofInt x then Int64.ofInt y else Int64.ofInt x) = Int64.ofInt (mn x y) := by
    unfold mn
    by_cases q : y < x
    · rw [if_pos q, if_pos ((q_llt hy hx).mpr q)]
    · rw [if_neg q, if_neg (fun z => q ((q_llt hy hx).mp z))]
  rw [e1]
  exact h p l e R s m args below meth cd D cs B H locs ls C hE hH hS hl hn
end QMATH
end
section
theorem q_mem {w : Cond} (i : Nat) (h : tables_1[i]? = some w) (hg : goodWord w = true) : w ∈ qALL := List.mem_filter.mpr ⟨List.mem_append_right _ (List.mem_of_getElem? h), hg⟩
theorem q_memP {w : Cond} (i : Nat) (h : (k2_sels lw_privs)[i]? = some w) (hg : goodWord w = true) : w ∈ qALL := List.mem_filter.mpr ⟨List.mem_append_left _ (List.mem_of_getElem? h), hg⟩
theorem q_memN {w : Cond} (i : Nat) (h : tables_1[i]? = some w) (hg : qnest w = true) : w ∈ qNZ := List.mem_filter.mpr ⟨List.mem_append_right _ (List.mem_of_getElem? h), hg⟩
abbrev X0_init : qM := (yX0_init, cX0_init, 1, none)
abbrev X0_search : qM := (yX0_search, cX0_search, 5, some .int)
abbrev X0_tryRows : qM := (yX0_tryRows, cX0_tryRows, 6, none)
abbrev X0_lowerLeasts : qM := (yX0_lowerLeasts, cX0_lowerLeasts, 8, none)
abbrev X0_weighTrial : qM := (yX0_weighTrial, cX0_weighTrial, 9, none)
abbrev X0_nearestBest : qM := (yX0_nearestBest, cX0_nearestBest, 6, some .int)
abbrev X1_init : qM := (yX1_init, cX1_init, 1, none)
abbrev X1_spread : qM := (yX1_spread, cX1_spread, 7, some .int)
abbrev X1_rowsWithin : qM := (yX1_rowsWithin, cX1_rowsWithin, 7, some .int)
abbrev X1_spreadFrom : qM := (yX1_spreadFrom, cX1_spreadFrom, 9, none)
abbrev X1_leastGroupWithin : qM := (yX1_leastGroupWithin, cX1_leastGroupWithin, 7, some .int)
abbrev X2_init : qM := (yX2_init, cX2_init, 1, none)
abbrev X2_put : qM := (yX2_put, cX2_put, 7, none)
abbrev X2_add : qM := (yX2_add, cX2_add, 5, none)
abbrev X2_part : qM := (yX2_part, cX2_part, 2, some .long)
abbrev X2_commonDivisor : qM := (yX2_commonDivisor, cX2_commonDivisor, 11, some .long)
abbrev X3_init : qM := (yX3_init, cX3_init, 1, none)
abbrev X3_isEmpty : qM := (yX3_isEmpty, cX3_isEmpty, 1, some .boolean)
abbrev X3_fill : qM := (yX3_fill, cX3_fill, 5, none)
abbrev X3_holdsBoth : qM := (yX3_holdsBoth, cX3_holdsBoth, 3, some .boolean)
abbrev X3_total : qM := (yX3_total, cX3_total, 7, some .long)
abbrev X3_squaresTimesSize : qM := (yX3_squaresTimesSize, cX3_squaresTimesSize, 8, some .long)
abbrev X3_distancesTo : qM := (yX3_distancesTo, cX3_distancesTo, 8, some .long)
abbrev X3_totalOfSquares : qM := (yX3_totalOfSquares, cX3_totalOfSquares, 9, some .long)
abbrev X4_init : qM := (yX4_init, cX4_init, 1, none)
abbrev X4_build : qM := (yX4_build, cX4_build, 5, some .int)
abbrev X4_split : qM := (yX4_split, cX4_split, 5, none)
abbrev X4_numberByLeastRows : qM := (yX4_numberByLeastRows, cX4_numberByLeastRows, 4, none)
abbrev X4_placeRows : qM := (yX4_placeRows, cX4_placeRows, 5, none)
abbrev X4_findNearest : qM := (yX4_findNearest, cX4_findNearest, 13, none)
abbrev X4_gapAbove : qM := (yX4_gapAbove, cX4_gapAbove, 9, some .long)
abbrev X4_gapBelow : qM := (yX4_gapBelow, cX4_gapBelow, 3, some .long)
abbrev X4_merge : qM := (yX4_merge, cX4_merge, 7, none)
abbrev X4_gapToBoth : qM := (yX4_gapToBoth, cX4_gapToBoth, 5, some .long)
abbrev X5_init : qM := (yX5_init, cX5_init, 1, none)
abbrev X5_run : qM := (yX5_run, cX5_run, 4, some .int)
abbrev X5_chooseFirstMeans : qM := (yX5_chooseFirstMeans, cX5_chooseFirstMeans, 4, none)
abbrev X5_putFirstMean : qM := (yX5_putFirstMean, cX5_putFirstMean, 5, none)
abbrev X5_farthestFromChosen : qM := (yX5_farthestFromChosen, cX5_farthestFromChosen, 5, some .int)
abbrev X5_moveRows : qM := (yX5_moveRows, cX5_moveRows, 3, some .boolean)
abbrev X5_nearestMean : qM := (yX5_nearestMean, cX5_nearestMean, 9, some .int)
abbrev X5_takeFarthest : qM := (yX5_takeFarthest, cX5_takeFarthest, 12, none)
abbrev X5_noteMoves : qM := (yX5_noteMoves, cX5_noteMoves, 4, some .boolean)
abbrev X5_remakeMeans : qM := (yX5_remakeMeans, cX5_remakeMeans, 4, none)
abbrev X5_squaresAbove : qM := (yX5_squaresAbove, cX5_squaresAbove, 9, some .long)
abbrev X5_squaresBelow : qM := (yX5_squaresBelow, cX5_squaresBelow, 2, some .long)
abbrev X6_init : qM := (yX6_init, cX6_init, 1, none)
abbrev X6_takes : qM := (yX6_takes, cX6_takes, 3, some .boolean)
abbrev X6_append : qM := (yX6_append, cX6_append, 8, some .int)
abbrev X6_cell : qM := (yX6_cell, cX6_cell, 3, some .int)
abbrev X6_apart : qM := (yX6_apart, cX6_apart, 4, some .int)
abbrev X6_placeOf : qM := (yX6_placeOf, cX6_placeOf, 3, some .int)
abbrev X6_nearerThan : qM := (yX6_nearerThan, cX6_nearerThan, 8, some .int)
abbrev X6_measure : qM := (yX6_measure, cX6_measure, 8, none)
abbrev X6_note : qM := (yX6_note, cX6_note, 5, none)
abbrev X7_init : qM := (yX7_init, cX7_init, 2, none)
abbrev X7_columns : qM := (yX7_columns, cX7_columns, 2, some .int)
abbrev X7_row : qM := (yX7_row, cX7_row, 5, some .int)
abbrev X7_clear : qM := (yX7_clear, cX7_clear, 2, some .int)
abbrev X7_count : qM := (yX7_count, cX7_count, 2, some .int)
abbrev X7_distance : qM := (yX7_distance, cX7_distance, 4, some .int)
abbrev X7_near : qM := (yX7_near, cX7_near, 5, some .int)
abbrev X7_means : qM := (yX7_means, cX7_means, 4, some .int)
abbrev X7_medoids : qM := (yX7_medoids, cX7_medoids, 5, some .int)
abbrev X7_medoid : qM := (yX7_medoid, cX7_medoid, 2, some .int)
abbrev X7_density : qM := (yX7_density, cX7_density, 6, some .int)
abbrev X7_tree : qM := (yX7_tree, cX7_tree, 3, some .int)
abbrev X7_join : qM := (yX7_join, cX7_join, 3, some .long)
abbrev X7_cut : qM := (yX7_cut, cX7_cut, 3, some .int)
abbrev X7_of : qM := (yX7_of, cX7_of, 3, some .int)
abbrev X7_size : qM := (yX7_size, cX7_size, 4, some .int)
abbrev X7_mean : qM := (yX7_mean, cX7_mean, 6, some .int)
abbrev X7_sum : qM := (yX7_sum, cX7_sum, 3, some .long)
abbrev X7_well : qM := (yX7_well, cX7_well, 5, some .long)
abbrev X7_agree : qM := (yX7_agree, cX7_agree, 5, some .int)
abbrev X7_forgetGroupings : qM := (yX7_forgetGroupings, cX7_forgetGroupings, 2, none)
abbrev X7_isRow : qM := (yX7_isRow, cX7_isRow, 2, some .boolean)
abbrev X7_isKind : qM := (yX7_isKind, cX7_isKind, 1, some .boolean)
abbrev X7_isSlot : qM := (yX7_isSlot, cX7_isSlot, 1, some .boolean)
abbrev X7_isSide : qM := (yX7_isSide, cX7_isSide, 1, some .boolean)
abbrev X7_refusalOfGroup : qM := (yX7_refusalOfGroup, cX7_refusalOfGroup, 3, some .int)
abbrev X7_reckonMean : qM := (yX7_reckonMean, cX7_reckonMean, 5, none)
abbrev X7_reckonSum : qM := (yX7_reckonSum, cX7_reckonSum, 3, none)
abbrev X7_reckonWell : qM := (yX7_reckonWell, cX7_reckonWell, 12, none)
abbrev X7_nearestOtherGroup : qM := (yX7_nearestOtherGroup, cX7_nearestOtherGroup, 12, some .int)
abbrev X7_agreementOf : qM := (yX7_agreementOf, cX7_agreementOf, 5, some .int)
abbrev X7_isLess : qM := (yX7_isLess, cX7_isLess, 8, some .boolean)
abbrev X8_init : qM := (yX8_init, cX8_init, 1, none)
abbrev X8_within : qM := (yX8_within, cX8_within, 3, some .boolean)
abbrev X8_isRow : qM := (yX8_isRow, cX8_isRow, 2, some .boolean)
abbrev X8_common : qM := (yX8_common, cX8_common, 10, some .long)
abbrev X8_forget : qM := (yX8_forget, cX8_forget, 1, none)
abbrev X8_columns : qM := (yX8_columns, cX8_columns, 2, some .int)
abbrev X8_row : qM := (yX8_row, cX8_row, 6, some .int)
abbrev X8_clear : qM := (yX8_clear, cX8_clear, 2, some .int)
abbrev X8_count : qM := (yX8_count, cX8_count, 2, some .int)
abbrev X8_apart : qM := (yX8_apart, cX8_apart, 7, some .int)
abbrev X8_lay : qM := (yX8_lay, cX8_lay, 4, none)
abbrev X8_distance : qM := (yX8_distance, cX8_distance, 4, some .int)
abbrev X8_near : qM := (yX8_near, cX8_near, 8, some .int)
abbrev X8_chooseFirst : qM := (yX8_chooseFirst, cX8_chooseFirst, 5, none)
abbrev X8_farthest : qM := (yX8_farthest, cX8_farthest, 7, some .int)
abbrev X8_square : qM := (yX8_square, cX8_square, 8, some .long)
abbrev X8_isNearer : qM := (yX8_isNearer, cX8_isNearer, 9, some .boolean)
abbrev X8_sizeNow : qM := (yX8_sizeNow, cX8_sizeNow, 4, some .int)
abbrev X8_fill : qM := (yX8_fill, cX8_fill, 4, none)
abbrev X8_takeMeans : qM := (yX8_takeMeans, cX8_takeMeans, 5, none)
abbrev X8_means : qM := (yX8_means, cX8_means, 7, some .int)
abbrev X8_nearestOf : qM := (yX8_nearestOf, cX8_nearestOf, 8, some .int)
abbrev X8_sumOf : qM := (yX8_sumOf, cX8_sumOf, 7, some .int)
abbrev X8_medoids : qM := (yX8_medoids, cX8_medoids, 9, some .int)
abbrev X8_medoid : qM := (yX8_medoid, cX8_medoid, 2, some .int)
abbrev X8_density : qM := (yX8_density, cX8_density, 10, some .int)
abbrev X8_spread : qM := (yX8_spread, cX8_spread, 7, none)
abbrev X8_gather : qM := (yX8_gather, cX8_gather, 7, none)
abbrev X8_apartOf : qM := (yX8_apartOf, cX8_apartOf, 8, none)
abbrev X8_tree : qM := (yX8_tree, cX8_tree, 4, some .int)
abbrev X8_joinNext : qM := (yX8_joinNext, cX8_joinNext, 11, none)
abbrev X8_join : qM := (yX8_join, cX8_join, 3, some .long)
abbrev X8_cut : qM := (yX8_cut, cX8_cut, 5, some .int)
abbrev X8_of0 : qM := (yX8_of0, cX8_of0, 3, some .int)
abbrev X8_of : qM := (yX8_of, cX8_of, 3, some .int)
abbrev X8_sizeIn : qM := (yX8_sizeIn, cX8_sizeIn, 5, some .int)
abbrev X8_refused : qM := (yX8_refused, cX8_refused, 3, some .int)
abbrev X8_size : qM := (yX8_size, cX8_size, 4, some .int)
abbrev X8_sumIn : qM := (yX8_sumIn, cX8_sumIn, 7, some .long)
abbrev X8_mean : qM := (yX8_mean, cX8_mean, 12, some .int)
abbrev X8_sum : qM := (yX8_sum, cX8_sum, 20, some .long)
abbrev X8_farFrom : qM := (yX8_farFrom, cX8_farFrom, 8, some .long)
abbrev X8_well : qM := (yX8_well, cX8_well, 20, some .long)
abbrev X8_agree : qM := (yX8_agree, cX8_agree, 8, some .int)
theorem fin0 : ∀ w ∈ u_ws RX0 TX0 6, w ∈ qALL := fun w hw => by
  have h := goodIn_of (big := lw_tbl) (u_ws RX0 TX0 6) (by decide +kernel) w hw
  have h2 := List.all_eq_true.mp (show (u_ws RX0 TX0 6).all goodWord = true by decide +kernel) w hw
  exact List.mem_filter.mpr ⟨h.1, h2⟩
theorem fw0_0 : qFw 0 0 (.array .int) true := ⟨RX0, TX0, 6, tyX0, rfl, tyX0_ok, nmX0, rfl, (by decide +kernel), rfl⟩
theorem fw0_1 : qFw 0 1 (.array .int) true := ⟨RX0, TX0, 6, tyX0, rfl, tyX0_ok, nmX0, rfl, (by decide +kernel), rfl⟩
theorem fw0_2 : qFw 0 2 (.array .int) true := ⟨RX0, TX0, 6, tyX0, rfl, tyX0_ok, nmX0, rfl, (by decide +kernel), rfl⟩
theorem fw0_3 : qFw 0 3 (.array .int) true := ⟨RX0, TX0, 6, tyX0, rfl, tyX0_ok, nmX0, rfl, (by decide +kernel), rfl⟩
theorem fw0_4 : qFw 0 4 (.int) false := ⟨RX0, TX0, 6, tyX0, rfl, tyX0_ok, nmX0, rfl, (by decide +kernel), rfl⟩
theorem fw0_5 : qFw 0 5 (.int) false := ⟨RX0, TX0, 6, tyX0, rfl, tyX0_ok, nmX0, rfl, (by decide +kernel), rfl⟩
theorem fin1 : ∀ w ∈ u_ws RX1 TX1 3, w ∈ qALL := fun w hw => by
  have h := goodIn_of (big := lw_tbl) (u_ws RX1 TX1 3) (by decide +kernel) w hw
  have h2 := List.all_eq_true.mp (show (u_ws RX1 TX1 3).all goodWord = true by decide +kernel) w hw
  exact List.mem_filter.mpr ⟨h.1, h2⟩
theorem fw1_0 : qFw 1 0 (.array .int) true := ⟨RX1, TX1, 3, tyX1, rfl, tyX1_ok, nmX1, rfl, (by decide +kernel), rfl⟩
theorem fw1_1 : qFw 1 1 (.array .boolean) true := ⟨RX1, TX1, 3, tyX1, rfl, tyX1_ok, nmX1, rfl, (by decide +kernel), rfl⟩
theorem fw1_2 : qFw 1 2 (.array .int) true := ⟨RX1, TX1, 3, tyX1, rfl, tyX1_ok, nmX1, rfl, (by decide +kernel), rfl⟩
theorem fin2 : ∀ w ∈ u_ws RX2 TX2 2, w ∈ qALL := fun w hw => by
  have h := goodIn_of (big := lw_tbl) (u_ws RX2 TX2 2) (by decide +kernel) w hw
  have h2 := List.all_eq_true.mp (show (u_ws RX2 TX2 2).all goodWord = true by decide +kernel) w hw
  exact List.mem_filter.mpr ⟨h.1, h2⟩
theorem fw2_0 : qFw 2 0 (.long) false := ⟨RX2, TX2, 2, tyX2, rfl, tyX2_ok, nmX2, rfl, (by decide +kernel), rfl⟩
theorem fw2_1 : qFw 2 1 (.long) false := ⟨RX2, TX2, 2, tyX2, rfl, tyX2_ok, nmX2, rfl, (by decide +kernel), rfl⟩
theorem fin3 : ∀ w ∈ u_ws RX3 TX3 4, w ∈ qALL := fun w hw => by
  have h := goodIn_of (big := lw_tbl) (u_ws RX3 TX3 4) (by decide +kernel) w hw
  have h2 := List.all_eq_true.mp (show (u_ws RX3 TX3 4).all goodWord = true by decide +kernel) w hw
  exact List.mem_filter.mpr ⟨h.1, h2⟩
theorem fw3_0 : qFw 3 0 (.array .int) true := ⟨RX3, TX3, 4, tyX3, rfl, tyX3_ok, nmX3, rfl, (by decide +kernel), rfl⟩
theorem fw3_1 : qFw 3 1 (.array .int) true := ⟨RX3, TX3, 4, tyX3, rfl, tyX3_ok, nmX3, rfl, (by decide +kernel), rfl⟩
theorem fw3_2 : qFw 3 2 (.int) false := ⟨RX3, TX3, 4, tyX3, rfl, tyX3_ok, nmX3, rfl, (by decide +kernel), rfl⟩
theorem fw3_3 : qFw 3 3 (.int) false := ⟨RX3, TX3, 4, tyX3, rfl, tyX3_ok, nmX3, rfl, (by decide +kernel), rfl⟩
theorem fin4 : ∀ w ∈ u_ws RX4 TX4 12, w ∈ qALL := fun w hw => by
  have h := goodIn_of (big := lw_tbl) (u_ws RX4 TX4 12) (by decide +kernel) w hw
  have h2 := List.all_eq_true.mp (show (u_ws RX4 TX4 12).all goodWord = true by decide +kernel) w hw
  exact List.mem_filter.mpr ⟨h.1, h2⟩
theorem fw4_0 : qFw 4 0 (.array .int) true := ⟨RX4, TX4, 12, tyX4, rfl, tyX4_ok, nmX4, rfl, (by decide +kernel), rfl⟩
theorem fw4_1 : qFw 4 1 (.array .int) true := ⟨RX4, TX4, 12, tyX4, rfl, tyX4_ok, nmX4, rfl, (by decide +kernel), rfl⟩
theorem fw4_2 : qFw 4 2 (.array .int) true := ⟨RX4, TX4, 12, tyX4, rfl, tyX4_ok, nmX4, rfl, (by decide +kernel), rfl⟩
theorem fw4_3 : qFw 4 3 (.array .long) true := ⟨RX4, TX4, 12, tyX4, rfl, tyX4_ok, nmX4, rfl, (by decide +kernel), rfl⟩
theorem fw4_4 : qFw 4 4 (.array .long) true := ⟨RX4, TX4, 12, tyX4, rfl, tyX4_ok, nmX4, rfl, (by decide +kernel), rfl⟩
theorem fw4_5 : qFw 4 5 (.array .int) true := ⟨RX4, TX4, 12, tyX4, rfl, tyX4_ok, nmX4, rfl, (by decide +kernel), rfl⟩
theorem fw4_6 : qFw 4 6 (.array .int) true := ⟨RX4, TX4, 12, tyX4, rfl, tyX4_ok, nmX4, rfl, (by decide +kernel), rfl⟩
theorem fw4_7 : qFw 4 7 (.array .long) true := ⟨RX4, TX4, 12, tyX4, rfl, tyX4_ok, nmX4, rfl, (by decide +kernel), rfl⟩
theorem fw4_8 : qFw 4 8 (.array .long) true := ⟨RX4, TX4, 12, tyX4, rfl, tyX4_ok, nmX4, rfl, (by decide +kernel), rfl⟩
theorem fw4_9 : qFw 4 9 (.object "NearGroups$Fraction") true := ⟨RX4, TX4, 12, tyX4, rfl, tyX4_ok, nmX4, rfl, (by decide +kernel), rfl⟩
theorem fw4_10 : qFw 4 10 (.int) false := ⟨RX4, TX4, 12, tyX4, rfl, tyX4_ok, nmX4, rfl, (by decide +kernel), rfl⟩
theorem fw4_11 : qFw 4 11 (.int) false := ⟨RX4, TX4, 12, tyX4, rfl, tyX4_ok, nmX4, rfl, (by decide +kernel), rfl⟩
theorem fin5 : ∀ w ∈ u_ws RX5 TX5 7, w ∈ qALL := fun w hw => by
  have h := goodIn_of (big := lw_tbl) (u_ws RX5 TX5 7) (by decide +kernel) w hw
  have h2 := List.all_eq_true.mp (show (u_ws RX5 TX5 7).all goodWord = true by decide +kernel) w hw
  exact List.mem_filter.mpr ⟨h.1, h2⟩
theorem fw5_0 : qFw 5 0 (.array .int) true := ⟨RX5, TX5, 7, tyX5, rfl, tyX5_ok, nmX5, rfl, (by decide +kernel), rfl⟩
theorem fw5_1 : qFw 5 1 (.array .int) true := ⟨RX5, TX5, 7, tyX5, rfl, tyX5_ok, nmX5, rfl, (by decide +kernel), rfl⟩
theorem fw5_2 : qFw 5 2 (.array .int) true := ⟨RX5, TX5, 7, tyX5, rfl, tyX5_ok, nmX5, rfl, (by decide +kernel), rfl⟩
theorem fw5_3 : qFw 5 3 (.array .int) true := ⟨RX5, TX5, 7, tyX5, rfl, tyX5_ok, nmX5, rfl, (by decide +kernel), rfl⟩
theorem fw5_4 : qFw 5 4 (.array .int) true := ⟨RX5, TX5, 7, tyX5, rfl, tyX5_ok, nmX5, rfl, (by decide +kernel), rfl⟩
theorem fw5_5 : qFw 5 5 (.array .int) true := ⟨RX5, TX5, 7, tyX5, rfl, tyX5_ok, nmX5, rfl, (by decide +kernel), rfl⟩
theorem fw5_6 : qFw 5 6 (.int) false := ⟨RX5, TX5, 7, tyX5, rfl, tyX5_ok, nmX5, rfl, (by decide +kernel), rfl⟩
theorem fin6 : ∀ w ∈ u_ws RX6 TX6 4, w ∈ qALL := fun w hw => by
  have h := goodIn_of (big := lw_tbl) (u_ws RX6 TX6 4) (by decide +kernel) w hw
  have h2 := List.all_eq_true.mp (show (u_ws RX6 TX6 4).all goodWord = true by decide +kernel) w hw
  exact List.mem_filter.mpr ⟨h.1, h2⟩
theorem fw6_0 : qFw 6 0 (.array .int) true := ⟨RX6, TX6, 4, tyX6, rfl, tyX6_ok, nmX6, rfl, (by decide +kernel), rfl⟩
theorem fw6_1 : qFw 6 1 (.array .int) true := ⟨RX6, TX6, 4, tyX6, rfl, tyX6_ok, nmX6, rfl, (by decide +kernel), rfl⟩
theorem fw6_2 : qFw 6 2 (.int) false := ⟨RX6, TX6, 4, tyX6, rfl, tyX6_ok, nmX6, rfl, (by decide +kernel), rfl⟩
theorem fw6_3 : qFw 6 3 (.int) false := ⟨RX6, TX6, 4, tyX6, rfl, tyX6_ok, nmX6, rfl, (by decide +kernel), rfl⟩
theorem fin7 : ∀ w ∈ u_ws RX7 TX7 7, w ∈ qALL := fun w hw => by
  have h := goodIn_of (big := lw_tbl) (u_ws RX7 TX7 7) (by decide +kernel) w hw
  have h2 := List.all_eq_true.mp (show (u_ws RX7 TX7 7).all goodWord = true by decide +kernel) w hw
  exact List.mem_filter.mpr ⟨h.1, h2⟩
theorem fw7_0 : qFw 7 0 (.object "NearGroups$Table") true := ⟨RX7, TX7, 7, tyX7, rfl, tyX7_ok, nmX7, rfl, (by decide +kernel), rfl⟩
theorem fw7_1 : qFw 7 1 (.array (.object "NearGroups$Grouping")) true := ⟨RX7, TX7, 7, tyX7, rfl, tyX7_ok, nmX7, rfl, (by decide +kernel), rfl⟩
theorem fw7_2 : qFw 7 2 (.object "NearGroups$MeanRounds") true := ⟨RX7, TX7, 7, tyX7, rfl, tyX7_ok, nmX7, rfl, (by decide +kernel), rfl⟩
theorem fw7_3 : qFw 7 3 (.object "NearGroups$BestRows") true := ⟨RX7, TX7, 7, tyX7, rfl, tyX7_ok, nmX7, rfl, (by decide +kernel), rfl⟩
theorem fw7_4 : qFw 7 4 (.object "NearGroups$DenseRows") true := ⟨RX7, TX7, 7, tyX7, rfl, tyX7_ok, nmX7, rfl, (by decide +kernel), rfl⟩
theorem fw7_5 : qFw 7 5 (.object "NearGroups$Joins") true := ⟨RX7, TX7, 7, tyX7, rfl, tyX7_ok, nmX7, rfl, (by decide +kernel), rfl⟩
theorem fw7_6 : qFw 7 6 (.object "NearGroups$Fraction") true := ⟨RX7, TX7, 7, tyX7, rfl, tyX7_ok, nmX7, rfl, (by decide +kernel), rfl⟩
theorem fin8 : ∀ w ∈ u_ws RX8 TX8 29, w ∈ qALL := fun w hw => by
  have h := goodIn_of (big := lw_tbl) (u_ws RX8 TX8 29) (by decide +kernel) w hw
  have h2 := List.all_eq_true.mp (show (u_ws RX8 TX8 29).all goodWord = true by decide +kernel) w hw
  exact List.mem_filter.mpr ⟨h.1, h2⟩
theorem fw8_0 : qFw 8 0 (.int) false := ⟨RX8, TX8, 29, tyX8, rfl, tyX8_ok, nmX8, rfl, (by decide +kernel), rfl⟩
theorem fw8_1 : qFw 8 1 (.int) false := ⟨RX8, TX8, 29, tyX8, rfl, tyX8_ok, nmX8, rfl, (by decide +kernel), rfl⟩
theorem fw8_2 : qFw 8 2 (.array .int) true := ⟨RX8, TX8, 29, tyX8, rfl, tyX8_ok, nmX8, rfl, (by decide +kernel), rfl⟩
theorem fw8_3 : qFw 8 3 (.array .boolean) true := ⟨RX8, TX8, 29, tyX8, rfl, tyX8_ok, nmX8, rfl, (by decide +kernel), rfl⟩
theorem fw8_4 : qFw 8 4 (.array .int) true := ⟨RX8, TX8, 29, tyX8, rfl, tyX8_ok, nmX8, rfl, (by decide +kernel), rfl⟩
theorem fw8_5 : qFw 8 5 (.array .int) true := ⟨RX8, TX8, 29, tyX8, rfl, tyX8_ok, nmX8, rfl, (by decide +kernel), rfl⟩
theorem fw8_6 : qFw 8 6 (.int) false := ⟨RX8, TX8, 29, tyX8, rfl, tyX8_ok, nmX8, rfl, (by decide +kernel), rfl⟩
theorem fw8_7 : qFw 8 7 (.array .int) true := ⟨RX8, TX8, 29, tyX8, rfl, tyX8_ok, nmX8, rfl, (by decide +kernel), rfl⟩
theorem fw8_8 : qFw 8 8 (.boolean) false := ⟨RX8, TX8, 29, tyX8, rfl, tyX8_ok, nmX8, rfl, (by decide +kernel), rfl⟩
theorem fw8_9 : qFw 8 9 (.int) false := ⟨RX8, TX8, 29, tyX8, rfl, tyX8_ok, nmX8, rfl, (by decide +kernel), rfl⟩
theorem fw8_10 : qFw 8 10 (.array .int) true := ⟨RX8, TX8, 29, tyX8, rfl, tyX8_ok, nmX8, rfl, (by decide +kernel), rfl⟩
theorem fw8_11 : qFw 8 11 (.array .int) true := ⟨RX8, TX8, 29, tyX8, rfl, tyX8_ok, nmX8, rfl, (by decide +kernel), rfl⟩
theorem fw8_12 : qFw 8 12 (.array .int) true := ⟨RX8, TX8, 29, tyX8, rfl, tyX8_ok, nmX8, rfl, (by decide +kernel), rfl⟩
theorem fw8_13 : qFw 8 13 (.array .long) true := ⟨RX8, TX8, 29, tyX8, rfl, tyX8_ok, nmX8, rfl, (by decide +kernel), rfl⟩
theorem fw8_14 : qFw 8 14 (.array .long) true := ⟨RX8, TX8, 29, tyX8, rfl, tyX8_ok, nmX8, rfl, (by decide +kernel), rfl⟩
theorem fw8_15 : qFw 8 15 (.array .int) true := ⟨RX8, TX8, 29, tyX8, rfl, tyX8_ok, nmX8, rfl, (by decide +kernel), rfl⟩
theorem fw8_16 : qFw 8 16 (.array .long) true := ⟨RX8, TX8, 29, tyX8, rfl, tyX8_ok, nmX8, rfl, (by decide +kernel), rfl⟩
theorem fw8_17 : qFw 8 17 (.array .int) true := ⟨RX8, TX8, 29, tyX8, rfl, tyX8_ok, nmX8, rfl, (by decide +kernel), rfl⟩
theorem fw8_18 : qFw 8 18 (.array .int) true := ⟨RX8, TX8, 29, tyX8, rfl, tyX8_ok, nmX8, rfl, (by decide +kernel), rfl⟩
theorem fw8_19 : qFw 8 19 (.array .boolean) true := ⟨RX8, TX8, 29, tyX8, rfl, tyX8_ok, nmX8, rfl, (by decide +kernel), rfl⟩
theorem fw8_20 : qFw 8 20 (.array .boolean) true := ⟨RX8, TX8, 29, tyX8, rfl, tyX8_ok, nmX8, rfl, (by decide +kernel), rfl⟩
theorem fw8_21 : qFw 8 21 (.array .int) true := ⟨RX8, TX8, 29, tyX8, rfl, tyX8_ok, nmX8, rfl, (by decide +kernel), rfl⟩
theorem fw8_22 : qFw 8 22 (.long) false := ⟨RX8, TX8, 29, tyX8, rfl, tyX8_ok, nmX8, rfl, (by decide +kernel), rfl⟩
theorem fw8_23 : qFw 8 23 (.long) false := ⟨RX8, TX8, 29, tyX8, rfl, tyX8_ok, nmX8, rfl, (by decide +kernel), rfl⟩
theorem fw8_24 : qFw 8 24 (.array .long) true := ⟨RX8, TX8, 29, tyX8, rfl, tyX8_ok, nmX8, rfl, (by decide +kernel), rfl⟩
theorem fw8_25 : qFw 8 25 (.array .long) true := ⟨RX8, TX8, 29, tyX8, rfl, tyX8_ok, nmX8, rfl, (by decide +kernel), rfl⟩
theorem fw8_26 : qFw 8 26 (.array .long) true := ⟨RX8, TX8, 29, tyX8, rfl, tyX8_ok, nmX8, rfl, (by decide +kernel), rfl⟩
theorem fw8_27 : qFw 8 27 (.array .long) true := ⟨RX8, TX8, 29, tyX8, rfl, tyX8_ok, nmX8, rfl, (by decide +kernel), rfl⟩
theorem fw8_28 : qFw 8 28 (.array .long) true := ⟨RX8, TX8, 29, tyX8, rfl, tyX8_ok, nmX8, rfl, (by decide +kernel), rfl⟩
theorem fl7_10 : qFl RX7 10 7 0 := ⟨RX7, TX7, 7, rfl, by decide, fin7, Or.inl (q_mem 215 (by decide +kernel) (by decide +kernel))⟩
theorem fl7_18 : qFl RX7 18 7 1 := ⟨RX7, TX7, 7, rfl, by decide, fin7, Or.inl (q_mem 216 (by decide +kernel) (by decide +kernel))⟩
theorem fl7_26 : qFl RX7 26 7 2 := ⟨RX7, TX7, 7, rfl, by decide, fin7, Or.inl (q_mem 217 (by decide +kernel) (by decide +kernel))⟩
theorem fl7_33 : qFl RX7 33 7 3 := ⟨RX7, TX7, 7, rfl, by decide, fin7, Or.inl (q_mem 218 (by decide +kernel) (by decide +kernel))⟩
theorem fl7_40 : qFl RX7 40 7 4 := ⟨RX7, TX7, 7, rfl, by decide, fin7, Or.inl (q_mem 219 (by decide +kernel) (by decide +kernel))⟩
theorem fl7_47 : qFl RX7 47 7 5 := ⟨RX7, TX7, 7, rfl, by decide, fin7, Or.inl (q_mem 220 (by decide +kernel) (by decide +kernel))⟩
theorem fl7_54 : qFl RX7 54 7 6 := ⟨RX7, TX7, 7, rfl, by decide, fin7, Or.inl (q_mem 221 (by decide +kernel) (by decide +kernel))⟩
theorem fl7_59 : qFl RX7 59 6 3 := ⟨RX6, TX6, 4, rfl, by decide, fin6, Or.inr ⟨"NearGroups", q_memN 36 (by decide +kernel) (by decide +kernel)⟩⟩
theorem fl7_64 : qFl RX7 64 6 2 := ⟨RX6, TX6, 4, rfl, by decide, fin6, Or.inr ⟨"NearGroups", q_memN 29 (by decide +kernel) (by decide +kernel)⟩⟩
theorem fl7_79 : qFl RX7 79 3 3 := ⟨RX3, TX3, 4, rfl, by decide, fin3, Or.inr ⟨"NearGroups", q_memN 62 (by decide +kernel) (by decide +kernel)⟩⟩
theorem fl7_82 : qFl RX7 82 4 11 := ⟨RX4, TX4, 12, rfl, by decide, fin4, Or.inr ⟨"NearGroups", q_memN 187 (by decide +kernel) (by decide +kernel)⟩⟩
theorem fl7_107 : qFl RX7 107 5 0 := ⟨RX5, TX5, 7, rfl, by decide, fin5, Or.inr ⟨"NearGroups", q_memN 79 (by decide +kernel) (by decide +kernel)⟩⟩
theorem fl7_119 : qFl RX7 119 0 0 := ⟨RX0, TX0, 6, rfl, by decide, fin0, Or.inr ⟨"NearGroups", q_memN 108 (by decide +kernel) (by decide +kernel)⟩⟩
theorem fl7_120 : qFl RX7 120 0 4 := ⟨RX0, TX0, 6, rfl, by decide, fin0, Or.inr ⟨"NearGroups", q_memN 114 (by decide +kernel) (by decide +kernel)⟩⟩
theorem fl7_123 : qFl RX7 123 0 1 := ⟨RX0, TX0, 6, rfl, by decide, fin0, Or.inr ⟨"NearGroups", q_memN 110 (by decide +kernel) (by decide +kernel)⟩⟩
theorem fl7_131 : qFl RX7 131 1 0 := ⟨RX1, TX1, 3, rfl, by decide, fin1, Or.inr ⟨"NearGroups", q_memN 136 (by decide +kernel) (by decide +kernel)⟩⟩
theorem fl7_141 : qFl RX7 141 4 0 := ⟨RX4, TX4, 12, rfl, by decide, fin4, Or.inr ⟨"NearGroups", q_memN 170 (by decide +kernel) (by decide +kernel)⟩⟩
theorem fl7_144 : qFl RX7 144 4 1 := ⟨RX4, TX4, 12, rfl, by decide, fin4, Or.inr ⟨"NearGroups", q_memN 172 (by decide +kernel) (by decide +kernel)⟩⟩
theorem fl7_147 : qFl RX7 147 4 2 := ⟨RX4, TX4, 12, rfl, by decide, fin4, Or.inr ⟨"NearGroups", q_memN 174 (by decide +kernel) (by decide +kernel)⟩⟩
theorem fl7_150 : qFl RX7 150 4 3 := ⟨RX4, TX4, 12, rfl, by decide, fin4, Or.inr ⟨"NearGroups", q_memN 176 (by decide +kernel) (by decide +kernel)⟩⟩
theorem fl7_154 : qFl RX7 154 4 4 := ⟨RX4, TX4, 12, rfl, by decide, fin4, Or.inr ⟨"NearGroups", q_memN 178 (by decide +kernel) (by decide +kernel)⟩⟩
theorem fl7_161 : qFl RX7 161 4 5 := ⟨RX4, TX4, 12, rfl, by decide, fin4, Or.inr ⟨"NearGroups", q_memN 180 (by decide +kernel) (by decide +kernel)⟩⟩
theorem fl7_166 : qFl RX7 166 3 0 := ⟨RX3, TX3, 4, rfl, by decide, fin3, Or.inr ⟨"NearGroups", q_memN 57 (by decide +kernel) (by decide +kernel)⟩⟩
theorem fl7_173 : qFl RX7 173 3 1 := ⟨RX3, TX3, 4, rfl, by decide, fin3, Or.inr ⟨"NearGroups", q_memN 59 (by decide +kernel) (by decide +kernel)⟩⟩
theorem fl0_9 : qFl RX0 9 0 0 := ⟨RX0, TX0, 6, rfl, by decide, fin0, Or.inl (q_mem 107 (by decide +kernel) (by decide +kernel))⟩
theorem fl0_15 : qFl RX0 15 0 1 := ⟨RX0, TX0, 6, rfl, by decide, fin0, Or.inl (q_mem 109 (by decide +kernel) (by decide +kernel))⟩
theorem fl0_18 : qFl RX0 18 0 2 := ⟨RX0, TX0, 6, rfl, by decide, fin0, Or.inl (q_mem 111 (by decide +kernel) (by decide +kernel))⟩
theorem fl0_21 : qFl RX0 21 0 3 := ⟨RX0, TX0, 6, rfl, by decide, fin0, Or.inl (q_mem 112 (by decide +kernel) (by decide +kernel))⟩
theorem fl0_24 : qFl RX0 24 0 4 := ⟨RX0, TX0, 6, rfl, by decide, fin0, Or.inl (q_mem 113 (by decide +kernel) (by decide +kernel))⟩
theorem fl0_28 : qFl RX0 28 0 5 := ⟨RX0, TX0, 6, rfl, by decide, fin0, Or.inl (q_mem 115 (by decide +kernel) (by decide +kernel))⟩
theorem fl0_34 : qFl RX0 34 6 3 := ⟨RX6, TX6, 4, rfl, by decide, fin6, Or.inr ⟨"NearGroups", q_memN 37 (by decide +kernel) (by decide +kernel)⟩⟩
theorem fl0_57 : qFl RX0 57 6 1 := ⟨RX6, TX6, 4, rfl, by decide, fin6, Or.inr ⟨"NearGroups", q_memN 27 (by decide +kernel) (by decide +kernel)⟩⟩
theorem fl1_9 : qFl RX1 9 1 0 := ⟨RX1, TX1, 3, rfl, by decide, fin1, Or.inl (q_mem 135 (by decide +kernel) (by decide +kernel))⟩
theorem fl1_15 : qFl RX1 15 1 1 := ⟨RX1, TX1, 3, rfl, by decide, fin1, Or.inl (q_mem 137 (by decide +kernel) (by decide +kernel))⟩
theorem fl1_19 : qFl RX1 19 1 2 := ⟨RX1, TX1, 3, rfl, by decide, fin1, Or.inl (q_mem 138 (by decide +kernel) (by decide +kernel))⟩
theorem fl1_22 : qFl RX1 22 6 3 := ⟨RX6, TX6, 4, rfl, by decide, fin6, Or.inr ⟨"NearGroups", q_memN 34 (by decide +kernel) (by decide +kernel)⟩⟩
theorem fl2_7 : qFl RX2 7 2 0 := ⟨RX2, TX2, 2, rfl, by decide, fin2, Or.inl (q_mem 159 (by decide +kernel) (by decide +kernel))⟩
theorem fl2_13 : qFl RX2 13 2 1 := ⟨RX2, TX2, 2, rfl, by decide, fin2, Or.inl (q_mem 161 (by decide +kernel) (by decide +kernel))⟩
theorem fl3_9 : qFl RX3 9 3 0 := ⟨RX3, TX3, 4, rfl, by decide, fin3, Or.inl (q_mem 56 (by decide +kernel) (by decide +kernel))⟩
theorem fl3_15 : qFl RX3 15 3 1 := ⟨RX3, TX3, 4, rfl, by decide, fin3, Or.inl (q_mem 58 (by decide +kernel) (by decide +kernel))⟩
theorem fl3_18 : qFl RX3 18 3 2 := ⟨RX3, TX3, 4, rfl, by decide, fin3, Or.inl (q_mem 60 (by decide +kernel) (by decide +kernel))⟩
theorem fl3_22 : qFl RX3 22 3 3 := ⟨RX3, TX3, 4, rfl, by decide, fin3, Or.inl (q_mem 61 (by decide +kernel) (by decide +kernel))⟩
theorem fl3_31 : qFl RX3 31 6 2 := ⟨RX6, TX6, 4, rfl, by decide, fin6, Or.inr ⟨"NearGroups", q_memN 32 (by decide +kernel) (by decide +kernel)⟩⟩
theorem fl4_9 : qFl RX4 9 4 0 := ⟨RX4, TX4, 12, rfl, by decide, fin4, Or.inl (q_mem 169 (by decide +kernel) (by decide +kernel))⟩
theorem fl4_15 : qFl RX4 15 4 1 := ⟨RX4, TX4, 12, rfl, by decide, fin4, Or.inl (q_mem 171 (by decide +kernel) (by decide +kernel))⟩
theorem fl4_18 : qFl RX4 18 4 2 := ⟨RX4, TX4, 12, rfl, by decide, fin4, Or.inl (q_mem 173 (by decide +kernel) (by decide +kernel))⟩
theorem fl4_21 : qFl RX4 21 4 3 := ⟨RX4, TX4, 12, rfl, by decide, fin4, Or.inl (q_mem 175 (by decide +kernel) (by decide +kernel))⟩
theorem fl4_25 : qFl RX4 25 4 4 := ⟨RX4, TX4, 12, rfl, by decide, fin4, Or.inl (q_mem 177 (by decide +kernel) (by decide +kernel))⟩
theorem fl4_28 : qFl RX4 28 4 5 := ⟨RX4, TX4, 12, rfl, by decide, fin4, Or.inl (q_mem 179 (by decide +kernel) (by decide +kernel))⟩
theorem fl4_31 : qFl RX4 31 4 6 := ⟨RX4, TX4, 12, rfl, by decide, fin4, Or.inl (q_mem 181 (by decide +kernel) (by decide +kernel))⟩
theorem fl4_34 : qFl RX4 34 4 7 := ⟨RX4, TX4, 12, rfl, by decide, fin4, Or.inl (q_mem 182 (by decide +kernel) (by decide +kernel))⟩
theorem fl4_37 : qFl RX4 37 4 8 := ⟨RX4, TX4, 12, rfl, by decide, fin4, Or.inl (q_mem 183 (by decide +kernel) (by decide +kernel))⟩
theorem fl4_43 : qFl RX4 43 4 9 := ⟨RX4, TX4, 12, rfl, by decide, fin4, Or.inl (q_mem 184 (by decide +kernel) (by decide +kernel))⟩
theorem fl4_47 : qFl RX4 47 4 10 := ⟨RX4, TX4, 12, rfl, by decide, fin4, Or.inl (q_mem 185 (by decide +kernel) (by decide +kernel))⟩
theorem fl4_51 : qFl RX4 51 4 11 := ⟨RX4, TX4, 12, rfl, by decide, fin4, Or.inl (q_mem 186 (by decide +kernel) (by decide +kernel))⟩
theorem fl4_58 : qFl RX4 58 6 3 := ⟨RX6, TX6, 4, rfl, by decide, fin6, Or.inr ⟨"NearGroups", q_memN 38 (by decide +kernel) (by decide +kernel)⟩⟩
theorem fl4_75 : qFl RX4 75 6 2 := ⟨RX6, TX6, 4, rfl, by decide, fin6, Or.inr ⟨"NearGroups", q_memN 31 (by decide +kernel) (by decide +kernel)⟩⟩
theorem fl4_102 : qFl RX4 102 2 0 := ⟨RX2, TX2, 2, rfl, by decide, fin2, Or.inr ⟨"NearGroups", q_memN 160 (by decide +kernel) (by decide +kernel)⟩⟩
theorem fl4_106 : qFl RX4 106 2 1 := ⟨RX2, TX2, 2, rfl, by decide, fin2, Or.inr ⟨"NearGroups", q_memN 162 (by decide +kernel) (by decide +kernel)⟩⟩
theorem fl5_9 : qFl RX5 9 5 0 := ⟨RX5, TX5, 7, rfl, by decide, fin5, Or.inl (q_mem 78 (by decide +kernel) (by decide +kernel))⟩
theorem fl5_15 : qFl RX5 15 5 1 := ⟨RX5, TX5, 7, rfl, by decide, fin5, Or.inl (q_mem 80 (by decide +kernel) (by decide +kernel))⟩
theorem fl5_18 : qFl RX5 18 5 2 := ⟨RX5, TX5, 7, rfl, by decide, fin5, Or.inl (q_mem 81 (by decide +kernel) (by decide +kernel))⟩
theorem fl5_21 : qFl RX5 21 5 3 := ⟨RX5, TX5, 7, rfl, by decide, fin5, Or.inl (q_mem 82 (by decide +kernel) (by decide +kernel))⟩
theorem fl5_24 : qFl RX5 24 5 4 := ⟨RX5, TX5, 7, rfl, by decide, fin5, Or.inl (q_mem 83 (by decide +kernel) (by decide +kernel))⟩
theorem fl5_27 : qFl RX5 27 5 5 := ⟨RX5, TX5, 7, rfl, by decide, fin5, Or.inl (q_mem 84 (by decide +kernel) (by decide +kernel))⟩
theorem fl5_30 : qFl RX5 30 5 6 := ⟨RX5, TX5, 7, rfl, by decide, fin5, Or.inl (q_mem 85 (by decide +kernel) (by decide +kernel))⟩
theorem fl5_38 : qFl RX5 38 6 3 := ⟨RX6, TX6, 4, rfl, by decide, fin6, Or.inr ⟨"NearGroups", q_memN 35 (by decide +kernel) (by decide +kernel)⟩⟩
theorem fl5_61 : qFl RX5 61 6 2 := ⟨RX6, TX6, 4, rfl, by decide, fin6, Or.inr ⟨"NearGroups", q_memN 30 (by decide +kernel) (by decide +kernel)⟩⟩
theorem fl6_9 : qFl RX6 9 6 0 := ⟨RX6, TX6, 4, rfl, by decide, fin6, Or.inl (q_mem 25 (by decide +kernel) (by decide +kernel))⟩
theorem fl6_15 : qFl RX6 15 6 1 := ⟨RX6, TX6, 4, rfl, by decide, fin6, Or.inl (q_mem 26 (by decide +kernel) (by decide +kernel))⟩
theorem fl6_18 : qFl RX6 18 6 2 := ⟨RX6, TX6, 4, rfl, by decide, fin6, Or.inl (q_mem 28 (by decide +kernel) (by decide +kernel))⟩
theorem fl6_22 : qFl RX6 22 6 3 := ⟨RX6, TX6, 4, rfl, by decide, fin6, Or.inl (q_mem 33 (by decide +kernel) (by decide +kernel))⟩
theorem fl8_7 : qFl RX8 7 8 1 := ⟨RX8, TX8, 29, rfl, by decide, fin8, Or.inl (q_mem 601 (by decide +kernel) (by decide +kernel))⟩
theorem fl8_13 : qFl RX8 13 8 2 := ⟨RX8, TX8, 29, rfl, by decide, fin8, Or.inl (q_mem 602 (by decide +kernel) (by decide +kernel))⟩
theorem fl8_17 : qFl RX8 17 8 3 := ⟨RX8, TX8, 29, rfl, by decide, fin8, Or.inl (q_mem 603 (by decide +kernel) (by decide +kernel))⟩
theorem fl8_21 : qFl RX8 21 8 4 := ⟨RX8, TX8, 29, rfl, by decide, fin8, Or.inl (q_mem 604 (by decide +kernel) (by decide +kernel))⟩
theorem fl8_24 : qFl RX8 24 8 5 := ⟨RX8, TX8, 29, rfl, by decide, fin8, Or.inl (q_mem 605 (by decide +kernel) (by decide +kernel))⟩
theorem fl8_27 : qFl RX8 27 8 7 := ⟨RX8, TX8, 29, rfl, by decide, fin8, Or.inl (q_mem 607 (by decide +kernel) (by decide +kernel))⟩
theorem fl8_30 : qFl RX8 30 8 10 := ⟨RX8, TX8, 29, rfl, by decide, fin8, Or.inl (q_mem 610 (by decide +kernel) (by decide +kernel))⟩
theorem fl8_33 : qFl RX8 33 8 11 := ⟨RX8, TX8, 29, rfl, by decide, fin8, Or.inl (q_mem 611 (by decide +kernel) (by decide +kernel))⟩
theorem fl8_36 : qFl RX8 36 8 12 := ⟨RX8, TX8, 29, rfl, by decide, fin8, Or.inl (q_mem 612 (by decide +kernel) (by decide +kernel))⟩
theorem fl8_39 : qFl RX8 39 8 13 := ⟨RX8, TX8, 29, rfl, by decide, fin8, Or.inl (q_mem 613 (by decide +kernel) (by decide +kernel))⟩
theorem fl8_43 : qFl RX8 43 8 14 := ⟨RX8, TX8, 29, rfl, by decide, fin8, Or.inl (q_mem 614 (by decide +kernel) (by decide +kernel))⟩
theorem fl8_46 : qFl RX8 46 8 15 := ⟨RX8, TX8, 29, rfl, by decide, fin8, Or.inl (q_mem 615 (by decide +kernel) (by decide +kernel))⟩
theorem fl8_49 : qFl RX8 49 8 16 := ⟨RX8, TX8, 29, rfl, by decide, fin8, Or.inl (q_mem 616 (by decide +kernel) (by decide +kernel))⟩
theorem fl8_52 : qFl RX8 52 8 17 := ⟨RX8, TX8, 29, rfl, by decide, fin8, Or.inl (q_mem 617 (by decide +kernel) (by decide +kernel))⟩
theorem fl8_55 : qFl RX8 55 8 18 := ⟨RX8, TX8, 29, rfl, by decide, fin8, Or.inl (q_mem 618 (by decide +kernel) (by decide +kernel))⟩
theorem fl8_58 : qFl RX8 58 8 19 := ⟨RX8, TX8, 29, rfl, by decide, fin8, Or.inl (q_mem 619 (by decide +kernel) (by decide +kernel))⟩
theorem fl8_61 : qFl RX8 61 8 20 := ⟨RX8, TX8, 29, rfl, by decide, fin8, Or.inl (q_mem 620 (by decide +kernel) (by decide +kernel))⟩
theorem fl8_64 : qFl RX8 64 8 21 := ⟨RX8, TX8, 29, rfl, by decide, fin8, Or.inl (q_mem 621 (by decide +kernel) (by decide +kernel))⟩
theorem fl8_67 : qFl RX8 67 8 24 := ⟨RX8, TX8, 29, rfl, by decide, fin8, Or.inl (q_mem 624 (by decide +kernel) (by decide +kernel))⟩
theorem fl8_70 : qFl RX8 70 8 25 := ⟨RX8, TX8, 29, rfl, by decide, fin8, Or.inl (q_mem 625 (by decide +kernel) (by decide +kernel))⟩
theorem fl8_73 : qFl RX8 73 8 26 := ⟨RX8, TX8, 29, rfl, by decide, fin8, Or.inl (q_mem 626 (by decide +kernel) (by decide +kernel))⟩
theorem fl8_76 : qFl RX8 76 8 27 := ⟨RX8, TX8, 29, rfl, by decide, fin8, Or.inl (q_mem 627 (by decide +kernel) (by decide +kernel))⟩
theorem fl8_79 : qFl RX8 79 8 28 := ⟨RX8, TX8, 29, rfl, by decide, fin8, Or.inl (q_mem 628 (by decide +kernel) (by decide +kernel))⟩
theorem fl8_82 : qFl RX8 82 8 0 := ⟨RX8, TX8, 29, rfl, by decide, fin8, Or.inl (q_mem 600 (by decide +kernel) (by decide +kernel))⟩
theorem fl8_89 : qFl RX8 89 8 6 := ⟨RX8, TX8, 29, rfl, by decide, fin8, Or.inl (q_mem 606 (by decide +kernel) (by decide +kernel))⟩
theorem fl8_92 : qFl RX8 92 8 8 := ⟨RX8, TX8, 29, rfl, by decide, fin8, Or.inl (q_mem 608 (by decide +kernel) (by decide +kernel))⟩
theorem fl8_102 : qFl RX8 102 8 9 := ⟨RX8, TX8, 29, rfl, by decide, fin8, Or.inl (q_mem 609 (by decide +kernel) (by decide +kernel))⟩
theorem fl8_158 : qFl RX8 158 8 22 := ⟨RX8, TX8, 29, rfl, by decide, fin8, Or.inl (q_mem 622 (by decide +kernel) (by decide +kernel))⟩
theorem fl8_162 : qFl RX8 162 8 23 := ⟨RX8, TX8, 29, rfl, by decide, fin8, Or.inl (q_mem 623 (by decide +kernel) (by decide +kernel))⟩
theorem lk7_9 : qLk RX7 9 0 X6_init := ⟨q_mem 23 (by decide +kernel) (by decide +kernel), q_mem 2 (by decide +kernel) (by decide +kernel), ⟨(by decide +kernel), (by decide +kernel), (by decide +kernel)⟩, by decide, Or.inl (q_mem 21 (by decide +kernel) (by decide +kernel))⟩
theorem lk7_22 : qLk RX7 22 0 X3_init := ⟨q_mem 54 (by decide +kernel) (by decide +kernel), q_mem 3 (by decide +kernel) (by decide +kernel), ⟨(by decide +kernel), (by decide +kernel), (by decide +kernel)⟩, by decide, Or.inl (q_mem 52 (by decide +kernel) (by decide +kernel))⟩
theorem lk7_25 : qLk RX7 25 0 X5_init := ⟨q_mem 76 (by decide +kernel) (by decide +kernel), q_mem 4 (by decide +kernel) (by decide +kernel), ⟨(by decide +kernel), (by decide +kernel), (by decide +kernel)⟩, by decide, Or.inl (q_mem 74 (by decide +kernel) (by decide +kernel))⟩
theorem lk7_32 : qLk RX7 32 0 X0_init := ⟨q_mem 105 (by decide +kernel) (by decide +kernel), q_mem 5 (by decide +kernel) (by decide +kernel), ⟨(by decide +kernel), (by decide +kernel), (by decide +kernel)⟩, by decide, Or.inl (q_mem 103 (by decide +kernel) (by decide +kernel))⟩
theorem lk7_39 : qLk RX7 39 0 X1_init := ⟨q_mem 133 (by decide +kernel) (by decide +kernel), q_mem 6 (by decide +kernel) (by decide +kernel), ⟨(by decide +kernel), (by decide +kernel), (by decide +kernel)⟩, by decide, Or.inl (q_mem 131 (by decide +kernel) (by decide +kernel))⟩
theorem lk7_46 : qLk RX7 46 0 X4_init := ⟨q_mem 151 (by decide +kernel) (by decide +kernel), q_mem 7 (by decide +kernel) (by decide +kernel), ⟨(by decide +kernel), (by decide +kernel), (by decide +kernel)⟩, by decide, Or.inl (q_mem 149 (by decide +kernel) (by decide +kernel))⟩
theorem lk7_53 : qLk RX7 53 0 X2_init := ⟨q_mem 157 (by decide +kernel) (by decide +kernel), q_mem 8 (by decide +kernel) (by decide +kernel), ⟨(by decide +kernel), (by decide +kernel), (by decide +kernel)⟩, by decide, Or.inl (q_mem 214 (by decide +kernel) (by decide +kernel))⟩
theorem lk7_67 : qLk RX7 67 2 X6_takes := ⟨q_mem 250 (by decide +kernel) (by decide +kernel), q_mem 2 (by decide +kernel) (by decide +kernel), ⟨(by decide +kernel), (by decide +kernel), (by decide +kernel)⟩, by decide, Or.inl (q_mem 247 (by decide +kernel) (by decide +kernel))⟩
theorem lk7_72 : qLk RX7 72 0 X7_forgetGroupings := ⟨q_mem 255 (by decide +kernel) (by decide +kernel), q_mem 1 (by decide +kernel) (by decide +kernel), ⟨(by decide +kernel), (by decide +kernel), (by decide +kernel)⟩, by decide, Or.inl (q_mem 252 (by decide +kernel) (by decide +kernel))⟩
theorem lk7_75 : qLk RX7 75 4 X6_append := ⟨q_mem 259 (by decide +kernel) (by decide +kernel), q_mem 2 (by decide +kernel) (by decide +kernel), ⟨(by decide +kernel), (by decide +kernel), (by decide +kernel)⟩, by decide, Or.inl (q_mem 256 (by decide +kernel) (by decide +kernel))⟩
theorem lk7_85 : qLk RX7 85 1 X7_isRow := ⟨q_mem 297 (by decide +kernel) (by decide +kernel), q_mem 1 (by decide +kernel) (by decide +kernel), ⟨(by decide +kernel), (by decide +kernel), (by decide +kernel)⟩, by decide, Or.inl (q_mem 294 (by decide +kernel) (by decide +kernel))⟩
theorem lk7_90 : qLk RX7 90 1 X7_isKind := ⟨q_mem 301 (by decide +kernel) (by decide +kernel), q_mem 1 (by decide +kernel) (by decide +kernel), ⟨(by decide +kernel), (by decide +kernel), (by decide +kernel)⟩, by decide, Or.inl (q_mem 299 (by decide +kernel) (by decide +kernel))⟩
theorem lk7_93 : qLk RX7 93 3 X6_apart := ⟨q_mem 305 (by decide +kernel) (by decide +kernel), q_mem 2 (by decide +kernel) (by decide +kernel), ⟨(by decide +kernel), (by decide +kernel), (by decide +kernel)⟩, by decide, Or.inl (q_mem 302 (by decide +kernel) (by decide +kernel))⟩
theorem lk7_97 : qLk RX7 97 3 X6_nearerThan := ⟨q_mem 313 (by decide +kernel) (by decide +kernel), q_mem 2 (by decide +kernel) (by decide +kernel), ⟨(by decide +kernel), (by decide +kernel), (by decide +kernel)⟩, by decide, Or.inl (q_mem 310 (by decide +kernel) (by decide +kernel))⟩
theorem lk7_100 : qLk RX7 100 1 X7_isSlot := ⟨q_mem 321 (by decide +kernel) (by decide +kernel), q_mem 1 (by decide +kernel) (by decide +kernel), ⟨(by decide +kernel), (by decide +kernel), (by decide +kernel)⟩, by decide, Or.inl (q_mem 319 (by decide +kernel) (by decide +kernel))⟩
theorem lk7_103 : qLk RX7 103 2 X5_run := ⟨q_mem 325 (by decide +kernel) (by decide +kernel), q_mem 4 (by decide +kernel) (by decide +kernel), ⟨(by decide +kernel), (by decide +kernel), (by decide +kernel)⟩, by decide, Or.inl (q_mem 322 (by decide +kernel) (by decide +kernel))⟩
theorem lk7_111 : qLk RX7 111 3 X3_fill := ⟨q_mem 378 (by decide +kernel) (by decide +kernel), q_mem 3 (by decide +kernel) (by decide +kernel), ⟨(by decide +kernel), (by decide +kernel), (by decide +kernel)⟩, by decide, Or.inl (q_mem 375 (by decide +kernel) (by decide +kernel))⟩
theorem lk7_115 : qLk RX7 115 3 X0_search := ⟨q_mem 386 (by decide +kernel) (by decide +kernel), q_mem 5 (by decide +kernel) (by decide +kernel), ⟨(by decide +kernel), (by decide +kernel), (by decide +kernel)⟩, by decide, Or.inl (q_mem 383 (by decide +kernel) (by decide +kernel))⟩
theorem lk7_127 : qLk RX7 127 4 X1_spread := ⟨q_mem 419 (by decide +kernel) (by decide +kernel), q_mem 6 (by decide +kernel) (by decide +kernel), ⟨(by decide +kernel), (by decide +kernel), (by decide +kernel)⟩, by decide, Or.inl (q_mem 416 (by decide +kernel) (by decide +kernel))⟩
theorem lk7_132 : qLk RX7 132 3 X4_build := ⟨q_mem 440 (by decide +kernel) (by decide +kernel), q_mem 7 (by decide +kernel) (by decide +kernel), ⟨(by decide +kernel), (by decide +kernel), (by decide +kernel)⟩, by decide, Or.inl (q_mem 437 (by decide +kernel) (by decide +kernel))⟩
theorem lk7_157 : qLk RX7 157 2 X4_split := ⟨q_mem 498 (by decide +kernel) (by decide +kernel), q_mem 7 (by decide +kernel) (by decide +kernel), ⟨(by decide +kernel), (by decide +kernel), (by decide +kernel)⟩, by decide, Or.inl (q_mem 495 (by decide +kernel) (by decide +kernel))⟩
theorem lk7_162 : qLk RX7 162 0 X3_isEmpty := ⟨q_mem 510 (by decide +kernel) (by decide +kernel), q_mem 3 (by decide +kernel) (by decide +kernel), ⟨(by decide +kernel), (by decide +kernel), (by decide +kernel)⟩, by decide, Or.inl (q_mem 507 (by decide +kernel) (by decide +kernel))⟩
theorem lk7_169 : qLk RX7 169 2 X7_refusalOfGroup := ⟨q_mem 518 (by decide +kernel) (by decide +kernel), q_mem 1 (by decide +kernel) (by decide +kernel), ⟨(by decide +kernel), (by decide +kernel), (by decide +kernel)⟩, by decide, Or.inl (q_mem 515 (by decide +kernel) (by decide +kernel))⟩
theorem lk7_176 : qLk RX7 176 1 X7_isSide := ⟨q_mem 525 (by decide +kernel) (by decide +kernel), q_mem 1 (by decide +kernel) (by decide +kernel), ⟨(by decide +kernel), (by decide +kernel), (by decide +kernel)⟩, by decide, Or.inl (q_mem 523 (by decide +kernel) (by decide +kernel))⟩
theorem lk7_179 : qLk RX7 179 3 X7_reckonMean := ⟨q_mem 529 (by decide +kernel) (by decide +kernel), q_mem 1 (by decide +kernel) (by decide +kernel), ⟨(by decide +kernel), (by decide +kernel), (by decide +kernel)⟩, by decide, Or.inl (q_mem 526 (by decide +kernel) (by decide +kernel))⟩
theorem lk7_183 : qLk RX7 183 1 X2_part := ⟨q_mem 539 (by decide +kernel) (by decide +kernel), q_mem 8 (by decide +kernel) (by decide +kernel), ⟨(by decide +kernel), (by decide +kernel), (by decide +kernel)⟩, by decide, Or.inl (q_mem 536 (by decide +kernel) (by decide +kernel))⟩
theorem lk7_187 : qLk RX7 187 1 X7_reckonSum := ⟨q_mem 547 (by decide +kernel) (by decide +kernel), q_mem 1 (by decide +kernel) (by decide +kernel), ⟨(by decide +kernel), (by decide +kernel), (by decide +kernel)⟩, by decide, Or.inl (q_mem 544 (by decide +kernel) (by decide +kernel))⟩
theorem lk7_193 : qLk RX7 193 3 X7_reckonWell := ⟨q_mem 570 (by decide +kernel) (by decide +kernel), q_mem 1 (by decide +kernel) (by decide +kernel), ⟨(by decide +kernel), (by decide +kernel), (by decide +kernel)⟩, by decide, Or.inl (q_mem 567 (by decide +kernel) (by decide +kernel))⟩
theorem lk7_196 : qLk RX7 196 2 X7_agreementOf := ⟨q_mem 589 (by decide +kernel) (by decide +kernel), q_mem 1 (by decide +kernel) (by decide +kernel), ⟨(by decide +kernel), (by decide +kernel), (by decide +kernel)⟩, by decide, Or.inl (q_mem 586 (by decide +kernel) (by decide +kernel))⟩
theorem lk7_199 : qLk RX7 199 2 X2_put := ⟨q_mem 463 (by decide +kernel) (by decide +kernel), q_mem 8 (by decide +kernel) (by decide +kernel), ⟨(by decide +kernel), (by decide +kernel), (by decide +kernel)⟩, by decide, Or.inl (q_mem 530 (by decide +kernel) (by decide +kernel))⟩
theorem lk7_203 : qLk RX7 203 3 X3_total := ⟨q_mem 534 (by decide +kernel) (by decide +kernel), q_mem 3 (by decide +kernel) (by decide +kernel), ⟨(by decide +kernel), (by decide +kernel), (by decide +kernel)⟩, by decide, Or.inl (q_mem 531 (by decide +kernel) (by decide +kernel))⟩
theorem lk7_207 : qLk RX7 207 2 X3_squaresTimesSize := ⟨q_mem 551 (by decide +kernel) (by decide +kernel), q_mem 3 (by decide +kernel) (by decide +kernel), ⟨(by decide +kernel), (by decide +kernel), (by decide +kernel)⟩, by decide, Or.inl (q_mem 548 (by decide +kernel) (by decide +kernel))⟩
theorem lk7_211 : qLk RX7 211 2 X2_add := ⟨q_mem 560 (by decide +kernel) (by decide +kernel), q_mem 8 (by decide +kernel) (by decide +kernel), ⟨(by decide +kernel), (by decide +kernel), (by decide +kernel)⟩, by decide, Or.inl (q_mem 557 (by decide +kernel) (by decide +kernel))⟩
theorem lk7_214 : qLk RX7 214 3 X7_nearestOtherGroup := ⟨q_mem 574 (by decide +kernel) (by decide +kernel), q_mem 1 (by decide +kernel) (by decide +kernel), ⟨(by decide +kernel), (by decide +kernel), (by decide +kernel)⟩, by decide, Or.inl (q_mem 571 (by decide +kernel) (by decide +kernel))⟩
theorem lk7_218 : qLk RX7 218 4 X3_distancesTo := ⟨q_mem 578 (by decide +kernel) (by decide +kernel), q_mem 3 (by decide +kernel) (by decide +kernel), ⟨(by decide +kernel), (by decide +kernel), (by decide +kernel)⟩, by decide, Or.inl (q_mem 575 (by decide +kernel) (by decide +kernel))⟩
theorem lk7_228 : qLk RX7 228 4 X7_isLess := ⟨q_mem 362 (by decide +kernel) (by decide +kernel), q_mem 1 (by decide +kernel) (by decide +kernel), ⟨(by decide +kernel), (by decide +kernel), (by decide +kernel)⟩, by decide, Or.inl (q_mem 580 (by decide +kernel) (by decide +kernel))⟩
theorem lk7_232 : qLk RX7 232 2 X3_holdsBoth := ⟨q_mem 593 (by decide +kernel) (by decide +kernel), q_mem 3 (by decide +kernel) (by decide +kernel), ⟨(by decide +kernel), (by decide +kernel), (by decide +kernel)⟩, by decide, Or.inl (q_mem 590 (by decide +kernel) (by decide +kernel))⟩
theorem lk0_39 : qLk RX0 39 4 X0_tryRows := ⟨q_mem 391 (by decide +kernel) (by decide +kernel), q_mem 5 (by decide +kernel) (by decide +kernel), ⟨(by decide +kernel), (by decide +kernel), (by decide +kernel)⟩, by decide, Or.inl (q_mem 388 (by decide +kernel) (by decide +kernel))⟩
theorem lk0_43 : qLk RX0 43 3 X0_nearestBest := ⟨q_mem 405 (by decide +kernel) (by decide +kernel), q_mem 5 (by decide +kernel) (by decide +kernel), ⟨(by decide +kernel), (by decide +kernel), (by decide +kernel)⟩, by decide, Or.inl (q_mem 402 (by decide +kernel) (by decide +kernel))⟩
theorem lk0_47 : qLk RX0 47 4 X0_lowerLeasts := ⟨q_mem 395 (by decide +kernel) (by decide +kernel), q_mem 5 (by decide +kernel) (by decide +kernel), ⟨(by decide +kernel), (by decide +kernel), (by decide +kernel)⟩, by decide, Or.inl (q_mem 392 (by decide +kernel) (by decide +kernel))⟩
theorem lk0_50 : qLk RX0 50 4 X0_weighTrial := ⟨q_mem 401 (by decide +kernel) (by decide +kernel), q_mem 5 (by decide +kernel) (by decide +kernel), ⟨(by decide +kernel), (by decide +kernel), (by decide +kernel)⟩, by decide, Or.inl (q_mem 398 (by decide +kernel) (by decide +kernel))⟩
theorem lk0_53 : qLk RX0 53 2 X6_placeOf := ⟨q_mem 281 (by decide +kernel) (by decide +kernel), q_mem 2 (by decide +kernel) (by decide +kernel), ⟨(by decide +kernel), (by decide +kernel), (by decide +kernel)⟩, by decide, Or.inl (q_mem 396 (by decide +kernel) (by decide +kernel))⟩
theorem lk0_65 : qLk RX0 65 3 X6_apart := ⟨q_mem 305 (by decide +kernel) (by decide +kernel), q_mem 2 (by decide +kernel) (by decide +kernel), ⟨(by decide +kernel), (by decide +kernel), (by decide +kernel)⟩, by decide, Or.inl (q_mem 406 (by decide +kernel) (by decide +kernel))⟩
theorem lk1_28 : qLk RX1 28 4 X1_rowsWithin := ⟨q_mem 423 (by decide +kernel) (by decide +kernel), q_mem 6 (by decide +kernel) (by decide +kernel), ⟨(by decide +kernel), (by decide +kernel), (by decide +kernel)⟩, by decide, Or.inl (q_mem 420 (by decide +kernel) (by decide +kernel))⟩
theorem lk1_32 : qLk RX1 32 5 X1_spreadFrom := ⟨q_mem 428 (by decide +kernel) (by decide +kernel), q_mem 6 (by decide +kernel) (by decide +kernel), ⟨(by decide +kernel), (by decide +kernel), (by decide +kernel)⟩, by decide, Or.inl (q_mem 425 (by decide +kernel) (by decide +kernel))⟩
theorem lk1_36 : qLk RX1 36 4 X1_leastGroupWithin := ⟨q_mem 432 (by decide +kernel) (by decide +kernel), q_mem 6 (by decide +kernel) (by decide +kernel), ⟨(by decide +kernel), (by decide +kernel), (by decide +kernel)⟩, by decide, Or.inl (q_mem 429 (by decide +kernel) (by decide +kernel))⟩
theorem lk1_39 : qLk RX1 39 3 X6_apart := ⟨q_mem 305 (by decide +kernel) (by decide +kernel), q_mem 2 (by decide +kernel) (by decide +kernel), ⟨(by decide +kernel), (by decide +kernel), (by decide +kernel)⟩, by decide, Or.inl (q_mem 424 (by decide +kernel) (by decide +kernel))⟩
theorem lk2_22 : qLk RX2 22 2 X2_commonDivisor := ⟨q_mem 469 (by decide +kernel) (by decide +kernel), q_mem 8 (by decide +kernel) (by decide +kernel), ⟨(by decide +kernel), (by decide +kernel), (by decide +kernel)⟩, by decide, Or.inl (q_mem 467 (by decide +kernel) (by decide +kernel))⟩
theorem lk2_26 : qLk RX2 26 2 X2_put := ⟨q_mem 463 (by decide +kernel) (by decide +kernel), q_mem 8 (by decide +kernel) (by decide +kernel), ⟨(by decide +kernel), (by decide +kernel), (by decide +kernel)⟩, by decide, Or.inl (q_mem 561 (by decide +kernel) (by decide +kernel))⟩
theorem lk3_25 : qLk RX3 25 2 X6_cell := ⟨q_mem 267 (by decide +kernel) (by decide +kernel), q_mem 2 (by decide +kernel) (by decide +kernel), ⟨(by decide +kernel), (by decide +kernel), (by decide +kernel)⟩, by decide, Or.inl (q_mem 535 (by decide +kernel) (by decide +kernel))⟩
theorem lk3_34 : qLk RX3 34 3 X3_total := ⟨q_mem 534 (by decide +kernel) (by decide +kernel), q_mem 3 (by decide +kernel) (by decide +kernel), ⟨(by decide +kernel), (by decide +kernel), (by decide +kernel)⟩, by decide, Or.inl (q_mem 552 (by decide +kernel) (by decide +kernel))⟩
theorem lk3_38 : qLk RX3 38 3 X3_totalOfSquares := ⟨q_mem 556 (by decide +kernel) (by decide +kernel), q_mem 3 (by decide +kernel) (by decide +kernel), ⟨(by decide +kernel), (by decide +kernel), (by decide +kernel)⟩, by decide, Or.inl (q_mem 553 (by decide +kernel) (by decide +kernel))⟩
theorem lk3_41 : qLk RX3 41 3 X6_apart := ⟨q_mem 305 (by decide +kernel) (by decide +kernel), q_mem 2 (by decide +kernel) (by decide +kernel), ⟨(by decide +kernel), (by decide +kernel), (by decide +kernel)⟩, by decide, Or.inl (q_mem 579 (by decide +kernel) (by decide +kernel))⟩
theorem lk4_42 : qLk RX4 42 0 X2_init := ⟨q_mem 157 (by decide +kernel) (by decide +kernel), q_mem 8 (by decide +kernel) (by decide +kernel), ⟨(by decide +kernel), (by decide +kernel), (by decide +kernel)⟩, by decide, Or.inl (q_mem 155 (by decide +kernel) (by decide +kernel))⟩
theorem lk4_54 : qLk RX4 54 2 X4_placeRows := ⟨q_mem 444 (by decide +kernel) (by decide +kernel), q_mem 7 (by decide +kernel) (by decide +kernel), ⟨(by decide +kernel), (by decide +kernel), (by decide +kernel)⟩, by decide, Or.inl (q_mem 441 (by decide +kernel) (by decide +kernel))⟩
theorem lk4_63 : qLk RX4 63 1 X4_findNearest := ⟨q_mem 450 (by decide +kernel) (by decide +kernel), q_mem 7 (by decide +kernel) (by decide +kernel), ⟨(by decide +kernel), (by decide +kernel), (by decide +kernel)⟩, by decide, Or.inl (q_mem 447 (by decide +kernel) (by decide +kernel))⟩
theorem lk4_67 : qLk RX4 67 3 X4_merge := ⟨q_mem 473 (by decide +kernel) (by decide +kernel), q_mem 7 (by decide +kernel) (by decide +kernel), ⟨(by decide +kernel), (by decide +kernel), (by decide +kernel)⟩, by decide, Or.inl (q_mem 470 (by decide +kernel) (by decide +kernel))⟩
theorem lk4_71 : qLk RX4 71 1 X4_numberByLeastRows := ⟨q_mem 502 (by decide +kernel) (by decide +kernel), q_mem 7 (by decide +kernel) (by decide +kernel), ⟨(by decide +kernel), (by decide +kernel), (by decide +kernel)⟩, by decide, Or.inl (q_mem 499 (by decide +kernel) (by decide +kernel))⟩
theorem lk4_78 : qLk RX4 78 2 X6_cell := ⟨q_mem 267 (by decide +kernel) (by decide +kernel), q_mem 2 (by decide +kernel) (by decide +kernel), ⟨(by decide +kernel), (by decide +kernel), (by decide +kernel)⟩, by decide, Or.inl (q_mem 445 (by decide +kernel) (by decide +kernel))⟩
theorem lk4_82 : qLk RX4 82 3 X6_apart := ⟨q_mem 305 (by decide +kernel) (by decide +kernel), q_mem 2 (by decide +kernel) (by decide +kernel), ⟨(by decide +kernel), (by decide +kernel), (by decide +kernel)⟩, by decide, Or.inl (q_mem 446 (by decide +kernel) (by decide +kernel))⟩
theorem lk4_86 : qLk RX4 86 3 X4_gapAbove := ⟨q_mem 454 (by decide +kernel) (by decide +kernel), q_mem 7 (by decide +kernel) (by decide +kernel), ⟨(by decide +kernel), (by decide +kernel), (by decide +kernel)⟩, by decide, Or.inl (q_mem 451 (by decide +kernel) (by decide +kernel))⟩
theorem lk4_90 : qLk RX4 90 2 X4_gapBelow := ⟨q_mem 458 (by decide +kernel) (by decide +kernel), q_mem 7 (by decide +kernel) (by decide +kernel), ⟨(by decide +kernel), (by decide +kernel), (by decide +kernel)⟩, by decide, Or.inl (q_mem 455 (by decide +kernel) (by decide +kernel))⟩
theorem lk4_94 : qLk RX4 94 4 X7_isLess := ⟨q_mem 362 (by decide +kernel) (by decide +kernel), q_mem 1 (by decide +kernel) (by decide +kernel), ⟨(by decide +kernel), (by decide +kernel), (by decide +kernel)⟩, by decide, Or.inr ⟨"NearGroups", q_memN 459 (by decide +kernel) (by decide +kernel)⟩⟩
theorem lk4_98 : qLk RX4 98 2 X2_put := ⟨q_mem 463 (by decide +kernel) (by decide +kernel), q_mem 8 (by decide +kernel) (by decide +kernel), ⟨(by decide +kernel), (by decide +kernel), (by decide +kernel)⟩, by decide, Or.inl (q_mem 460 (by decide +kernel) (by decide +kernel))⟩
theorem lk4_109 : qLk RX4 109 2 X4_gapToBoth := ⟨q_mem 477 (by decide +kernel) (by decide +kernel), q_mem 7 (by decide +kernel) (by decide +kernel), ⟨(by decide +kernel), (by decide +kernel), (by decide +kernel)⟩, by decide, Or.inl (q_mem 474 (by decide +kernel) (by decide +kernel))⟩
theorem lk5_34 : qLk RX5 34 1 X5_chooseFirstMeans := ⟨q_mem 329 (by decide +kernel) (by decide +kernel), q_mem 4 (by decide +kernel) (by decide +kernel), ⟨(by decide +kernel), (by decide +kernel), (by decide +kernel)⟩, by decide, Or.inl (q_mem 326 (by decide +kernel) (by decide +kernel))⟩
theorem lk5_43 : qLk RX5 43 1 X5_moveRows := ⟨q_mem 347 (by decide +kernel) (by decide +kernel), q_mem 4 (by decide +kernel) (by decide +kernel), ⟨(by decide +kernel), (by decide +kernel), (by decide +kernel)⟩, by decide, Or.inl (q_mem 344 (by decide +kernel) (by decide +kernel))⟩
theorem lk5_47 : qLk RX5 47 1 X5_remakeMeans := ⟨q_mem 374 (by decide +kernel) (by decide +kernel), q_mem 4 (by decide +kernel) (by decide +kernel), ⟨(by decide +kernel), (by decide +kernel), (by decide +kernel)⟩, by decide, Or.inl (q_mem 371 (by decide +kernel) (by decide +kernel))⟩
theorem lk5_53 : qLk RX5 53 3 X5_putFirstMean := ⟨q_mem 334 (by decide +kernel) (by decide +kernel), q_mem 4 (by decide +kernel) (by decide +kernel), ⟨(by decide +kernel), (by decide +kernel), (by decide +kernel)⟩, by decide, Or.inl (q_mem 331 (by decide +kernel) (by decide +kernel))⟩
theorem lk5_57 : qLk RX5 57 2 X5_farthestFromChosen := ⟨q_mem 339 (by decide +kernel) (by decide +kernel), q_mem 4 (by decide +kernel) (by decide +kernel), ⟨(by decide +kernel), (by decide +kernel), (by decide +kernel)⟩, by decide, Or.inl (q_mem 336 (by decide +kernel) (by decide +kernel))⟩
theorem lk5_64 : qLk RX5 64 2 X6_cell := ⟨q_mem 267 (by decide +kernel) (by decide +kernel), q_mem 2 (by decide +kernel) (by decide +kernel), ⟨(by decide +kernel), (by decide +kernel), (by decide +kernel)⟩, by decide, Or.inl (q_mem 335 (by decide +kernel) (by decide +kernel))⟩
theorem lk5_68 : qLk RX5 68 3 X6_apart := ⟨q_mem 305 (by decide +kernel) (by decide +kernel), q_mem 2 (by decide +kernel) (by decide +kernel), ⟨(by decide +kernel), (by decide +kernel), (by decide +kernel)⟩, by decide, Or.inl (q_mem 340 (by decide +kernel) (by decide +kernel))⟩
theorem lk5_77 : qLk RX5 77 2 X5_nearestMean := ⟨q_mem 351 (by decide +kernel) (by decide +kernel), q_mem 4 (by decide +kernel) (by decide +kernel), ⟨(by decide +kernel), (by decide +kernel), (by decide +kernel)⟩, by decide, Or.inl (q_mem 348 (by decide +kernel) (by decide +kernel))⟩
theorem lk5_80 : qLk RX5 80 2 X5_takeFarthest := ⟨q_mem 366 (by decide +kernel) (by decide +kernel), q_mem 4 (by decide +kernel) (by decide +kernel), ⟨(by decide +kernel), (by decide +kernel), (by decide +kernel)⟩, by decide, Or.inl (q_mem 363 (by decide +kernel) (by decide +kernel))⟩
theorem lk5_84 : qLk RX5 84 1 X5_noteMoves := ⟨q_mem 370 (by decide +kernel) (by decide +kernel), q_mem 4 (by decide +kernel) (by decide +kernel), ⟨(by decide +kernel), (by decide +kernel), (by decide +kernel)⟩, by decide, Or.inl (q_mem 367 (by decide +kernel) (by decide +kernel))⟩
theorem lk5_88 : qLk RX5 88 3 X5_squaresAbove := ⟨q_mem 355 (by decide +kernel) (by decide +kernel), q_mem 4 (by decide +kernel) (by decide +kernel), ⟨(by decide +kernel), (by decide +kernel), (by decide +kernel)⟩, by decide, Or.inl (q_mem 352 (by decide +kernel) (by decide +kernel))⟩
theorem lk5_92 : qLk RX5 92 1 X5_squaresBelow := ⟨q_mem 359 (by decide +kernel) (by decide +kernel), q_mem 4 (by decide +kernel) (by decide +kernel), ⟨(by decide +kernel), (by decide +kernel), (by decide +kernel)⟩, by decide, Or.inl (q_mem 356 (by decide +kernel) (by decide +kernel))⟩
theorem lk5_96 : qLk RX5 96 4 X7_isLess := ⟨q_mem 362 (by decide +kernel) (by decide +kernel), q_mem 1 (by decide +kernel) (by decide +kernel), ⟨(by decide +kernel), (by decide +kernel), (by decide +kernel)⟩, by decide, Or.inr ⟨"NearGroups", q_memN 360 (by decide +kernel) (by decide +kernel)⟩⟩
theorem lk6_25 : qLk RX6 25 2 X6_measure := ⟨q_mem 263 (by decide +kernel) (by decide +kernel), q_mem 2 (by decide +kernel) (by decide +kernel), ⟨(by decide +kernel), (by decide +kernel), (by decide +kernel)⟩, by decide, Or.inl (q_mem 260 (by decide +kernel) (by decide +kernel))⟩
theorem lk6_29 : qLk RX6 29 2 X6_placeOf := ⟨q_mem 281 (by decide +kernel) (by decide +kernel), q_mem 2 (by decide +kernel) (by decide +kernel), ⟨(by decide +kernel), (by decide +kernel), (by decide +kernel)⟩, by decide, Or.inl (q_mem 278 (by decide +kernel) (by decide +kernel))⟩
theorem lk6_33 : qLk RX6 33 3 X6_apart := ⟨q_mem 305 (by decide +kernel) (by decide +kernel), q_mem 2 (by decide +kernel) (by decide +kernel), ⟨(by decide +kernel), (by decide +kernel), (by decide +kernel)⟩, by decide, Or.inl (q_mem 314 (by decide +kernel) (by decide +kernel))⟩
theorem lk6_37 : qLk RX6 37 2 X6_cell := ⟨q_mem 267 (by decide +kernel) (by decide +kernel), q_mem 2 (by decide +kernel) (by decide +kernel), ⟨(by decide +kernel), (by decide +kernel), (by decide +kernel)⟩, by decide, Or.inl (q_mem 264 (by decide +kernel) (by decide +kernel))⟩
theorem lk6_49 : qLk RX6 49 4 X6_note := ⟨q_mem 277 (by decide +kernel) (by decide +kernel), q_mem 2 (by decide +kernel) (by decide +kernel), ⟨(by decide +kernel), (by decide +kernel), (by decide +kernel)⟩, by decide, Or.inl (q_mem 274 (by decide +kernel) (by decide +kernel))⟩
theorem lkL_9 : qLk RL 9 0 X7_init := ⟨q_mem 15 (by decide +kernel) (by decide +kernel), q_mem 1 (by decide +kernel) (by decide +kernel), ⟨(by decide +kernel), (by decide +kernel), (by decide +kernel)⟩, by decide, Or.inl (q_mem 13 (by decide +kernel) (by decide +kernel))⟩
theorem lkL_12 : qLk RL 12 0 X8_init := ⟨q_mem 598 (by decide +kernel) (by decide +kernel), q_mem 9 (by decide +kernel) (by decide +kernel), ⟨(by decide +kernel), (by decide +kernel), (by decide +kernel)⟩, by decide, Or.inl (q_mem 596 (by decide +kernel) (by decide +kernel))⟩
theorem lkL_13 : qLk RL 13 1 X7_columns := ⟨q_mem 240 (by decide +kernel) (by decide +kernel), q_mem 1 (by decide +kernel) (by decide +kernel), ⟨(by decide +kernel), (by decide +kernel), (by decide +kernel)⟩, by decide, Or.inl (q_mem 237 (by decide +kernel) (by decide +kernel))⟩
theorem lkL_17 : qLk RL 17 1 X8_columns := ⟨q_mem 691 (by decide +kernel) (by decide +kernel), q_mem 9 (by decide +kernel) (by decide +kernel), ⟨(by decide +kernel), (by decide +kernel), (by decide +kernel)⟩, by decide, Or.inl (q_mem 688 (by decide +kernel) (by decide +kernel))⟩
theorem lkL_18 : qLk RL 18 4 X7_row := ⟨q_mem 246 (by decide +kernel) (by decide +kernel), q_mem 1 (by decide +kernel) (by decide +kernel), ⟨(by decide +kernel), (by decide +kernel), (by decide +kernel)⟩, by decide, Or.inl (q_mem 243 (by decide +kernel) (by decide +kernel))⟩
theorem lkL_22 : qLk RL 22 4 X8_row := ⟨q_mem 700 (by decide +kernel) (by decide +kernel), q_mem 9 (by decide +kernel) (by decide +kernel), ⟨(by decide +kernel), (by decide +kernel), (by decide +kernel)⟩, by decide, Or.inl (q_mem 697 (by decide +kernel) (by decide +kernel))⟩
theorem lkL_23 : qLk RL 23 0 X7_clear := ⟨q_mem 285 (by decide +kernel) (by decide +kernel), q_mem 1 (by decide +kernel) (by decide +kernel), ⟨(by decide +kernel), (by decide +kernel), (by decide +kernel)⟩, by decide, Or.inl (q_mem 282 (by decide +kernel) (by decide +kernel))⟩
theorem lkL_27 : qLk RL 27 0 X8_clear := ⟨q_mem 709 (by decide +kernel) (by decide +kernel), q_mem 9 (by decide +kernel) (by decide +kernel), ⟨(by decide +kernel), (by decide +kernel), (by decide +kernel)⟩, by decide, Or.inl (q_mem 706 (by decide +kernel) (by decide +kernel))⟩
theorem lkL_28 : qLk RL 28 1 X7_count := ⟨q_mem 289 (by decide +kernel) (by decide +kernel), q_mem 1 (by decide +kernel) (by decide +kernel), ⟨(by decide +kernel), (by decide +kernel), (by decide +kernel)⟩, by decide, Or.inl (q_mem 286 (by decide +kernel) (by decide +kernel))⟩
theorem lkL_31 : qLk RL 31 1 X8_count := ⟨q_mem 713 (by decide +kernel) (by decide +kernel), q_mem 9 (by decide +kernel) (by decide +kernel), ⟨(by decide +kernel), (by decide +kernel), (by decide +kernel)⟩, by decide, Or.inl (q_mem 710 (by decide +kernel) (by decide +kernel))⟩
theorem lkL_32 : qLk RL 32 3 X7_distance := ⟨q_mem 293 (by decide +kernel) (by decide +kernel), q_mem 1 (by decide +kernel) (by decide +kernel), ⟨(by decide +kernel), (by decide +kernel), (by decide +kernel)⟩, by decide, Or.inl (q_mem 290 (by decide +kernel) (by decide +kernel))⟩
theorem lkL_36 : qLk RL 36 3 X8_distance := ⟨q_mem 717 (by decide +kernel) (by decide +kernel), q_mem 9 (by decide +kernel) (by decide +kernel), ⟨(by decide +kernel), (by decide +kernel), (by decide +kernel)⟩, by decide, Or.inl (q_mem 714 (by decide +kernel) (by decide +kernel))⟩
theorem lkL_37 : qLk RL 37 3 X7_near := ⟨q_mem 309 (by decide +kernel) (by decide +kernel), q_mem 1 (by decide +kernel) (by decide +kernel), ⟨(by decide +kernel), (by decide +kernel), (by decide +kernel)⟩, by decide, Or.inl (q_mem 306 (by decide +kernel) (by decide +kernel))⟩
theorem lkL_40 : qLk RL 40 3 X8_near := ⟨q_mem 730 (by decide +kernel) (by decide +kernel), q_mem 9 (by decide +kernel) (by decide +kernel), ⟨(by decide +kernel), (by decide +kernel), (by decide +kernel)⟩, by decide, Or.inl (q_mem 727 (by decide +kernel) (by decide +kernel))⟩
theorem lkL_41 : qLk RL 41 2 X7_means := ⟨q_mem 318 (by decide +kernel) (by decide +kernel), q_mem 1 (by decide +kernel) (by decide +kernel), ⟨(by decide +kernel), (by decide +kernel), (by decide +kernel)⟩, by decide, Or.inl (q_mem 315 (by decide +kernel) (by decide +kernel))⟩
theorem lkL_45 : qLk RL 45 2 X8_means := ⟨q_mem 738 (by decide +kernel) (by decide +kernel), q_mem 9 (by decide +kernel) (by decide +kernel), ⟨(by decide +kernel), (by decide +kernel), (by decide +kernel)⟩, by decide, Or.inl (q_mem 735 (by decide +kernel) (by decide +kernel))⟩
theorem lkL_46 : qLk RL 46 3 X7_medoids := ⟨q_mem 382 (by decide +kernel) (by decide +kernel), q_mem 1 (by decide +kernel) (by decide +kernel), ⟨(by decide +kernel), (by decide +kernel), (by decide +kernel)⟩, by decide, Or.inl (q_mem 379 (by decide +kernel) (by decide +kernel))⟩
theorem lkL_49 : qLk RL 49 3 X8_medoids := ⟨q_mem 770 (by decide +kernel) (by decide +kernel), q_mem 9 (by decide +kernel) (by decide +kernel), ⟨(by decide +kernel), (by decide +kernel), (by decide +kernel)⟩, by decide, Or.inl (q_mem 767 (by decide +kernel) (by decide +kernel))⟩
theorem lkL_50 : qLk RL 50 1 X7_medoid := ⟨q_mem 410 (by decide +kernel) (by decide +kernel), q_mem 1 (by decide +kernel) (by decide +kernel), ⟨(by decide +kernel), (by decide +kernel), (by decide +kernel)⟩, by decide, Or.inl (q_mem 407 (by decide +kernel) (by decide +kernel))⟩
theorem lkL_53 : qLk RL 53 1 X8_medoid := ⟨q_mem 782 (by decide +kernel) (by decide +kernel), q_mem 9 (by decide +kernel) (by decide +kernel), ⟨(by decide +kernel), (by decide +kernel), (by decide +kernel)⟩, by decide, Or.inl (q_mem 779 (by decide +kernel) (by decide +kernel))⟩
theorem lkL_54 : qLk RL 54 4 X7_density := ⟨q_mem 414 (by decide +kernel) (by decide +kernel), q_mem 1 (by decide +kernel) (by decide +kernel), ⟨(by decide +kernel), (by decide +kernel), (by decide +kernel)⟩, by decide, Or.inl (q_mem 411 (by decide +kernel) (by decide +kernel))⟩
theorem lkL_57 : qLk RL 57 4 X8_density := ⟨q_mem 786 (by decide +kernel) (by decide +kernel), q_mem 9 (by decide +kernel) (by decide +kernel), ⟨(by decide +kernel), (by decide +kernel), (by decide +kernel)⟩, by decide, Or.inl (q_mem 783 (by decide +kernel) (by decide +kernel))⟩
theorem lkL_58 : qLk RL 58 2 X7_tree := ⟨q_mem 436 (by decide +kernel) (by decide +kernel), q_mem 1 (by decide +kernel) (by decide +kernel), ⟨(by decide +kernel), (by decide +kernel), (by decide +kernel)⟩, by decide, Or.inl (q_mem 433 (by decide +kernel) (by decide +kernel))⟩
theorem lkL_61 : qLk RL 61 2 X8_tree := ⟨q_mem 795 (by decide +kernel) (by decide +kernel), q_mem 9 (by decide +kernel) (by decide +kernel), ⟨(by decide +kernel), (by decide +kernel), (by decide +kernel)⟩, by decide, Or.inl (q_mem 792 (by decide +kernel) (by decide +kernel))⟩
theorem lkL_62 : qLk RL 62 2 X7_join := ⟨q_mem 487 (by decide +kernel) (by decide +kernel), q_mem 1 (by decide +kernel) (by decide +kernel), ⟨(by decide +kernel), (by decide +kernel), (by decide +kernel)⟩, by decide, Or.inl (q_mem 484 (by decide +kernel) (by decide +kernel))⟩
theorem lkL_66 : qLk RL 66 2 X8_join := ⟨q_mem 815 (by decide +kernel) (by decide +kernel), q_mem 9 (by decide +kernel) (by decide +kernel), ⟨(by decide +kernel), (by decide +kernel), (by decide +kernel)⟩, by decide, Or.inl (q_mem 812 (by decide +kernel) (by decide +kernel))⟩
theorem lkL_67 : qLk RL 67 2 X7_cut := ⟨q_mem 494 (by decide +kernel) (by decide +kernel), q_mem 1 (by decide +kernel) (by decide +kernel), ⟨(by decide +kernel), (by decide +kernel), (by decide +kernel)⟩, by decide, Or.inl (q_mem 491 (by decide +kernel) (by decide +kernel))⟩
theorem lkL_70 : qLk RL 70 2 X8_cut := ⟨q_mem 821 (by decide +kernel) (by decide +kernel), q_mem 9 (by decide +kernel) (by decide +kernel), ⟨(by decide +kernel), (by decide +kernel), (by decide +kernel)⟩, by decide, Or.inl (q_mem 818 (by decide +kernel) (by decide +kernel))⟩
theorem lkL_71 : qLk RL 71 2 X7_of := ⟨q_mem 506 (by decide +kernel) (by decide +kernel), q_mem 1 (by decide +kernel) (by decide +kernel), ⟨(by decide +kernel), (by decide +kernel), (by decide +kernel)⟩, by decide, Or.inl (q_mem 503 (by decide +kernel) (by decide +kernel))⟩
theorem lkL_74 : qLk RL 74 2 X8_of := ⟨q_mem 825 (by decide +kernel) (by decide +kernel), q_mem 9 (by decide +kernel) (by decide +kernel), ⟨(by decide +kernel), (by decide +kernel), (by decide +kernel)⟩, by decide, Or.inl (q_mem 822 (by decide +kernel) (by decide +kernel))⟩
theorem lkL_75 : qLk RL 75 2 X7_size := ⟨q_mem 514 (by decide +kernel) (by decide +kernel), q_mem 1 (by decide +kernel) (by decide +kernel), ⟨(by decide +kernel), (by decide +kernel), (by decide +kernel)⟩, by decide, Or.inl (q_mem 511 (by decide +kernel) (by decide +kernel))⟩
theorem lkL_78 : qLk RL 78 2 X8_size := ⟨q_mem 833 (by decide +kernel) (by decide +kernel), q_mem 9 (by decide +kernel) (by decide +kernel), ⟨(by decide +kernel), (by decide +kernel), (by decide +kernel)⟩, by decide, Or.inl (q_mem 830 (by decide +kernel) (by decide +kernel))⟩
theorem lkL_79 : qLk RL 79 4 X7_mean := ⟨q_mem 522 (by decide +kernel) (by decide +kernel), q_mem 1 (by decide +kernel) (by decide +kernel), ⟨(by decide +kernel), (by decide +kernel), (by decide +kernel)⟩, by decide, Or.inl (q_mem 519 (by decide +kernel) (by decide +kernel))⟩
theorem lkL_82 : qLk RL 82 4 X8_mean := ⟨q_mem 845 (by decide +kernel) (by decide +kernel), q_mem 9 (by decide +kernel) (by decide +kernel), ⟨(by decide +kernel), (by decide +kernel), (by decide +kernel)⟩, by decide, Or.inl (q_mem 842 (by decide +kernel) (by decide +kernel))⟩
theorem lkL_83 : qLk RL 83 2 X7_sum := ⟨q_mem 543 (by decide +kernel) (by decide +kernel), q_mem 1 (by decide +kernel) (by decide +kernel), ⟨(by decide +kernel), (by decide +kernel), (by decide +kernel)⟩, by decide, Or.inl (q_mem 540 (by decide +kernel) (by decide +kernel))⟩
theorem lkL_86 : qLk RL 86 2 X8_sum := ⟨q_mem 853 (by decide +kernel) (by decide +kernel), q_mem 9 (by decide +kernel) (by decide +kernel), ⟨(by decide +kernel), (by decide +kernel), (by decide +kernel)⟩, by decide, Or.inl (q_mem 850 (by decide +kernel) (by decide +kernel))⟩
theorem lkL_87 : qLk RL 87 4 X7_well := ⟨q_mem 565 (by decide +kernel) (by decide +kernel), q_mem 1 (by decide +kernel) (by decide +kernel), ⟨(by decide +kernel), (by decide +kernel), (by decide +kernel)⟩, by decide, Or.inl (q_mem 562 (by decide +kernel) (by decide +kernel))⟩
theorem lkL_91 : qLk RL 91 4 X8_well := ⟨q_mem 857 (by decide +kernel) (by decide +kernel), q_mem 9 (by decide +kernel) (by decide +kernel), ⟨(by decide +kernel), (by decide +kernel), (by decide +kernel)⟩, by decide, Or.inl (q_mem 854 (by decide +kernel) (by decide +kernel))⟩
theorem lkL_92 : qLk RL 92 1 X7_agree := ⟨q_mem 585 (by decide +kernel) (by decide +kernel), q_mem 1 (by decide +kernel) (by decide +kernel), ⟨(by decide +kernel), (by decide +kernel), (by decide +kernel)⟩, by decide, Or.inl (q_mem 582 (by decide +kernel) (by decide +kernel))⟩
theorem lkL_95 : qLk RL 95 1 X8_agree := ⟨q_mem 866 (by decide +kernel) (by decide +kernel), q_mem 9 (by decide +kernel) (by decide +kernel), ⟨(by decide +kernel), (by decide +kernel), (by decide +kernel)⟩, by decide, Or.inl (q_mem 863 (by decide +kernel) (by decide +kernel))⟩
theorem lk8_85 : qLk RX8 85 3 X8_within := ⟨q_mem 694 (by decide +kernel) (by decide +kernel), q_mem 9 (by decide +kernel) (by decide +kernel), ⟨(by decide +kernel), (by decide +kernel), (by decide +kernel)⟩, by decide, Or.inl (q_mem 692 (by decide +kernel) (by decide +kernel))⟩
theorem lk8_99 : qLk RX8 99 0 X8_forget := ⟨q_mem 705 (by decide +kernel) (by decide +kernel), q_mem 9 (by decide +kernel) (by decide +kernel), ⟨(by decide +kernel), (by decide +kernel), (by decide +kernel)⟩, by decide, Or.inl (q_mem 702 (by decide +kernel) (by decide +kernel))⟩
theorem lk8_105 : qLk RX8 105 3 X8_apart := ⟨q_mem 726 (by decide +kernel) (by decide +kernel), q_mem 9 (by decide +kernel) (by decide +kernel), ⟨(by decide +kernel), (by decide +kernel), (by decide +kernel)⟩, by decide, Or.inl (q_mem 723 (by decide +kernel) (by decide +kernel))⟩
theorem lk8_109 : qLk RX8 109 1 X8_isRow := ⟨q_mem 721 (by decide +kernel) (by decide +kernel), q_mem 9 (by decide +kernel) (by decide +kernel), ⟨(by decide +kernel), (by decide +kernel), (by decide +kernel)⟩, by decide, Or.inl (q_mem 718 (by decide +kernel) (by decide +kernel))⟩
theorem lk8_114 : qLk RX8 114 1 X8_lay := ⟨q_mem 734 (by decide +kernel) (by decide +kernel), q_mem 9 (by decide +kernel) (by decide +kernel), ⟨(by decide +kernel), (by decide +kernel), (by decide +kernel)⟩, by decide, Or.inl (q_mem 731 (by decide +kernel) (by decide +kernel))⟩
theorem lk8_118 : qLk RX8 118 0 X8_farthest := ⟨q_mem 746 (by decide +kernel) (by decide +kernel), q_mem 9 (by decide +kernel) (by decide +kernel), ⟨(by decide +kernel), (by decide +kernel), (by decide +kernel)⟩, by decide, Or.inl (q_mem 743 (by decide +kernel) (by decide +kernel))⟩
theorem lk8_122 : qLk RX8 122 2 X8_square := ⟨q_mem 754 (by decide +kernel) (by decide +kernel), q_mem 9 (by decide +kernel) (by decide +kernel), ⟨(by decide +kernel), (by decide +kernel), (by decide +kernel)⟩, by decide, Or.inl (q_mem 751 (by decide +kernel) (by decide +kernel))⟩
theorem lk8_126 : qLk RX8 126 1 X8_sizeNow := ⟨q_mem 762 (by decide +kernel) (by decide +kernel), q_mem 9 (by decide +kernel) (by decide +kernel), ⟨(by decide +kernel), (by decide +kernel), (by decide +kernel)⟩, by decide, Or.inl (q_mem 759 (by decide +kernel) (by decide +kernel))⟩
theorem lk8_130 : qLk RX8 130 4 X8_isNearer := ⟨q_mem 750 (by decide +kernel) (by decide +kernel), q_mem 9 (by decide +kernel) (by decide +kernel), ⟨(by decide +kernel), (by decide +kernel), (by decide +kernel)⟩, by decide, Or.inl (q_mem 747 (by decide +kernel) (by decide +kernel))⟩
theorem lk8_134 : qLk RX8 134 1 X8_chooseFirst := ⟨q_mem 742 (by decide +kernel) (by decide +kernel), q_mem 9 (by decide +kernel) (by decide +kernel), ⟨(by decide +kernel), (by decide +kernel), (by decide +kernel)⟩, by decide, Or.inl (q_mem 739 (by decide +kernel) (by decide +kernel))⟩
theorem lk8_137 : qLk RX8 137 1 X8_fill := ⟨q_mem 758 (by decide +kernel) (by decide +kernel), q_mem 9 (by decide +kernel) (by decide +kernel), ⟨(by decide +kernel), (by decide +kernel), (by decide +kernel)⟩, by decide, Or.inl (q_mem 755 (by decide +kernel) (by decide +kernel))⟩
theorem lk8_140 : qLk RX8 140 1 X8_takeMeans := ⟨q_mem 766 (by decide +kernel) (by decide +kernel), q_mem 9 (by decide +kernel) (by decide +kernel), ⟨(by decide +kernel), (by decide +kernel), (by decide +kernel)⟩, by decide, Or.inl (q_mem 763 (by decide +kernel) (by decide +kernel))⟩
theorem lk8_143 : qLk RX8 143 5 X8_nearestOf := ⟨q_mem 778 (by decide +kernel) (by decide +kernel), q_mem 9 (by decide +kernel) (by decide +kernel), ⟨(by decide +kernel), (by decide +kernel), (by decide +kernel)⟩, by decide, Or.inl (q_mem 775 (by decide +kernel) (by decide +kernel))⟩
theorem lk8_147 : qLk RX8 147 4 X8_sumOf := ⟨q_mem 774 (by decide +kernel) (by decide +kernel), q_mem 9 (by decide +kernel) (by decide +kernel), ⟨(by decide +kernel), (by decide +kernel), (by decide +kernel)⟩, by decide, Or.inl (q_mem 771 (by decide +kernel) (by decide +kernel))⟩
theorem lk8_152 : qLk RX8 152 3 X8_spread := ⟨q_mem 791 (by decide +kernel) (by decide +kernel), q_mem 9 (by decide +kernel) (by decide +kernel), ⟨(by decide +kernel), (by decide +kernel), (by decide +kernel)⟩, by decide, Or.inl (q_mem 788 (by decide +kernel) (by decide +kernel))⟩
theorem lk8_165 : qLk RX8 165 1 X8_joinNext := ⟨q_mem 799 (by decide +kernel) (by decide +kernel), q_mem 9 (by decide +kernel) (by decide +kernel), ⟨(by decide +kernel), (by decide +kernel), (by decide +kernel)⟩, by decide, Or.inl (q_mem 796 (by decide +kernel) (by decide +kernel))⟩
theorem lk8_168 : qLk RX8 168 0 X8_gather := ⟨q_mem 803 (by decide +kernel) (by decide +kernel), q_mem 9 (by decide +kernel) (by decide +kernel), ⟨(by decide +kernel), (by decide +kernel), (by decide +kernel)⟩, by decide, Or.inl (q_mem 800 (by decide +kernel) (by decide +kernel))⟩
theorem lk8_171 : qLk RX8 171 3 X8_apartOf := ⟨q_mem 808 (by decide +kernel) (by decide +kernel), q_mem 9 (by decide +kernel) (by decide +kernel), ⟨(by decide +kernel), (by decide +kernel), (by decide +kernel)⟩, by decide, Or.inl (q_mem 805 (by decide +kernel) (by decide +kernel))⟩
theorem lk8_174 : qLk RX8 174 2 X8_common := ⟨q_mem 811 (by decide +kernel) (by decide +kernel), q_mem 9 (by decide +kernel) (by decide +kernel), ⟨(by decide +kernel), (by decide +kernel), (by decide +kernel)⟩, by decide, Or.inl (q_mem 809 (by decide +kernel) (by decide +kernel))⟩
theorem lk8_182 : qLk RX8 182 2 X8_of0 := ⟨q_mem 829 (by decide +kernel) (by decide +kernel), q_mem 9 (by decide +kernel) (by decide +kernel), ⟨(by decide +kernel), (by decide +kernel), (by decide +kernel)⟩, by decide, Or.inl (q_mem 826 (by decide +kernel) (by decide +kernel))⟩
theorem lk8_186 : qLk RX8 186 2 X8_refused := ⟨q_mem 837 (by decide +kernel) (by decide +kernel), q_mem 9 (by decide +kernel) (by decide +kernel), ⟨(by decide +kernel), (by decide +kernel), (by decide +kernel)⟩, by decide, Or.inl (q_mem 834 (by decide +kernel) (by decide +kernel))⟩
theorem lk8_189 : qLk RX8 189 2 X8_sizeIn := ⟨q_mem 841 (by decide +kernel) (by decide +kernel), q_mem 9 (by decide +kernel) (by decide +kernel), ⟨(by decide +kernel), (by decide +kernel), (by decide +kernel)⟩, by decide, Or.inl (q_mem 838 (by decide +kernel) (by decide +kernel))⟩
theorem lk8_192 : qLk RX8 192 3 X8_sumIn := ⟨q_mem 849 (by decide +kernel) (by decide +kernel), q_mem 9 (by decide +kernel) (by decide +kernel), ⟨(by decide +kernel), (by decide +kernel), (by decide +kernel)⟩, by decide, Or.inl (q_mem 846 (by decide +kernel) (by decide +kernel))⟩
theorem lk8_198 : qLk RX8 198 4 X8_farFrom := ⟨q_mem 862 (by decide +kernel) (by decide +kernel), q_mem 9 (by decide +kernel) (by decide +kernel), ⟨(by decide +kernel), (by decide +kernel), (by decide +kernel)⟩, by decide, Or.inl (q_mem 859 (by decide +kernel) (by decide +kernel))⟩
theorem ii_X0_init : Cond.instanceMethod X0_init.1 ∈ qALL := q_mem 104 (by decide +kernel) (by decide +kernel)
theorem im_X0_search : qIm X0_search := ⟨q_mem 384 (by decide +kernel) (by decide +kernel), q_mem 385 (by decide +kernel) (by decide +kernel)⟩
theorem im_X0_tryRows : qIm X0_tryRows := ⟨q_mem 390 (by decide +kernel) (by decide +kernel), q_memP 14 (by decide +kernel) (by decide +kernel)⟩
theorem im_X0_lowerLeasts : qIm X0_lowerLeasts := ⟨q_mem 394 (by decide +kernel) (by decide +kernel), q_memP 15 (by decide +kernel) (by decide +kernel)⟩
theorem im_X0_weighTrial : qIm X0_weighTrial := ⟨q_mem 400 (by decide +kernel) (by decide +kernel), q_memP 16 (by decide +kernel) (by decide +kernel)⟩
theorem im_X0_nearestBest : qIm X0_nearestBest := ⟨q_mem 404 (by decide +kernel) (by decide +kernel), q_memP 17 (by decide +kernel) (by decide +kernel)⟩
theorem ii_X1_init : Cond.instanceMethod X1_init.1 ∈ qALL := q_mem 132 (by decide +kernel) (by decide +kernel)
theorem im_X1_spread : qIm X1_spread := ⟨q_mem 417 (by decide +kernel) (by decide +kernel), q_mem 418 (by decide +kernel) (by decide +kernel)⟩
theorem im_X1_rowsWithin : qIm X1_rowsWithin := ⟨q_mem 422 (by decide +kernel) (by decide +kernel), q_memP 18 (by decide +kernel) (by decide +kernel)⟩
theorem im_X1_spreadFrom : qIm X1_spreadFrom := ⟨q_mem 427 (by decide +kernel) (by decide +kernel), q_memP 19 (by decide +kernel) (by decide +kernel)⟩
theorem im_X1_leastGroupWithin : qIm X1_leastGroupWithin := ⟨q_mem 431 (by decide +kernel) (by decide +kernel), q_memP 20 (by decide +kernel) (by decide +kernel)⟩
theorem ii_X2_init : Cond.instanceMethod X2_init.1 ∈ qALL := q_mem 156 (by decide +kernel) (by decide +kernel)
theorem im_X2_put : qIm X2_put := ⟨q_mem 461 (by decide +kernel) (by decide +kernel), q_mem 462 (by decide +kernel) (by decide +kernel)⟩
theorem im_X2_add : qIm X2_add := ⟨q_mem 558 (by decide +kernel) (by decide +kernel), q_mem 559 (by decide +kernel) (by decide +kernel)⟩
theorem im_X2_part : qIm X2_part := ⟨q_mem 537 (by decide +kernel) (by decide +kernel), q_mem 538 (by decide +kernel) (by decide +kernel)⟩
theorem sm_X2_commonDivisor : Cond.static X2_commonDivisor.1 ∈ qALL := q_mem 468 (by decide +kernel) (by decide +kernel)
theorem ii_X3_init : Cond.instanceMethod X3_init.1 ∈ qALL := q_mem 53 (by decide +kernel) (by decide +kernel)
theorem im_X3_isEmpty : qIm X3_isEmpty := ⟨q_mem 508 (by decide +kernel) (by decide +kernel), q_mem 509 (by decide +kernel) (by decide +kernel)⟩
theorem im_X3_fill : qIm X3_fill := ⟨q_mem 376 (by decide +kernel) (by decide +kernel), q_mem 377 (by decide +kernel) (by decide +kernel)⟩
theorem im_X3_holdsBoth : qIm X3_holdsBoth := ⟨q_mem 591 (by decide +kernel) (by decide +kernel), q_mem 592 (by decide +kernel) (by decide +kernel)⟩
theorem im_X3_total : qIm X3_total := ⟨q_mem 532 (by decide +kernel) (by decide +kernel), q_mem 533 (by decide +kernel) (by decide +kernel)⟩
theorem im_X3_squaresTimesSize : qIm X3_squaresTimesSize := ⟨q_mem 549 (by decide +kernel) (by decide +kernel), q_mem 550 (by decide +kernel) (by decide +kernel)⟩
theorem im_X3_distancesTo : qIm X3_distancesTo := ⟨q_mem 576 (by decide +kernel) (by decide +kernel), q_mem 577 (by decide +kernel) (by decide +kernel)⟩
theorem im_X3_totalOfSquares : qIm X3_totalOfSquares := ⟨q_mem 555 (by decide +kernel) (by decide +kernel), q_memP 31 (by decide +kernel) (by decide +kernel)⟩
theorem ii_X4_init : Cond.instanceMethod X4_init.1 ∈ qALL := q_mem 150 (by decide +kernel) (by decide +kernel)
theorem im_X4_build : qIm X4_build := ⟨q_mem 438 (by decide +kernel) (by decide +kernel), q_mem 439 (by decide +kernel) (by decide +kernel)⟩
theorem im_X4_split : qIm X4_split := ⟨q_mem 496 (by decide +kernel) (by decide +kernel), q_mem 497 (by decide +kernel) (by decide +kernel)⟩
theorem im_X4_numberByLeastRows : qIm X4_numberByLeastRows := ⟨q_mem 501 (by decide +kernel) (by decide +kernel), q_memP 27 (by decide +kernel) (by decide +kernel)⟩
theorem im_X4_placeRows : qIm X4_placeRows := ⟨q_mem 443 (by decide +kernel) (by decide +kernel), q_memP 21 (by decide +kernel) (by decide +kernel)⟩
theorem im_X4_findNearest : qIm X4_findNearest := ⟨q_mem 449 (by decide +kernel) (by decide +kernel), q_memP 22 (by decide +kernel) (by decide +kernel)⟩
theorem im_X4_gapAbove : qIm X4_gapAbove := ⟨q_mem 453 (by decide +kernel) (by decide +kernel), q_memP 23 (by decide +kernel) (by decide +kernel)⟩
theorem im_X4_gapBelow : qIm X4_gapBelow := ⟨q_mem 457 (by decide +kernel) (by decide +kernel), q_memP 24 (by decide +kernel) (by decide +kernel)⟩
theorem im_X4_merge : qIm X4_merge := ⟨q_mem 472 (by decide +kernel) (by decide +kernel), q_memP 25 (by decide +kernel) (by decide +kernel)⟩
theorem im_X4_gapToBoth : qIm X4_gapToBoth := ⟨q_mem 476 (by decide +kernel) (by decide +kernel), q_memP 26 (by decide +kernel) (by decide +kernel)⟩
theorem ii_X5_init : Cond.instanceMethod X5_init.1 ∈ qALL := q_mem 75 (by decide +kernel) (by decide +kernel)
theorem im_X5_run : qIm X5_run := ⟨q_mem 323 (by decide +kernel) (by decide +kernel), q_mem 324 (by decide +kernel) (by decide +kernel)⟩
theorem im_X5_chooseFirstMeans : qIm X5_chooseFirstMeans := ⟨q_mem 328 (by decide +kernel) (by decide +kernel), q_memP 4 (by decide +kernel) (by decide +kernel)⟩
theorem im_X5_putFirstMean : qIm X5_putFirstMean := ⟨q_mem 333 (by decide +kernel) (by decide +kernel), q_memP 5 (by decide +kernel) (by decide +kernel)⟩
theorem im_X5_farthestFromChosen : qIm X5_farthestFromChosen := ⟨q_mem 338 (by decide +kernel) (by decide +kernel), q_memP 6 (by decide +kernel) (by decide +kernel)⟩
theorem im_X5_moveRows : qIm X5_moveRows := ⟨q_mem 346 (by decide +kernel) (by decide +kernel), q_memP 7 (by decide +kernel) (by decide +kernel)⟩
theorem im_X5_nearestMean : qIm X5_nearestMean := ⟨q_mem 350 (by decide +kernel) (by decide +kernel), q_memP 8 (by decide +kernel) (by decide +kernel)⟩
theorem im_X5_takeFarthest : qIm X5_takeFarthest := ⟨q_mem 365 (by decide +kernel) (by decide +kernel), q_memP 11 (by decide +kernel) (by decide +kernel)⟩
theorem im_X5_noteMoves : qIm X5_noteMoves := ⟨q_mem 369 (by decide +kernel) (by decide +kernel), q_memP 12 (by decide +kernel) (by decide +kernel)⟩
theorem im_X5_remakeMeans : qIm X5_remakeMeans := ⟨q_mem 373 (by decide +kernel) (by decide +kernel), q_memP 13 (by decide +kernel) (by decide +kernel)⟩
theorem im_X5_squaresAbove : qIm X5_squaresAbove := ⟨q_mem 354 (by decide +kernel) (by decide +kernel), q_memP 9 (by decide +kernel) (by decide +kernel)⟩
theorem im_X5_squaresBelow : qIm X5_squaresBelow := ⟨q_mem 358 (by decide +kernel) (by decide +kernel), q_memP 10 (by decide +kernel) (by decide +kernel)⟩
theorem ii_X6_init : Cond.instanceMethod X6_init.1 ∈ qALL := q_mem 22 (by decide +kernel) (by decide +kernel)
theorem im_X6_takes : qIm X6_takes := ⟨q_mem 248 (by decide +kernel) (by decide +kernel), q_mem 249 (by decide +kernel) (by decide +kernel)⟩
theorem im_X6_append : qIm X6_append := ⟨q_mem 257 (by decide +kernel) (by decide +kernel), q_mem 258 (by decide +kernel) (by decide +kernel)⟩
theorem im_X6_cell : qIm X6_cell := ⟨q_mem 265 (by decide +kernel) (by decide +kernel), q_mem 266 (by decide +kernel) (by decide +kernel)⟩
theorem im_X6_apart : qIm X6_apart := ⟨q_mem 303 (by decide +kernel) (by decide +kernel), q_mem 304 (by decide +kernel) (by decide +kernel)⟩
theorem im_X6_placeOf : qIm X6_placeOf := ⟨q_mem 279 (by decide +kernel) (by decide +kernel), q_mem 280 (by decide +kernel) (by decide +kernel)⟩
theorem im_X6_nearerThan : qIm X6_nearerThan := ⟨q_mem 311 (by decide +kernel) (by decide +kernel), q_mem 312 (by decide +kernel) (by decide +kernel)⟩
theorem im_X6_measure : qIm X6_measure := ⟨q_mem 262 (by decide +kernel) (by decide +kernel), q_memP 1 (by decide +kernel) (by decide +kernel)⟩
theorem im_X6_note : qIm X6_note := ⟨q_mem 276 (by decide +kernel) (by decide +kernel), q_memP 2 (by decide +kernel) (by decide +kernel)⟩
theorem ii_X7_init : Cond.instanceMethod X7_init.1 ∈ qALL := q_mem 14 (by decide +kernel) (by decide +kernel)
theorem im_X7_columns : qIm X7_columns := ⟨q_mem 238 (by decide +kernel) (by decide +kernel), q_mem 239 (by decide +kernel) (by decide +kernel)⟩
theorem im_X7_row : qIm X7_row := ⟨q_mem 244 (by decide +kernel) (by decide +kernel), q_mem 245 (by decide +kernel) (by decide +kernel)⟩
theorem im_X7_clear : qIm X7_clear := ⟨q_mem 283 (by decide +kernel) (by decide +kernel), q_mem 284 (by decide +kernel) (by decide +kernel)⟩
theorem im_X7_count : qIm X7_count := ⟨q_mem 287 (by decide +kernel) (by decide +kernel), q_mem 288 (by decide +kernel) (by decide +kernel)⟩
theorem im_X7_distance : qIm X7_distance := ⟨q_mem 291 (by decide +kernel) (by decide +kernel), q_mem 292 (by decide +kernel) (by decide +kernel)⟩
theorem im_X7_near : qIm X7_near := ⟨q_mem 307 (by decide +kernel) (by decide +kernel), q_mem 308 (by decide +kernel) (by decide +kernel)⟩
theorem im_X7_means : qIm X7_means := ⟨q_mem 316 (by decide +kernel) (by decide +kernel), q_mem 317 (by decide +kernel) (by decide +kernel)⟩
theorem im_X7_medoids : qIm X7_medoids := ⟨q_mem 380 (by decide +kernel) (by decide +kernel), q_mem 381 (by decide +kernel) (by decide +kernel)⟩
theorem im_X7_medoid : qIm X7_medoid := ⟨q_mem 408 (by decide +kernel) (by decide +kernel), q_mem 409 (by decide +kernel) (by decide +kernel)⟩
theorem im_X7_density : qIm X7_density := ⟨q_mem 412 (by decide +kernel) (by decide +kernel), q_mem 413 (by decide +kernel) (by decide +kernel)⟩
theorem im_X7_tree : qIm X7_tree := ⟨q_mem 434 (by decide +kernel) (by decide +kernel), q_mem 435 (by decide +kernel) (by decide +kernel)⟩
theorem im_X7_join : qIm X7_join := ⟨q_mem 485 (by decide +kernel) (by decide +kernel), q_mem 486 (by decide +kernel) (by decide +kernel)⟩
theorem im_X7_cut : qIm X7_cut := ⟨q_mem 492 (by decide +kernel) (by decide +kernel), q_mem 493 (by decide +kernel) (by decide +kernel)⟩
theorem im_X7_of : qIm X7_of := ⟨q_mem 504 (by decide +kernel) (by decide +kernel), q_mem 505 (by decide +kernel) (by decide +kernel)⟩
theorem im_X7_size : qIm X7_size := ⟨q_mem 512 (by decide +kernel) (by decide +kernel), q_mem 513 (by decide +kernel) (by decide +kernel)⟩
theorem im_X7_mean : qIm X7_mean := ⟨q_mem 520 (by decide +kernel) (by decide +kernel), q_mem 521 (by decide +kernel) (by decide +kernel)⟩
theorem im_X7_sum : qIm X7_sum := ⟨q_mem 541 (by decide +kernel) (by decide +kernel), q_mem 542 (by decide +kernel) (by decide +kernel)⟩
theorem im_X7_well : qIm X7_well := ⟨q_mem 563 (by decide +kernel) (by decide +kernel), q_mem 564 (by decide +kernel) (by decide +kernel)⟩
theorem im_X7_agree : qIm X7_agree := ⟨q_mem 583 (by decide +kernel) (by decide +kernel), q_mem 584 (by decide +kernel) (by decide +kernel)⟩
theorem im_X7_forgetGroupings : qIm X7_forgetGroupings := ⟨q_mem 254 (by decide +kernel) (by decide +kernel), q_memP 0 (by decide +kernel) (by decide +kernel)⟩
theorem im_X7_isRow : qIm X7_isRow := ⟨q_mem 296 (by decide +kernel) (by decide +kernel), q_memP 3 (by decide +kernel) (by decide +kernel)⟩
theorem sm_X7_isKind : Cond.static X7_isKind.1 ∈ qALL := q_mem 300 (by decide +kernel) (by decide +kernel)
theorem sm_X7_isSlot : Cond.static X7_isSlot.1 ∈ qALL := q_mem 320 (by decide +kernel) (by decide +kernel)
theorem sm_X7_isSide : Cond.static X7_isSide.1 ∈ qALL := q_mem 524 (by decide +kernel) (by decide +kernel)
theorem im_X7_refusalOfGroup : qIm X7_refusalOfGroup := ⟨q_mem 517 (by decide +kernel) (by decide +kernel), q_memP 28 (by decide +kernel) (by decide +kernel)⟩
theorem im_X7_reckonMean : qIm X7_reckonMean := ⟨q_mem 528 (by decide +kernel) (by decide +kernel), q_memP 29 (by decide +kernel) (by decide +kernel)⟩
theorem im_X7_reckonSum : qIm X7_reckonSum := ⟨q_mem 546 (by decide +kernel) (by decide +kernel), q_memP 30 (by decide +kernel) (by decide +kernel)⟩
theorem im_X7_reckonWell : qIm X7_reckonWell := ⟨q_mem 569 (by decide +kernel) (by decide +kernel), q_memP 32 (by decide +kernel) (by decide +kernel)⟩
theorem im_X7_nearestOtherGroup : qIm X7_nearestOtherGroup := ⟨q_mem 573 (by decide +kernel) (by decide +kernel), q_memP 33 (by decide +kernel) (by decide +kernel)⟩
theorem im_X7_agreementOf : qIm X7_agreementOf := ⟨q_mem 588 (by decide +kernel) (by decide +kernel), q_memP 34 (by decide +kernel) (by decide +kernel)⟩
theorem sm_X7_isLess : Cond.static X7_isLess.1 ∈ qALL := q_mem 361 (by decide +kernel) (by decide +kernel)
theorem ii_X8_init : Cond.instanceMethod X8_init.1 ∈ qALL := q_mem 597 (by decide +kernel) (by decide +kernel)
theorem sm_X8_within : Cond.static X8_within.1 ∈ qALL := q_mem 693 (by decide +kernel) (by decide +kernel)
theorem im_X8_isRow : qIm X8_isRow := ⟨q_mem 720 (by decide +kernel) (by decide +kernel), q_memP 36 (by decide +kernel) (by decide +kernel)⟩
theorem sm_X8_common : Cond.static X8_common.1 ∈ qALL := q_mem 810 (by decide +kernel) (by decide +kernel)
theorem im_X8_forget : qIm X8_forget := ⟨q_mem 704 (by decide +kernel) (by decide +kernel), q_memP 35 (by decide +kernel) (by decide +kernel)⟩
theorem im_X8_columns : qIm X8_columns := ⟨q_mem 689 (by decide +kernel) (by decide +kernel), q_mem 690 (by decide +kernel) (by decide +kernel)⟩
theorem im_X8_row : qIm X8_row := ⟨q_mem 698 (by decide +kernel) (by decide +kernel), q_mem 699 (by decide +kernel) (by decide +kernel)⟩
theorem im_X8_clear : qIm X8_clear := ⟨q_mem 707 (by decide +kernel) (by decide +kernel), q_mem 708 (by decide +kernel) (by decide +kernel)⟩
theorem im_X8_count : qIm X8_count := ⟨q_mem 711 (by decide +kernel) (by decide +kernel), q_mem 712 (by decide +kernel) (by decide +kernel)⟩
theorem im_X8_apart : qIm X8_apart := ⟨q_mem 725 (by decide +kernel) (by decide +kernel), q_memP 37 (by decide +kernel) (by decide +kernel)⟩
theorem im_X8_lay : qIm X8_lay := ⟨q_mem 733 (by decide +kernel) (by decide +kernel), q_memP 38 (by decide +kernel) (by decide +kernel)⟩
theorem im_X8_distance : qIm X8_distance := ⟨q_mem 715 (by decide +kernel) (by decide +kernel), q_mem 716 (by decide +kernel) (by decide +kernel)⟩
theorem im_X8_near : qIm X8_near := ⟨q_mem 728 (by decide +kernel) (by decide +kernel), q_mem 729 (by decide +kernel) (by decide +kernel)⟩
theorem im_X8_chooseFirst : qIm X8_chooseFirst := ⟨q_mem 741 (by decide +kernel) (by decide +kernel), q_memP 39 (by decide +kernel) (by decide +kernel)⟩
theorem im_X8_farthest : qIm X8_farthest := ⟨q_mem 745 (by decide +kernel) (by decide +kernel), q_memP 40 (by decide +kernel) (by decide +kernel)⟩
theorem im_X8_square : qIm X8_square := ⟨q_mem 753 (by decide +kernel) (by decide +kernel), q_memP 42 (by decide +kernel) (by decide +kernel)⟩
theorem im_X8_isNearer : qIm X8_isNearer := ⟨q_mem 749 (by decide +kernel) (by decide +kernel), q_memP 41 (by decide +kernel) (by decide +kernel)⟩
theorem im_X8_sizeNow : qIm X8_sizeNow := ⟨q_mem 761 (by decide +kernel) (by decide +kernel), q_memP 44 (by decide +kernel) (by decide +kernel)⟩
theorem im_X8_fill : qIm X8_fill := ⟨q_mem 757 (by decide +kernel) (by decide +kernel), q_memP 43 (by decide +kernel) (by decide +kernel)⟩
theorem im_X8_takeMeans : qIm X8_takeMeans := ⟨q_mem 765 (by decide +kernel) (by decide +kernel), q_memP 45 (by decide +kernel) (by decide +kernel)⟩
theorem im_X8_means : qIm X8_means := ⟨q_mem 736 (by decide +kernel) (by decide +kernel), q_mem 737 (by decide +kernel) (by decide +kernel)⟩
theorem im_X8_nearestOf : qIm X8_nearestOf := ⟨q_mem 777 (by decide +kernel) (by decide +kernel), q_memP 47 (by decide +kernel) (by decide +kernel)⟩
theorem im_X8_sumOf : qIm X8_sumOf := ⟨q_mem 773 (by decide +kernel) (by decide +kernel), q_memP 46 (by decide +kernel) (by decide +kernel)⟩
theorem im_X8_medoids : qIm X8_medoids := ⟨q_mem 768 (by decide +kernel) (by decide +kernel), q_mem 769 (by decide +kernel) (by decide +kernel)⟩
theorem im_X8_medoid : qIm X8_medoid := ⟨q_mem 780 (by decide +kernel) (by decide +kernel), q_mem 781 (by decide +kernel) (by decide +kernel)⟩
theorem im_X8_density : qIm X8_density := ⟨q_mem 784 (by decide +kernel) (by decide +kernel), q_mem 785 (by decide +kernel) (by decide +kernel)⟩
theorem im_X8_spread : qIm X8_spread := ⟨q_mem 790 (by decide +kernel) (by decide +kernel), q_memP 48 (by decide +kernel) (by decide +kernel)⟩
theorem im_X8_gather : qIm X8_gather := ⟨q_mem 802 (by decide +kernel) (by decide +kernel), q_memP 50 (by decide +kernel) (by decide +kernel)⟩
theorem im_X8_apartOf : qIm X8_apartOf := ⟨q_mem 807 (by decide +kernel) (by decide +kernel), q_memP 51 (by decide +kernel) (by decide +kernel)⟩
theorem im_X8_tree : qIm X8_tree := ⟨q_mem 793 (by decide +kernel) (by decide +kernel), q_mem 794 (by decide +kernel) (by decide +kernel)⟩
theorem im_X8_joinNext : qIm X8_joinNext := ⟨q_mem 798 (by decide +kernel) (by decide +kernel), q_memP 49 (by decide +kernel) (by decide +kernel)⟩
theorem im_X8_join : qIm X8_join := ⟨q_mem 813 (by decide +kernel) (by decide +kernel), q_mem 814 (by decide +kernel) (by decide +kernel)⟩
theorem im_X8_cut : qIm X8_cut := ⟨q_mem 819 (by decide +kernel) (by decide +kernel), q_mem 820 (by decide +kernel) (by decide +kernel)⟩
theorem im_X8_of0 : qIm X8_of0 := ⟨q_mem 828 (by decide +kernel) (by decide +kernel), q_memP 52 (by decide +kernel) (by decide +kernel)⟩
theorem im_X8_of : qIm X8_of := ⟨q_mem 823 (by decide +kernel) (by decide +kernel), q_mem 824 (by decide +kernel) (by decide +kernel)⟩
theorem im_X8_sizeIn : qIm X8_sizeIn := ⟨q_mem 840 (by decide +kernel) (by decide +kernel), q_memP 54 (by decide +kernel) (by decide +kernel)⟩
theorem im_X8_refused : qIm X8_refused := ⟨q_mem 836 (by decide +kernel) (by decide +kernel), q_memP 53 (by decide +kernel) (by decide +kernel)⟩
theorem im_X8_size : qIm X8_size := ⟨q_mem 831 (by decide +kernel) (by decide +kernel), q_mem 832 (by decide +kernel) (by decide +kernel)⟩
theorem im_X8_sumIn : qIm X8_sumIn := ⟨q_mem 848 (by decide +kernel) (by decide +kernel), q_memP 55 (by decide +kernel) (by decide +kernel)⟩
theorem im_X8_mean : qIm X8_mean := ⟨q_mem 843 (by decide +kernel) (by decide +kernel), q_mem 844 (by decide +kernel) (by decide +kernel)⟩
theorem im_X8_sum : qIm X8_sum := ⟨q_mem 851 (by decide +kernel) (by decide +kernel), q_mem 852 (by decide +kernel) (by decide +kernel)⟩
theorem im_X8_farFrom : qIm X8_farFrom := ⟨q_mem 861 (by decide +kernel) (by decide +kernel), q_memP 56 (by decide +kernel) (by decide +kernel)⟩
theorem im_X8_well : qIm X8_well := ⟨q_mem 855 (by decide +kernel) (by decide +kernel), q_mem 856 (by decide +kernel) (by decide +kernel)⟩
theorem im_X8_agree : qIm X8_agree := ⟨q_mem 864 (by decide +kernel) (by decide +kernel), q_mem 865 (by decide +kernel) (by decide +kernel)⟩
theorem cw7_58 : Cond.constant RX7 58 (Int32.ofInt (-2000000002)) ∈ qALL := q_mem 241 (by decide +kernel) (by decide +kernel)
theorem cw7_63 : Cond.constant RX7 63 (Int32.ofInt (-2000000003)) ∈ qALL := q_mem 242 (by decide +kernel) (by decide +kernel)
theorem cw7_71 : Cond.constant RX7 71 (Int32.ofInt (-2000000004)) ∈ qALL := q_mem 251 (by decide +kernel) (by decide +kernel)
theorem cw7_89 : Cond.constant RX7 89 (Int32.ofInt (-2000000001)) ∈ qALL := q_mem 298 (by decide +kernel) (by decide +kernel)
theorem cw7_126 : Cond.constant RX7 126 (Int32.ofInt (20000000)) ∈ qALL := q_mem 415 (by decide +kernel) (by decide +kernel)
theorem cw0_33 : Cond.constant RX0 33 (Int32.ofInt (2147483647)) ∈ qALL := q_mem 387 (by decide +kernel) (by decide +kernel)
theorem cw5_52 : Cond.constant RX5 52 (Int32.ofInt (2147483647)) ∈ qALL := q_mem 330 (by decide +kernel) (by decide +kernel)
theorem cw8_96 : Cond.constant RX8 96 (Int32.ofInt (-2000000002)) ∈ qALL := q_mem 695 (by decide +kernel) (by decide +kernel)
theorem cw8_97 : Cond.constant RX8 97 (Int32.ofInt (-2000000003)) ∈ qALL := q_mem 696 (by decide +kernel) (by decide +kernel)
theorem cw8_98 : Cond.constant RX8 98 (Int32.ofInt (-2000000004)) ∈ qALL := q_mem 701 (by decide +kernel) (by decide +kernel)
theorem cw8_113 : Cond.constant RX8 113 (Int32.ofInt (-2000000001)) ∈ qALL := q_mem 722 (by decide +kernel) (by decide +kernel)
theorem cw8_151 : Cond.constant RX8 151 (Int32.ofInt (20000000)) ∈ qALL := q_mem 787 (by decide +kernel) (by decide +kernel)
theorem cw7_135 : Cond.constantLong RX7 135 (Int64.ofInt (-2000000002)) ∈ qALL := q_mem 488 (by decide +kernel) (by decide +kernel)
theorem cw7_137 : Cond.constantLong RX7 137 (Int64.ofInt (-2000000003)) ∈ qALL := q_mem 489 (by decide +kernel) (by decide +kernel)
theorem cw7_139 : Cond.constantLong RX7 139 (Int64.ofInt (-1)) ∈ qALL := q_mem 490 (by decide +kernel) (by decide +kernel)
theorem cw7_191 : Cond.constantLong RX7 191 (Int64.ofInt (-2000000001)) ∈ qALL := q_mem 566 (by decide +kernel) (by decide +kernel)
theorem cw8_156 : Cond.constantLong RX8 156 (Int64.ofInt (-1)) ∈ qALL := q_mem 804 (by decide +kernel) (by decide +kernel)
theorem cw8_178 : Cond.constantLong RX8 178 (Int64.ofInt (-2000000002)) ∈ qALL := q_mem 816 (by decide +kernel) (by decide +kernel)
theorem cw8_180 : Cond.constantLong RX8 180 (Int64.ofInt (-2000000003)) ∈ qALL := q_mem 817 (by decide +kernel) (by decide +kernel)
theorem cw8_196 : Cond.constantLong RX8 196 (Int64.ofInt (-2000000001)) ∈ qALL := q_mem 858 (by decide +kernel) (by decide +kernel)
theorem mw7_222 : qMw RX7 222 Lib.MathLoose.max_long.x Lib.MathLoose.max_long.code 4 (some .long) := ⟨q_mem 581 (by decide +kernel) (by decide +kernel), q_mem 482 (by decide +kernel) (by decide +kernel), q_mem 10 (by decide +kernel) (by decide +kernel), q_mem 483 (by decide +kernel) (by decide +kernel)⟩
theorem mw0_60 : qMw RX0 60 Lib.Math.min.name Lib.Math.min.code 2 (some .int) := ⟨q_mem 397 (by decide +kernel) (by decide +kernel), q_mem 342 (by decide +kernel) (by decide +kernel), q_mem 10 (by decide +kernel) (by decide +kernel), q_mem 343 (by decide +kernel) (by decide +kernel)⟩
theorem mw2_16 : qMw RX2 16 Lib.MathLoose.abs_long.x Lib.MathLoose.abs_long.code 2 (some .long) := ⟨q_mem 464 (by decide +kernel) (by decide +kernel), q_mem 465 (by decide +kernel) (by decide +kernel), q_mem 10 (by decide +kernel) (by decide +kernel), q_mem 466 (by decide +kernel) (by decide +kernel)⟩
theorem mw4_113 : qMw RX4 113 Lib.MathLoose.min_long.x Lib.MathLoose.min_long.code 4 (some .long) := ⟨q_mem 478 (by decide +kernel) (by decide +kernel), q_mem 479 (by decide +kernel) (by decide +kernel), q_mem 10 (by decide +kernel) (by decide +kernel), q_mem 480 (by decide +kernel) (by decide +kernel)⟩
theorem mw4_118 : qMw RX4 118 Lib.MathLoose.max_long.x Lib.MathLoose.max_long.code 4 (some .long) := ⟨q_mem 481 (by decide +kernel) (by decide +kernel), q_mem 482 (by decide +kernel) (by decide +kernel), q_mem 10 (by decide +kernel) (by decide +kernel), q_mem 483 (by decide +kernel) (by decide +kernel)⟩
theorem mw5_72 : qMw RX5 72 Lib.Math.min.name Lib.Math.min.code 2 (some .int) := ⟨q_mem 341 (by decide +kernel) (by decide +kernel), q_mem 342 (by decide +kernel) (by decide +kernel), q_mem 10 (by decide +kernel) (by decide +kernel), q_mem 343 (by decide +kernel) (by decide +kernel)⟩
theorem mw6_40 : qMw RX6 40 Lib.Math.abs.name Lib.Math.abs.code 1 (some .int) := ⟨q_mem 268 (by decide +kernel) (by decide +kernel), q_mem 269 (by decide +kernel) (by decide +kernel), q_mem 10 (by decide +kernel) (by decide +kernel), q_mem 270 (by decide +kernel) (by decide +kernel)⟩
theorem mw6_46 : qMw RX6 46 Lib.Math.max.name Lib.Math.max.code 2 (some .int) := ⟨q_mem 271 (by decide +kernel) (by decide +kernel), q_mem 272 (by decide +kernel) (by decide +kernel), q_mem 10 (by decide +kernel) (by decide +kernel), q_mem 273 (by decide +kernel) (by decide +kernel)⟩
end
section
theorem dX0_init_0 : decode cX0_init 0 = .ok (.aload_n 0, 1) := by decide +kernel
theorem dX0_init_1 : decode cX0_init 1 = .ok (.invokespecial 3, 3) := by decide +kernel
theorem dX0_init_4 : decode cX0_init 4 = .ok (.aload_n 0, 1) := by decide +kernel
theorem dX0_init_5 : decode cX0_init 5 = .ok (.bipush 30, 2) := by decide +kernel
theorem dX0_init_7 : decode cX0_init 7 = .ok (.newarray .int, 2) := by decide +kernel
theorem dX0_init_9 : decode cX0_init 9 = .ok (.putfield 9, 3) := by decide +kernel
theorem dX0_init_12 : decode cX0_init 12 = .ok (.aload_n 0, 1) := by decide +kernel
theorem dX0_init_13 : decode cX0_init 13 = .ok (.iconst 3, 1) := by decide +kernel
theorem dX0_init_14 : decode cX0_init 14 = .ok (.newarray .int, 2) := by decide +kernel
theorem dX0_init_16 : decode cX0_init 16 = .ok (.putfield 15, 3) := by decide +kernel
theorem dX0_init_19 : decode cX0_init 19 = .ok (.aload_n 0, 1) := by decide +kernel
theorem dX0_init_20 : decode cX0_init 20 = .ok (.iconst 3, 1) := by decide +kernel
theorem dX0_init_21 : decode cX0_init 21 = .ok (.newarray .int, 2) := by decide +kernel
theorem dX0_init_23 : decode cX0_init 23 = .ok (.putfield 18, 3) := by decide +kernel
theorem dX0_init_26 : decode cX0_init 26 = .ok (.aload_n 0, 1) := by decide +kernel
theorem dX0_init_27 : decode cX0_init 27 = .ok (.bipush 90, 2) := by decide +kernel
theorem dX0_init_29 : decode cX0_init 29 = .ok (.newarray .int, 2) := by decide +kernel
theorem dX0_init_31 : decode cX0_init 31 = .ok (.putfield 21, 3) := by decide +kernel
theorem dX0_init_34 : decode cX0_init 34 = .ok (.aload_n 0, 1) := by decide +kernel
theorem dX0_init_35 : decode cX0_init 35 = .ok (.iconst 0, 1) := by decide +kernel
theorem dX0_init_36 : decode cX0_init 36 = .ok (.putfield 24, 3) := by decide +kernel
theorem dX0_init_39 : decode cX0_init 39 = .ok (.aload_n 0, 1) := by decide +kernel
theorem dX0_init_40 : decode cX0_init 40 = .ok (.iconst 0, 1) := by decide +kernel
theorem dX0_init_41 : decode cX0_init 41 = .ok (.putfield 28, 3) := by decide +kernel
theorem dX0_init_44 : decode cX0_init 44 = .ok (.return_, 1) := by decide +kernel
theorem dX0_search_0 : decode cX0_search 0 = .ok (.aload_n 0, 1) := by decide +kernel
theorem dX0_search_1 : decode cX0_search 1 = .ok (.iload_n 3, 1) := by decide +kernel
theorem dX0_search_2 : decode cX0_search 2 = .ok (.putfield 24, 3) := by decide +kernel
theorem dX0_search_5 : decode cX0_search 5 = .ok (.aload_n 0, 1) := by decide +kernel
theorem dX0_search_6 : decode cX0_search 6 = .ok (.ldc 33, 2) := by decide +kernel
theorem dX0_search_8 : decode cX0_search 8 = .ok (.putfield 28, 3) := by decide +kernel
theorem dX0_search_11 : decode cX0_search 11 = .ok (.iconst 0, 1) := by decide +kernel
theorem dX0_search_12 : decode cX0_search 12 = .ok (.istore 4, 2) := by decide +kernel
theorem dX0_search_14 : decode cX0_search 14 = .ok (.iload 4, 2) := by decide +kernel
theorem dX0_search_16 : decode cX0_search 16 = .ok (.aload_n 1, 1) := by decide +kernel
theorem dX0_search_17 : decode cX0_search 17 = .ok (.getfield 34, 3) := by decide +kernel
theorem dX0_search_20 : decode cX0_search 20 = .ok (.if_icmp .ge 18, 3) := by decide +kernel
theorem dX0_search_23 : decode cX0_search 23 = .ok (.aload_n 0, 1) := by decide +kernel
theorem dX0_search_24 : decode cX0_search 24 = .ok (.getfield 21, 3) := by decide +kernel
theorem dX0_search_27 : decode cX0_search 27 = .ok (.iload 4, 2) := by decide +kernel
theorem dX0_search_29 : decode cX0_search 29 = .ok (.ldc 33, 2) := by decide +kernel
theorem dX0_search_31 : decode cX0_search 31 = .ok (.iastore, 1) := by decide +kernel
theorem dX0_search_32 : decode cX0_search 32 = .ok (.iinc 4 1, 3) := by decide +kernel
theorem dX0_search_35 : decode cX0_search 35 = .ok (.goto (-21), 3) := by decide +kernel
theorem dX0_search_38 : decode cX0_search 38 = .ok (.aload_n 0, 1) := by decide +kernel
theorem dX0_search_39 : decode cX0_search 39 = .ok (.aload_n 1, 1) := by decide +kernel
theorem dX0_search_40 : decode cX0_search 40 = .ok (.iload_n 2, 1) := by decide +kernel
theorem dX0_search_41 : decode cX0_search 41 = .ok (.iconst 0, 1) := by decide +kernel
theorem dX0_search_42 : decode cX0_search 42 = .ok (.iconst 0, 1) := by decide +kernel
theorem dX0_search_43 : decode cX0_search 43 = .ok (.invokevirtual 39, 3) := by decide +kernel
theorem dX0_search_46 : decode cX0_search 46 = .ok (.iconst 0, 1) := by decide +kernel
theorem dX0_search_47 : decode cX0_search 47 = .ok (.istore 4, 2) := by decide +kernel
theorem dX0_search_49 : decode cX0_search 49 = .ok (.iload 4, 2) := by decide +kernel
theorem dX0_search_51 : decode cX0_search 51 = .ok (.aload_n 1, 1) := by decide +kernel
theorem dX0_search_52 : decode cX0_search 52 = .ok (.getfield 34, 3) := by decide +kernel
theorem dX0_search_55 : decode cX0_search 55 = .ok (.if_icmp .ge 24, 3) := by decide +kernel
theorem dX0_search_58 : decode cX0_search 58 = .ok (.aload_n 0, 1) := by decide +kernel
theorem dX0_search_59 : decode cX0_search 59 = .ok (.getfield 9, 3) := by decide +kernel
theorem dX0_search_62 : decode cX0_search 62 = .ok (.iload 4, 2) := by decide +kernel
theorem dX0_search_64 : decode cX0_search 64 = .ok (.aload_n 0, 1) := by decide +kernel
theorem dX0_search_65 : decode cX0_search 65 = .ok (.aload_n 1, 1) := by decide +kernel
theorem dX0_search_66 : decode cX0_search 66 = .ok (.iload_n 2, 1) := by decide +kernel
theorem dX0_search_67 : decode cX0_search 67 = .ok (.iload 4, 2) := by decide +kernel
theorem dX0_search_69 : decode cX0_search 69 = .ok (.invokevirtual 43, 3) := by decide +kernel
theorem dX0_search_72 : decode cX0_search 72 = .ok (.iastore, 1) := by decide +kernel
theorem dX0_search_73 : decode cX0_search 73 = .ok (.iinc 4 1, 3) := by decide +kernel
theorem dX0_search_76 : decode cX0_search 76 = .ok (.goto (-27), 3) := by decide +kernel
theorem dX0_search_79 : decode cX0_search 79 = .ok (.aload_n 0, 1) := by decide +kernel
theorem dX0_search_80 : decode cX0_search 80 = .ok (.getfield 28, 3) := by decide +kernel
theorem dX0_search_83 : decode cX0_search 83 = .ok (.ireturn, 1) := by decide +kernel
theorem dX0_tryRows_0 : decode cX0_tryRows 0 = .ok (.iload_n 3, 1) := by decide +kernel
theorem dX0_tryRows_1 : decode cX0_tryRows 1 = .ok (.aload_n 0, 1) := by decide +kernel
theorem dX0_tryRows_2 : decode cX0_tryRows 2 = .ok (.getfield 24, 3) := by decide +kernel
theorem dX0_tryRows_5 : decode cX0_tryRows 5 = .ok (.if_icmp .lt 4, 3) := by decide +kernel
theorem dX0_tryRows_8 : decode cX0_tryRows 8 = .ok (.return_, 1) := by decide +kernel
theorem dX0_tryRows_9 : decode cX0_tryRows 9 = .ok (.iload 4, 2) := by decide +kernel
theorem dX0_tryRows_11 : decode cX0_tryRows 11 = .ok (.istore 5, 2) := by decide +kernel
theorem dX0_tryRows_13 : decode cX0_tryRows 13 = .ok (.iload 5, 2) := by decide +kernel
theorem dX0_tryRows_15 : decode cX0_tryRows 15 = .ok (.aload_n 1, 1) := by decide +kernel
theorem dX0_tryRows_16 : decode cX0_tryRows 16 = .ok (.getfield 34, 3) := by decide +kernel
theorem dX0_tryRows_19 : decode cX0_tryRows 19 = .ok (.if_icmp .ge 61, 3) := by decide +kernel
theorem dX0_tryRows_22 : decode cX0_tryRows 22 = .ok (.aload_n 0, 1) := by decide +kernel
theorem dX0_tryRows_23 : decode cX0_tryRows 23 = .ok (.getfield 18, 3) := by decide +kernel
theorem dX0_tryRows_26 : decode cX0_tryRows 26 = .ok (.iload_n 3, 1) := by decide +kernel
theorem dX0_tryRows_27 : decode cX0_tryRows 27 = .ok (.iload 5, 2) := by decide +kernel
theorem dX0_tryRows_29 : decode cX0_tryRows 29 = .ok (.iastore, 1) := by decide +kernel
theorem dX0_tryRows_30 : decode cX0_tryRows 30 = .ok (.iload_n 3, 1) := by decide +kernel
theorem dX0_tryRows_31 : decode cX0_tryRows 31 = .ok (.iconst 1, 1) := by decide +kernel
theorem dX0_tryRows_32 : decode cX0_tryRows 32 = .ok (.iadd, 1) := by decide +kernel
theorem dX0_tryRows_33 : decode cX0_tryRows 33 = .ok (.aload_n 0, 1) := by decide +kernel
theorem dX0_tryRows_34 : decode cX0_tryRows 34 = .ok (.getfield 24, 3) := by decide +kernel
theorem dX0_tryRows_37 : decode cX0_tryRows 37 = .ok (.if_icmp .ge 28, 3) := by decide +kernel
theorem dX0_tryRows_40 : decode cX0_tryRows 40 = .ok (.aload_n 0, 1) := by decide +kernel
theorem dX0_tryRows_41 : decode cX0_tryRows 41 = .ok (.aload_n 1, 1) := by decide +kernel
theorem dX0_tryRows_42 : decode cX0_tryRows 42 = .ok (.iload_n 2, 1) := by decide +kernel
theorem dX0_tryRows_43 : decode cX0_tryRows 43 = .ok (.iload_n 3, 1) := by decide +kernel
theorem dX0_tryRows_44 : decode cX0_tryRows 44 = .ok (.iload 5, 2) := by decide +kernel
theorem dX0_tryRows_46 : decode cX0_tryRows 46 = .ok (.invokevirtual 47, 3) := by decide +kernel
theorem dX0_tryRows_49 : decode cX0_tryRows 49 = .ok (.aload_n 0, 1) := by decide +kernel
theorem dX0_tryRows_50 : decode cX0_tryRows 50 = .ok (.aload_n 1, 1) := by decide +kernel
theorem dX0_tryRows_51 : decode cX0_tryRows 51 = .ok (.iload_n 2, 1) := by decide +kernel
theorem dX0_tryRows_52 : decode cX0_tryRows 52 = .ok (.iload_n 3, 1) := by decide +kernel
theorem dX0_tryRows_53 : decode cX0_tryRows 53 = .ok (.iconst 1, 1) := by decide +kernel
theorem dX0_tryRows_54 : decode cX0_tryRows 54 = .ok (.iadd, 1) := by decide +kernel
theorem dX0_tryRows_55 : decode cX0_tryRows 55 = .ok (.iload 5, 2) := by decide +kernel
theorem dX0_tryRows_57 : decode cX0_tryRows 57 = .ok (.iconst 1, 1) := by decide +kernel
theorem dX0_tryRows_58 : decode cX0_tryRows 58 = .ok (.iadd, 1) := by decide +kernel
theorem dX0_tryRows_59 : decode cX0_tryRows 59 = .ok (.invokevirtual 39, 3) := by decide +kernel
theorem dX0_tryRows_62 : decode cX0_tryRows 62 = .ok (.goto 12, 3) := by decide +kernel
theorem dX0_tryRows_65 : decode cX0_tryRows 65 = .ok (.aload_n 0, 1) := by decide +kernel
theorem dX0_tryRows_66 : decode cX0_tryRows 66 = .ok (.aload_n 1, 1) := by decide +kernel
theorem dX0_tryRows_67 : decode cX0_tryRows 67 = .ok (.iload_n 2, 1) := by decide +kernel
theorem dX0_tryRows_68 : decode cX0_tryRows 68 = .ok (.iload_n 3, 1) := by decide +kernel
theorem dX0_tryRows_69 : decode cX0_tryRows 69 = .ok (.iload 5, 2) := by decide +kernel
theorem dX0_tryRows_71 : decode cX0_tryRows 71 = .ok (.invokevirtual 50, 3) := by decide +kernel
theorem dX0_tryRows_74 : decode cX0_tryRows 74 = .ok (.iinc 5 1, 3) := by decide +kernel
theorem dX0_tryRows_77 : decode cX0_tryRows 77 = .ok (.goto (-64), 3) := by decide +kernel
theorem dX0_tryRows_80 : decode cX0_tryRows 80 = .ok (.return_, 1) := by decide +kernel
theorem dX0_lowerLeasts_0 : decode cX0_lowerLeasts 0 = .ok (.aload_n 1, 1) := by decide +kernel
theorem dX0_lowerLeasts_1 : decode cX0_lowerLeasts 1 = .ok (.iload_n 2, 1) := by decide +kernel
theorem dX0_lowerLeasts_2 : decode cX0_lowerLeasts 2 = .ok (.iload 4, 2) := by decide +kernel
theorem dX0_lowerLeasts_4 : decode cX0_lowerLeasts 4 = .ok (.invokevirtual 53, 3) := by decide +kernel
theorem dX0_lowerLeasts_7 : decode cX0_lowerLeasts 7 = .ok (.istore 5, 2) := by decide +kernel
theorem dX0_lowerLeasts_9 : decode cX0_lowerLeasts 9 = .ok (.iload_n 3, 1) := by decide +kernel
theorem dX0_lowerLeasts_10 : decode cX0_lowerLeasts 10 = .ok (.bipush 30, 2) := by decide +kernel
theorem dX0_lowerLeasts_12 : decode cX0_lowerLeasts 12 = .ok (.imul, 1) := by decide +kernel
theorem dX0_lowerLeasts_13 : decode cX0_lowerLeasts 13 = .ok (.istore 6, 2) := by decide +kernel
theorem dX0_lowerLeasts_15 : decode cX0_lowerLeasts 15 = .ok (.iconst 0, 1) := by decide +kernel
theorem dX0_lowerLeasts_16 : decode cX0_lowerLeasts 16 = .ok (.istore 7, 2) := by decide +kernel
theorem dX0_lowerLeasts_18 : decode cX0_lowerLeasts 18 = .ok (.iload 7, 2) := by decide +kernel
theorem dX0_lowerLeasts_20 : decode cX0_lowerLeasts 20 = .ok (.aload_n 1, 1) := by decide +kernel
theorem dX0_lowerLeasts_21 : decode cX0_lowerLeasts 21 = .ok (.getfield 34, 3) := by decide +kernel
theorem dX0_lowerLeasts_24 : decode cX0_lowerLeasts 24 = .ok (.if_icmp .ge 45, 3) := by decide +kernel
theorem dX0_lowerLeasts_27 : decode cX0_lowerLeasts 27 = .ok (.aload_n 0, 1) := by decide +kernel
theorem dX0_lowerLeasts_28 : decode cX0_lowerLeasts 28 = .ok (.getfield 21, 3) := by decide +kernel
theorem dX0_lowerLeasts_31 : decode cX0_lowerLeasts 31 = .ok (.iload 6, 2) := by decide +kernel
theorem dX0_lowerLeasts_33 : decode cX0_lowerLeasts 33 = .ok (.bipush 30, 2) := by decide +kernel
theorem dX0_lowerLeasts_35 : decode cX0_lowerLeasts 35 = .ok (.iadd, 1) := by decide +kernel
theorem dX0_lowerLeasts_36 : decode cX0_lowerLeasts 36 = .ok (.iload 7, 2) := by decide +kernel
theorem dX0_lowerLeasts_38 : decode cX0_lowerLeasts 38 = .ok (.iadd, 1) := by decide +kernel
theorem dX0_lowerLeasts_39 : decode cX0_lowerLeasts 39 = .ok (.aload_n 0, 1) := by decide +kernel
theorem dX0_lowerLeasts_40 : decode cX0_lowerLeasts 40 = .ok (.getfield 21, 3) := by decide +kernel
theorem dX0_lowerLeasts_43 : decode cX0_lowerLeasts 43 = .ok (.iload 6, 2) := by decide +kernel
theorem dX0_lowerLeasts_45 : decode cX0_lowerLeasts 45 = .ok (.iload 7, 2) := by decide +kernel
theorem dX0_lowerLeasts_47 : decode cX0_lowerLeasts 47 = .ok (.iadd, 1) := by decide +kernel
theorem dX0_lowerLeasts_48 : decode cX0_lowerLeasts 48 = .ok (.iaload, 1) := by decide +kernel
theorem dX0_lowerLeasts_49 : decode cX0_lowerLeasts 49 = .ok (.aload_n 1, 1) := by decide +kernel
theorem dX0_lowerLeasts_50 : decode cX0_lowerLeasts 50 = .ok (.getfield 57, 3) := by decide +kernel
theorem dX0_lowerLeasts_53 : decode cX0_lowerLeasts 53 = .ok (.iload 5, 2) := by decide +kernel
theorem dX0_lowerLeasts_55 : decode cX0_lowerLeasts 55 = .ok (.iload 7, 2) := by decide +kernel
theorem dX0_lowerLeasts_57 : decode cX0_lowerLeasts 57 = .ok (.iadd, 1) := by decide +kernel
theorem dX0_lowerLeasts_58 : decode cX0_lowerLeasts 58 = .ok (.iaload, 1) := by decide +kernel
theorem dX0_lowerLeasts_59 : decode cX0_lowerLeasts 59 = .ok (.invokestatic 60, 3) := by decide +kernel
theorem dX0_lowerLeasts_62 : decode cX0_lowerLeasts 62 = .ok (.iastore, 1) := by decide +kernel
theorem dX0_lowerLeasts_63 : decode cX0_lowerLeasts 63 = .ok (.iinc 7 1, 3) := by decide +kernel
theorem dX0_lowerLeasts_66 : decode cX0_lowerLeasts 66 = .ok (.goto (-48), 3) := by decide +kernel
theorem dX0_lowerLeasts_69 : decode cX0_lowerLeasts 69 = .ok (.return_, 1) := by decide +kernel
theorem dX0_weighTrial_0 : decode cX0_weighTrial 0 = .ok (.aload_n 1, 1) := by decide +kernel
theorem dX0_weighTrial_1 : decode cX0_weighTrial 1 = .ok (.iload_n 2, 1) := by decide +kernel
theorem dX0_weighTrial_2 : decode cX0_weighTrial 2 = .ok (.iload 4, 2) := by decide +kernel
theorem dX0_weighTrial_4 : decode cX0_weighTrial 4 = .ok (.invokevirtual 53, 3) := by decide +kernel
theorem dX0_weighTrial_7 : decode cX0_weighTrial 7 = .ok (.istore 5, 2) := by decide +kernel
theorem dX0_weighTrial_9 : decode cX0_weighTrial 9 = .ok (.iload_n 3, 1) := by decide +kernel
theorem dX0_weighTrial_10 : decode cX0_weighTrial 10 = .ok (.bipush 30, 2) := by decide +kernel
theorem dX0_weighTrial_12 : decode cX0_weighTrial 12 = .ok (.imul, 1) := by decide +kernel
theorem dX0_weighTrial_13 : decode cX0_weighTrial 13 = .ok (.istore 6, 2) := by decide +kernel
theorem dX0_weighTrial_15 : decode cX0_weighTrial 15 = .ok (.iconst 0, 1) := by decide +kernel
theorem dX0_weighTrial_16 : decode cX0_weighTrial 16 = .ok (.istore 7, 2) := by decide +kernel
theorem dX0_weighTrial_18 : decode cX0_weighTrial 18 = .ok (.iconst 0, 1) := by decide +kernel
theorem dX0_weighTrial_19 : decode cX0_weighTrial 19 = .ok (.istore 8, 2) := by decide +kernel
theorem dX0_weighTrial_21 : decode cX0_weighTrial 21 = .ok (.iload 8, 2) := by decide +kernel
theorem dX0_weighTrial_23 : decode cX0_weighTrial 23 = .ok (.aload_n 1, 1) := by decide +kernel
theorem dX0_weighTrial_24 : decode cX0_weighTrial 24 = .ok (.getfield 34, 3) := by decide +kernel
theorem dX0_weighTrial_27 : decode cX0_weighTrial 27 = .ok (.if_icmp .ge 46, 3) := by decide +kernel
theorem dX0_weighTrial_30 : decode cX0_weighTrial 30 = .ok (.iload 7, 2) := by decide +kernel
theorem dX0_weighTrial_32 : decode cX0_weighTrial 32 = .ok (.aload_n 0, 1) := by decide +kernel
theorem dX0_weighTrial_33 : decode cX0_weighTrial 33 = .ok (.getfield 28, 3) := by decide +kernel
theorem dX0_weighTrial_36 : decode cX0_weighTrial 36 = .ok (.if_icmp .ge 37, 3) := by decide +kernel
theorem dX0_weighTrial_39 : decode cX0_weighTrial 39 = .ok (.iload 7, 2) := by decide +kernel
theorem dX0_weighTrial_41 : decode cX0_weighTrial 41 = .ok (.aload_n 0, 1) := by decide +kernel
theorem dX0_weighTrial_42 : decode cX0_weighTrial 42 = .ok (.getfield 21, 3) := by decide +kernel
theorem dX0_weighTrial_45 : decode cX0_weighTrial 45 = .ok (.iload 6, 2) := by decide +kernel
theorem dX0_weighTrial_47 : decode cX0_weighTrial 47 = .ok (.iload 8, 2) := by decide +kernel
theorem dX0_weighTrial_49 : decode cX0_weighTrial 49 = .ok (.iadd, 1) := by decide +kernel
theorem dX0_weighTrial_50 : decode cX0_weighTrial 50 = .ok (.iaload, 1) := by decide +kernel
theorem dX0_weighTrial_51 : decode cX0_weighTrial 51 = .ok (.aload_n 1, 1) := by decide +kernel
theorem dX0_weighTrial_52 : decode cX0_weighTrial 52 = .ok (.getfield 57, 3) := by decide +kernel
theorem dX0_weighTrial_55 : decode cX0_weighTrial 55 = .ok (.iload 5, 2) := by decide +kernel
theorem dX0_weighTrial_57 : decode cX0_weighTrial 57 = .ok (.iload 8, 2) := by decide +kernel
theorem dX0_weighTrial_59 : decode cX0_weighTrial 59 = .ok (.iadd, 1) := by decide +kernel
theorem dX0_weighTrial_60 : decode cX0_weighTrial 60 = .ok (.iaload, 1) := by decide +kernel
theorem dX0_weighTrial_61 : decode cX0_weighTrial 61 = .ok (.invokestatic 60, 3) := by decide +kernel
theorem dX0_weighTrial_64 : decode cX0_weighTrial 64 = .ok (.iadd, 1) := by decide +kernel
theorem dX0_weighTrial_65 : decode cX0_weighTrial 65 = .ok (.istore 7, 2) := by decide +kernel
theorem dX0_weighTrial_67 : decode cX0_weighTrial 67 = .ok (.iinc 8 1, 3) := by decide +kernel
theorem dX0_weighTrial_70 : decode cX0_weighTrial 70 = .ok (.goto (-49), 3) := by decide +kernel
theorem dX0_weighTrial_73 : decode cX0_weighTrial 73 = .ok (.iload 7, 2) := by decide +kernel
theorem dX0_weighTrial_75 : decode cX0_weighTrial 75 = .ok (.aload_n 0, 1) := by decide +kernel
theorem dX0_weighTrial_76 : decode cX0_weighTrial 76 = .ok (.getfield 28, 3) := by decide +kernel
theorem dX0_weighTrial_79 : decode cX0_weighTrial 79 = .ok (.if_icmp .ge 41, 3) := by decide +kernel
theorem dX0_weighTrial_82 : decode cX0_weighTrial 82 = .ok (.aload_n 0, 1) := by decide +kernel
theorem dX0_weighTrial_83 : decode cX0_weighTrial 83 = .ok (.iload 7, 2) := by decide +kernel
theorem dX0_weighTrial_85 : decode cX0_weighTrial 85 = .ok (.putfield 28, 3) := by decide +kernel
theorem dX0_weighTrial_88 : decode cX0_weighTrial 88 = .ok (.iconst 0, 1) := by decide +kernel
theorem dX0_weighTrial_89 : decode cX0_weighTrial 89 = .ok (.istore 8, 2) := by decide +kernel
theorem dX0_weighTrial_91 : decode cX0_weighTrial 91 = .ok (.iload 8, 2) := by decide +kernel
theorem dX0_weighTrial_93 : decode cX0_weighTrial 93 = .ok (.aload_n 0, 1) := by decide +kernel
theorem dX0_weighTrial_94 : decode cX0_weighTrial 94 = .ok (.getfield 24, 3) := by decide +kernel
theorem dX0_weighTrial_97 : decode cX0_weighTrial 97 = .ok (.if_icmp .ge 23, 3) := by decide +kernel
theorem dX0_weighTrial_100 : decode cX0_weighTrial 100 = .ok (.aload_n 0, 1) := by decide +kernel
theorem dX0_weighTrial_101 : decode cX0_weighTrial 101 = .ok (.getfield 15, 3) := by decide +kernel
theorem dX0_weighTrial_104 : decode cX0_weighTrial 104 = .ok (.iload 8, 2) := by decide +kernel
theorem dX0_weighTrial_106 : decode cX0_weighTrial 106 = .ok (.aload_n 0, 1) := by decide +kernel
theorem dX0_weighTrial_107 : decode cX0_weighTrial 107 = .ok (.getfield 18, 3) := by decide +kernel
theorem dX0_weighTrial_110 : decode cX0_weighTrial 110 = .ok (.iload 8, 2) := by decide +kernel
theorem dX0_weighTrial_112 : decode cX0_weighTrial 112 = .ok (.iaload, 1) := by decide +kernel
theorem dX0_weighTrial_113 : decode cX0_weighTrial 113 = .ok (.iastore, 1) := by decide +kernel
theorem dX0_weighTrial_114 : decode cX0_weighTrial 114 = .ok (.iinc 8 1, 3) := by decide +kernel
theorem dX0_weighTrial_117 : decode cX0_weighTrial 117 = .ok (.goto (-26), 3) := by decide +kernel
theorem dX0_weighTrial_120 : decode cX0_weighTrial 120 = .ok (.return_, 1) := by decide +kernel
theorem dX0_nearestBest_0 : decode cX0_nearestBest 0 = .ok (.iconst 0, 1) := by decide +kernel
theorem dX0_nearestBest_1 : decode cX0_nearestBest 1 = .ok (.istore 4, 2) := by decide +kernel
theorem dX0_nearestBest_3 : decode cX0_nearestBest 3 = .ok (.iconst 1, 1) := by decide +kernel
theorem dX0_nearestBest_4 : decode cX0_nearestBest 4 = .ok (.istore 5, 2) := by decide +kernel
theorem dX0_nearestBest_6 : decode cX0_nearestBest 6 = .ok (.iload 5, 2) := by decide +kernel
theorem dX0_nearestBest_8 : decode cX0_nearestBest 8 = .ok (.aload_n 0, 1) := by decide +kernel
theorem dX0_nearestBest_9 : decode cX0_nearestBest 9 = .ok (.getfield 24, 3) := by decide +kernel
theorem dX0_nearestBest_12 : decode cX0_nearestBest 12 = .ok (.if_icmp .ge 42, 3) := by decide +kernel
theorem dX0_nearestBest_15 : decode cX0_nearestBest 15 = .ok (.aload_n 1, 1) := by decide +kernel
theorem dX0_nearestBest_16 : decode cX0_nearestBest 16 = .ok (.iload_n 2, 1) := by decide +kernel
theorem dX0_nearestBest_17 : decode cX0_nearestBest 17 = .ok (.aload_n 0, 1) := by decide +kernel
theorem dX0_nearestBest_18 : decode cX0_nearestBest 18 = .ok (.getfield 15, 3) := by decide +kernel
theorem dX0_nearestBest_21 : decode cX0_nearestBest 21 = .ok (.iload 5, 2) := by decide +kernel
theorem dX0_nearestBest_23 : decode cX0_nearestBest 23 = .ok (.iaload, 1) := by decide +kernel
theorem dX0_nearestBest_24 : decode cX0_nearestBest 24 = .ok (.iload_n 3, 1) := by decide +kernel
theorem dX0_nearestBest_25 : decode cX0_nearestBest 25 = .ok (.invokevirtual 65, 3) := by decide +kernel
theorem dX0_nearestBest_28 : decode cX0_nearestBest 28 = .ok (.aload_n 1, 1) := by decide +kernel
theorem dX0_nearestBest_29 : decode cX0_nearestBest 29 = .ok (.iload_n 2, 1) := by decide +kernel
theorem dX0_nearestBest_30 : decode cX0_nearestBest 30 = .ok (.aload_n 0, 1) := by decide +kernel
theorem dX0_nearestBest_31 : decode cX0_nearestBest 31 = .ok (.getfield 15, 3) := by decide +kernel
theorem dX0_nearestBest_34 : decode cX0_nearestBest 34 = .ok (.iload 4, 2) := by decide +kernel
theorem dX0_nearestBest_36 : decode cX0_nearestBest 36 = .ok (.iaload, 1) := by decide +kernel
theorem dX0_nearestBest_37 : decode cX0_nearestBest 37 = .ok (.iload_n 3, 1) := by decide +kernel
theorem dX0_nearestBest_38 : decode cX0_nearestBest 38 = .ok (.invokevirtual 65, 3) := by decide +kernel
theorem dX0_nearestBest_41 : decode cX0_nearestBest 41 = .ok (.if_icmp .ge 7, 3) := by decide +kernel
theorem dX0_nearestBest_44 : decode cX0_nearestBest 44 = .ok (.iload 5, 2) := by decide +kernel
theorem dX0_nearestBest_46 : decode cX0_nearestBest 46 = .ok (.istore 4, 2) := by decide +kernel
theorem dX0_nearestBest_48 : decode cX0_nearestBest 48 = .ok (.iinc 5 1, 3) := by decide +kernel
theorem dX0_nearestBest_51 : decode cX0_nearestBest 51 = .ok (.goto (-45), 3) := by decide +kernel
theorem dX0_nearestBest_54 : decode cX0_nearestBest 54 = .ok (.iload 4, 2) := by decide +kernel
theorem dX0_nearestBest_56 : decode cX0_nearestBest 56 = .ok (.ireturn, 1) := by decide +kernel
theorem dX1_init_0 : decode cX1_init 0 = .ok (.aload_n 0, 1) := by decide +kernel
theorem dX1_init_1 : decode cX1_init 1 = .ok (.invokespecial 3, 3) := by decide +kernel
theorem dX1_init_4 : decode cX1_init 4 = .ok (.aload_n 0, 1) := by decide +kernel
theorem dX1_init_5 : decode cX1_init 5 = .ok (.bipush 30, 2) := by decide +kernel
theorem dX1_init_7 : decode cX1_init 7 = .ok (.newarray .int, 2) := by decide +kernel
theorem dX1_init_9 : decode cX1_init 9 = .ok (.putfield 9, 3) := by decide +kernel
theorem dX1_init_12 : decode cX1_init 12 = .ok (.aload_n 0, 1) := by decide +kernel
theorem dX1_init_13 : decode cX1_init 13 = .ok (.bipush 30, 2) := by decide +kernel
theorem dX1_init_15 : decode cX1_init 15 = .ok (.newarray .boolean, 2) := by decide +kernel
theorem dX1_init_17 : decode cX1_init 17 = .ok (.putfield 15, 3) := by decide +kernel
theorem dX1_init_20 : decode cX1_init 20 = .ok (.aload_n 0, 1) := by decide +kernel
theorem dX1_init_21 : decode cX1_init 21 = .ok (.bipush 30, 2) := by decide +kernel
theorem dX1_init_23 : decode cX1_init 23 = .ok (.newarray .int, 2) := by decide +kernel
theorem dX1_init_25 : decode cX1_init 25 = .ok (.putfield 19, 3) := by decide +kernel
theorem dX1_init_28 : decode cX1_init 28 = .ok (.return_, 1) := by decide +kernel
theorem dX1_spread_0 : decode cX1_spread 0 = .ok (.iconst 0, 1) := by decide +kernel
theorem dX1_spread_1 : decode cX1_spread 1 = .ok (.istore 5, 2) := by decide +kernel
theorem dX1_spread_3 : decode cX1_spread 3 = .ok (.iload 5, 2) := by decide +kernel
theorem dX1_spread_5 : decode cX1_spread 5 = .ok (.aload_n 1, 1) := by decide +kernel
theorem dX1_spread_6 : decode cX1_spread 6 = .ok (.getfield 22, 3) := by decide +kernel
theorem dX1_spread_9 : decode cX1_spread 9 = .ok (.if_icmp .ge 43, 3) := by decide +kernel
theorem dX1_spread_12 : decode cX1_spread 12 = .ok (.aload_n 0, 1) := by decide +kernel
theorem dX1_spread_13 : decode cX1_spread 13 = .ok (.getfield 9, 3) := by decide +kernel
theorem dX1_spread_16 : decode cX1_spread 16 = .ok (.iload 5, 2) := by decide +kernel
theorem dX1_spread_18 : decode cX1_spread 18 = .ok (.iconst (-1), 1) := by decide +kernel
theorem dX1_spread_19 : decode cX1_spread 19 = .ok (.iastore, 1) := by decide +kernel
theorem dX1_spread_20 : decode cX1_spread 20 = .ok (.aload_n 0, 1) := by decide +kernel
theorem dX1_spread_21 : decode cX1_spread 21 = .ok (.getfield 15, 3) := by decide +kernel
theorem dX1_spread_24 : decode cX1_spread 24 = .ok (.iload 5, 2) := by decide +kernel
theorem dX1_spread_26 : decode cX1_spread 26 = .ok (.aload_n 0, 1) := by decide +kernel
theorem dX1_spread_27 : decode cX1_spread 27 = .ok (.aload_n 1, 1) := by decide +kernel
theorem dX1_spread_28 : decode cX1_spread 28 = .ok (.iload_n 2, 1) := by decide +kernel
theorem dX1_spread_29 : decode cX1_spread 29 = .ok (.iload_n 3, 1) := by decide +kernel
theorem dX1_spread_30 : decode cX1_spread 30 = .ok (.iload 5, 2) := by decide +kernel
theorem dX1_spread_32 : decode cX1_spread 32 = .ok (.invokevirtual 28, 3) := by decide +kernel
theorem dX1_spread_35 : decode cX1_spread 35 = .ok (.iload 4, 2) := by decide +kernel
theorem dX1_spread_37 : decode cX1_spread 37 = .ok (.if_icmp .lt 7, 3) := by decide +kernel
theorem dX1_spread_40 : decode cX1_spread 40 = .ok (.iconst 1, 1) := by decide +kernel
theorem dX1_spread_41 : decode cX1_spread 41 = .ok (.goto 4, 3) := by decide +kernel
theorem dX1_spread_44 : decode cX1_spread 44 = .ok (.iconst 0, 1) := by decide +kernel
theorem dX1_spread_45 : decode cX1_spread 45 = .ok (.bastore, 1) := by decide +kernel
theorem dX1_spread_46 : decode cX1_spread 46 = .ok (.iinc 5 1, 3) := by decide +kernel
theorem dX1_spread_49 : decode cX1_spread 49 = .ok (.goto (-46), 3) := by decide +kernel
theorem dX1_spread_52 : decode cX1_spread 52 = .ok (.iconst 0, 1) := by decide +kernel
theorem dX1_spread_53 : decode cX1_spread 53 = .ok (.istore 5, 2) := by decide +kernel
theorem dX1_spread_55 : decode cX1_spread 55 = .ok (.iconst 0, 1) := by decide +kernel
theorem dX1_spread_56 : decode cX1_spread 56 = .ok (.istore 6, 2) := by decide +kernel
theorem dX1_spread_58 : decode cX1_spread 58 = .ok (.iload 6, 2) := by decide +kernel
theorem dX1_spread_60 : decode cX1_spread 60 = .ok (.aload_n 1, 1) := by decide +kernel
theorem dX1_spread_61 : decode cX1_spread 61 = .ok (.getfield 22, 3) := by decide +kernel
theorem dX1_spread_64 : decode cX1_spread 64 = .ok (.if_icmp .ge 44, 3) := by decide +kernel
theorem dX1_spread_67 : decode cX1_spread 67 = .ok (.aload_n 0, 1) := by decide +kernel
theorem dX1_spread_68 : decode cX1_spread 68 = .ok (.getfield 15, 3) := by decide +kernel
theorem dX1_spread_71 : decode cX1_spread 71 = .ok (.iload 6, 2) := by decide +kernel
theorem dX1_spread_73 : decode cX1_spread 73 = .ok (.baload, 1) := by decide +kernel
theorem dX1_spread_74 : decode cX1_spread 74 = .ok (.ifCond .eq 28, 3) := by decide +kernel
theorem dX1_spread_77 : decode cX1_spread 77 = .ok (.aload_n 0, 1) := by decide +kernel
theorem dX1_spread_78 : decode cX1_spread 78 = .ok (.getfield 9, 3) := by decide +kernel
theorem dX1_spread_81 : decode cX1_spread 81 = .ok (.iload 6, 2) := by decide +kernel
theorem dX1_spread_83 : decode cX1_spread 83 = .ok (.iaload, 1) := by decide +kernel
theorem dX1_spread_84 : decode cX1_spread 84 = .ok (.iconst (-1), 1) := by decide +kernel
theorem dX1_spread_85 : decode cX1_spread 85 = .ok (.if_icmp .ne 17, 3) := by decide +kernel
theorem dX1_spread_88 : decode cX1_spread 88 = .ok (.aload_n 0, 1) := by decide +kernel
theorem dX1_spread_89 : decode cX1_spread 89 = .ok (.aload_n 1, 1) := by decide +kernel
theorem dX1_spread_90 : decode cX1_spread 90 = .ok (.iload_n 2, 1) := by decide +kernel
theorem dX1_spread_91 : decode cX1_spread 91 = .ok (.iload_n 3, 1) := by decide +kernel
theorem dX1_spread_92 : decode cX1_spread 92 = .ok (.iload 6, 2) := by decide +kernel
theorem dX1_spread_94 : decode cX1_spread 94 = .ok (.iload 5, 2) := by decide +kernel
theorem dX1_spread_96 : decode cX1_spread 96 = .ok (.invokevirtual 32, 3) := by decide +kernel
theorem dX1_spread_99 : decode cX1_spread 99 = .ok (.iinc 5 1, 3) := by decide +kernel
theorem dX1_spread_102 : decode cX1_spread 102 = .ok (.iinc 6 1, 3) := by decide +kernel
theorem dX1_spread_105 : decode cX1_spread 105 = .ok (.goto (-47), 3) := by decide +kernel
theorem dX1_spread_108 : decode cX1_spread 108 = .ok (.iconst 0, 1) := by decide +kernel
theorem dX1_spread_109 : decode cX1_spread 109 = .ok (.istore 6, 2) := by decide +kernel
theorem dX1_spread_111 : decode cX1_spread 111 = .ok (.iload 6, 2) := by decide +kernel
theorem dX1_spread_113 : decode cX1_spread 113 = .ok (.aload_n 1, 1) := by decide +kernel
theorem dX1_spread_114 : decode cX1_spread 114 = .ok (.getfield 22, 3) := by decide +kernel
theorem dX1_spread_117 : decode cX1_spread 117 = .ok (.if_icmp .ge 35, 3) := by decide +kernel
theorem dX1_spread_120 : decode cX1_spread 120 = .ok (.aload_n 0, 1) := by decide +kernel
theorem dX1_spread_121 : decode cX1_spread 121 = .ok (.getfield 15, 3) := by decide +kernel
theorem dX1_spread_124 : decode cX1_spread 124 = .ok (.iload 6, 2) := by decide +kernel
theorem dX1_spread_126 : decode cX1_spread 126 = .ok (.baload, 1) := by decide +kernel
theorem dX1_spread_127 : decode cX1_spread 127 = .ok (.ifCond .ne 19, 3) := by decide +kernel
theorem dX1_spread_130 : decode cX1_spread 130 = .ok (.aload_n 0, 1) := by decide +kernel
theorem dX1_spread_131 : decode cX1_spread 131 = .ok (.getfield 9, 3) := by decide +kernel
theorem dX1_spread_134 : decode cX1_spread 134 = .ok (.iload 6, 2) := by decide +kernel
theorem dX1_spread_136 : decode cX1_spread 136 = .ok (.aload_n 0, 1) := by decide +kernel
theorem dX1_spread_137 : decode cX1_spread 137 = .ok (.aload_n 1, 1) := by decide +kernel
theorem dX1_spread_138 : decode cX1_spread 138 = .ok (.iload_n 2, 1) := by decide +kernel
theorem dX1_spread_139 : decode cX1_spread 139 = .ok (.iload_n 3, 1) := by decide +kernel
theorem dX1_spread_140 : decode cX1_spread 140 = .ok (.iload 6, 2) := by decide +kernel
theorem dX1_spread_142 : decode cX1_spread 142 = .ok (.invokevirtual 36, 3) := by decide +kernel
theorem dX1_spread_145 : decode cX1_spread 145 = .ok (.iastore, 1) := by decide +kernel
theorem dX1_spread_146 : decode cX1_spread 146 = .ok (.iinc 6 1, 3) := by decide +kernel
theorem dX1_spread_149 : decode cX1_spread 149 = .ok (.goto (-38), 3) := by decide +kernel
theorem dX1_spread_152 : decode cX1_spread 152 = .ok (.iload 5, 2) := by decide +kernel
theorem dX1_spread_154 : decode cX1_spread 154 = .ok (.ireturn, 1) := by decide +kernel
theorem dX1_rowsWithin_0 : decode cX1_rowsWithin 0 = .ok (.iconst 0, 1) := by decide +kernel
theorem dX1_rowsWithin_1 : decode cX1_rowsWithin 1 = .ok (.istore 5, 2) := by decide +kernel
theorem dX1_rowsWithin_3 : decode cX1_rowsWithin 3 = .ok (.iconst 0, 1) := by decide +kernel
theorem dX1_rowsWithin_4 : decode cX1_rowsWithin 4 = .ok (.istore 6, 2) := by decide +kernel
theorem dX1_rowsWithin_6 : decode cX1_rowsWithin 6 = .ok (.iload 6, 2) := by decide +kernel
theorem dX1_rowsWithin_8 : decode cX1_rowsWithin 8 = .ok (.aload_n 1, 1) := by decide +kernel
theorem dX1_rowsWithin_9 : decode cX1_rowsWithin 9 = .ok (.getfield 22, 3) := by decide +kernel
theorem dX1_rowsWithin_12 : decode cX1_rowsWithin 12 = .ok (.if_icmp .ge 25, 3) := by decide +kernel
theorem dX1_rowsWithin_15 : decode cX1_rowsWithin 15 = .ok (.aload_n 1, 1) := by decide +kernel
theorem dX1_rowsWithin_16 : decode cX1_rowsWithin 16 = .ok (.iload_n 2, 1) := by decide +kernel
theorem dX1_rowsWithin_17 : decode cX1_rowsWithin 17 = .ok (.iload 4, 2) := by decide +kernel
theorem dX1_rowsWithin_19 : decode cX1_rowsWithin 19 = .ok (.iload 6, 2) := by decide +kernel
theorem dX1_rowsWithin_21 : decode cX1_rowsWithin 21 = .ok (.invokevirtual 39, 3) := by decide +kernel
theorem dX1_rowsWithin_24 : decode cX1_rowsWithin 24 = .ok (.iload_n 3, 1) := by decide +kernel
theorem dX1_rowsWithin_25 : decode cX1_rowsWithin 25 = .ok (.if_icmp .gt 6, 3) := by decide +kernel
theorem dX1_rowsWithin_28 : decode cX1_rowsWithin 28 = .ok (.iinc 5 1, 3) := by decide +kernel
theorem dX1_rowsWithin_31 : decode cX1_rowsWithin 31 = .ok (.iinc 6 1, 3) := by decide +kernel
theorem dX1_rowsWithin_34 : decode cX1_rowsWithin 34 = .ok (.goto (-28), 3) := by decide +kernel
theorem dX1_rowsWithin_37 : decode cX1_rowsWithin 37 = .ok (.iload 5, 2) := by decide +kernel
theorem dX1_rowsWithin_39 : decode cX1_rowsWithin 39 = .ok (.ireturn, 1) := by decide +kernel
theorem dX1_spreadFrom_0 : decode cX1_spreadFrom 0 = .ok (.aload_n 0, 1) := by decide +kernel
theorem dX1_spreadFrom_1 : decode cX1_spreadFrom 1 = .ok (.getfield 9, 3) := by decide +kernel
theorem dX1_spreadFrom_4 : decode cX1_spreadFrom 4 = .ok (.iload 4, 2) := by decide +kernel
theorem dX1_spreadFrom_6 : decode cX1_spreadFrom 6 = .ok (.iload 5, 2) := by decide +kernel
theorem dX1_spreadFrom_8 : decode cX1_spreadFrom 8 = .ok (.iastore, 1) := by decide +kernel
theorem dX1_spreadFrom_9 : decode cX1_spreadFrom 9 = .ok (.aload_n 0, 1) := by decide +kernel
theorem dX1_spreadFrom_10 : decode cX1_spreadFrom 10 = .ok (.getfield 19, 3) := by decide +kernel
theorem dX1_spreadFrom_13 : decode cX1_spreadFrom 13 = .ok (.iconst 0, 1) := by decide +kernel
theorem dX1_spreadFrom_14 : decode cX1_spreadFrom 14 = .ok (.iload 4, 2) := by decide +kernel
theorem dX1_spreadFrom_16 : decode cX1_spreadFrom 16 = .ok (.iastore, 1) := by decide +kernel
theorem dX1_spreadFrom_17 : decode cX1_spreadFrom 17 = .ok (.iconst 1, 1) := by decide +kernel
theorem dX1_spreadFrom_18 : decode cX1_spreadFrom 18 = .ok (.istore 6, 2) := by decide +kernel
theorem dX1_spreadFrom_20 : decode cX1_spreadFrom 20 = .ok (.iconst 0, 1) := by decide +kernel
theorem dX1_spreadFrom_21 : decode cX1_spreadFrom 21 = .ok (.istore 7, 2) := by decide +kernel
theorem dX1_spreadFrom_23 : decode cX1_spreadFrom 23 = .ok (.iload 7, 2) := by decide +kernel
theorem dX1_spreadFrom_25 : decode cX1_spreadFrom 25 = .ok (.iload 6, 2) := by decide +kernel
theorem dX1_spreadFrom_27 : decode cX1_spreadFrom 27 = .ok (.if_icmp .ge 94, 3) := by decide +kernel
theorem dX1_spreadFrom_30 : decode cX1_spreadFrom 30 = .ok (.iload 7, 2) := by decide +kernel
theorem dX1_spreadFrom_32 : decode cX1_spreadFrom 32 = .ok (.bipush 30, 2) := by decide +kernel
theorem dX1_spreadFrom_34 : decode cX1_spreadFrom 34 = .ok (.if_icmp .ge 87, 3) := by decide +kernel
theorem dX1_spreadFrom_37 : decode cX1_spreadFrom 37 = .ok (.iconst 0, 1) := by decide +kernel
theorem dX1_spreadFrom_38 : decode cX1_spreadFrom 38 = .ok (.istore 8, 2) := by decide +kernel
theorem dX1_spreadFrom_40 : decode cX1_spreadFrom 40 = .ok (.iload 8, 2) := by decide +kernel
theorem dX1_spreadFrom_42 : decode cX1_spreadFrom 42 = .ok (.aload_n 1, 1) := by decide +kernel
theorem dX1_spreadFrom_43 : decode cX1_spreadFrom 43 = .ok (.getfield 22, 3) := by decide +kernel
theorem dX1_spreadFrom_46 : decode cX1_spreadFrom 46 = .ok (.if_icmp .ge 69, 3) := by decide +kernel
theorem dX1_spreadFrom_49 : decode cX1_spreadFrom 49 = .ok (.aload_n 0, 1) := by decide +kernel
theorem dX1_spreadFrom_50 : decode cX1_spreadFrom 50 = .ok (.getfield 15, 3) := by decide +kernel
theorem dX1_spreadFrom_53 : decode cX1_spreadFrom 53 = .ok (.iload 8, 2) := by decide +kernel
theorem dX1_spreadFrom_55 : decode cX1_spreadFrom 55 = .ok (.baload, 1) := by decide +kernel
theorem dX1_spreadFrom_56 : decode cX1_spreadFrom 56 = .ok (.ifCond .eq 53, 3) := by decide +kernel
theorem dX1_spreadFrom_59 : decode cX1_spreadFrom 59 = .ok (.aload_n 0, 1) := by decide +kernel
theorem dX1_spreadFrom_60 : decode cX1_spreadFrom 60 = .ok (.getfield 9, 3) := by decide +kernel
theorem dX1_spreadFrom_63 : decode cX1_spreadFrom 63 = .ok (.iload 8, 2) := by decide +kernel
theorem dX1_spreadFrom_65 : decode cX1_spreadFrom 65 = .ok (.iaload, 1) := by decide +kernel
theorem dX1_spreadFrom_66 : decode cX1_spreadFrom 66 = .ok (.iconst (-1), 1) := by decide +kernel
theorem dX1_spreadFrom_67 : decode cX1_spreadFrom 67 = .ok (.if_icmp .ne 42, 3) := by decide +kernel
theorem dX1_spreadFrom_70 : decode cX1_spreadFrom 70 = .ok (.aload_n 1, 1) := by decide +kernel
theorem dX1_spreadFrom_71 : decode cX1_spreadFrom 71 = .ok (.iload_n 2, 1) := by decide +kernel
theorem dX1_spreadFrom_72 : decode cX1_spreadFrom 72 = .ok (.aload_n 0, 1) := by decide +kernel
theorem dX1_spreadFrom_73 : decode cX1_spreadFrom 73 = .ok (.getfield 19, 3) := by decide +kernel
theorem dX1_spreadFrom_76 : decode cX1_spreadFrom 76 = .ok (.iload 7, 2) := by decide +kernel
theorem dX1_spreadFrom_78 : decode cX1_spreadFrom 78 = .ok (.iaload, 1) := by decide +kernel
theorem dX1_spreadFrom_79 : decode cX1_spreadFrom 79 = .ok (.iload 8, 2) := by decide +kernel
theorem dX1_spreadFrom_81 : decode cX1_spreadFrom 81 = .ok (.invokevirtual 39, 3) := by decide +kernel
theorem dX1_spreadFrom_84 : decode cX1_spreadFrom 84 = .ok (.iload_n 3, 1) := by decide +kernel
theorem dX1_spreadFrom_85 : decode cX1_spreadFrom 85 = .ok (.if_icmp .gt 24, 3) := by decide +kernel
theorem dX1_spreadFrom_88 : decode cX1_spreadFrom 88 = .ok (.aload_n 0, 1) := by decide +kernel
theorem dX1_spreadFrom_89 : decode cX1_spreadFrom 89 = .ok (.getfield 9, 3) := by decide +kernel
theorem dX1_spreadFrom_92 : decode cX1_spreadFrom 92 = .ok (.iload 8, 2) := by decide +kernel
theorem dX1_spreadFrom_94 : decode cX1_spreadFrom 94 = .ok (.iload 5, 2) := by decide +kernel
theorem dX1_spreadFrom_96 : decode cX1_spreadFrom 96 = .ok (.iastore, 1) := by decide +kernel
theorem dX1_spreadFrom_97 : decode cX1_spreadFrom 97 = .ok (.aload_n 0, 1) := by decide +kernel
theorem dX1_spreadFrom_98 : decode cX1_spreadFrom 98 = .ok (.getfield 19, 3) := by decide +kernel
theorem dX1_spreadFrom_101 : decode cX1_spreadFrom 101 = .ok (.iload 6, 2) := by decide +kernel
theorem dX1_spreadFrom_103 : decode cX1_spreadFrom 103 = .ok (.iload 8, 2) := by decide +kernel
theorem dX1_spreadFrom_105 : decode cX1_spreadFrom 105 = .ok (.iastore, 1) := by decide +kernel
theorem dX1_spreadFrom_106 : decode cX1_spreadFrom 106 = .ok (.iinc 6 1, 3) := by decide +kernel
theorem dX1_spreadFrom_109 : decode cX1_spreadFrom 109 = .ok (.iinc 8 1, 3) := by decide +kernel
theorem dX1_spreadFrom_112 : decode cX1_spreadFrom 112 = .ok (.goto (-72), 3) := by decide +kernel
theorem dX1_spreadFrom_115 : decode cX1_spreadFrom 115 = .ok (.iinc 7 1, 3) := by decide +kernel
theorem dX1_spreadFrom_118 : decode cX1_spreadFrom 118 = .ok (.goto (-95), 3) := by decide +kernel
theorem dX1_spreadFrom_121 : decode cX1_spreadFrom 121 = .ok (.return_, 1) := by decide +kernel
theorem dX1_leastGroupWithin_0 : decode cX1_leastGroupWithin 0 = .ok (.iconst (-1), 1) := by decide +kernel
theorem dX1_leastGroupWithin_1 : decode cX1_leastGroupWithin 1 = .ok (.istore 5, 2) := by decide +kernel
theorem dX1_leastGroupWithin_3 : decode cX1_leastGroupWithin 3 = .ok (.iconst 0, 1) := by decide +kernel
theorem dX1_leastGroupWithin_4 : decode cX1_leastGroupWithin 4 = .ok (.istore 6, 2) := by decide +kernel
theorem dX1_leastGroupWithin_6 : decode cX1_leastGroupWithin 6 = .ok (.iload 6, 2) := by decide +kernel
theorem dX1_leastGroupWithin_8 : decode cX1_leastGroupWithin 8 = .ok (.aload_n 1, 1) := by decide +kernel
theorem dX1_leastGroupWithin_9 : decode cX1_leastGroupWithin 9 = .ok (.getfield 22, 3) := by decide +kernel
theorem dX1_leastGroupWithin_12 : decode cX1_leastGroupWithin 12 = .ok (.if_icmp .ge 59, 3) := by decide +kernel
theorem dX1_leastGroupWithin_15 : decode cX1_leastGroupWithin 15 = .ok (.aload_n 0, 1) := by decide +kernel
theorem dX1_leastGroupWithin_16 : decode cX1_leastGroupWithin 16 = .ok (.getfield 15, 3) := by decide +kernel
theorem dX1_leastGroupWithin_19 : decode cX1_leastGroupWithin 19 = .ok (.iload 6, 2) := by decide +kernel
theorem dX1_leastGroupWithin_21 : decode cX1_leastGroupWithin 21 = .ok (.baload, 1) := by decide +kernel
theorem dX1_leastGroupWithin_22 : decode cX1_leastGroupWithin 22 = .ok (.ifCond .eq 43, 3) := by decide +kernel
theorem dX1_leastGroupWithin_25 : decode cX1_leastGroupWithin 25 = .ok (.aload_n 1, 1) := by decide +kernel
theorem dX1_leastGroupWithin_26 : decode cX1_leastGroupWithin 26 = .ok (.iload_n 2, 1) := by decide +kernel
theorem dX1_leastGroupWithin_27 : decode cX1_leastGroupWithin 27 = .ok (.iload 4, 2) := by decide +kernel
theorem dX1_leastGroupWithin_29 : decode cX1_leastGroupWithin 29 = .ok (.iload 6, 2) := by decide +kernel
theorem dX1_leastGroupWithin_31 : decode cX1_leastGroupWithin 31 = .ok (.invokevirtual 39, 3) := by decide +kernel
theorem dX1_leastGroupWithin_34 : decode cX1_leastGroupWithin 34 = .ok (.iload_n 3, 1) := by decide +kernel
theorem dX1_leastGroupWithin_35 : decode cX1_leastGroupWithin 35 = .ok (.if_icmp .gt 30, 3) := by decide +kernel
theorem dX1_leastGroupWithin_38 : decode cX1_leastGroupWithin 38 = .ok (.iload 5, 2) := by decide +kernel
theorem dX1_leastGroupWithin_40 : decode cX1_leastGroupWithin 40 = .ok (.iconst (-1), 1) := by decide +kernel
theorem dX1_leastGroupWithin_41 : decode cX1_leastGroupWithin 41 = .ok (.if_icmp .eq 15, 3) := by decide +kernel
theorem dX1_leastGroupWithin_44 : decode cX1_leastGroupWithin 44 = .ok (.aload_n 0, 1) := by decide +kernel
theorem dX1_leastGroupWithin_45 : decode cX1_leastGroupWithin 45 = .ok (.getfield 9, 3) := by decide +kernel
theorem dX1_leastGroupWithin_48 : decode cX1_leastGroupWithin 48 = .ok (.iload 6, 2) := by decide +kernel
theorem dX1_leastGroupWithin_50 : decode cX1_leastGroupWithin 50 = .ok (.iaload, 1) := by decide +kernel
theorem dX1_leastGroupWithin_51 : decode cX1_leastGroupWithin 51 = .ok (.iload 5, 2) := by decide +kernel
theorem dX1_leastGroupWithin_53 : decode cX1_leastGroupWithin 53 = .ok (.if_icmp .ge 12, 3) := by decide +kernel
theorem dX1_leastGroupWithin_56 : decode cX1_leastGroupWithin 56 = .ok (.aload_n 0, 1) := by decide +kernel
theorem dX1_leastGroupWithin_57 : decode cX1_leastGroupWithin 57 = .ok (.getfield 9, 3) := by decide +kernel
theorem dX1_leastGroupWithin_60 : decode cX1_leastGroupWithin 60 = .ok (.iload 6, 2) := by decide +kernel
theorem dX1_leastGroupWithin_62 : decode cX1_leastGroupWithin 62 = .ok (.iaload, 1) := by decide +kernel
theorem dX1_leastGroupWithin_63 : decode cX1_leastGroupWithin 63 = .ok (.istore 5, 2) := by decide +kernel
theorem dX1_leastGroupWithin_65 : decode cX1_leastGroupWithin 65 = .ok (.iinc 6 1, 3) := by decide +kernel
theorem dX1_leastGroupWithin_68 : decode cX1_leastGroupWithin 68 = .ok (.goto (-62), 3) := by decide +kernel
theorem dX1_leastGroupWithin_71 : decode cX1_leastGroupWithin 71 = .ok (.iload 5, 2) := by decide +kernel
theorem dX1_leastGroupWithin_73 : decode cX1_leastGroupWithin 73 = .ok (.ireturn, 1) := by decide +kernel
theorem dX2_init_0 : decode cX2_init 0 = .ok (.aload_n 0, 1) := by decide +kernel
theorem dX2_init_1 : decode cX2_init 1 = .ok (.invokespecial 1, 3) := by decide +kernel
theorem dX2_init_4 : decode cX2_init 4 = .ok (.aload_n 0, 1) := by decide +kernel
theorem dX2_init_5 : decode cX2_init 5 = .ok (.lconst 0, 1) := by decide +kernel
theorem dX2_init_6 : decode cX2_init 6 = .ok (.putfield 7, 3) := by decide +kernel
theorem dX2_init_9 : decode cX2_init 9 = .ok (.aload_n 0, 1) := by decide +kernel
theorem dX2_init_10 : decode cX2_init 10 = .ok (.lconst 1, 1) := by decide +kernel
theorem dX2_init_11 : decode cX2_init 11 = .ok (.putfield 13, 3) := by decide +kernel
theorem dX2_init_14 : decode cX2_init 14 = .ok (.return_, 1) := by decide +kernel
theorem dX2_put_0 : decode cX2_put 0 = .ok (.lload_n 1, 1) := by decide +kernel
theorem dX2_put_1 : decode cX2_put 1 = .ok (.invokestatic 16, 3) := by decide +kernel
theorem dX2_put_4 : decode cX2_put 4 = .ok (.lload_n 3, 1) := by decide +kernel
theorem dX2_put_5 : decode cX2_put 5 = .ok (.invokestatic 22, 3) := by decide +kernel
theorem dX2_put_8 : decode cX2_put 8 = .ok (.lstore 5, 2) := by decide +kernel
theorem dX2_put_10 : decode cX2_put 10 = .ok (.lload 5, 2) := by decide +kernel
theorem dX2_put_12 : decode cX2_put 12 = .ok (.lconst 0, 1) := by decide +kernel
theorem dX2_put_13 : decode cX2_put 13 = .ok (.lcmp, 1) := by decide +kernel
theorem dX2_put_14 : decode cX2_put 14 = .ok (.ifCond .le 19, 3) := by decide +kernel
theorem dX2_put_17 : decode cX2_put 17 = .ok (.aload_n 0, 1) := by decide +kernel
theorem dX2_put_18 : decode cX2_put 18 = .ok (.lload_n 1, 1) := by decide +kernel
theorem dX2_put_19 : decode cX2_put 19 = .ok (.lload 5, 2) := by decide +kernel
theorem dX2_put_21 : decode cX2_put 21 = .ok (.ldiv, 1) := by decide +kernel
theorem dX2_put_22 : decode cX2_put 22 = .ok (.putfield 7, 3) := by decide +kernel
theorem dX2_put_25 : decode cX2_put 25 = .ok (.aload_n 0, 1) := by decide +kernel
theorem dX2_put_26 : decode cX2_put 26 = .ok (.lload_n 3, 1) := by decide +kernel
theorem dX2_put_27 : decode cX2_put 27 = .ok (.lload 5, 2) := by decide +kernel
theorem dX2_put_29 : decode cX2_put 29 = .ok (.ldiv, 1) := by decide +kernel
theorem dX2_put_30 : decode cX2_put 30 = .ok (.putfield 13, 3) := by decide +kernel
theorem dX2_put_33 : decode cX2_put 33 = .ok (.return_, 1) := by decide +kernel
theorem dX2_add_0 : decode cX2_add 0 = .ok (.aload_n 0, 1) := by decide +kernel
theorem dX2_add_1 : decode cX2_add 1 = .ok (.aload_n 0, 1) := by decide +kernel
theorem dX2_add_2 : decode cX2_add 2 = .ok (.getfield 7, 3) := by decide +kernel
theorem dX2_add_5 : decode cX2_add 5 = .ok (.lload_n 3, 1) := by decide +kernel
theorem dX2_add_6 : decode cX2_add 6 = .ok (.lmul, 1) := by decide +kernel
theorem dX2_add_7 : decode cX2_add 7 = .ok (.lload_n 1, 1) := by decide +kernel
theorem dX2_add_8 : decode cX2_add 8 = .ok (.aload_n 0, 1) := by decide +kernel
theorem dX2_add_9 : decode cX2_add 9 = .ok (.getfield 13, 3) := by decide +kernel
theorem dX2_add_12 : decode cX2_add 12 = .ok (.lmul, 1) := by decide +kernel
theorem dX2_add_13 : decode cX2_add 13 = .ok (.ladd, 1) := by decide +kernel
theorem dX2_add_14 : decode cX2_add 14 = .ok (.aload_n 0, 1) := by decide +kernel
theorem dX2_add_15 : decode cX2_add 15 = .ok (.getfield 13, 3) := by decide +kernel
theorem dX2_add_18 : decode cX2_add 18 = .ok (.lload_n 3, 1) := by decide +kernel
theorem dX2_add_19 : decode cX2_add 19 = .ok (.lmul, 1) := by decide +kernel
theorem dX2_add_20 : decode cX2_add 20 = .ok (.invokevirtual 26, 3) := by decide +kernel
theorem dX2_add_23 : decode cX2_add 23 = .ok (.return_, 1) := by decide +kernel
theorem dX2_part_0 : decode cX2_part 0 = .ok (.iload_n 1, 1) := by decide +kernel
theorem dX2_part_1 : decode cX2_part 1 = .ok (.ifCond .ne 10, 3) := by decide +kernel
theorem dX2_part_4 : decode cX2_part 4 = .ok (.aload_n 0, 1) := by decide +kernel
theorem dX2_part_5 : decode cX2_part 5 = .ok (.getfield 7, 3) := by decide +kernel
theorem dX2_part_8 : decode cX2_part 8 = .ok (.goto 7, 3) := by decide +kernel
theorem dX2_part_11 : decode cX2_part 11 = .ok (.aload_n 0, 1) := by decide +kernel
theorem dX2_part_12 : decode cX2_part 12 = .ok (.getfield 13, 3) := by decide +kernel
theorem dX2_part_15 : decode cX2_part 15 = .ok (.lreturn, 1) := by decide +kernel
theorem dX2_commonDivisor_0 : decode cX2_commonDivisor 0 = .ok (.lload_n 0, 1) := by decide +kernel
theorem dX2_commonDivisor_1 : decode cX2_commonDivisor 1 = .ok (.lstore 4, 2) := by decide +kernel
theorem dX2_commonDivisor_3 : decode cX2_commonDivisor 3 = .ok (.lload_n 2, 1) := by decide +kernel
theorem dX2_commonDivisor_4 : decode cX2_commonDivisor 4 = .ok (.lstore 6, 2) := by decide +kernel
theorem dX2_commonDivisor_6 : decode cX2_commonDivisor 6 = .ok (.iconst 0, 1) := by decide +kernel
theorem dX2_commonDivisor_7 : decode cX2_commonDivisor 7 = .ok (.istore 8, 2) := by decide +kernel
theorem dX2_commonDivisor_9 : decode cX2_commonDivisor 9 = .ok (.iload 8, 2) := by decide +kernel
theorem dX2_commonDivisor_11 : decode cX2_commonDivisor 11 = .ok (.sipush 200, 3) := by decide +kernel
theorem dX2_commonDivisor_14 : decode cX2_commonDivisor 14 = .ok (.if_icmp .ge 31, 3) := by decide +kernel
theorem dX2_commonDivisor_17 : decode cX2_commonDivisor 17 = .ok (.lload 6, 2) := by decide +kernel
theorem dX2_commonDivisor_19 : decode cX2_commonDivisor 19 = .ok (.lconst 0, 1) := by decide +kernel
theorem dX2_commonDivisor_20 : decode cX2_commonDivisor 20 = .ok (.lcmp, 1) := by decide +kernel
theorem dX2_commonDivisor_21 : decode cX2_commonDivisor 21 = .ok (.ifCond .eq 24, 3) := by decide +kernel
theorem dX2_commonDivisor_24 : decode cX2_commonDivisor 24 = .ok (.lload 4, 2) := by decide +kernel
theorem dX2_commonDivisor_26 : decode cX2_commonDivisor 26 = .ok (.lload 6, 2) := by decide +kernel
theorem dX2_commonDivisor_28 : decode cX2_commonDivisor 28 = .ok (.lrem, 1) := by decide +kernel
theorem dX2_commonDivisor_29 : decode cX2_commonDivisor 29 = .ok (.lstore 9, 2) := by decide +kernel
theorem dX2_commonDivisor_31 : decode cX2_commonDivisor 31 = .ok (.lload 6, 2) := by decide +kernel
theorem dX2_commonDivisor_33 : decode cX2_commonDivisor 33 = .ok (.lstore 4, 2) := by decide +kernel
theorem dX2_commonDivisor_35 : decode cX2_commonDivisor 35 = .ok (.lload 9, 2) := by decide +kernel
theorem dX2_commonDivisor_37 : decode cX2_commonDivisor 37 = .ok (.lstore 6, 2) := by decide +kernel
theorem dX2_commonDivisor_39 : decode cX2_commonDivisor 39 = .ok (.iinc 8 1, 3) := by decide +kernel
theorem dX2_commonDivisor_42 : decode cX2_commonDivisor 42 = .ok (.goto (-33), 3) := by decide +kernel
theorem dX2_commonDivisor_45 : decode cX2_commonDivisor 45 = .ok (.lload 4, 2) := by decide +kernel
theorem dX2_commonDivisor_47 : decode cX2_commonDivisor 47 = .ok (.lreturn, 1) := by decide +kernel
theorem dX3_init_0 : decode cX3_init 0 = .ok (.aload_n 0, 1) := by decide +kernel
theorem dX3_init_1 : decode cX3_init 1 = .ok (.invokespecial 3, 3) := by decide +kernel
theorem dX3_init_4 : decode cX3_init 4 = .ok (.aload_n 0, 1) := by decide +kernel
theorem dX3_init_5 : decode cX3_init 5 = .ok (.bipush 30, 2) := by decide +kernel
theorem dX3_init_7 : decode cX3_init 7 = .ok (.newarray .int, 2) := by decide +kernel
theorem dX3_init_9 : decode cX3_init 9 = .ok (.putfield 9, 3) := by decide +kernel
theorem dX3_init_12 : decode cX3_init 12 = .ok (.aload_n 0, 1) := by decide +kernel
theorem dX3_init_13 : decode cX3_init 13 = .ok (.bipush 30, 2) := by decide +kernel
theorem dX3_init_15 : decode cX3_init 15 = .ok (.newarray .int, 2) := by decide +kernel
theorem dX3_init_17 : decode cX3_init 17 = .ok (.putfield 15, 3) := by decide +kernel
theorem dX3_init_20 : decode cX3_init 20 = .ok (.aload_n 0, 1) := by decide +kernel
theorem dX3_init_21 : decode cX3_init 21 = .ok (.iconst 0, 1) := by decide +kernel
theorem dX3_init_22 : decode cX3_init 22 = .ok (.putfield 18, 3) := by decide +kernel
theorem dX3_init_25 : decode cX3_init 25 = .ok (.aload_n 0, 1) := by decide +kernel
theorem dX3_init_26 : decode cX3_init 26 = .ok (.iconst (-1), 1) := by decide +kernel
theorem dX3_init_27 : decode cX3_init 27 = .ok (.putfield 22, 3) := by decide +kernel
theorem dX3_init_30 : decode cX3_init 30 = .ok (.return_, 1) := by decide +kernel
theorem dX3_isEmpty_0 : decode cX3_isEmpty 0 = .ok (.aload_n 0, 1) := by decide +kernel
theorem dX3_isEmpty_1 : decode cX3_isEmpty 1 = .ok (.getfield 22, 3) := by decide +kernel
theorem dX3_isEmpty_4 : decode cX3_isEmpty 4 = .ok (.iconst (-1), 1) := by decide +kernel
theorem dX3_isEmpty_5 : decode cX3_isEmpty 5 = .ok (.if_icmp .ne 7, 3) := by decide +kernel
theorem dX3_isEmpty_8 : decode cX3_isEmpty 8 = .ok (.iconst 1, 1) := by decide +kernel
theorem dX3_isEmpty_9 : decode cX3_isEmpty 9 = .ok (.goto 4, 3) := by decide +kernel
theorem dX3_isEmpty_12 : decode cX3_isEmpty 12 = .ok (.iconst 0, 1) := by decide +kernel
theorem dX3_isEmpty_13 : decode cX3_isEmpty 13 = .ok (.ireturn, 1) := by decide +kernel
theorem dX3_fill_0 : decode cX3_fill 0 = .ok (.aload_n 0, 1) := by decide +kernel
theorem dX3_fill_1 : decode cX3_fill 1 = .ok (.iload_n 2, 1) := by decide +kernel
theorem dX3_fill_2 : decode cX3_fill 2 = .ok (.putfield 18, 3) := by decide +kernel
theorem dX3_fill_5 : decode cX3_fill 5 = .ok (.aload_n 0, 1) := by decide +kernel
theorem dX3_fill_6 : decode cX3_fill 6 = .ok (.iload_n 3, 1) := by decide +kernel
theorem dX3_fill_7 : decode cX3_fill 7 = .ok (.putfield 22, 3) := by decide +kernel
theorem dX3_fill_10 : decode cX3_fill 10 = .ok (.iconst 0, 1) := by decide +kernel
theorem dX3_fill_11 : decode cX3_fill 11 = .ok (.istore 4, 2) := by decide +kernel
theorem dX3_fill_13 : decode cX3_fill 13 = .ok (.iload 4, 2) := by decide +kernel
theorem dX3_fill_15 : decode cX3_fill 15 = .ok (.aload_n 0, 1) := by decide +kernel
theorem dX3_fill_16 : decode cX3_fill 16 = .ok (.getfield 22, 3) := by decide +kernel
theorem dX3_fill_19 : decode cX3_fill 19 = .ok (.if_icmp .ge 17, 3) := by decide +kernel
theorem dX3_fill_22 : decode cX3_fill 22 = .ok (.aload_n 0, 1) := by decide +kernel
theorem dX3_fill_23 : decode cX3_fill 23 = .ok (.getfield 15, 3) := by decide +kernel
theorem dX3_fill_26 : decode cX3_fill 26 = .ok (.iload 4, 2) := by decide +kernel
theorem dX3_fill_28 : decode cX3_fill 28 = .ok (.iconst 0, 1) := by decide +kernel
theorem dX3_fill_29 : decode cX3_fill 29 = .ok (.iastore, 1) := by decide +kernel
theorem dX3_fill_30 : decode cX3_fill 30 = .ok (.iinc 4 1, 3) := by decide +kernel
theorem dX3_fill_33 : decode cX3_fill 33 = .ok (.goto (-20), 3) := by decide +kernel
theorem dX3_fill_36 : decode cX3_fill 36 = .ok (.iconst 0, 1) := by decide +kernel
theorem dX3_fill_37 : decode cX3_fill 37 = .ok (.istore 4, 2) := by decide +kernel
theorem dX3_fill_39 : decode cX3_fill 39 = .ok (.iload 4, 2) := by decide +kernel
theorem dX3_fill_41 : decode cX3_fill 41 = .ok (.aload_n 0, 1) := by decide +kernel
theorem dX3_fill_42 : decode cX3_fill 42 = .ok (.getfield 18, 3) := by decide +kernel
theorem dX3_fill_45 : decode cX3_fill 45 = .ok (.if_icmp .ge 41, 3) := by decide +kernel
theorem dX3_fill_48 : decode cX3_fill 48 = .ok (.aload_n 0, 1) := by decide +kernel
theorem dX3_fill_49 : decode cX3_fill 49 = .ok (.getfield 9, 3) := by decide +kernel
theorem dX3_fill_52 : decode cX3_fill 52 = .ok (.iload 4, 2) := by decide +kernel
theorem dX3_fill_54 : decode cX3_fill 54 = .ok (.aload_n 1, 1) := by decide +kernel
theorem dX3_fill_55 : decode cX3_fill 55 = .ok (.iload 4, 2) := by decide +kernel
theorem dX3_fill_57 : decode cX3_fill 57 = .ok (.iaload, 1) := by decide +kernel
theorem dX3_fill_58 : decode cX3_fill 58 = .ok (.iastore, 1) := by decide +kernel
theorem dX3_fill_59 : decode cX3_fill 59 = .ok (.aload_n 1, 1) := by decide +kernel
theorem dX3_fill_60 : decode cX3_fill 60 = .ok (.iload 4, 2) := by decide +kernel
theorem dX3_fill_62 : decode cX3_fill 62 = .ok (.iaload, 1) := by decide +kernel
theorem dX3_fill_63 : decode cX3_fill 63 = .ok (.iconst (-1), 1) := by decide +kernel
theorem dX3_fill_64 : decode cX3_fill 64 = .ok (.if_icmp .eq 16, 3) := by decide +kernel
theorem dX3_fill_67 : decode cX3_fill 67 = .ok (.aload_n 0, 1) := by decide +kernel
theorem dX3_fill_68 : decode cX3_fill 68 = .ok (.getfield 15, 3) := by decide +kernel
theorem dX3_fill_71 : decode cX3_fill 71 = .ok (.aload_n 1, 1) := by decide +kernel
theorem dX3_fill_72 : decode cX3_fill 72 = .ok (.iload 4, 2) := by decide +kernel
theorem dX3_fill_74 : decode cX3_fill 74 = .ok (.iaload, 1) := by decide +kernel
theorem dX3_fill_75 : decode cX3_fill 75 = .ok (.dup2, 1) := by decide +kernel
theorem dX3_fill_76 : decode cX3_fill 76 = .ok (.iaload, 1) := by decide +kernel
theorem dX3_fill_77 : decode cX3_fill 77 = .ok (.iconst 1, 1) := by decide +kernel
theorem dX3_fill_78 : decode cX3_fill 78 = .ok (.iadd, 1) := by decide +kernel
theorem dX3_fill_79 : decode cX3_fill 79 = .ok (.iastore, 1) := by decide +kernel
theorem dX3_fill_80 : decode cX3_fill 80 = .ok (.iinc 4 1, 3) := by decide +kernel
theorem dX3_fill_83 : decode cX3_fill 83 = .ok (.goto (-44), 3) := by decide +kernel
theorem dX3_fill_86 : decode cX3_fill 86 = .ok (.return_, 1) := by decide +kernel
theorem dX3_holdsBoth_0 : decode cX3_holdsBoth 0 = .ok (.aload_n 0, 1) := by decide +kernel
theorem dX3_holdsBoth_1 : decode cX3_holdsBoth 1 = .ok (.getfield 9, 3) := by decide +kernel
theorem dX3_holdsBoth_4 : decode cX3_holdsBoth 4 = .ok (.iload_n 1, 1) := by decide +kernel
theorem dX3_holdsBoth_5 : decode cX3_holdsBoth 5 = .ok (.iaload, 1) := by decide +kernel
theorem dX3_holdsBoth_6 : decode cX3_holdsBoth 6 = .ok (.iconst (-1), 1) := by decide +kernel
theorem dX3_holdsBoth_7 : decode cX3_holdsBoth 7 = .ok (.if_icmp .eq 17, 3) := by decide +kernel
theorem dX3_holdsBoth_10 : decode cX3_holdsBoth 10 = .ok (.aload_n 0, 1) := by decide +kernel
theorem dX3_holdsBoth_11 : decode cX3_holdsBoth 11 = .ok (.getfield 9, 3) := by decide +kernel
theorem dX3_holdsBoth_14 : decode cX3_holdsBoth 14 = .ok (.iload_n 2, 1) := by decide +kernel
theorem dX3_holdsBoth_15 : decode cX3_holdsBoth 15 = .ok (.iaload, 1) := by decide +kernel
theorem dX3_holdsBoth_16 : decode cX3_holdsBoth 16 = .ok (.iconst (-1), 1) := by decide +kernel
theorem dX3_holdsBoth_17 : decode cX3_holdsBoth 17 = .ok (.if_icmp .eq 7, 3) := by decide +kernel
theorem dX3_holdsBoth_20 : decode cX3_holdsBoth 20 = .ok (.iconst 1, 1) := by decide +kernel
theorem dX3_holdsBoth_21 : decode cX3_holdsBoth 21 = .ok (.goto 4, 3) := by decide +kernel
theorem dX3_holdsBoth_24 : decode cX3_holdsBoth 24 = .ok (.iconst 0, 1) := by decide +kernel
theorem dX3_holdsBoth_25 : decode cX3_holdsBoth 25 = .ok (.ireturn, 1) := by decide +kernel
theorem dX3_total_0 : decode cX3_total 0 = .ok (.lconst 0, 1) := by decide +kernel
theorem dX3_total_1 : decode cX3_total 1 = .ok (.lstore 4, 2) := by decide +kernel
theorem dX3_total_3 : decode cX3_total 3 = .ok (.iconst 0, 1) := by decide +kernel
theorem dX3_total_4 : decode cX3_total 4 = .ok (.istore 6, 2) := by decide +kernel
theorem dX3_total_6 : decode cX3_total 6 = .ok (.iload 6, 2) := by decide +kernel
theorem dX3_total_8 : decode cX3_total 8 = .ok (.aload_n 0, 1) := by decide +kernel
theorem dX3_total_9 : decode cX3_total 9 = .ok (.getfield 18, 3) := by decide +kernel
theorem dX3_total_12 : decode cX3_total 12 = .ok (.if_icmp .ge 33, 3) := by decide +kernel
theorem dX3_total_15 : decode cX3_total 15 = .ok (.aload_n 0, 1) := by decide +kernel
theorem dX3_total_16 : decode cX3_total 16 = .ok (.getfield 9, 3) := by decide +kernel
theorem dX3_total_19 : decode cX3_total 19 = .ok (.iload 6, 2) := by decide +kernel
theorem dX3_total_21 : decode cX3_total 21 = .ok (.iaload, 1) := by decide +kernel
theorem dX3_total_22 : decode cX3_total 22 = .ok (.iload_n 2, 1) := by decide +kernel
theorem dX3_total_23 : decode cX3_total 23 = .ok (.if_icmp .ne 16, 3) := by decide +kernel
theorem dX3_total_26 : decode cX3_total 26 = .ok (.lload 4, 2) := by decide +kernel
theorem dX3_total_28 : decode cX3_total 28 = .ok (.aload_n 1, 1) := by decide +kernel
theorem dX3_total_29 : decode cX3_total 29 = .ok (.iload 6, 2) := by decide +kernel
theorem dX3_total_31 : decode cX3_total 31 = .ok (.iload_n 3, 1) := by decide +kernel
theorem dX3_total_32 : decode cX3_total 32 = .ok (.invokevirtual 25, 3) := by decide +kernel
theorem dX3_total_35 : decode cX3_total 35 = .ok (.i2l, 1) := by decide +kernel
theorem dX3_total_36 : decode cX3_total 36 = .ok (.ladd, 1) := by decide +kernel
theorem dX3_total_37 : decode cX3_total 37 = .ok (.lstore 4, 2) := by decide +kernel
theorem dX3_total_39 : decode cX3_total 39 = .ok (.iinc 6 1, 3) := by decide +kernel
theorem dX3_total_42 : decode cX3_total 42 = .ok (.goto (-36), 3) := by decide +kernel
theorem dX3_total_45 : decode cX3_total 45 = .ok (.lload 4, 2) := by decide +kernel
theorem dX3_total_47 : decode cX3_total 47 = .ok (.lreturn, 1) := by decide +kernel
theorem dX3_squaresTimesSize_0 : decode cX3_squaresTimesSize 0 = .ok (.lconst 0, 1) := by decide +kernel
theorem dX3_squaresTimesSize_1 : decode cX3_squaresTimesSize 1 = .ok (.lstore_n 3, 1) := by decide +kernel
theorem dX3_squaresTimesSize_2 : decode cX3_squaresTimesSize 2 = .ok (.iconst 0, 1) := by decide +kernel
theorem dX3_squaresTimesSize_3 : decode cX3_squaresTimesSize 3 = .ok (.istore 5, 2) := by decide +kernel
theorem dX3_squaresTimesSize_5 : decode cX3_squaresTimesSize 5 = .ok (.iload 5, 2) := by decide +kernel
theorem dX3_squaresTimesSize_7 : decode cX3_squaresTimesSize 7 = .ok (.aload_n 1, 1) := by decide +kernel
theorem dX3_squaresTimesSize_8 : decode cX3_squaresTimesSize 8 = .ok (.getfield 31, 3) := by decide +kernel
theorem dX3_squaresTimesSize_11 : decode cX3_squaresTimesSize 11 = .ok (.if_icmp .ge 44, 3) := by decide +kernel
theorem dX3_squaresTimesSize_14 : decode cX3_squaresTimesSize 14 = .ok (.aload_n 0, 1) := by decide +kernel
theorem dX3_squaresTimesSize_15 : decode cX3_squaresTimesSize 15 = .ok (.aload_n 1, 1) := by decide +kernel
theorem dX3_squaresTimesSize_16 : decode cX3_squaresTimesSize 16 = .ok (.iload_n 2, 1) := by decide +kernel
theorem dX3_squaresTimesSize_17 : decode cX3_squaresTimesSize 17 = .ok (.iload 5, 2) := by decide +kernel
theorem dX3_squaresTimesSize_19 : decode cX3_squaresTimesSize 19 = .ok (.invokevirtual 34, 3) := by decide +kernel
theorem dX3_squaresTimesSize_22 : decode cX3_squaresTimesSize 22 = .ok (.lstore 6, 2) := by decide +kernel
theorem dX3_squaresTimesSize_24 : decode cX3_squaresTimesSize 24 = .ok (.lload_n 3, 1) := by decide +kernel
theorem dX3_squaresTimesSize_25 : decode cX3_squaresTimesSize 25 = .ok (.aload_n 0, 1) := by decide +kernel
theorem dX3_squaresTimesSize_26 : decode cX3_squaresTimesSize 26 = .ok (.getfield 15, 3) := by decide +kernel
theorem dX3_squaresTimesSize_29 : decode cX3_squaresTimesSize 29 = .ok (.iload_n 2, 1) := by decide +kernel
theorem dX3_squaresTimesSize_30 : decode cX3_squaresTimesSize 30 = .ok (.iaload, 1) := by decide +kernel
theorem dX3_squaresTimesSize_31 : decode cX3_squaresTimesSize 31 = .ok (.i2l, 1) := by decide +kernel
theorem dX3_squaresTimesSize_32 : decode cX3_squaresTimesSize 32 = .ok (.aload_n 0, 1) := by decide +kernel
theorem dX3_squaresTimesSize_33 : decode cX3_squaresTimesSize 33 = .ok (.aload_n 1, 1) := by decide +kernel
theorem dX3_squaresTimesSize_34 : decode cX3_squaresTimesSize 34 = .ok (.iload_n 2, 1) := by decide +kernel
theorem dX3_squaresTimesSize_35 : decode cX3_squaresTimesSize 35 = .ok (.iload 5, 2) := by decide +kernel
theorem dX3_squaresTimesSize_37 : decode cX3_squaresTimesSize 37 = .ok (.invokevirtual 38, 3) := by decide +kernel
theorem dX3_squaresTimesSize_40 : decode cX3_squaresTimesSize 40 = .ok (.lmul, 1) := by decide +kernel
theorem dX3_squaresTimesSize_41 : decode cX3_squaresTimesSize 41 = .ok (.lload 6, 2) := by decide +kernel
theorem dX3_squaresTimesSize_43 : decode cX3_squaresTimesSize 43 = .ok (.lload 6, 2) := by decide +kernel
theorem dX3_squaresTimesSize_45 : decode cX3_squaresTimesSize 45 = .ok (.lmul, 1) := by decide +kernel
theorem dX3_squaresTimesSize_46 : decode cX3_squaresTimesSize 46 = .ok (.lsub, 1) := by decide +kernel
theorem dX3_squaresTimesSize_47 : decode cX3_squaresTimesSize 47 = .ok (.ladd, 1) := by decide +kernel
theorem dX3_squaresTimesSize_48 : decode cX3_squaresTimesSize 48 = .ok (.lstore_n 3, 1) := by decide +kernel
theorem dX3_squaresTimesSize_49 : decode cX3_squaresTimesSize 49 = .ok (.iinc 5 1, 3) := by decide +kernel
theorem dX3_squaresTimesSize_52 : decode cX3_squaresTimesSize 52 = .ok (.goto (-47), 3) := by decide +kernel
theorem dX3_squaresTimesSize_55 : decode cX3_squaresTimesSize 55 = .ok (.lload_n 3, 1) := by decide +kernel
theorem dX3_squaresTimesSize_56 : decode cX3_squaresTimesSize 56 = .ok (.lreturn, 1) := by decide +kernel
theorem dX3_distancesTo_0 : decode cX3_distancesTo 0 = .ok (.lconst 0, 1) := by decide +kernel
theorem dX3_distancesTo_1 : decode cX3_distancesTo 1 = .ok (.lstore 5, 2) := by decide +kernel
theorem dX3_distancesTo_3 : decode cX3_distancesTo 3 = .ok (.iconst 0, 1) := by decide +kernel
theorem dX3_distancesTo_4 : decode cX3_distancesTo 4 = .ok (.istore 7, 2) := by decide +kernel
theorem dX3_distancesTo_6 : decode cX3_distancesTo 6 = .ok (.iload 7, 2) := by decide +kernel
theorem dX3_distancesTo_8 : decode cX3_distancesTo 8 = .ok (.aload_n 0, 1) := by decide +kernel
theorem dX3_distancesTo_9 : decode cX3_distancesTo 9 = .ok (.getfield 18, 3) := by decide +kernel
theorem dX3_distancesTo_12 : decode cX3_distancesTo 12 = .ok (.if_icmp .ge 35, 3) := by decide +kernel
theorem dX3_distancesTo_15 : decode cX3_distancesTo 15 = .ok (.aload_n 0, 1) := by decide +kernel
theorem dX3_distancesTo_16 : decode cX3_distancesTo 16 = .ok (.getfield 9, 3) := by decide +kernel
theorem dX3_distancesTo_19 : decode cX3_distancesTo 19 = .ok (.iload 7, 2) := by decide +kernel
theorem dX3_distancesTo_21 : decode cX3_distancesTo 21 = .ok (.iaload, 1) := by decide +kernel
theorem dX3_distancesTo_22 : decode cX3_distancesTo 22 = .ok (.iload 4, 2) := by decide +kernel
theorem dX3_distancesTo_24 : decode cX3_distancesTo 24 = .ok (.if_icmp .ne 17, 3) := by decide +kernel
theorem dX3_distancesTo_27 : decode cX3_distancesTo 27 = .ok (.lload 5, 2) := by decide +kernel
theorem dX3_distancesTo_29 : decode cX3_distancesTo 29 = .ok (.aload_n 1, 1) := by decide +kernel
theorem dX3_distancesTo_30 : decode cX3_distancesTo 30 = .ok (.iload_n 2, 1) := by decide +kernel
theorem dX3_distancesTo_31 : decode cX3_distancesTo 31 = .ok (.iload_n 3, 1) := by decide +kernel
theorem dX3_distancesTo_32 : decode cX3_distancesTo 32 = .ok (.iload 7, 2) := by decide +kernel
theorem dX3_distancesTo_34 : decode cX3_distancesTo 34 = .ok (.invokevirtual 41, 3) := by decide +kernel
theorem dX3_distancesTo_37 : decode cX3_distancesTo 37 = .ok (.i2l, 1) := by decide +kernel
theorem dX3_distancesTo_38 : decode cX3_distancesTo 38 = .ok (.ladd, 1) := by decide +kernel
theorem dX3_distancesTo_39 : decode cX3_distancesTo 39 = .ok (.lstore 5, 2) := by decide +kernel
theorem dX3_distancesTo_41 : decode cX3_distancesTo 41 = .ok (.iinc 7 1, 3) := by decide +kernel
theorem dX3_distancesTo_44 : decode cX3_distancesTo 44 = .ok (.goto (-38), 3) := by decide +kernel
theorem dX3_distancesTo_47 : decode cX3_distancesTo 47 = .ok (.lload 5, 2) := by decide +kernel
theorem dX3_distancesTo_49 : decode cX3_distancesTo 49 = .ok (.lreturn, 1) := by decide +kernel
theorem dX3_totalOfSquares_0 : decode cX3_totalOfSquares 0 = .ok (.lconst 0, 1) := by decide +kernel
theorem dX3_totalOfSquares_1 : decode cX3_totalOfSquares 1 = .ok (.lstore 4, 2) := by decide +kernel
theorem dX3_totalOfSquares_3 : decode cX3_totalOfSquares 3 = .ok (.iconst 0, 1) := by decide +kernel
theorem dX3_totalOfSquares_4 : decode cX3_totalOfSquares 4 = .ok (.istore 6, 2) := by decide +kernel
theorem dX3_totalOfSquares_6 : decode cX3_totalOfSquares 6 = .ok (.iload 6, 2) := by decide +kernel
theorem dX3_totalOfSquares_8 : decode cX3_totalOfSquares 8 = .ok (.aload_n 0, 1) := by decide +kernel
theorem dX3_totalOfSquares_9 : decode cX3_totalOfSquares 9 = .ok (.getfield 18, 3) := by decide +kernel
theorem dX3_totalOfSquares_12 : decode cX3_totalOfSquares 12 = .ok (.if_icmp .ge 40, 3) := by decide +kernel
theorem dX3_totalOfSquares_15 : decode cX3_totalOfSquares 15 = .ok (.aload_n 0, 1) := by decide +kernel
theorem dX3_totalOfSquares_16 : decode cX3_totalOfSquares 16 = .ok (.getfield 9, 3) := by decide +kernel
theorem dX3_totalOfSquares_19 : decode cX3_totalOfSquares 19 = .ok (.iload 6, 2) := by decide +kernel
theorem dX3_totalOfSquares_21 : decode cX3_totalOfSquares 21 = .ok (.iaload, 1) := by decide +kernel
theorem dX3_totalOfSquares_22 : decode cX3_totalOfSquares 22 = .ok (.iload_n 2, 1) := by decide +kernel
theorem dX3_totalOfSquares_23 : decode cX3_totalOfSquares 23 = .ok (.if_icmp .ne 23, 3) := by decide +kernel
theorem dX3_totalOfSquares_26 : decode cX3_totalOfSquares 26 = .ok (.aload_n 1, 1) := by decide +kernel
theorem dX3_totalOfSquares_27 : decode cX3_totalOfSquares 27 = .ok (.iload 6, 2) := by decide +kernel
theorem dX3_totalOfSquares_29 : decode cX3_totalOfSquares 29 = .ok (.iload_n 3, 1) := by decide +kernel
theorem dX3_totalOfSquares_30 : decode cX3_totalOfSquares 30 = .ok (.invokevirtual 25, 3) := by decide +kernel
theorem dX3_totalOfSquares_33 : decode cX3_totalOfSquares 33 = .ok (.i2l, 1) := by decide +kernel
theorem dX3_totalOfSquares_34 : decode cX3_totalOfSquares 34 = .ok (.lstore 7, 2) := by decide +kernel
theorem dX3_totalOfSquares_36 : decode cX3_totalOfSquares 36 = .ok (.lload 4, 2) := by decide +kernel
theorem dX3_totalOfSquares_38 : decode cX3_totalOfSquares 38 = .ok (.lload 7, 2) := by decide +kernel
theorem dX3_totalOfSquares_40 : decode cX3_totalOfSquares 40 = .ok (.lload 7, 2) := by decide +kernel
theorem dX3_totalOfSquares_42 : decode cX3_totalOfSquares 42 = .ok (.lmul, 1) := by decide +kernel
theorem dX3_totalOfSquares_43 : decode cX3_totalOfSquares 43 = .ok (.ladd, 1) := by decide +kernel
theorem dX3_totalOfSquares_44 : decode cX3_totalOfSquares 44 = .ok (.lstore 4, 2) := by decide +kernel
theorem dX3_totalOfSquares_46 : decode cX3_totalOfSquares 46 = .ok (.iinc 6 1, 3) := by decide +kernel
theorem dX3_totalOfSquares_49 : decode cX3_totalOfSquares 49 = .ok (.goto (-43), 3) := by decide +kernel
theorem dX3_totalOfSquares_52 : decode cX3_totalOfSquares 52 = .ok (.lload 4, 2) := by decide +kernel
theorem dX3_totalOfSquares_54 : decode cX3_totalOfSquares 54 = .ok (.lreturn, 1) := by decide +kernel
theorem dX4_init_0 : decode cX4_init 0 = .ok (.aload_n 0, 1) := by decide +kernel
theorem dX4_init_1 : decode cX4_init 1 = .ok (.invokespecial 3, 3) := by decide +kernel
theorem dX4_init_4 : decode cX4_init 4 = .ok (.aload_n 0, 1) := by decide +kernel
theorem dX4_init_5 : decode cX4_init 5 = .ok (.bipush 30, 2) := by decide +kernel
theorem dX4_init_7 : decode cX4_init 7 = .ok (.newarray .int, 2) := by decide +kernel
theorem dX4_init_9 : decode cX4_init 9 = .ok (.putfield 9, 3) := by decide +kernel
theorem dX4_init_12 : decode cX4_init 12 = .ok (.aload_n 0, 1) := by decide +kernel
theorem dX4_init_13 : decode cX4_init 13 = .ok (.bipush 30, 2) := by decide +kernel
theorem dX4_init_15 : decode cX4_init 15 = .ok (.newarray .int, 2) := by decide +kernel
theorem dX4_init_17 : decode cX4_init 17 = .ok (.putfield 15, 3) := by decide +kernel
theorem dX4_init_20 : decode cX4_init 20 = .ok (.aload_n 0, 1) := by decide +kernel
theorem dX4_init_21 : decode cX4_init 21 = .ok (.bipush 30, 2) := by decide +kernel
theorem dX4_init_23 : decode cX4_init 23 = .ok (.newarray .int, 2) := by decide +kernel
theorem dX4_init_25 : decode cX4_init 25 = .ok (.putfield 18, 3) := by decide +kernel
theorem dX4_init_28 : decode cX4_init 28 = .ok (.aload_n 0, 1) := by decide +kernel
theorem dX4_init_29 : decode cX4_init 29 = .ok (.bipush 30, 2) := by decide +kernel
theorem dX4_init_31 : decode cX4_init 31 = .ok (.newarray .long, 2) := by decide +kernel
theorem dX4_init_33 : decode cX4_init 33 = .ok (.putfield 21, 3) := by decide +kernel
theorem dX4_init_36 : decode cX4_init 36 = .ok (.aload_n 0, 1) := by decide +kernel
theorem dX4_init_37 : decode cX4_init 37 = .ok (.bipush 30, 2) := by decide +kernel
theorem dX4_init_39 : decode cX4_init 39 = .ok (.newarray .long, 2) := by decide +kernel
theorem dX4_init_41 : decode cX4_init 41 = .ok (.putfield 25, 3) := by decide +kernel
theorem dX4_init_44 : decode cX4_init 44 = .ok (.aload_n 0, 1) := by decide +kernel
theorem dX4_init_45 : decode cX4_init 45 = .ok (.bipush 30, 2) := by decide +kernel
theorem dX4_init_47 : decode cX4_init 47 = .ok (.newarray .int, 2) := by decide +kernel
theorem dX4_init_49 : decode cX4_init 49 = .ok (.putfield 28, 3) := by decide +kernel
theorem dX4_init_52 : decode cX4_init 52 = .ok (.aload_n 0, 1) := by decide +kernel
theorem dX4_init_53 : decode cX4_init 53 = .ok (.bipush 30, 2) := by decide +kernel
theorem dX4_init_55 : decode cX4_init 55 = .ok (.newarray .int, 2) := by decide +kernel
theorem dX4_init_57 : decode cX4_init 57 = .ok (.putfield 31, 3) := by decide +kernel
theorem dX4_init_60 : decode cX4_init 60 = .ok (.aload_n 0, 1) := by decide +kernel
theorem dX4_init_61 : decode cX4_init 61 = .ok (.bipush 120, 2) := by decide +kernel
theorem dX4_init_63 : decode cX4_init 63 = .ok (.newarray .long, 2) := by decide +kernel
theorem dX4_init_65 : decode cX4_init 65 = .ok (.putfield 34, 3) := by decide +kernel
theorem dX4_init_68 : decode cX4_init 68 = .ok (.aload_n 0, 1) := by decide +kernel
theorem dX4_init_69 : decode cX4_init 69 = .ok (.sipush 900, 3) := by decide +kernel
theorem dX4_init_72 : decode cX4_init 72 = .ok (.newarray .long, 2) := by decide +kernel
theorem dX4_init_74 : decode cX4_init 74 = .ok (.putfield 37, 3) := by decide +kernel
theorem dX4_init_77 : decode cX4_init 77 = .ok (.aload_n 0, 1) := by decide +kernel
theorem dX4_init_78 : decode cX4_init 78 = .ok (.new 40, 3) := by decide +kernel
theorem dX4_init_81 : decode cX4_init 81 = .ok (.dup, 1) := by decide +kernel
theorem dX4_init_82 : decode cX4_init 82 = .ok (.invokespecial 42, 3) := by decide +kernel
theorem dX4_init_85 : decode cX4_init 85 = .ok (.putfield 43, 3) := by decide +kernel
theorem dX4_init_88 : decode cX4_init 88 = .ok (.aload_n 0, 1) := by decide +kernel
theorem dX4_init_89 : decode cX4_init 89 = .ok (.iconst 0, 1) := by decide +kernel
theorem dX4_init_90 : decode cX4_init 90 = .ok (.putfield 47, 3) := by decide +kernel
theorem dX4_init_93 : decode cX4_init 93 = .ok (.aload_n 0, 1) := by decide +kernel
theorem dX4_init_94 : decode cX4_init 94 = .ok (.iconst (-1), 1) := by decide +kernel
theorem dX4_init_95 : decode cX4_init 95 = .ok (.putfield 51, 3) := by decide +kernel
theorem dX4_init_98 : decode cX4_init 98 = .ok (.return_, 1) := by decide +kernel
theorem dX4_build_0 : decode cX4_build 0 = .ok (.aload_n 0, 1) := by decide +kernel
theorem dX4_build_1 : decode cX4_build 1 = .ok (.iload_n 2, 1) := by decide +kernel
theorem dX4_build_2 : decode cX4_build 2 = .ok (.putfield 47, 3) := by decide +kernel
theorem dX4_build_5 : decode cX4_build 5 = .ok (.aload_n 0, 1) := by decide +kernel
theorem dX4_build_6 : decode cX4_build 6 = .ok (.aload_n 1, 1) := by decide +kernel
theorem dX4_build_7 : decode cX4_build 7 = .ok (.iload_n 3, 1) := by decide +kernel
theorem dX4_build_8 : decode cX4_build 8 = .ok (.invokevirtual 54, 3) := by decide +kernel
theorem dX4_build_11 : decode cX4_build 11 = .ok (.aload_n 0, 1) := by decide +kernel
theorem dX4_build_12 : decode cX4_build 12 = .ok (.iconst 0, 1) := by decide +kernel
theorem dX4_build_13 : decode cX4_build 13 = .ok (.putfield 51, 3) := by decide +kernel
theorem dX4_build_16 : decode cX4_build 16 = .ok (.iconst 1, 1) := by decide +kernel
theorem dX4_build_17 : decode cX4_build 17 = .ok (.istore 4, 2) := by decide +kernel
theorem dX4_build_19 : decode cX4_build 19 = .ok (.iload 4, 2) := by decide +kernel
theorem dX4_build_21 : decode cX4_build 21 = .ok (.aload_n 1, 1) := by decide +kernel
theorem dX4_build_22 : decode cX4_build 22 = .ok (.getfield 58, 3) := by decide +kernel
theorem dX4_build_25 : decode cX4_build 25 = .ok (.if_icmp .ge 70, 3) := by decide +kernel
theorem dX4_build_28 : decode cX4_build 28 = .ok (.aload_n 0, 1) := by decide +kernel
theorem dX4_build_29 : decode cX4_build 29 = .ok (.aload_n 1, 1) := by decide +kernel
theorem dX4_build_30 : decode cX4_build 30 = .ok (.invokevirtual 63, 3) := by decide +kernel
theorem dX4_build_33 : decode cX4_build 33 = .ok (.aload_n 0, 1) := by decide +kernel
theorem dX4_build_34 : decode cX4_build 34 = .ok (.aload_n 1, 1) := by decide +kernel
theorem dX4_build_35 : decode cX4_build 35 = .ok (.aload_n 0, 1) := by decide +kernel
theorem dX4_build_36 : decode cX4_build 36 = .ok (.getfield 9, 3) := by decide +kernel
theorem dX4_build_39 : decode cX4_build 39 = .ok (.aload_n 0, 1) := by decide +kernel
theorem dX4_build_40 : decode cX4_build 40 = .ok (.getfield 51, 3) := by decide +kernel
theorem dX4_build_43 : decode cX4_build 43 = .ok (.iaload, 1) := by decide +kernel
theorem dX4_build_44 : decode cX4_build 44 = .ok (.aload_n 0, 1) := by decide +kernel
theorem dX4_build_45 : decode cX4_build 45 = .ok (.getfield 15, 3) := by decide +kernel
theorem dX4_build_48 : decode cX4_build 48 = .ok (.aload_n 0, 1) := by decide +kernel
theorem dX4_build_49 : decode cX4_build 49 = .ok (.getfield 51, 3) := by decide +kernel
theorem dX4_build_52 : decode cX4_build 52 = .ok (.iaload, 1) := by decide +kernel
theorem dX4_build_53 : decode cX4_build 53 = .ok (.invokevirtual 67, 3) := by decide +kernel
theorem dX4_build_56 : decode cX4_build 56 = .ok (.aload_n 0, 1) := by decide +kernel
theorem dX4_build_57 : decode cX4_build 57 = .ok (.getfield 18, 3) := by decide +kernel
theorem dX4_build_60 : decode cX4_build 60 = .ok (.aload_n 0, 1) := by decide +kernel
theorem dX4_build_61 : decode cX4_build 61 = .ok (.getfield 51, 3) := by decide +kernel
theorem dX4_build_64 : decode cX4_build 64 = .ok (.aload_n 0, 1) := by decide +kernel
theorem dX4_build_65 : decode cX4_build 65 = .ok (.getfield 31, 3) := by decide +kernel
theorem dX4_build_68 : decode cX4_build 68 = .ok (.aload_n 0, 1) := by decide +kernel
theorem dX4_build_69 : decode cX4_build 69 = .ok (.getfield 9, 3) := by decide +kernel
theorem dX4_build_72 : decode cX4_build 72 = .ok (.aload_n 0, 1) := by decide +kernel
theorem dX4_build_73 : decode cX4_build 73 = .ok (.getfield 51, 3) := by decide +kernel
theorem dX4_build_76 : decode cX4_build 76 = .ok (.iaload, 1) := by decide +kernel
theorem dX4_build_77 : decode cX4_build 77 = .ok (.iaload, 1) := by decide +kernel
theorem dX4_build_78 : decode cX4_build 78 = .ok (.iastore, 1) := by decide +kernel
theorem dX4_build_79 : decode cX4_build 79 = .ok (.aload_n 0, 1) := by decide +kernel
theorem dX4_build_80 : decode cX4_build 80 = .ok (.dup, 1) := by decide +kernel
theorem dX4_build_81 : decode cX4_build 81 = .ok (.getfield 51, 3) := by decide +kernel
theorem dX4_build_84 : decode cX4_build 84 = .ok (.iconst 1, 1) := by decide +kernel
theorem dX4_build_85 : decode cX4_build 85 = .ok (.iadd, 1) := by decide +kernel
theorem dX4_build_86 : decode cX4_build 86 = .ok (.putfield 51, 3) := by decide +kernel
theorem dX4_build_89 : decode cX4_build 89 = .ok (.iinc 4 1, 3) := by decide +kernel
theorem dX4_build_92 : decode cX4_build 92 = .ok (.goto (-73), 3) := by decide +kernel
theorem dX4_build_95 : decode cX4_build 95 = .ok (.aload_n 0, 1) := by decide +kernel
theorem dX4_build_96 : decode cX4_build 96 = .ok (.getfield 51, 3) := by decide +kernel
theorem dX4_build_99 : decode cX4_build 99 = .ok (.ireturn, 1) := by decide +kernel
theorem dX4_split_0 : decode cX4_split 0 = .ok (.iconst 0, 1) := by decide +kernel
theorem dX4_split_1 : decode cX4_split 1 = .ok (.istore_n 3, 1) := by decide +kernel
theorem dX4_split_2 : decode cX4_split 2 = .ok (.iload_n 3, 1) := by decide +kernel
theorem dX4_split_3 : decode cX4_split 3 = .ok (.iload_n 1, 1) := by decide +kernel
theorem dX4_split_4 : decode cX4_split 4 = .ok (.if_icmp .ge 16, 3) := by decide +kernel
theorem dX4_split_7 : decode cX4_split 7 = .ok (.aload_n 0, 1) := by decide +kernel
theorem dX4_split_8 : decode cX4_split 8 = .ok (.getfield 28, 3) := by decide +kernel
theorem dX4_split_11 : decode cX4_split 11 = .ok (.iload_n 3, 1) := by decide +kernel
theorem dX4_split_12 : decode cX4_split 12 = .ok (.iload_n 3, 1) := by decide +kernel
theorem dX4_split_13 : decode cX4_split 13 = .ok (.iastore, 1) := by decide +kernel
theorem dX4_split_14 : decode cX4_split 14 = .ok (.iinc 3 1, 3) := by decide +kernel
theorem dX4_split_17 : decode cX4_split 17 = .ok (.goto (-15), 3) := by decide +kernel
theorem dX4_split_20 : decode cX4_split 20 = .ok (.iconst 0, 1) := by decide +kernel
theorem dX4_split_21 : decode cX4_split 21 = .ok (.istore_n 3, 1) := by decide +kernel
theorem dX4_split_22 : decode cX4_split 22 = .ok (.iload_n 3, 1) := by decide +kernel
theorem dX4_split_23 : decode cX4_split 23 = .ok (.iload_n 1, 1) := by decide +kernel
theorem dX4_split_24 : decode cX4_split 24 = .ok (.iload_n 2, 1) := by decide +kernel
theorem dX4_split_25 : decode cX4_split 25 = .ok (.isub, 1) := by decide +kernel
theorem dX4_split_26 : decode cX4_split 26 = .ok (.if_icmp .ge 61, 3) := by decide +kernel
theorem dX4_split_29 : decode cX4_split 29 = .ok (.iload_n 3, 1) := by decide +kernel
theorem dX4_split_30 : decode cX4_split 30 = .ok (.aload_n 0, 1) := by decide +kernel
theorem dX4_split_31 : decode cX4_split 31 = .ok (.getfield 51, 3) := by decide +kernel
theorem dX4_split_34 : decode cX4_split 34 = .ok (.if_icmp .ge 53, 3) := by decide +kernel
theorem dX4_split_37 : decode cX4_split 37 = .ok (.iconst 0, 1) := by decide +kernel
theorem dX4_split_38 : decode cX4_split 38 = .ok (.istore 4, 2) := by decide +kernel
theorem dX4_split_40 : decode cX4_split 40 = .ok (.iload 4, 2) := by decide +kernel
theorem dX4_split_42 : decode cX4_split 42 = .ok (.iload_n 1, 1) := by decide +kernel
theorem dX4_split_43 : decode cX4_split 43 = .ok (.if_icmp .ge 38, 3) := by decide +kernel
theorem dX4_split_46 : decode cX4_split 46 = .ok (.aload_n 0, 1) := by decide +kernel
theorem dX4_split_47 : decode cX4_split 47 = .ok (.getfield 28, 3) := by decide +kernel
theorem dX4_split_50 : decode cX4_split 50 = .ok (.iload 4, 2) := by decide +kernel
theorem dX4_split_52 : decode cX4_split 52 = .ok (.iaload, 1) := by decide +kernel
theorem dX4_split_53 : decode cX4_split 53 = .ok (.aload_n 0, 1) := by decide +kernel
theorem dX4_split_54 : decode cX4_split 54 = .ok (.getfield 15, 3) := by decide +kernel
theorem dX4_split_57 : decode cX4_split 57 = .ok (.iload_n 3, 1) := by decide +kernel
theorem dX4_split_58 : decode cX4_split 58 = .ok (.iaload, 1) := by decide +kernel
theorem dX4_split_59 : decode cX4_split 59 = .ok (.if_icmp .ne 16, 3) := by decide +kernel
theorem dX4_split_62 : decode cX4_split 62 = .ok (.aload_n 0, 1) := by decide +kernel
theorem dX4_split_63 : decode cX4_split 63 = .ok (.getfield 28, 3) := by decide +kernel
theorem dX4_split_66 : decode cX4_split 66 = .ok (.iload 4, 2) := by decide +kernel
theorem dX4_split_68 : decode cX4_split 68 = .ok (.aload_n 0, 1) := by decide +kernel
theorem dX4_split_69 : decode cX4_split 69 = .ok (.getfield 9, 3) := by decide +kernel
theorem dX4_split_72 : decode cX4_split 72 = .ok (.iload_n 3, 1) := by decide +kernel
theorem dX4_split_73 : decode cX4_split 73 = .ok (.iaload, 1) := by decide +kernel
theorem dX4_split_74 : decode cX4_split 74 = .ok (.iastore, 1) := by decide +kernel
theorem dX4_split_75 : decode cX4_split 75 = .ok (.iinc 4 1, 3) := by decide +kernel
theorem dX4_split_78 : decode cX4_split 78 = .ok (.goto (-38), 3) := by decide +kernel
theorem dX4_split_81 : decode cX4_split 81 = .ok (.iinc 3 1, 3) := by decide +kernel
theorem dX4_split_84 : decode cX4_split 84 = .ok (.goto (-62), 3) := by decide +kernel
theorem dX4_split_87 : decode cX4_split 87 = .ok (.aload_n 0, 1) := by decide +kernel
theorem dX4_split_88 : decode cX4_split 88 = .ok (.iload_n 1, 1) := by decide +kernel
theorem dX4_split_89 : decode cX4_split 89 = .ok (.invokevirtual 71, 3) := by decide +kernel
theorem dX4_split_92 : decode cX4_split 92 = .ok (.return_, 1) := by decide +kernel
theorem dX4_numberByLeastRows_0 : decode cX4_numberByLeastRows 0 = .ok (.iconst 0, 1) := by decide +kernel
theorem dX4_numberByLeastRows_1 : decode cX4_numberByLeastRows 1 = .ok (.istore_n 2, 1) := by decide +kernel
theorem dX4_numberByLeastRows_2 : decode cX4_numberByLeastRows 2 = .ok (.iconst 0, 1) := by decide +kernel
theorem dX4_numberByLeastRows_3 : decode cX4_numberByLeastRows 3 = .ok (.istore_n 3, 1) := by decide +kernel
theorem dX4_numberByLeastRows_4 : decode cX4_numberByLeastRows 4 = .ok (.iload_n 3, 1) := by decide +kernel
theorem dX4_numberByLeastRows_5 : decode cX4_numberByLeastRows 5 = .ok (.iload_n 1, 1) := by decide +kernel
theorem dX4_numberByLeastRows_6 : decode cX4_numberByLeastRows 6 = .ok (.if_icmp .ge 49, 3) := by decide +kernel
theorem dX4_numberByLeastRows_9 : decode cX4_numberByLeastRows 9 = .ok (.aload_n 0, 1) := by decide +kernel
theorem dX4_numberByLeastRows_10 : decode cX4_numberByLeastRows 10 = .ok (.getfield 28, 3) := by decide +kernel
theorem dX4_numberByLeastRows_13 : decode cX4_numberByLeastRows 13 = .ok (.iload_n 3, 1) := by decide +kernel
theorem dX4_numberByLeastRows_14 : decode cX4_numberByLeastRows 14 = .ok (.iaload, 1) := by decide +kernel
theorem dX4_numberByLeastRows_15 : decode cX4_numberByLeastRows 15 = .ok (.iload_n 3, 1) := by decide +kernel
theorem dX4_numberByLeastRows_16 : decode cX4_numberByLeastRows 16 = .ok (.if_icmp .ne 16, 3) := by decide +kernel
theorem dX4_numberByLeastRows_19 : decode cX4_numberByLeastRows 19 = .ok (.aload_n 0, 1) := by decide +kernel
theorem dX4_numberByLeastRows_20 : decode cX4_numberByLeastRows 20 = .ok (.getfield 28, 3) := by decide +kernel
theorem dX4_numberByLeastRows_23 : decode cX4_numberByLeastRows 23 = .ok (.iload_n 3, 1) := by decide +kernel
theorem dX4_numberByLeastRows_24 : decode cX4_numberByLeastRows 24 = .ok (.iload_n 2, 1) := by decide +kernel
theorem dX4_numberByLeastRows_25 : decode cX4_numberByLeastRows 25 = .ok (.iastore, 1) := by decide +kernel
theorem dX4_numberByLeastRows_26 : decode cX4_numberByLeastRows 26 = .ok (.iinc 2 1, 3) := by decide +kernel
theorem dX4_numberByLeastRows_29 : decode cX4_numberByLeastRows 29 = .ok (.goto 20, 3) := by decide +kernel
theorem dX4_numberByLeastRows_32 : decode cX4_numberByLeastRows 32 = .ok (.aload_n 0, 1) := by decide +kernel
theorem dX4_numberByLeastRows_33 : decode cX4_numberByLeastRows 33 = .ok (.getfield 28, 3) := by decide +kernel
theorem dX4_numberByLeastRows_36 : decode cX4_numberByLeastRows 36 = .ok (.iload_n 3, 1) := by decide +kernel
theorem dX4_numberByLeastRows_37 : decode cX4_numberByLeastRows 37 = .ok (.aload_n 0, 1) := by decide +kernel
theorem dX4_numberByLeastRows_38 : decode cX4_numberByLeastRows 38 = .ok (.getfield 28, 3) := by decide +kernel
theorem dX4_numberByLeastRows_41 : decode cX4_numberByLeastRows 41 = .ok (.aload_n 0, 1) := by decide +kernel
theorem dX4_numberByLeastRows_42 : decode cX4_numberByLeastRows 42 = .ok (.getfield 28, 3) := by decide +kernel
theorem dX4_numberByLeastRows_45 : decode cX4_numberByLeastRows 45 = .ok (.iload_n 3, 1) := by decide +kernel
theorem dX4_numberByLeastRows_46 : decode cX4_numberByLeastRows 46 = .ok (.iaload, 1) := by decide +kernel
theorem dX4_numberByLeastRows_47 : decode cX4_numberByLeastRows 47 = .ok (.iaload, 1) := by decide +kernel
theorem dX4_numberByLeastRows_48 : decode cX4_numberByLeastRows 48 = .ok (.iastore, 1) := by decide +kernel
theorem dX4_numberByLeastRows_49 : decode cX4_numberByLeastRows 49 = .ok (.iinc 3 1, 3) := by decide +kernel
theorem dX4_numberByLeastRows_52 : decode cX4_numberByLeastRows 52 = .ok (.goto (-48), 3) := by decide +kernel
theorem dX4_numberByLeastRows_55 : decode cX4_numberByLeastRows 55 = .ok (.return_, 1) := by decide +kernel
theorem dX4_placeRows_0 : decode cX4_placeRows 0 = .ok (.iconst 0, 1) := by decide +kernel
theorem dX4_placeRows_1 : decode cX4_placeRows 1 = .ok (.istore_n 3, 1) := by decide +kernel
theorem dX4_placeRows_2 : decode cX4_placeRows 2 = .ok (.iload_n 3, 1) := by decide +kernel
theorem dX4_placeRows_3 : decode cX4_placeRows 3 = .ok (.aload_n 1, 1) := by decide +kernel
theorem dX4_placeRows_4 : decode cX4_placeRows 4 = .ok (.getfield 58, 3) := by decide +kernel
theorem dX4_placeRows_7 : decode cX4_placeRows 7 = .ok (.if_icmp .ge 92, 3) := by decide +kernel
theorem dX4_placeRows_10 : decode cX4_placeRows 10 = .ok (.aload_n 0, 1) := by decide +kernel
theorem dX4_placeRows_11 : decode cX4_placeRows 11 = .ok (.getfield 31, 3) := by decide +kernel
theorem dX4_placeRows_14 : decode cX4_placeRows 14 = .ok (.iload_n 3, 1) := by decide +kernel
theorem dX4_placeRows_15 : decode cX4_placeRows 15 = .ok (.iconst 1, 1) := by decide +kernel
theorem dX4_placeRows_16 : decode cX4_placeRows 16 = .ok (.iastore, 1) := by decide +kernel
theorem dX4_placeRows_17 : decode cX4_placeRows 17 = .ok (.iconst 0, 1) := by decide +kernel
theorem dX4_placeRows_18 : decode cX4_placeRows 18 = .ok (.istore 4, 2) := by decide +kernel
theorem dX4_placeRows_20 : decode cX4_placeRows 20 = .ok (.iload 4, 2) := by decide +kernel
theorem dX4_placeRows_22 : decode cX4_placeRows 22 = .ok (.aload_n 1, 1) := by decide +kernel
theorem dX4_placeRows_23 : decode cX4_placeRows 23 = .ok (.getfield 75, 3) := by decide +kernel
theorem dX4_placeRows_26 : decode cX4_placeRows 26 = .ok (.if_icmp .ge 28, 3) := by decide +kernel
theorem dX4_placeRows_29 : decode cX4_placeRows 29 = .ok (.aload_n 0, 1) := by decide +kernel
theorem dX4_placeRows_30 : decode cX4_placeRows 30 = .ok (.getfield 34, 3) := by decide +kernel
theorem dX4_placeRows_33 : decode cX4_placeRows 33 = .ok (.iload_n 3, 1) := by decide +kernel
theorem dX4_placeRows_34 : decode cX4_placeRows 34 = .ok (.iconst 4, 1) := by decide +kernel
theorem dX4_placeRows_35 : decode cX4_placeRows 35 = .ok (.imul, 1) := by decide +kernel
theorem dX4_placeRows_36 : decode cX4_placeRows 36 = .ok (.iload 4, 2) := by decide +kernel
theorem dX4_placeRows_38 : decode cX4_placeRows 38 = .ok (.iadd, 1) := by decide +kernel
theorem dX4_placeRows_39 : decode cX4_placeRows 39 = .ok (.aload_n 1, 1) := by decide +kernel
theorem dX4_placeRows_40 : decode cX4_placeRows 40 = .ok (.iload_n 3, 1) := by decide +kernel
theorem dX4_placeRows_41 : decode cX4_placeRows 41 = .ok (.iload 4, 2) := by decide +kernel
theorem dX4_placeRows_43 : decode cX4_placeRows 43 = .ok (.invokevirtual 78, 3) := by decide +kernel
theorem dX4_placeRows_46 : decode cX4_placeRows 46 = .ok (.i2l, 1) := by decide +kernel
theorem dX4_placeRows_47 : decode cX4_placeRows 47 = .ok (.lastore, 1) := by decide +kernel
theorem dX4_placeRows_48 : decode cX4_placeRows 48 = .ok (.iinc 4 1, 3) := by decide +kernel
theorem dX4_placeRows_51 : decode cX4_placeRows 51 = .ok (.goto (-31), 3) := by decide +kernel
theorem dX4_placeRows_54 : decode cX4_placeRows 54 = .ok (.iconst 0, 1) := by decide +kernel
theorem dX4_placeRows_55 : decode cX4_placeRows 55 = .ok (.istore 4, 2) := by decide +kernel
theorem dX4_placeRows_57 : decode cX4_placeRows 57 = .ok (.iload 4, 2) := by decide +kernel
theorem dX4_placeRows_59 : decode cX4_placeRows 59 = .ok (.aload_n 1, 1) := by decide +kernel
theorem dX4_placeRows_60 : decode cX4_placeRows 60 = .ok (.getfield 58, 3) := by decide +kernel
theorem dX4_placeRows_63 : decode cX4_placeRows 63 = .ok (.if_icmp .ge 30, 3) := by decide +kernel
theorem dX4_placeRows_66 : decode cX4_placeRows 66 = .ok (.aload_n 0, 1) := by decide +kernel
theorem dX4_placeRows_67 : decode cX4_placeRows 67 = .ok (.getfield 37, 3) := by decide +kernel
theorem dX4_placeRows_70 : decode cX4_placeRows 70 = .ok (.iload_n 3, 1) := by decide +kernel
theorem dX4_placeRows_71 : decode cX4_placeRows 71 = .ok (.bipush 30, 2) := by decide +kernel
theorem dX4_placeRows_73 : decode cX4_placeRows 73 = .ok (.imul, 1) := by decide +kernel
theorem dX4_placeRows_74 : decode cX4_placeRows 74 = .ok (.iload 4, 2) := by decide +kernel
theorem dX4_placeRows_76 : decode cX4_placeRows 76 = .ok (.iadd, 1) := by decide +kernel
theorem dX4_placeRows_77 : decode cX4_placeRows 77 = .ok (.aload_n 1, 1) := by decide +kernel
theorem dX4_placeRows_78 : decode cX4_placeRows 78 = .ok (.iload_n 2, 1) := by decide +kernel
theorem dX4_placeRows_79 : decode cX4_placeRows 79 = .ok (.iload_n 3, 1) := by decide +kernel
theorem dX4_placeRows_80 : decode cX4_placeRows 80 = .ok (.iload 4, 2) := by decide +kernel
theorem dX4_placeRows_82 : decode cX4_placeRows 82 = .ok (.invokevirtual 82, 3) := by decide +kernel
theorem dX4_placeRows_85 : decode cX4_placeRows 85 = .ok (.i2l, 1) := by decide +kernel
theorem dX4_placeRows_86 : decode cX4_placeRows 86 = .ok (.lastore, 1) := by decide +kernel
theorem dX4_placeRows_87 : decode cX4_placeRows 87 = .ok (.iinc 4 1, 3) := by decide +kernel
theorem dX4_placeRows_90 : decode cX4_placeRows 90 = .ok (.goto (-33), 3) := by decide +kernel
theorem dX4_placeRows_93 : decode cX4_placeRows 93 = .ok (.iinc 3 1, 3) := by decide +kernel
theorem dX4_placeRows_96 : decode cX4_placeRows 96 = .ok (.goto (-94), 3) := by decide +kernel
theorem dX4_placeRows_99 : decode cX4_placeRows 99 = .ok (.return_, 1) := by decide +kernel
theorem dX4_findNearest_0 : decode cX4_findNearest 0 = .ok (.iconst 0, 1) := by decide +kernel
theorem dX4_findNearest_1 : decode cX4_findNearest 1 = .ok (.istore_n 2, 1) := by decide +kernel
theorem dX4_findNearest_2 : decode cX4_findNearest 2 = .ok (.lconst 0, 1) := by decide +kernel
theorem dX4_findNearest_3 : decode cX4_findNearest 3 = .ok (.lstore_n 3, 1) := by decide +kernel
theorem dX4_findNearest_4 : decode cX4_findNearest 4 = .ok (.lconst 1, 1) := by decide +kernel
theorem dX4_findNearest_5 : decode cX4_findNearest 5 = .ok (.lstore 5, 2) := by decide +kernel
theorem dX4_findNearest_7 : decode cX4_findNearest 7 = .ok (.iconst 0, 1) := by decide +kernel
theorem dX4_findNearest_8 : decode cX4_findNearest 8 = .ok (.istore 7, 2) := by decide +kernel
theorem dX4_findNearest_10 : decode cX4_findNearest 10 = .ok (.iload 7, 2) := by decide +kernel
theorem dX4_findNearest_12 : decode cX4_findNearest 12 = .ok (.aload_n 1, 1) := by decide +kernel
theorem dX4_findNearest_13 : decode cX4_findNearest 13 = .ok (.getfield 58, 3) := by decide +kernel
theorem dX4_findNearest_16 : decode cX4_findNearest 16 = .ok (.if_icmp .ge 119, 3) := by decide +kernel
theorem dX4_findNearest_19 : decode cX4_findNearest 19 = .ok (.iload 7, 2) := by decide +kernel
theorem dX4_findNearest_21 : decode cX4_findNearest 21 = .ok (.iconst 1, 1) := by decide +kernel
theorem dX4_findNearest_22 : decode cX4_findNearest 22 = .ok (.iadd, 1) := by decide +kernel
theorem dX4_findNearest_23 : decode cX4_findNearest 23 = .ok (.istore 8, 2) := by decide +kernel
theorem dX4_findNearest_25 : decode cX4_findNearest 25 = .ok (.iload 8, 2) := by decide +kernel
theorem dX4_findNearest_27 : decode cX4_findNearest 27 = .ok (.aload_n 1, 1) := by decide +kernel
theorem dX4_findNearest_28 : decode cX4_findNearest 28 = .ok (.getfield 58, 3) := by decide +kernel
theorem dX4_findNearest_31 : decode cX4_findNearest 31 = .ok (.if_icmp .ge 98, 3) := by decide +kernel
theorem dX4_findNearest_34 : decode cX4_findNearest 34 = .ok (.aload_n 0, 1) := by decide +kernel
theorem dX4_findNearest_35 : decode cX4_findNearest 35 = .ok (.getfield 31, 3) := by decide +kernel
theorem dX4_findNearest_38 : decode cX4_findNearest 38 = .ok (.iload 7, 2) := by decide +kernel
theorem dX4_findNearest_40 : decode cX4_findNearest 40 = .ok (.iaload, 1) := by decide +kernel
theorem dX4_findNearest_41 : decode cX4_findNearest 41 = .ok (.ifCond .le 82, 3) := by decide +kernel
theorem dX4_findNearest_44 : decode cX4_findNearest 44 = .ok (.aload_n 0, 1) := by decide +kernel
theorem dX4_findNearest_45 : decode cX4_findNearest 45 = .ok (.getfield 31, 3) := by decide +kernel
theorem dX4_findNearest_48 : decode cX4_findNearest 48 = .ok (.iload 8, 2) := by decide +kernel
theorem dX4_findNearest_50 : decode cX4_findNearest 50 = .ok (.iaload, 1) := by decide +kernel
theorem dX4_findNearest_51 : decode cX4_findNearest 51 = .ok (.ifCond .le 72, 3) := by decide +kernel
theorem dX4_findNearest_54 : decode cX4_findNearest 54 = .ok (.aload_n 0, 1) := by decide +kernel
theorem dX4_findNearest_55 : decode cX4_findNearest 55 = .ok (.aload_n 1, 1) := by decide +kernel
theorem dX4_findNearest_56 : decode cX4_findNearest 56 = .ok (.iload 7, 2) := by decide +kernel
theorem dX4_findNearest_58 : decode cX4_findNearest 58 = .ok (.iload 8, 2) := by decide +kernel
theorem dX4_findNearest_60 : decode cX4_findNearest 60 = .ok (.invokevirtual 86, 3) := by decide +kernel
theorem dX4_findNearest_63 : decode cX4_findNearest 63 = .ok (.lstore 9, 2) := by decide +kernel
theorem dX4_findNearest_65 : decode cX4_findNearest 65 = .ok (.aload_n 0, 1) := by decide +kernel
theorem dX4_findNearest_66 : decode cX4_findNearest 66 = .ok (.iload 7, 2) := by decide +kernel
theorem dX4_findNearest_68 : decode cX4_findNearest 68 = .ok (.iload 8, 2) := by decide +kernel
theorem dX4_findNearest_70 : decode cX4_findNearest 70 = .ok (.invokevirtual 90, 3) := by decide +kernel
theorem dX4_findNearest_73 : decode cX4_findNearest 73 = .ok (.lstore 11, 2) := by decide +kernel
theorem dX4_findNearest_75 : decode cX4_findNearest 75 = .ok (.iload_n 2, 1) := by decide +kernel
theorem dX4_findNearest_76 : decode cX4_findNearest 76 = .ok (.ifCond .eq 16, 3) := by decide +kernel
theorem dX4_findNearest_79 : decode cX4_findNearest 79 = .ok (.lload 9, 2) := by decide +kernel
theorem dX4_findNearest_81 : decode cX4_findNearest 81 = .ok (.lload 11, 2) := by decide +kernel
theorem dX4_findNearest_83 : decode cX4_findNearest 83 = .ok (.lload_n 3, 1) := by decide +kernel
theorem dX4_findNearest_84 : decode cX4_findNearest 84 = .ok (.lload 5, 2) := by decide +kernel
theorem dX4_findNearest_86 : decode cX4_findNearest 86 = .ok (.invokestatic 94, 3) := by decide +kernel
theorem dX4_findNearest_89 : decode cX4_findNearest 89 = .ok (.ifCond .eq 34, 3) := by decide +kernel
theorem dX4_findNearest_92 : decode cX4_findNearest 92 = .ok (.iconst 1, 1) := by decide +kernel
theorem dX4_findNearest_93 : decode cX4_findNearest 93 = .ok (.istore_n 2, 1) := by decide +kernel
theorem dX4_findNearest_94 : decode cX4_findNearest 94 = .ok (.lload 9, 2) := by decide +kernel
theorem dX4_findNearest_96 : decode cX4_findNearest 96 = .ok (.lstore_n 3, 1) := by decide +kernel
theorem dX4_findNearest_97 : decode cX4_findNearest 97 = .ok (.lload 11, 2) := by decide +kernel
theorem dX4_findNearest_99 : decode cX4_findNearest 99 = .ok (.lstore 5, 2) := by decide +kernel
theorem dX4_findNearest_101 : decode cX4_findNearest 101 = .ok (.aload_n 0, 1) := by decide +kernel
theorem dX4_findNearest_102 : decode cX4_findNearest 102 = .ok (.getfield 9, 3) := by decide +kernel
theorem dX4_findNearest_105 : decode cX4_findNearest 105 = .ok (.aload_n 0, 1) := by decide +kernel
theorem dX4_findNearest_106 : decode cX4_findNearest 106 = .ok (.getfield 51, 3) := by decide +kernel
theorem dX4_findNearest_109 : decode cX4_findNearest 109 = .ok (.iload 7, 2) := by decide +kernel
theorem dX4_findNearest_111 : decode cX4_findNearest 111 = .ok (.iastore, 1) := by decide +kernel
theorem dX4_findNearest_112 : decode cX4_findNearest 112 = .ok (.aload_n 0, 1) := by decide +kernel
theorem dX4_findNearest_113 : decode cX4_findNearest 113 = .ok (.getfield 15, 3) := by decide +kernel
theorem dX4_findNearest_116 : decode cX4_findNearest 116 = .ok (.aload_n 0, 1) := by decide +kernel
theorem dX4_findNearest_117 : decode cX4_findNearest 117 = .ok (.getfield 51, 3) := by decide +kernel
theorem dX4_findNearest_120 : decode cX4_findNearest 120 = .ok (.iload 8, 2) := by decide +kernel
theorem dX4_findNearest_122 : decode cX4_findNearest 122 = .ok (.iastore, 1) := by decide +kernel
theorem dX4_findNearest_123 : decode cX4_findNearest 123 = .ok (.iinc 8 1, 3) := by decide +kernel
theorem dX4_findNearest_126 : decode cX4_findNearest 126 = .ok (.goto (-101), 3) := by decide +kernel
theorem dX4_findNearest_129 : decode cX4_findNearest 129 = .ok (.iinc 7 1, 3) := by decide +kernel
theorem dX4_findNearest_132 : decode cX4_findNearest 132 = .ok (.goto (-122), 3) := by decide +kernel
theorem dX4_findNearest_135 : decode cX4_findNearest 135 = .ok (.aload_n 0, 1) := by decide +kernel
theorem dX4_findNearest_136 : decode cX4_findNearest 136 = .ok (.getfield 43, 3) := by decide +kernel
theorem dX4_findNearest_139 : decode cX4_findNearest 139 = .ok (.lload_n 3, 1) := by decide +kernel
theorem dX4_findNearest_140 : decode cX4_findNearest 140 = .ok (.lload 5, 2) := by decide +kernel
theorem dX4_findNearest_142 : decode cX4_findNearest 142 = .ok (.invokevirtual 98, 3) := by decide +kernel
theorem dX4_findNearest_145 : decode cX4_findNearest 145 = .ok (.aload_n 0, 1) := by decide +kernel
theorem dX4_findNearest_146 : decode cX4_findNearest 146 = .ok (.getfield 21, 3) := by decide +kernel
theorem dX4_findNearest_149 : decode cX4_findNearest 149 = .ok (.aload_n 0, 1) := by decide +kernel
theorem dX4_findNearest_150 : decode cX4_findNearest 150 = .ok (.getfield 51, 3) := by decide +kernel
theorem dX4_findNearest_153 : decode cX4_findNearest 153 = .ok (.aload_n 0, 1) := by decide +kernel
theorem dX4_findNearest_154 : decode cX4_findNearest 154 = .ok (.getfield 43, 3) := by decide +kernel
theorem dX4_findNearest_157 : decode cX4_findNearest 157 = .ok (.getfield 102, 3) := by decide +kernel
theorem dX4_findNearest_160 : decode cX4_findNearest 160 = .ok (.lastore, 1) := by decide +kernel
theorem dX4_findNearest_161 : decode cX4_findNearest 161 = .ok (.aload_n 0, 1) := by decide +kernel
theorem dX4_findNearest_162 : decode cX4_findNearest 162 = .ok (.getfield 25, 3) := by decide +kernel
theorem dX4_findNearest_165 : decode cX4_findNearest 165 = .ok (.aload_n 0, 1) := by decide +kernel
theorem dX4_findNearest_166 : decode cX4_findNearest 166 = .ok (.getfield 51, 3) := by decide +kernel
theorem dX4_findNearest_169 : decode cX4_findNearest 169 = .ok (.aload_n 0, 1) := by decide +kernel
theorem dX4_findNearest_170 : decode cX4_findNearest 170 = .ok (.getfield 43, 3) := by decide +kernel
theorem dX4_findNearest_173 : decode cX4_findNearest 173 = .ok (.getfield 106, 3) := by decide +kernel
theorem dX4_findNearest_176 : decode cX4_findNearest 176 = .ok (.lastore, 1) := by decide +kernel
theorem dX4_findNearest_177 : decode cX4_findNearest 177 = .ok (.return_, 1) := by decide +kernel
theorem dX4_gapAbove_0 : decode cX4_gapAbove 0 = .ok (.aload_n 0, 1) := by decide +kernel
theorem dX4_gapAbove_1 : decode cX4_gapAbove 1 = .ok (.getfield 47, 3) := by decide +kernel
theorem dX4_gapAbove_4 : decode cX4_gapAbove 4 = .ok (.iconst 3, 1) := by decide +kernel
theorem dX4_gapAbove_5 : decode cX4_gapAbove 5 = .ok (.if_icmp .eq 15, 3) := by decide +kernel
theorem dX4_gapAbove_8 : decode cX4_gapAbove 8 = .ok (.aload_n 0, 1) := by decide +kernel
theorem dX4_gapAbove_9 : decode cX4_gapAbove 9 = .ok (.getfield 37, 3) := by decide +kernel
theorem dX4_gapAbove_12 : decode cX4_gapAbove 12 = .ok (.iload_n 2, 1) := by decide +kernel
theorem dX4_gapAbove_13 : decode cX4_gapAbove 13 = .ok (.bipush 30, 2) := by decide +kernel
theorem dX4_gapAbove_15 : decode cX4_gapAbove 15 = .ok (.imul, 1) := by decide +kernel
theorem dX4_gapAbove_16 : decode cX4_gapAbove 16 = .ok (.iload_n 3, 1) := by decide +kernel
theorem dX4_gapAbove_17 : decode cX4_gapAbove 17 = .ok (.iadd, 1) := by decide +kernel
theorem dX4_gapAbove_18 : decode cX4_gapAbove 18 = .ok (.laload, 1) := by decide +kernel
theorem dX4_gapAbove_19 : decode cX4_gapAbove 19 = .ok (.lreturn, 1) := by decide +kernel
theorem dX4_gapAbove_20 : decode cX4_gapAbove 20 = .ok (.lconst 0, 1) := by decide +kernel
theorem dX4_gapAbove_21 : decode cX4_gapAbove 21 = .ok (.lstore 4, 2) := by decide +kernel
theorem dX4_gapAbove_23 : decode cX4_gapAbove 23 = .ok (.iconst 0, 1) := by decide +kernel
theorem dX4_gapAbove_24 : decode cX4_gapAbove 24 = .ok (.istore 6, 2) := by decide +kernel
theorem dX4_gapAbove_26 : decode cX4_gapAbove 26 = .ok (.iload 6, 2) := by decide +kernel
theorem dX4_gapAbove_28 : decode cX4_gapAbove 28 = .ok (.aload_n 1, 1) := by decide +kernel
theorem dX4_gapAbove_29 : decode cX4_gapAbove 29 = .ok (.getfield 75, 3) := by decide +kernel
theorem dX4_gapAbove_32 : decode cX4_gapAbove 32 = .ok (.if_icmp .ge 60, 3) := by decide +kernel
theorem dX4_gapAbove_35 : decode cX4_gapAbove 35 = .ok (.aload_n 0, 1) := by decide +kernel
theorem dX4_gapAbove_36 : decode cX4_gapAbove 36 = .ok (.getfield 34, 3) := by decide +kernel
theorem dX4_gapAbove_39 : decode cX4_gapAbove 39 = .ok (.iload_n 2, 1) := by decide +kernel
theorem dX4_gapAbove_40 : decode cX4_gapAbove 40 = .ok (.iconst 4, 1) := by decide +kernel
theorem dX4_gapAbove_41 : decode cX4_gapAbove 41 = .ok (.imul, 1) := by decide +kernel
theorem dX4_gapAbove_42 : decode cX4_gapAbove 42 = .ok (.iload 6, 2) := by decide +kernel
theorem dX4_gapAbove_44 : decode cX4_gapAbove 44 = .ok (.iadd, 1) := by decide +kernel
theorem dX4_gapAbove_45 : decode cX4_gapAbove 45 = .ok (.laload, 1) := by decide +kernel
theorem dX4_gapAbove_46 : decode cX4_gapAbove 46 = .ok (.aload_n 0, 1) := by decide +kernel
theorem dX4_gapAbove_47 : decode cX4_gapAbove 47 = .ok (.getfield 31, 3) := by decide +kernel
theorem dX4_gapAbove_50 : decode cX4_gapAbove 50 = .ok (.iload_n 3, 1) := by decide +kernel
theorem dX4_gapAbove_51 : decode cX4_gapAbove 51 = .ok (.iaload, 1) := by decide +kernel
theorem dX4_gapAbove_52 : decode cX4_gapAbove 52 = .ok (.i2l, 1) := by decide +kernel
theorem dX4_gapAbove_53 : decode cX4_gapAbove 53 = .ok (.lmul, 1) := by decide +kernel
theorem dX4_gapAbove_54 : decode cX4_gapAbove 54 = .ok (.aload_n 0, 1) := by decide +kernel
theorem dX4_gapAbove_55 : decode cX4_gapAbove 55 = .ok (.getfield 34, 3) := by decide +kernel
theorem dX4_gapAbove_58 : decode cX4_gapAbove 58 = .ok (.iload_n 3, 1) := by decide +kernel
theorem dX4_gapAbove_59 : decode cX4_gapAbove 59 = .ok (.iconst 4, 1) := by decide +kernel
theorem dX4_gapAbove_60 : decode cX4_gapAbove 60 = .ok (.imul, 1) := by decide +kernel
theorem dX4_gapAbove_61 : decode cX4_gapAbove 61 = .ok (.iload 6, 2) := by decide +kernel
theorem dX4_gapAbove_63 : decode cX4_gapAbove 63 = .ok (.iadd, 1) := by decide +kernel
theorem dX4_gapAbove_64 : decode cX4_gapAbove 64 = .ok (.laload, 1) := by decide +kernel
theorem dX4_gapAbove_65 : decode cX4_gapAbove 65 = .ok (.aload_n 0, 1) := by decide +kernel
theorem dX4_gapAbove_66 : decode cX4_gapAbove 66 = .ok (.getfield 31, 3) := by decide +kernel
theorem dX4_gapAbove_69 : decode cX4_gapAbove 69 = .ok (.iload_n 2, 1) := by decide +kernel
theorem dX4_gapAbove_70 : decode cX4_gapAbove 70 = .ok (.iaload, 1) := by decide +kernel
theorem dX4_gapAbove_71 : decode cX4_gapAbove 71 = .ok (.i2l, 1) := by decide +kernel
theorem dX4_gapAbove_72 : decode cX4_gapAbove 72 = .ok (.lmul, 1) := by decide +kernel
theorem dX4_gapAbove_73 : decode cX4_gapAbove 73 = .ok (.lsub, 1) := by decide +kernel
theorem dX4_gapAbove_74 : decode cX4_gapAbove 74 = .ok (.lstore 7, 2) := by decide +kernel
theorem dX4_gapAbove_76 : decode cX4_gapAbove 76 = .ok (.lload 4, 2) := by decide +kernel
theorem dX4_gapAbove_78 : decode cX4_gapAbove 78 = .ok (.lload 7, 2) := by decide +kernel
theorem dX4_gapAbove_80 : decode cX4_gapAbove 80 = .ok (.lload 7, 2) := by decide +kernel
theorem dX4_gapAbove_82 : decode cX4_gapAbove 82 = .ok (.lmul, 1) := by decide +kernel
theorem dX4_gapAbove_83 : decode cX4_gapAbove 83 = .ok (.ladd, 1) := by decide +kernel
theorem dX4_gapAbove_84 : decode cX4_gapAbove 84 = .ok (.lstore 4, 2) := by decide +kernel
theorem dX4_gapAbove_86 : decode cX4_gapAbove 86 = .ok (.iinc 6 1, 3) := by decide +kernel
theorem dX4_gapAbove_89 : decode cX4_gapAbove 89 = .ok (.goto (-63), 3) := by decide +kernel
theorem dX4_gapAbove_92 : decode cX4_gapAbove 92 = .ok (.lload 4, 2) := by decide +kernel
theorem dX4_gapAbove_94 : decode cX4_gapAbove 94 = .ok (.lreturn, 1) := by decide +kernel
theorem dX4_gapBelow_0 : decode cX4_gapBelow 0 = .ok (.aload_n 0, 1) := by decide +kernel
theorem dX4_gapBelow_1 : decode cX4_gapBelow 1 = .ok (.getfield 47, 3) := by decide +kernel
theorem dX4_gapBelow_4 : decode cX4_gapBelow 4 = .ok (.lookupswitch 72 #[(2, 28), (3, 43)], 28) := by decide +kernel
theorem dX4_gapBelow_32 : decode cX4_gapBelow 32 = .ok (.aload_n 0, 1) := by decide +kernel
theorem dX4_gapBelow_33 : decode cX4_gapBelow 33 = .ok (.getfield 31, 3) := by decide +kernel
theorem dX4_gapBelow_36 : decode cX4_gapBelow 36 = .ok (.iload_n 1, 1) := by decide +kernel
theorem dX4_gapBelow_37 : decode cX4_gapBelow 37 = .ok (.iaload, 1) := by decide +kernel
theorem dX4_gapBelow_38 : decode cX4_gapBelow 38 = .ok (.aload_n 0, 1) := by decide +kernel
theorem dX4_gapBelow_39 : decode cX4_gapBelow 39 = .ok (.getfield 31, 3) := by decide +kernel
theorem dX4_gapBelow_42 : decode cX4_gapBelow 42 = .ok (.iload_n 2, 1) := by decide +kernel
theorem dX4_gapBelow_43 : decode cX4_gapBelow 43 = .ok (.iaload, 1) := by decide +kernel
theorem dX4_gapBelow_44 : decode cX4_gapBelow 44 = .ok (.imul, 1) := by decide +kernel
theorem dX4_gapBelow_45 : decode cX4_gapBelow 45 = .ok (.i2l, 1) := by decide +kernel
theorem dX4_gapBelow_46 : decode cX4_gapBelow 46 = .ok (.lreturn, 1) := by decide +kernel
theorem dX4_gapBelow_47 : decode cX4_gapBelow 47 = .ok (.aload_n 0, 1) := by decide +kernel
theorem dX4_gapBelow_48 : decode cX4_gapBelow 48 = .ok (.getfield 31, 3) := by decide +kernel
theorem dX4_gapBelow_51 : decode cX4_gapBelow 51 = .ok (.iload_n 1, 1) := by decide +kernel
theorem dX4_gapBelow_52 : decode cX4_gapBelow 52 = .ok (.iaload, 1) := by decide +kernel
theorem dX4_gapBelow_53 : decode cX4_gapBelow 53 = .ok (.aload_n 0, 1) := by decide +kernel
theorem dX4_gapBelow_54 : decode cX4_gapBelow 54 = .ok (.getfield 31, 3) := by decide +kernel
theorem dX4_gapBelow_57 : decode cX4_gapBelow 57 = .ok (.iload_n 2, 1) := by decide +kernel
theorem dX4_gapBelow_58 : decode cX4_gapBelow 58 = .ok (.iaload, 1) := by decide +kernel
theorem dX4_gapBelow_59 : decode cX4_gapBelow 59 = .ok (.imul, 1) := by decide +kernel
theorem dX4_gapBelow_60 : decode cX4_gapBelow 60 = .ok (.aload_n 0, 1) := by decide +kernel
theorem dX4_gapBelow_61 : decode cX4_gapBelow 61 = .ok (.getfield 31, 3) := by decide +kernel
theorem dX4_gapBelow_64 : decode cX4_gapBelow 64 = .ok (.iload_n 1, 1) := by decide +kernel
theorem dX4_gapBelow_65 : decode cX4_gapBelow 65 = .ok (.iaload, 1) := by decide +kernel
theorem dX4_gapBelow_66 : decode cX4_gapBelow 66 = .ok (.aload_n 0, 1) := by decide +kernel
theorem dX4_gapBelow_67 : decode cX4_gapBelow 67 = .ok (.getfield 31, 3) := by decide +kernel
theorem dX4_gapBelow_70 : decode cX4_gapBelow 70 = .ok (.iload_n 2, 1) := by decide +kernel
theorem dX4_gapBelow_71 : decode cX4_gapBelow 71 = .ok (.iaload, 1) := by decide +kernel
theorem dX4_gapBelow_72 : decode cX4_gapBelow 72 = .ok (.iadd, 1) := by decide +kernel
theorem dX4_gapBelow_73 : decode cX4_gapBelow 73 = .ok (.imul, 1) := by decide +kernel
theorem dX4_gapBelow_74 : decode cX4_gapBelow 74 = .ok (.i2l, 1) := by decide +kernel
theorem dX4_gapBelow_75 : decode cX4_gapBelow 75 = .ok (.lreturn, 1) := by decide +kernel
theorem dX4_gapBelow_76 : decode cX4_gapBelow 76 = .ok (.lconst 1, 1) := by decide +kernel
theorem dX4_gapBelow_77 : decode cX4_gapBelow 77 = .ok (.lreturn, 1) := by decide +kernel
theorem dX4_merge_0 : decode cX4_merge 0 = .ok (.iconst 0, 1) := by decide +kernel
theorem dX4_merge_1 : decode cX4_merge 1 = .ok (.istore 4, 2) := by decide +kernel
theorem dX4_merge_3 : decode cX4_merge 3 = .ok (.iload 4, 2) := by decide +kernel
theorem dX4_merge_5 : decode cX4_merge 5 = .ok (.aload_n 1, 1) := by decide +kernel
theorem dX4_merge_6 : decode cX4_merge 6 = .ok (.getfield 58, 3) := by decide +kernel
theorem dX4_merge_9 : decode cX4_merge 9 = .ok (.if_icmp .ge 89, 3) := by decide +kernel
theorem dX4_merge_12 : decode cX4_merge 12 = .ok (.aload_n 0, 1) := by decide +kernel
theorem dX4_merge_13 : decode cX4_merge 13 = .ok (.getfield 31, 3) := by decide +kernel
theorem dX4_merge_16 : decode cX4_merge 16 = .ok (.iload 4, 2) := by decide +kernel
theorem dX4_merge_18 : decode cX4_merge 18 = .ok (.iaload, 1) := by decide +kernel
theorem dX4_merge_19 : decode cX4_merge 19 = .ok (.ifCond .le 73, 3) := by decide +kernel
theorem dX4_merge_22 : decode cX4_merge 22 = .ok (.iload 4, 2) := by decide +kernel
theorem dX4_merge_24 : decode cX4_merge 24 = .ok (.iload_n 2, 1) := by decide +kernel
theorem dX4_merge_25 : decode cX4_merge 25 = .ok (.if_icmp .eq 67, 3) := by decide +kernel
theorem dX4_merge_28 : decode cX4_merge 28 = .ok (.iload 4, 2) := by decide +kernel
theorem dX4_merge_30 : decode cX4_merge 30 = .ok (.iload_n 3, 1) := by decide +kernel
theorem dX4_merge_31 : decode cX4_merge 31 = .ok (.if_icmp .eq 61, 3) := by decide +kernel
theorem dX4_merge_34 : decode cX4_merge 34 = .ok (.aload_n 0, 1) := by decide +kernel
theorem dX4_merge_35 : decode cX4_merge 35 = .ok (.aload_n 0, 1) := by decide +kernel
theorem dX4_merge_36 : decode cX4_merge 36 = .ok (.getfield 37, 3) := by decide +kernel
theorem dX4_merge_39 : decode cX4_merge 39 = .ok (.iload_n 2, 1) := by decide +kernel
theorem dX4_merge_40 : decode cX4_merge 40 = .ok (.bipush 30, 2) := by decide +kernel
theorem dX4_merge_42 : decode cX4_merge 42 = .ok (.imul, 1) := by decide +kernel
theorem dX4_merge_43 : decode cX4_merge 43 = .ok (.iload 4, 2) := by decide +kernel
theorem dX4_merge_45 : decode cX4_merge 45 = .ok (.iadd, 1) := by decide +kernel
theorem dX4_merge_46 : decode cX4_merge 46 = .ok (.laload, 1) := by decide +kernel
theorem dX4_merge_47 : decode cX4_merge 47 = .ok (.aload_n 0, 1) := by decide +kernel
theorem dX4_merge_48 : decode cX4_merge 48 = .ok (.getfield 37, 3) := by decide +kernel
theorem dX4_merge_51 : decode cX4_merge 51 = .ok (.iload_n 3, 1) := by decide +kernel
theorem dX4_merge_52 : decode cX4_merge 52 = .ok (.bipush 30, 2) := by decide +kernel
theorem dX4_merge_54 : decode cX4_merge 54 = .ok (.imul, 1) := by decide +kernel
theorem dX4_merge_55 : decode cX4_merge 55 = .ok (.iload 4, 2) := by decide +kernel
theorem dX4_merge_57 : decode cX4_merge 57 = .ok (.iadd, 1) := by decide +kernel
theorem dX4_merge_58 : decode cX4_merge 58 = .ok (.laload, 1) := by decide +kernel
theorem dX4_merge_59 : decode cX4_merge 59 = .ok (.invokevirtual 109, 3) := by decide +kernel
theorem dX4_merge_62 : decode cX4_merge 62 = .ok (.lstore 5, 2) := by decide +kernel
theorem dX4_merge_64 : decode cX4_merge 64 = .ok (.aload_n 0, 1) := by decide +kernel
theorem dX4_merge_65 : decode cX4_merge 65 = .ok (.getfield 37, 3) := by decide +kernel
theorem dX4_merge_68 : decode cX4_merge 68 = .ok (.iload_n 2, 1) := by decide +kernel
theorem dX4_merge_69 : decode cX4_merge 69 = .ok (.bipush 30, 2) := by decide +kernel
theorem dX4_merge_71 : decode cX4_merge 71 = .ok (.imul, 1) := by decide +kernel
theorem dX4_merge_72 : decode cX4_merge 72 = .ok (.iload 4, 2) := by decide +kernel
theorem dX4_merge_74 : decode cX4_merge 74 = .ok (.iadd, 1) := by decide +kernel
theorem dX4_merge_75 : decode cX4_merge 75 = .ok (.lload 5, 2) := by decide +kernel
theorem dX4_merge_77 : decode cX4_merge 77 = .ok (.lastore, 1) := by decide +kernel
theorem dX4_merge_78 : decode cX4_merge 78 = .ok (.aload_n 0, 1) := by decide +kernel
theorem dX4_merge_79 : decode cX4_merge 79 = .ok (.getfield 37, 3) := by decide +kernel
theorem dX4_merge_82 : decode cX4_merge 82 = .ok (.iload 4, 2) := by decide +kernel
theorem dX4_merge_84 : decode cX4_merge 84 = .ok (.bipush 30, 2) := by decide +kernel
theorem dX4_merge_86 : decode cX4_merge 86 = .ok (.imul, 1) := by decide +kernel
theorem dX4_merge_87 : decode cX4_merge 87 = .ok (.iload_n 2, 1) := by decide +kernel
theorem dX4_merge_88 : decode cX4_merge 88 = .ok (.iadd, 1) := by decide +kernel
theorem dX4_merge_89 : decode cX4_merge 89 = .ok (.lload 5, 2) := by decide +kernel
theorem dX4_merge_91 : decode cX4_merge 91 = .ok (.lastore, 1) := by decide +kernel
theorem dX4_merge_92 : decode cX4_merge 92 = .ok (.iinc 4 1, 3) := by decide +kernel
theorem dX4_merge_95 : decode cX4_merge 95 = .ok (.goto (-92), 3) := by decide +kernel
theorem dX4_merge_98 : decode cX4_merge 98 = .ok (.iconst 0, 1) := by decide +kernel
theorem dX4_merge_99 : decode cX4_merge 99 = .ok (.istore 4, 2) := by decide +kernel
theorem dX4_merge_101 : decode cX4_merge 101 = .ok (.iload 4, 2) := by decide +kernel
theorem dX4_merge_103 : decode cX4_merge 103 = .ok (.aload_n 1, 1) := by decide +kernel
theorem dX4_merge_104 : decode cX4_merge 104 = .ok (.getfield 75, 3) := by decide +kernel
theorem dX4_merge_107 : decode cX4_merge 107 = .ok (.if_icmp .ge 34, 3) := by decide +kernel
theorem dX4_merge_110 : decode cX4_merge 110 = .ok (.aload_n 0, 1) := by decide +kernel
theorem dX4_merge_111 : decode cX4_merge 111 = .ok (.getfield 34, 3) := by decide +kernel
theorem dX4_merge_114 : decode cX4_merge 114 = .ok (.iload_n 2, 1) := by decide +kernel
theorem dX4_merge_115 : decode cX4_merge 115 = .ok (.iconst 4, 1) := by decide +kernel
theorem dX4_merge_116 : decode cX4_merge 116 = .ok (.imul, 1) := by decide +kernel
theorem dX4_merge_117 : decode cX4_merge 117 = .ok (.iload 4, 2) := by decide +kernel
theorem dX4_merge_119 : decode cX4_merge 119 = .ok (.iadd, 1) := by decide +kernel
theorem dX4_merge_120 : decode cX4_merge 120 = .ok (.dup2, 1) := by decide +kernel
theorem dX4_merge_121 : decode cX4_merge 121 = .ok (.laload, 1) := by decide +kernel
theorem dX4_merge_122 : decode cX4_merge 122 = .ok (.aload_n 0, 1) := by decide +kernel
theorem dX4_merge_123 : decode cX4_merge 123 = .ok (.getfield 34, 3) := by decide +kernel
theorem dX4_merge_126 : decode cX4_merge 126 = .ok (.iload_n 3, 1) := by decide +kernel
theorem dX4_merge_127 : decode cX4_merge 127 = .ok (.iconst 4, 1) := by decide +kernel
theorem dX4_merge_128 : decode cX4_merge 128 = .ok (.imul, 1) := by decide +kernel
theorem dX4_merge_129 : decode cX4_merge 129 = .ok (.iload 4, 2) := by decide +kernel
theorem dX4_merge_131 : decode cX4_merge 131 = .ok (.iadd, 1) := by decide +kernel
theorem dX4_merge_132 : decode cX4_merge 132 = .ok (.laload, 1) := by decide +kernel
theorem dX4_merge_133 : decode cX4_merge 133 = .ok (.ladd, 1) := by decide +kernel
theorem dX4_merge_134 : decode cX4_merge 134 = .ok (.lastore, 1) := by decide +kernel
theorem dX4_merge_135 : decode cX4_merge 135 = .ok (.iinc 4 1, 3) := by decide +kernel
theorem dX4_merge_138 : decode cX4_merge 138 = .ok (.goto (-37), 3) := by decide +kernel
theorem dX4_merge_141 : decode cX4_merge 141 = .ok (.aload_n 0, 1) := by decide +kernel
theorem dX4_merge_142 : decode cX4_merge 142 = .ok (.getfield 31, 3) := by decide +kernel
theorem dX4_merge_145 : decode cX4_merge 145 = .ok (.iload_n 2, 1) := by decide +kernel
theorem dX4_merge_146 : decode cX4_merge 146 = .ok (.dup2, 1) := by decide +kernel
theorem dX4_merge_147 : decode cX4_merge 147 = .ok (.iaload, 1) := by decide +kernel
theorem dX4_merge_148 : decode cX4_merge 148 = .ok (.aload_n 0, 1) := by decide +kernel
theorem dX4_merge_149 : decode cX4_merge 149 = .ok (.getfield 31, 3) := by decide +kernel
theorem dX4_merge_152 : decode cX4_merge 152 = .ok (.iload_n 3, 1) := by decide +kernel
theorem dX4_merge_153 : decode cX4_merge 153 = .ok (.iaload, 1) := by decide +kernel
theorem dX4_merge_154 : decode cX4_merge 154 = .ok (.iadd, 1) := by decide +kernel
theorem dX4_merge_155 : decode cX4_merge 155 = .ok (.iastore, 1) := by decide +kernel
theorem dX4_merge_156 : decode cX4_merge 156 = .ok (.aload_n 0, 1) := by decide +kernel
theorem dX4_merge_157 : decode cX4_merge 157 = .ok (.getfield 31, 3) := by decide +kernel
theorem dX4_merge_160 : decode cX4_merge 160 = .ok (.iload_n 3, 1) := by decide +kernel
theorem dX4_merge_161 : decode cX4_merge 161 = .ok (.iconst 0, 1) := by decide +kernel
theorem dX4_merge_162 : decode cX4_merge 162 = .ok (.iastore, 1) := by decide +kernel
theorem dX4_merge_163 : decode cX4_merge 163 = .ok (.return_, 1) := by decide +kernel
theorem dX4_gapToBoth_0 : decode cX4_gapToBoth 0 = .ok (.aload_n 0, 1) := by decide +kernel
theorem dX4_gapToBoth_1 : decode cX4_gapToBoth 1 = .ok (.getfield 47, 3) := by decide +kernel
theorem dX4_gapToBoth_4 : decode cX4_gapToBoth 4 = .ok (.lookupswitch 40 #[(0, 28), (1, 34)], 28) := by decide +kernel
theorem dX4_gapToBoth_32 : decode cX4_gapToBoth 32 = .ok (.lload_n 1, 1) := by decide +kernel
theorem dX4_gapToBoth_33 : decode cX4_gapToBoth 33 = .ok (.lload_n 3, 1) := by decide +kernel
theorem dX4_gapToBoth_34 : decode cX4_gapToBoth 34 = .ok (.invokestatic 113, 3) := by decide +kernel
theorem dX4_gapToBoth_37 : decode cX4_gapToBoth 37 = .ok (.lreturn, 1) := by decide +kernel
theorem dX4_gapToBoth_38 : decode cX4_gapToBoth 38 = .ok (.lload_n 1, 1) := by decide +kernel
theorem dX4_gapToBoth_39 : decode cX4_gapToBoth 39 = .ok (.lload_n 3, 1) := by decide +kernel
theorem dX4_gapToBoth_40 : decode cX4_gapToBoth 40 = .ok (.invokestatic 118, 3) := by decide +kernel
theorem dX4_gapToBoth_43 : decode cX4_gapToBoth 43 = .ok (.lreturn, 1) := by decide +kernel
theorem dX4_gapToBoth_44 : decode cX4_gapToBoth 44 = .ok (.lload_n 1, 1) := by decide +kernel
theorem dX4_gapToBoth_45 : decode cX4_gapToBoth 45 = .ok (.lload_n 3, 1) := by decide +kernel
theorem dX4_gapToBoth_46 : decode cX4_gapToBoth 46 = .ok (.ladd, 1) := by decide +kernel
theorem dX4_gapToBoth_47 : decode cX4_gapToBoth 47 = .ok (.lreturn, 1) := by decide +kernel
theorem dX5_init_0 : decode cX5_init 0 = .ok (.aload_n 0, 1) := by decide +kernel
theorem dX5_init_1 : decode cX5_init 1 = .ok (.invokespecial 3, 3) := by decide +kernel
theorem dX5_init_4 : decode cX5_init 4 = .ok (.aload_n 0, 1) := by decide +kernel
theorem dX5_init_5 : decode cX5_init 5 = .ok (.bipush 30, 2) := by decide +kernel
theorem dX5_init_7 : decode cX5_init 7 = .ok (.newarray .int, 2) := by decide +kernel
theorem dX5_init_9 : decode cX5_init 9 = .ok (.putfield 9, 3) := by decide +kernel
theorem dX5_init_12 : decode cX5_init 12 = .ok (.aload_n 0, 1) := by decide +kernel
theorem dX5_init_13 : decode cX5_init 13 = .ok (.bipush 30, 2) := by decide +kernel
theorem dX5_init_15 : decode cX5_init 15 = .ok (.newarray .int, 2) := by decide +kernel
theorem dX5_init_17 : decode cX5_init 17 = .ok (.putfield 15, 3) := by decide +kernel
theorem dX5_init_20 : decode cX5_init 20 = .ok (.aload_n 0, 1) := by decide +kernel
theorem dX5_init_21 : decode cX5_init 21 = .ok (.bipush 6, 2) := by decide +kernel
theorem dX5_init_23 : decode cX5_init 23 = .ok (.newarray .int, 2) := by decide +kernel
theorem dX5_init_25 : decode cX5_init 25 = .ok (.putfield 18, 3) := by decide +kernel
theorem dX5_init_28 : decode cX5_init 28 = .ok (.aload_n 0, 1) := by decide +kernel
theorem dX5_init_29 : decode cX5_init 29 = .ok (.bipush 24, 2) := by decide +kernel
theorem dX5_init_31 : decode cX5_init 31 = .ok (.newarray .int, 2) := by decide +kernel
theorem dX5_init_33 : decode cX5_init 33 = .ok (.putfield 21, 3) := by decide +kernel
theorem dX5_init_36 : decode cX5_init 36 = .ok (.aload_n 0, 1) := by decide +kernel
theorem dX5_init_37 : decode cX5_init 37 = .ok (.bipush 6, 2) := by decide +kernel
theorem dX5_init_39 : decode cX5_init 39 = .ok (.newarray .int, 2) := by decide +kernel
theorem dX5_init_41 : decode cX5_init 41 = .ok (.putfield 24, 3) := by decide +kernel
theorem dX5_init_44 : decode cX5_init 44 = .ok (.aload_n 0, 1) := by decide +kernel
theorem dX5_init_45 : decode cX5_init 45 = .ok (.bipush 30, 2) := by decide +kernel
theorem dX5_init_47 : decode cX5_init 47 = .ok (.newarray .int, 2) := by decide +kernel
theorem dX5_init_49 : decode cX5_init 49 = .ok (.putfield 27, 3) := by decide +kernel
theorem dX5_init_52 : decode cX5_init 52 = .ok (.aload_n 0, 1) := by decide +kernel
theorem dX5_init_53 : decode cX5_init 53 = .ok (.iconst 0, 1) := by decide +kernel
theorem dX5_init_54 : decode cX5_init 54 = .ok (.putfield 30, 3) := by decide +kernel
theorem dX5_init_57 : decode cX5_init 57 = .ok (.return_, 1) := by decide +kernel
theorem dX5_run_0 : decode cX5_run 0 = .ok (.aload_n 0, 1) := by decide +kernel
theorem dX5_run_1 : decode cX5_run 1 = .ok (.iload_n 2, 1) := by decide +kernel
theorem dX5_run_2 : decode cX5_run 2 = .ok (.putfield 30, 3) := by decide +kernel
theorem dX5_run_5 : decode cX5_run 5 = .ok (.aload_n 0, 1) := by decide +kernel
theorem dX5_run_6 : decode cX5_run 6 = .ok (.aload_n 1, 1) := by decide +kernel
theorem dX5_run_7 : decode cX5_run 7 = .ok (.invokevirtual 34, 3) := by decide +kernel
theorem dX5_run_10 : decode cX5_run 10 = .ok (.iconst 0, 1) := by decide +kernel
theorem dX5_run_11 : decode cX5_run 11 = .ok (.istore_n 3, 1) := by decide +kernel
theorem dX5_run_12 : decode cX5_run 12 = .ok (.iload_n 3, 1) := by decide +kernel
theorem dX5_run_13 : decode cX5_run 13 = .ok (.aload_n 1, 1) := by decide +kernel
theorem dX5_run_14 : decode cX5_run 14 = .ok (.getfield 38, 3) := by decide +kernel
theorem dX5_run_17 : decode cX5_run 17 = .ok (.if_icmp .ge 16, 3) := by decide +kernel
theorem dX5_run_20 : decode cX5_run 20 = .ok (.aload_n 0, 1) := by decide +kernel
theorem dX5_run_21 : decode cX5_run 21 = .ok (.getfield 15, 3) := by decide +kernel
theorem dX5_run_24 : decode cX5_run 24 = .ok (.iload_n 3, 1) := by decide +kernel
theorem dX5_run_25 : decode cX5_run 25 = .ok (.iconst (-1), 1) := by decide +kernel
theorem dX5_run_26 : decode cX5_run 26 = .ok (.iastore, 1) := by decide +kernel
theorem dX5_run_27 : decode cX5_run 27 = .ok (.iinc 3 1, 3) := by decide +kernel
theorem dX5_run_30 : decode cX5_run 30 = .ok (.goto (-18), 3) := by decide +kernel
theorem dX5_run_33 : decode cX5_run 33 = .ok (.iconst 1, 1) := by decide +kernel
theorem dX5_run_34 : decode cX5_run 34 = .ok (.istore_n 3, 1) := by decide +kernel
theorem dX5_run_35 : decode cX5_run 35 = .ok (.iload_n 3, 1) := by decide +kernel
theorem dX5_run_36 : decode cX5_run 36 = .ok (.bipush 60, 2) := by decide +kernel
theorem dX5_run_38 : decode cX5_run 38 = .ok (.if_icmp .ge 24, 3) := by decide +kernel
theorem dX5_run_41 : decode cX5_run 41 = .ok (.aload_n 0, 1) := by decide +kernel
theorem dX5_run_42 : decode cX5_run 42 = .ok (.aload_n 1, 1) := by decide +kernel
theorem dX5_run_43 : decode cX5_run 43 = .ok (.invokevirtual 43, 3) := by decide +kernel
theorem dX5_run_46 : decode cX5_run 46 = .ok (.ifCond .ne 5, 3) := by decide +kernel
theorem dX5_run_49 : decode cX5_run 49 = .ok (.iload_n 3, 1) := by decide +kernel
theorem dX5_run_50 : decode cX5_run 50 = .ok (.ireturn, 1) := by decide +kernel
theorem dX5_run_51 : decode cX5_run 51 = .ok (.aload_n 0, 1) := by decide +kernel
theorem dX5_run_52 : decode cX5_run 52 = .ok (.aload_n 1, 1) := by decide +kernel
theorem dX5_run_53 : decode cX5_run 53 = .ok (.invokevirtual 47, 3) := by decide +kernel
theorem dX5_run_56 : decode cX5_run 56 = .ok (.iinc 3 1, 3) := by decide +kernel
theorem dX5_run_59 : decode cX5_run 59 = .ok (.goto (-24), 3) := by decide +kernel
theorem dX5_run_62 : decode cX5_run 62 = .ok (.aload_n 0, 1) := by decide +kernel
theorem dX5_run_63 : decode cX5_run 63 = .ok (.aload_n 1, 1) := by decide +kernel
theorem dX5_run_64 : decode cX5_run 64 = .ok (.invokevirtual 43, 3) := by decide +kernel
theorem dX5_run_67 : decode cX5_run 67 = .ok (.pop, 1) := by decide +kernel
theorem dX5_run_68 : decode cX5_run 68 = .ok (.bipush 60, 2) := by decide +kernel
theorem dX5_run_70 : decode cX5_run 70 = .ok (.ireturn, 1) := by decide +kernel
theorem dX5_chooseFirstMeans_0 : decode cX5_chooseFirstMeans 0 = .ok (.iconst 0, 1) := by decide +kernel
theorem dX5_chooseFirstMeans_1 : decode cX5_chooseFirstMeans 1 = .ok (.istore_n 2, 1) := by decide +kernel
theorem dX5_chooseFirstMeans_2 : decode cX5_chooseFirstMeans 2 = .ok (.iload_n 2, 1) := by decide +kernel
theorem dX5_chooseFirstMeans_3 : decode cX5_chooseFirstMeans 3 = .ok (.aload_n 1, 1) := by decide +kernel
theorem dX5_chooseFirstMeans_4 : decode cX5_chooseFirstMeans 4 = .ok (.getfield 38, 3) := by decide +kernel
theorem dX5_chooseFirstMeans_7 : decode cX5_chooseFirstMeans 7 = .ok (.if_icmp .ge 17, 3) := by decide +kernel
theorem dX5_chooseFirstMeans_10 : decode cX5_chooseFirstMeans 10 = .ok (.aload_n 0, 1) := by decide +kernel
theorem dX5_chooseFirstMeans_11 : decode cX5_chooseFirstMeans 11 = .ok (.getfield 27, 3) := by decide +kernel
theorem dX5_chooseFirstMeans_14 : decode cX5_chooseFirstMeans 14 = .ok (.iload_n 2, 1) := by decide +kernel
theorem dX5_chooseFirstMeans_15 : decode cX5_chooseFirstMeans 15 = .ok (.ldc 52, 2) := by decide +kernel
theorem dX5_chooseFirstMeans_17 : decode cX5_chooseFirstMeans 17 = .ok (.iastore, 1) := by decide +kernel
theorem dX5_chooseFirstMeans_18 : decode cX5_chooseFirstMeans 18 = .ok (.iinc 2 1, 3) := by decide +kernel
theorem dX5_chooseFirstMeans_21 : decode cX5_chooseFirstMeans 21 = .ok (.goto (-19), 3) := by decide +kernel
theorem dX5_chooseFirstMeans_24 : decode cX5_chooseFirstMeans 24 = .ok (.iconst 0, 1) := by decide +kernel
theorem dX5_chooseFirstMeans_25 : decode cX5_chooseFirstMeans 25 = .ok (.istore_n 2, 1) := by decide +kernel
theorem dX5_chooseFirstMeans_26 : decode cX5_chooseFirstMeans 26 = .ok (.iconst 0, 1) := by decide +kernel
theorem dX5_chooseFirstMeans_27 : decode cX5_chooseFirstMeans 27 = .ok (.istore_n 3, 1) := by decide +kernel
theorem dX5_chooseFirstMeans_28 : decode cX5_chooseFirstMeans 28 = .ok (.iload_n 3, 1) := by decide +kernel
theorem dX5_chooseFirstMeans_29 : decode cX5_chooseFirstMeans 29 = .ok (.aload_n 0, 1) := by decide +kernel
theorem dX5_chooseFirstMeans_30 : decode cX5_chooseFirstMeans 30 = .ok (.getfield 30, 3) := by decide +kernel
theorem dX5_chooseFirstMeans_33 : decode cX5_chooseFirstMeans 33 = .ok (.if_icmp .ge 23, 3) := by decide +kernel
theorem dX5_chooseFirstMeans_36 : decode cX5_chooseFirstMeans 36 = .ok (.aload_n 0, 1) := by decide +kernel
theorem dX5_chooseFirstMeans_37 : decode cX5_chooseFirstMeans 37 = .ok (.aload_n 1, 1) := by decide +kernel
theorem dX5_chooseFirstMeans_38 : decode cX5_chooseFirstMeans 38 = .ok (.iload_n 3, 1) := by decide +kernel
theorem dX5_chooseFirstMeans_39 : decode cX5_chooseFirstMeans 39 = .ok (.iload_n 2, 1) := by decide +kernel
theorem dX5_chooseFirstMeans_40 : decode cX5_chooseFirstMeans 40 = .ok (.invokevirtual 53, 3) := by decide +kernel
theorem dX5_chooseFirstMeans_43 : decode cX5_chooseFirstMeans 43 = .ok (.aload_n 0, 1) := by decide +kernel
theorem dX5_chooseFirstMeans_44 : decode cX5_chooseFirstMeans 44 = .ok (.aload_n 1, 1) := by decide +kernel
theorem dX5_chooseFirstMeans_45 : decode cX5_chooseFirstMeans 45 = .ok (.iload_n 2, 1) := by decide +kernel
theorem dX5_chooseFirstMeans_46 : decode cX5_chooseFirstMeans 46 = .ok (.invokevirtual 57, 3) := by decide +kernel
theorem dX5_chooseFirstMeans_49 : decode cX5_chooseFirstMeans 49 = .ok (.istore_n 2, 1) := by decide +kernel
theorem dX5_chooseFirstMeans_50 : decode cX5_chooseFirstMeans 50 = .ok (.iinc 3 1, 3) := by decide +kernel
theorem dX5_chooseFirstMeans_53 : decode cX5_chooseFirstMeans 53 = .ok (.goto (-25), 3) := by decide +kernel
theorem dX5_chooseFirstMeans_56 : decode cX5_chooseFirstMeans 56 = .ok (.return_, 1) := by decide +kernel
theorem dX5_putFirstMean_0 : decode cX5_putFirstMean 0 = .ok (.aload_n 0, 1) := by decide +kernel
theorem dX5_putFirstMean_1 : decode cX5_putFirstMean 1 = .ok (.getfield 24, 3) := by decide +kernel
theorem dX5_putFirstMean_4 : decode cX5_putFirstMean 4 = .ok (.iload_n 2, 1) := by decide +kernel
theorem dX5_putFirstMean_5 : decode cX5_putFirstMean 5 = .ok (.iconst 1, 1) := by decide +kernel
theorem dX5_putFirstMean_6 : decode cX5_putFirstMean 6 = .ok (.iastore, 1) := by decide +kernel
theorem dX5_putFirstMean_7 : decode cX5_putFirstMean 7 = .ok (.iconst 0, 1) := by decide +kernel
theorem dX5_putFirstMean_8 : decode cX5_putFirstMean 8 = .ok (.istore 4, 2) := by decide +kernel
theorem dX5_putFirstMean_10 : decode cX5_putFirstMean 10 = .ok (.iload 4, 2) := by decide +kernel
theorem dX5_putFirstMean_12 : decode cX5_putFirstMean 12 = .ok (.aload_n 1, 1) := by decide +kernel
theorem dX5_putFirstMean_13 : decode cX5_putFirstMean 13 = .ok (.getfield 61, 3) := by decide +kernel
theorem dX5_putFirstMean_16 : decode cX5_putFirstMean 16 = .ok (.if_icmp .ge 27, 3) := by decide +kernel
theorem dX5_putFirstMean_19 : decode cX5_putFirstMean 19 = .ok (.aload_n 0, 1) := by decide +kernel
theorem dX5_putFirstMean_20 : decode cX5_putFirstMean 20 = .ok (.getfield 21, 3) := by decide +kernel
theorem dX5_putFirstMean_23 : decode cX5_putFirstMean 23 = .ok (.iload_n 2, 1) := by decide +kernel
theorem dX5_putFirstMean_24 : decode cX5_putFirstMean 24 = .ok (.iconst 4, 1) := by decide +kernel
theorem dX5_putFirstMean_25 : decode cX5_putFirstMean 25 = .ok (.imul, 1) := by decide +kernel
theorem dX5_putFirstMean_26 : decode cX5_putFirstMean 26 = .ok (.iload 4, 2) := by decide +kernel
theorem dX5_putFirstMean_28 : decode cX5_putFirstMean 28 = .ok (.iadd, 1) := by decide +kernel
theorem dX5_putFirstMean_29 : decode cX5_putFirstMean 29 = .ok (.aload_n 1, 1) := by decide +kernel
theorem dX5_putFirstMean_30 : decode cX5_putFirstMean 30 = .ok (.iload_n 3, 1) := by decide +kernel
theorem dX5_putFirstMean_31 : decode cX5_putFirstMean 31 = .ok (.iload 4, 2) := by decide +kernel
theorem dX5_putFirstMean_33 : decode cX5_putFirstMean 33 = .ok (.invokevirtual 64, 3) := by decide +kernel
theorem dX5_putFirstMean_36 : decode cX5_putFirstMean 36 = .ok (.iastore, 1) := by decide +kernel
theorem dX5_putFirstMean_37 : decode cX5_putFirstMean 37 = .ok (.iinc 4 1, 3) := by decide +kernel
theorem dX5_putFirstMean_40 : decode cX5_putFirstMean 40 = .ok (.goto (-30), 3) := by decide +kernel
theorem dX5_putFirstMean_43 : decode cX5_putFirstMean 43 = .ok (.return_, 1) := by decide +kernel
theorem dX5_farthestFromChosen_0 : decode cX5_farthestFromChosen 0 = .ok (.iconst 0, 1) := by decide +kernel
theorem dX5_farthestFromChosen_1 : decode cX5_farthestFromChosen 1 = .ok (.istore_n 3, 1) := by decide +kernel
theorem dX5_farthestFromChosen_2 : decode cX5_farthestFromChosen 2 = .ok (.aload_n 0, 1) := by decide +kernel
theorem dX5_farthestFromChosen_3 : decode cX5_farthestFromChosen 3 = .ok (.getfield 27, 3) := by decide +kernel
theorem dX5_farthestFromChosen_6 : decode cX5_farthestFromChosen 6 = .ok (.iload_n 2, 1) := by decide +kernel
theorem dX5_farthestFromChosen_7 : decode cX5_farthestFromChosen 7 = .ok (.iconst (-1), 1) := by decide +kernel
theorem dX5_farthestFromChosen_8 : decode cX5_farthestFromChosen 8 = .ok (.iastore, 1) := by decide +kernel
theorem dX5_farthestFromChosen_9 : decode cX5_farthestFromChosen 9 = .ok (.iconst 0, 1) := by decide +kernel
theorem dX5_farthestFromChosen_10 : decode cX5_farthestFromChosen 10 = .ok (.istore 4, 2) := by decide +kernel
theorem dX5_farthestFromChosen_12 : decode cX5_farthestFromChosen 12 = .ok (.iload 4, 2) := by decide +kernel
theorem dX5_farthestFromChosen_14 : decode cX5_farthestFromChosen 14 = .ok (.aload_n 1, 1) := by decide +kernel
theorem dX5_farthestFromChosen_15 : decode cX5_farthestFromChosen 15 = .ok (.getfield 38, 3) := by decide +kernel
theorem dX5_farthestFromChosen_18 : decode cX5_farthestFromChosen 18 = .ok (.if_icmp .ge 53, 3) := by decide +kernel
theorem dX5_farthestFromChosen_21 : decode cX5_farthestFromChosen 21 = .ok (.aload_n 0, 1) := by decide +kernel
theorem dX5_farthestFromChosen_22 : decode cX5_farthestFromChosen 22 = .ok (.getfield 27, 3) := by decide +kernel
theorem dX5_farthestFromChosen_25 : decode cX5_farthestFromChosen 25 = .ok (.iload 4, 2) := by decide +kernel
theorem dX5_farthestFromChosen_27 : decode cX5_farthestFromChosen 27 = .ok (.aload_n 0, 1) := by decide +kernel
theorem dX5_farthestFromChosen_28 : decode cX5_farthestFromChosen 28 = .ok (.getfield 27, 3) := by decide +kernel
theorem dX5_farthestFromChosen_31 : decode cX5_farthestFromChosen 31 = .ok (.iload 4, 2) := by decide +kernel
theorem dX5_farthestFromChosen_33 : decode cX5_farthestFromChosen 33 = .ok (.iaload, 1) := by decide +kernel
theorem dX5_farthestFromChosen_34 : decode cX5_farthestFromChosen 34 = .ok (.aload_n 1, 1) := by decide +kernel
theorem dX5_farthestFromChosen_35 : decode cX5_farthestFromChosen 35 = .ok (.iconst 0, 1) := by decide +kernel
theorem dX5_farthestFromChosen_36 : decode cX5_farthestFromChosen 36 = .ok (.iload_n 2, 1) := by decide +kernel
theorem dX5_farthestFromChosen_37 : decode cX5_farthestFromChosen 37 = .ok (.iload 4, 2) := by decide +kernel
theorem dX5_farthestFromChosen_39 : decode cX5_farthestFromChosen 39 = .ok (.invokevirtual 68, 3) := by decide +kernel
theorem dX5_farthestFromChosen_42 : decode cX5_farthestFromChosen 42 = .ok (.invokestatic 72, 3) := by decide +kernel
theorem dX5_farthestFromChosen_45 : decode cX5_farthestFromChosen 45 = .ok (.iastore, 1) := by decide +kernel
theorem dX5_farthestFromChosen_46 : decode cX5_farthestFromChosen 46 = .ok (.aload_n 0, 1) := by decide +kernel
theorem dX5_farthestFromChosen_47 : decode cX5_farthestFromChosen 47 = .ok (.getfield 27, 3) := by decide +kernel
theorem dX5_farthestFromChosen_50 : decode cX5_farthestFromChosen 50 = .ok (.iload 4, 2) := by decide +kernel
theorem dX5_farthestFromChosen_52 : decode cX5_farthestFromChosen 52 = .ok (.iaload, 1) := by decide +kernel
theorem dX5_farthestFromChosen_53 : decode cX5_farthestFromChosen 53 = .ok (.aload_n 0, 1) := by decide +kernel
theorem dX5_farthestFromChosen_54 : decode cX5_farthestFromChosen 54 = .ok (.getfield 27, 3) := by decide +kernel
theorem dX5_farthestFromChosen_57 : decode cX5_farthestFromChosen 57 = .ok (.iload_n 3, 1) := by decide +kernel
theorem dX5_farthestFromChosen_58 : decode cX5_farthestFromChosen 58 = .ok (.iaload, 1) := by decide +kernel
theorem dX5_farthestFromChosen_59 : decode cX5_farthestFromChosen 59 = .ok (.if_icmp .le 6, 3) := by decide +kernel
theorem dX5_farthestFromChosen_62 : decode cX5_farthestFromChosen 62 = .ok (.iload 4, 2) := by decide +kernel
theorem dX5_farthestFromChosen_64 : decode cX5_farthestFromChosen 64 = .ok (.istore_n 3, 1) := by decide +kernel
theorem dX5_farthestFromChosen_65 : decode cX5_farthestFromChosen 65 = .ok (.iinc 4 1, 3) := by decide +kernel
theorem dX5_farthestFromChosen_68 : decode cX5_farthestFromChosen 68 = .ok (.goto (-56), 3) := by decide +kernel
theorem dX5_farthestFromChosen_71 : decode cX5_farthestFromChosen 71 = .ok (.iload_n 3, 1) := by decide +kernel
theorem dX5_farthestFromChosen_72 : decode cX5_farthestFromChosen 72 = .ok (.ireturn, 1) := by decide +kernel
theorem dX5_moveRows_0 : decode cX5_moveRows 0 = .ok (.iconst 0, 1) := by decide +kernel
theorem dX5_moveRows_1 : decode cX5_moveRows 1 = .ok (.istore_n 2, 1) := by decide +kernel
theorem dX5_moveRows_2 : decode cX5_moveRows 2 = .ok (.iload_n 2, 1) := by decide +kernel
theorem dX5_moveRows_3 : decode cX5_moveRows 3 = .ok (.aload_n 0, 1) := by decide +kernel
theorem dX5_moveRows_4 : decode cX5_moveRows 4 = .ok (.getfield 30, 3) := by decide +kernel
theorem dX5_moveRows_7 : decode cX5_moveRows 7 = .ok (.if_icmp .ge 16, 3) := by decide +kernel
theorem dX5_moveRows_10 : decode cX5_moveRows 10 = .ok (.aload_n 0, 1) := by decide +kernel
theorem dX5_moveRows_11 : decode cX5_moveRows 11 = .ok (.getfield 18, 3) := by decide +kernel
theorem dX5_moveRows_14 : decode cX5_moveRows 14 = .ok (.iload_n 2, 1) := by decide +kernel
theorem dX5_moveRows_15 : decode cX5_moveRows 15 = .ok (.iconst 0, 1) := by decide +kernel
theorem dX5_moveRows_16 : decode cX5_moveRows 16 = .ok (.iastore, 1) := by decide +kernel
theorem dX5_moveRows_17 : decode cX5_moveRows 17 = .ok (.iinc 2 1, 3) := by decide +kernel
theorem dX5_moveRows_20 : decode cX5_moveRows 20 = .ok (.goto (-18), 3) := by decide +kernel
theorem dX5_moveRows_23 : decode cX5_moveRows 23 = .ok (.iconst 0, 1) := by decide +kernel
theorem dX5_moveRows_24 : decode cX5_moveRows 24 = .ok (.istore_n 2, 1) := by decide +kernel
theorem dX5_moveRows_25 : decode cX5_moveRows 25 = .ok (.iload_n 2, 1) := by decide +kernel
theorem dX5_moveRows_26 : decode cX5_moveRows 26 = .ok (.aload_n 1, 1) := by decide +kernel
theorem dX5_moveRows_27 : decode cX5_moveRows 27 = .ok (.getfield 38, 3) := by decide +kernel
theorem dX5_moveRows_30 : decode cX5_moveRows 30 = .ok (.if_icmp .ge 36, 3) := by decide +kernel
theorem dX5_moveRows_33 : decode cX5_moveRows 33 = .ok (.aload_n 0, 1) := by decide +kernel
theorem dX5_moveRows_34 : decode cX5_moveRows 34 = .ok (.getfield 9, 3) := by decide +kernel
theorem dX5_moveRows_37 : decode cX5_moveRows 37 = .ok (.iload_n 2, 1) := by decide +kernel
theorem dX5_moveRows_38 : decode cX5_moveRows 38 = .ok (.aload_n 0, 1) := by decide +kernel
theorem dX5_moveRows_39 : decode cX5_moveRows 39 = .ok (.aload_n 1, 1) := by decide +kernel
theorem dX5_moveRows_40 : decode cX5_moveRows 40 = .ok (.iload_n 2, 1) := by decide +kernel
theorem dX5_moveRows_41 : decode cX5_moveRows 41 = .ok (.invokevirtual 77, 3) := by decide +kernel
theorem dX5_moveRows_44 : decode cX5_moveRows 44 = .ok (.iastore, 1) := by decide +kernel
theorem dX5_moveRows_45 : decode cX5_moveRows 45 = .ok (.aload_n 0, 1) := by decide +kernel
theorem dX5_moveRows_46 : decode cX5_moveRows 46 = .ok (.getfield 18, 3) := by decide +kernel
theorem dX5_moveRows_49 : decode cX5_moveRows 49 = .ok (.aload_n 0, 1) := by decide +kernel
theorem dX5_moveRows_50 : decode cX5_moveRows 50 = .ok (.getfield 9, 3) := by decide +kernel
theorem dX5_moveRows_53 : decode cX5_moveRows 53 = .ok (.iload_n 2, 1) := by decide +kernel
theorem dX5_moveRows_54 : decode cX5_moveRows 54 = .ok (.iaload, 1) := by decide +kernel
theorem dX5_moveRows_55 : decode cX5_moveRows 55 = .ok (.dup2, 1) := by decide +kernel
theorem dX5_moveRows_56 : decode cX5_moveRows 56 = .ok (.iaload, 1) := by decide +kernel
theorem dX5_moveRows_57 : decode cX5_moveRows 57 = .ok (.iconst 1, 1) := by decide +kernel
theorem dX5_moveRows_58 : decode cX5_moveRows 58 = .ok (.iadd, 1) := by decide +kernel
theorem dX5_moveRows_59 : decode cX5_moveRows 59 = .ok (.iastore, 1) := by decide +kernel
theorem dX5_moveRows_60 : decode cX5_moveRows 60 = .ok (.iinc 2 1, 3) := by decide +kernel
theorem dX5_moveRows_63 : decode cX5_moveRows 63 = .ok (.goto (-38), 3) := by decide +kernel
theorem dX5_moveRows_66 : decode cX5_moveRows 66 = .ok (.iconst 0, 1) := by decide +kernel
theorem dX5_moveRows_67 : decode cX5_moveRows 67 = .ok (.istore_n 2, 1) := by decide +kernel
theorem dX5_moveRows_68 : decode cX5_moveRows 68 = .ok (.iload_n 2, 1) := by decide +kernel
theorem dX5_moveRows_69 : decode cX5_moveRows 69 = .ok (.aload_n 0, 1) := by decide +kernel
theorem dX5_moveRows_70 : decode cX5_moveRows 70 = .ok (.getfield 30, 3) := by decide +kernel
theorem dX5_moveRows_73 : decode cX5_moveRows 73 = .ok (.if_icmp .ge 24, 3) := by decide +kernel
theorem dX5_moveRows_76 : decode cX5_moveRows 76 = .ok (.aload_n 0, 1) := by decide +kernel
theorem dX5_moveRows_77 : decode cX5_moveRows 77 = .ok (.getfield 18, 3) := by decide +kernel
theorem dX5_moveRows_80 : decode cX5_moveRows 80 = .ok (.iload_n 2, 1) := by decide +kernel
theorem dX5_moveRows_81 : decode cX5_moveRows 81 = .ok (.iaload, 1) := by decide +kernel
theorem dX5_moveRows_82 : decode cX5_moveRows 82 = .ok (.ifCond .ne 9, 3) := by decide +kernel
theorem dX5_moveRows_85 : decode cX5_moveRows 85 = .ok (.aload_n 0, 1) := by decide +kernel
theorem dX5_moveRows_86 : decode cX5_moveRows 86 = .ok (.aload_n 1, 1) := by decide +kernel
theorem dX5_moveRows_87 : decode cX5_moveRows 87 = .ok (.iload_n 2, 1) := by decide +kernel
theorem dX5_moveRows_88 : decode cX5_moveRows 88 = .ok (.invokevirtual 80, 3) := by decide +kernel
theorem dX5_moveRows_91 : decode cX5_moveRows 91 = .ok (.iinc 2 1, 3) := by decide +kernel
theorem dX5_moveRows_94 : decode cX5_moveRows 94 = .ok (.goto (-26), 3) := by decide +kernel
theorem dX5_moveRows_97 : decode cX5_moveRows 97 = .ok (.aload_n 0, 1) := by decide +kernel
theorem dX5_moveRows_98 : decode cX5_moveRows 98 = .ok (.aload_n 1, 1) := by decide +kernel
theorem dX5_moveRows_99 : decode cX5_moveRows 99 = .ok (.getfield 38, 3) := by decide +kernel
theorem dX5_moveRows_102 : decode cX5_moveRows 102 = .ok (.invokevirtual 84, 3) := by decide +kernel
theorem dX5_moveRows_105 : decode cX5_moveRows 105 = .ok (.ireturn, 1) := by decide +kernel
theorem dX5_nearestMean_0 : decode cX5_nearestMean 0 = .ok (.iconst 0, 1) := by decide +kernel
theorem dX5_nearestMean_1 : decode cX5_nearestMean 1 = .ok (.istore_n 3, 1) := by decide +kernel
theorem dX5_nearestMean_2 : decode cX5_nearestMean 2 = .ok (.aload_n 0, 1) := by decide +kernel
theorem dX5_nearestMean_3 : decode cX5_nearestMean 3 = .ok (.aload_n 1, 1) := by decide +kernel
theorem dX5_nearestMean_4 : decode cX5_nearestMean 4 = .ok (.iload_n 2, 1) := by decide +kernel
theorem dX5_nearestMean_5 : decode cX5_nearestMean 5 = .ok (.iconst 0, 1) := by decide +kernel
theorem dX5_nearestMean_6 : decode cX5_nearestMean 6 = .ok (.invokevirtual 88, 3) := by decide +kernel
theorem dX5_nearestMean_9 : decode cX5_nearestMean 9 = .ok (.lstore 4, 2) := by decide +kernel
theorem dX5_nearestMean_11 : decode cX5_nearestMean 11 = .ok (.iconst 1, 1) := by decide +kernel
theorem dX5_nearestMean_12 : decode cX5_nearestMean 12 = .ok (.istore 6, 2) := by decide +kernel
theorem dX5_nearestMean_14 : decode cX5_nearestMean 14 = .ok (.iload 6, 2) := by decide +kernel
theorem dX5_nearestMean_16 : decode cX5_nearestMean 16 = .ok (.aload_n 0, 1) := by decide +kernel
theorem dX5_nearestMean_17 : decode cX5_nearestMean 17 = .ok (.getfield 30, 3) := by decide +kernel
theorem dX5_nearestMean_20 : decode cX5_nearestMean 20 = .ok (.if_icmp .ge 47, 3) := by decide +kernel
theorem dX5_nearestMean_23 : decode cX5_nearestMean 23 = .ok (.aload_n 0, 1) := by decide +kernel
theorem dX5_nearestMean_24 : decode cX5_nearestMean 24 = .ok (.aload_n 1, 1) := by decide +kernel
theorem dX5_nearestMean_25 : decode cX5_nearestMean 25 = .ok (.iload_n 2, 1) := by decide +kernel
theorem dX5_nearestMean_26 : decode cX5_nearestMean 26 = .ok (.iload 6, 2) := by decide +kernel
theorem dX5_nearestMean_28 : decode cX5_nearestMean 28 = .ok (.invokevirtual 88, 3) := by decide +kernel
theorem dX5_nearestMean_31 : decode cX5_nearestMean 31 = .ok (.lstore 7, 2) := by decide +kernel
theorem dX5_nearestMean_33 : decode cX5_nearestMean 33 = .ok (.lload 7, 2) := by decide +kernel
theorem dX5_nearestMean_35 : decode cX5_nearestMean 35 = .ok (.aload_n 0, 1) := by decide +kernel
theorem dX5_nearestMean_36 : decode cX5_nearestMean 36 = .ok (.iload 6, 2) := by decide +kernel
theorem dX5_nearestMean_38 : decode cX5_nearestMean 38 = .ok (.invokevirtual 92, 3) := by decide +kernel
theorem dX5_nearestMean_41 : decode cX5_nearestMean 41 = .ok (.lload 4, 2) := by decide +kernel
theorem dX5_nearestMean_43 : decode cX5_nearestMean 43 = .ok (.aload_n 0, 1) := by decide +kernel
theorem dX5_nearestMean_44 : decode cX5_nearestMean 44 = .ok (.iload_n 3, 1) := by decide +kernel
theorem dX5_nearestMean_45 : decode cX5_nearestMean 45 = .ok (.invokevirtual 92, 3) := by decide +kernel
theorem dX5_nearestMean_48 : decode cX5_nearestMean 48 = .ok (.invokestatic 96, 3) := by decide +kernel
theorem dX5_nearestMean_51 : decode cX5_nearestMean 51 = .ok (.ifCond .eq 10, 3) := by decide +kernel
theorem dX5_nearestMean_54 : decode cX5_nearestMean 54 = .ok (.iload 6, 2) := by decide +kernel
theorem dX5_nearestMean_56 : decode cX5_nearestMean 56 = .ok (.istore_n 3, 1) := by decide +kernel
theorem dX5_nearestMean_57 : decode cX5_nearestMean 57 = .ok (.lload 7, 2) := by decide +kernel
theorem dX5_nearestMean_59 : decode cX5_nearestMean 59 = .ok (.lstore 4, 2) := by decide +kernel
theorem dX5_nearestMean_61 : decode cX5_nearestMean 61 = .ok (.iinc 6 1, 3) := by decide +kernel
theorem dX5_nearestMean_64 : decode cX5_nearestMean 64 = .ok (.goto (-50), 3) := by decide +kernel
theorem dX5_nearestMean_67 : decode cX5_nearestMean 67 = .ok (.iload_n 3, 1) := by decide +kernel
theorem dX5_nearestMean_68 : decode cX5_nearestMean 68 = .ok (.ireturn, 1) := by decide +kernel
theorem dX5_takeFarthest_0 : decode cX5_takeFarthest 0 = .ok (.iconst (-1), 1) := by decide +kernel
theorem dX5_takeFarthest_1 : decode cX5_takeFarthest 1 = .ok (.istore_n 3, 1) := by decide +kernel
theorem dX5_takeFarthest_2 : decode cX5_takeFarthest 2 = .ok (.lconst 0, 1) := by decide +kernel
theorem dX5_takeFarthest_3 : decode cX5_takeFarthest 3 = .ok (.lstore 4, 2) := by decide +kernel
theorem dX5_takeFarthest_5 : decode cX5_takeFarthest 5 = .ok (.lconst 1, 1) := by decide +kernel
theorem dX5_takeFarthest_6 : decode cX5_takeFarthest 6 = .ok (.lstore 6, 2) := by decide +kernel
theorem dX5_takeFarthest_8 : decode cX5_takeFarthest 8 = .ok (.iconst 0, 1) := by decide +kernel
theorem dX5_takeFarthest_9 : decode cX5_takeFarthest 9 = .ok (.istore 8, 2) := by decide +kernel
theorem dX5_takeFarthest_11 : decode cX5_takeFarthest 11 = .ok (.iload 8, 2) := by decide +kernel
theorem dX5_takeFarthest_13 : decode cX5_takeFarthest 13 = .ok (.aload_n 1, 1) := by decide +kernel
theorem dX5_takeFarthest_14 : decode cX5_takeFarthest 14 = .ok (.getfield 38, 3) := by decide +kernel
theorem dX5_takeFarthest_17 : decode cX5_takeFarthest 17 = .ok (.if_icmp .ge 78, 3) := by decide +kernel
theorem dX5_takeFarthest_20 : decode cX5_takeFarthest 20 = .ok (.aload_n 0, 1) := by decide +kernel
theorem dX5_takeFarthest_21 : decode cX5_takeFarthest 21 = .ok (.getfield 9, 3) := by decide +kernel
theorem dX5_takeFarthest_24 : decode cX5_takeFarthest 24 = .ok (.iload 8, 2) := by decide +kernel
theorem dX5_takeFarthest_26 : decode cX5_takeFarthest 26 = .ok (.iaload, 1) := by decide +kernel
theorem dX5_takeFarthest_27 : decode cX5_takeFarthest 27 = .ok (.istore 9, 2) := by decide +kernel
theorem dX5_takeFarthest_29 : decode cX5_takeFarthest 29 = .ok (.aload_n 0, 1) := by decide +kernel
theorem dX5_takeFarthest_30 : decode cX5_takeFarthest 30 = .ok (.getfield 18, 3) := by decide +kernel
theorem dX5_takeFarthest_33 : decode cX5_takeFarthest 33 = .ok (.iload 9, 2) := by decide +kernel
theorem dX5_takeFarthest_35 : decode cX5_takeFarthest 35 = .ok (.iaload, 1) := by decide +kernel
theorem dX5_takeFarthest_36 : decode cX5_takeFarthest 36 = .ok (.iconst 2, 1) := by decide +kernel
theorem dX5_takeFarthest_37 : decode cX5_takeFarthest 37 = .ok (.if_icmp .lt 52, 3) := by decide +kernel
theorem dX5_takeFarthest_40 : decode cX5_takeFarthest 40 = .ok (.aload_n 0, 1) := by decide +kernel
theorem dX5_takeFarthest_41 : decode cX5_takeFarthest 41 = .ok (.aload_n 1, 1) := by decide +kernel
theorem dX5_takeFarthest_42 : decode cX5_takeFarthest 42 = .ok (.iload 8, 2) := by decide +kernel
theorem dX5_takeFarthest_44 : decode cX5_takeFarthest 44 = .ok (.iload 9, 2) := by decide +kernel
theorem dX5_takeFarthest_46 : decode cX5_takeFarthest 46 = .ok (.invokevirtual 88, 3) := by decide +kernel
theorem dX5_takeFarthest_49 : decode cX5_takeFarthest 49 = .ok (.lstore 10, 2) := by decide +kernel
theorem dX5_takeFarthest_51 : decode cX5_takeFarthest 51 = .ok (.iload_n 3, 1) := by decide +kernel
theorem dX5_takeFarthest_52 : decode cX5_takeFarthest 52 = .ok (.iconst (-1), 1) := by decide +kernel
theorem dX5_takeFarthest_53 : decode cX5_takeFarthest 53 = .ok (.if_icmp .eq 21, 3) := by decide +kernel
theorem dX5_takeFarthest_56 : decode cX5_takeFarthest 56 = .ok (.lload 4, 2) := by decide +kernel
theorem dX5_takeFarthest_58 : decode cX5_takeFarthest 58 = .ok (.lload 6, 2) := by decide +kernel
theorem dX5_takeFarthest_60 : decode cX5_takeFarthest 60 = .ok (.lload 10, 2) := by decide +kernel
theorem dX5_takeFarthest_62 : decode cX5_takeFarthest 62 = .ok (.aload_n 0, 1) := by decide +kernel
theorem dX5_takeFarthest_63 : decode cX5_takeFarthest 63 = .ok (.iload 9, 2) := by decide +kernel
theorem dX5_takeFarthest_65 : decode cX5_takeFarthest 65 = .ok (.invokevirtual 92, 3) := by decide +kernel
theorem dX5_takeFarthest_68 : decode cX5_takeFarthest 68 = .ok (.invokestatic 96, 3) := by decide +kernel
theorem dX5_takeFarthest_71 : decode cX5_takeFarthest 71 = .ok (.ifCond .eq 18, 3) := by decide +kernel
theorem dX5_takeFarthest_74 : decode cX5_takeFarthest 74 = .ok (.iload 8, 2) := by decide +kernel
theorem dX5_takeFarthest_76 : decode cX5_takeFarthest 76 = .ok (.istore_n 3, 1) := by decide +kernel
theorem dX5_takeFarthest_77 : decode cX5_takeFarthest 77 = .ok (.lload 10, 2) := by decide +kernel
theorem dX5_takeFarthest_79 : decode cX5_takeFarthest 79 = .ok (.lstore 4, 2) := by decide +kernel
theorem dX5_takeFarthest_81 : decode cX5_takeFarthest 81 = .ok (.aload_n 0, 1) := by decide +kernel
theorem dX5_takeFarthest_82 : decode cX5_takeFarthest 82 = .ok (.iload 9, 2) := by decide +kernel
theorem dX5_takeFarthest_84 : decode cX5_takeFarthest 84 = .ok (.invokevirtual 92, 3) := by decide +kernel
theorem dX5_takeFarthest_87 : decode cX5_takeFarthest 87 = .ok (.lstore 6, 2) := by decide +kernel
theorem dX5_takeFarthest_89 : decode cX5_takeFarthest 89 = .ok (.iinc 8 1, 3) := by decide +kernel
theorem dX5_takeFarthest_92 : decode cX5_takeFarthest 92 = .ok (.goto (-81), 3) := by decide +kernel
theorem dX5_takeFarthest_95 : decode cX5_takeFarthest 95 = .ok (.iload_n 3, 1) := by decide +kernel
theorem dX5_takeFarthest_96 : decode cX5_takeFarthest 96 = .ok (.iconst (-1), 1) := by decide +kernel
theorem dX5_takeFarthest_97 : decode cX5_takeFarthest 97 = .ok (.if_icmp .eq 35, 3) := by decide +kernel
theorem dX5_takeFarthest_100 : decode cX5_takeFarthest 100 = .ok (.aload_n 0, 1) := by decide +kernel
theorem dX5_takeFarthest_101 : decode cX5_takeFarthest 101 = .ok (.getfield 18, 3) := by decide +kernel
theorem dX5_takeFarthest_104 : decode cX5_takeFarthest 104 = .ok (.aload_n 0, 1) := by decide +kernel
theorem dX5_takeFarthest_105 : decode cX5_takeFarthest 105 = .ok (.getfield 9, 3) := by decide +kernel
theorem dX5_takeFarthest_108 : decode cX5_takeFarthest 108 = .ok (.iload_n 3, 1) := by decide +kernel
theorem dX5_takeFarthest_109 : decode cX5_takeFarthest 109 = .ok (.iaload, 1) := by decide +kernel
theorem dX5_takeFarthest_110 : decode cX5_takeFarthest 110 = .ok (.dup2, 1) := by decide +kernel
theorem dX5_takeFarthest_111 : decode cX5_takeFarthest 111 = .ok (.iaload, 1) := by decide +kernel
theorem dX5_takeFarthest_112 : decode cX5_takeFarthest 112 = .ok (.iconst 1, 1) := by decide +kernel
theorem dX5_takeFarthest_113 : decode cX5_takeFarthest 113 = .ok (.isub, 1) := by decide +kernel
theorem dX5_takeFarthest_114 : decode cX5_takeFarthest 114 = .ok (.iastore, 1) := by decide +kernel
theorem dX5_takeFarthest_115 : decode cX5_takeFarthest 115 = .ok (.aload_n 0, 1) := by decide +kernel
theorem dX5_takeFarthest_116 : decode cX5_takeFarthest 116 = .ok (.getfield 9, 3) := by decide +kernel
theorem dX5_takeFarthest_119 : decode cX5_takeFarthest 119 = .ok (.iload_n 3, 1) := by decide +kernel
theorem dX5_takeFarthest_120 : decode cX5_takeFarthest 120 = .ok (.iload_n 2, 1) := by decide +kernel
theorem dX5_takeFarthest_121 : decode cX5_takeFarthest 121 = .ok (.iastore, 1) := by decide +kernel
theorem dX5_takeFarthest_122 : decode cX5_takeFarthest 122 = .ok (.aload_n 0, 1) := by decide +kernel
theorem dX5_takeFarthest_123 : decode cX5_takeFarthest 123 = .ok (.getfield 18, 3) := by decide +kernel
theorem dX5_takeFarthest_126 : decode cX5_takeFarthest 126 = .ok (.iload_n 2, 1) := by decide +kernel
theorem dX5_takeFarthest_127 : decode cX5_takeFarthest 127 = .ok (.dup2, 1) := by decide +kernel
theorem dX5_takeFarthest_128 : decode cX5_takeFarthest 128 = .ok (.iaload, 1) := by decide +kernel
theorem dX5_takeFarthest_129 : decode cX5_takeFarthest 129 = .ok (.iconst 1, 1) := by decide +kernel
theorem dX5_takeFarthest_130 : decode cX5_takeFarthest 130 = .ok (.iadd, 1) := by decide +kernel
theorem dX5_takeFarthest_131 : decode cX5_takeFarthest 131 = .ok (.iastore, 1) := by decide +kernel
theorem dX5_takeFarthest_132 : decode cX5_takeFarthest 132 = .ok (.return_, 1) := by decide +kernel
theorem dX5_noteMoves_0 : decode cX5_noteMoves 0 = .ok (.iconst 0, 1) := by decide +kernel
theorem dX5_noteMoves_1 : decode cX5_noteMoves 1 = .ok (.istore_n 2, 1) := by decide +kernel
theorem dX5_noteMoves_2 : decode cX5_noteMoves 2 = .ok (.iconst 0, 1) := by decide +kernel
theorem dX5_noteMoves_3 : decode cX5_noteMoves 3 = .ok (.istore_n 3, 1) := by decide +kernel
theorem dX5_noteMoves_4 : decode cX5_noteMoves 4 = .ok (.iload_n 3, 1) := by decide +kernel
theorem dX5_noteMoves_5 : decode cX5_noteMoves 5 = .ok (.iload_n 1, 1) := by decide +kernel
theorem dX5_noteMoves_6 : decode cX5_noteMoves 6 = .ok (.if_icmp .ge 38, 3) := by decide +kernel
theorem dX5_noteMoves_9 : decode cX5_noteMoves 9 = .ok (.aload_n 0, 1) := by decide +kernel
theorem dX5_noteMoves_10 : decode cX5_noteMoves 10 = .ok (.getfield 9, 3) := by decide +kernel
theorem dX5_noteMoves_13 : decode cX5_noteMoves 13 = .ok (.iload_n 3, 1) := by decide +kernel
theorem dX5_noteMoves_14 : decode cX5_noteMoves 14 = .ok (.iaload, 1) := by decide +kernel
theorem dX5_noteMoves_15 : decode cX5_noteMoves 15 = .ok (.aload_n 0, 1) := by decide +kernel
theorem dX5_noteMoves_16 : decode cX5_noteMoves 16 = .ok (.getfield 15, 3) := by decide +kernel
theorem dX5_noteMoves_19 : decode cX5_noteMoves 19 = .ok (.iload_n 3, 1) := by decide +kernel
theorem dX5_noteMoves_20 : decode cX5_noteMoves 20 = .ok (.iaload, 1) := by decide +kernel
theorem dX5_noteMoves_21 : decode cX5_noteMoves 21 = .ok (.if_icmp .eq 5, 3) := by decide +kernel
theorem dX5_noteMoves_24 : decode cX5_noteMoves 24 = .ok (.iconst 1, 1) := by decide +kernel
theorem dX5_noteMoves_25 : decode cX5_noteMoves 25 = .ok (.istore_n 2, 1) := by decide +kernel
theorem dX5_noteMoves_26 : decode cX5_noteMoves 26 = .ok (.aload_n 0, 1) := by decide +kernel
theorem dX5_noteMoves_27 : decode cX5_noteMoves 27 = .ok (.getfield 15, 3) := by decide +kernel
theorem dX5_noteMoves_30 : decode cX5_noteMoves 30 = .ok (.iload_n 3, 1) := by decide +kernel
theorem dX5_noteMoves_31 : decode cX5_noteMoves 31 = .ok (.aload_n 0, 1) := by decide +kernel
theorem dX5_noteMoves_32 : decode cX5_noteMoves 32 = .ok (.getfield 9, 3) := by decide +kernel
theorem dX5_noteMoves_35 : decode cX5_noteMoves 35 = .ok (.iload_n 3, 1) := by decide +kernel
theorem dX5_noteMoves_36 : decode cX5_noteMoves 36 = .ok (.iaload, 1) := by decide +kernel
theorem dX5_noteMoves_37 : decode cX5_noteMoves 37 = .ok (.iastore, 1) := by decide +kernel
theorem dX5_noteMoves_38 : decode cX5_noteMoves 38 = .ok (.iinc 3 1, 3) := by decide +kernel
theorem dX5_noteMoves_41 : decode cX5_noteMoves 41 = .ok (.goto (-37), 3) := by decide +kernel
theorem dX5_noteMoves_44 : decode cX5_noteMoves 44 = .ok (.iload_n 2, 1) := by decide +kernel
theorem dX5_noteMoves_45 : decode cX5_noteMoves 45 = .ok (.ireturn, 1) := by decide +kernel
theorem dX5_remakeMeans_0 : decode cX5_remakeMeans 0 = .ok (.iconst 0, 1) := by decide +kernel
theorem dX5_remakeMeans_1 : decode cX5_remakeMeans 1 = .ok (.istore_n 2, 1) := by decide +kernel
theorem dX5_remakeMeans_2 : decode cX5_remakeMeans 2 = .ok (.iload_n 2, 1) := by decide +kernel
theorem dX5_remakeMeans_3 : decode cX5_remakeMeans 3 = .ok (.aload_n 0, 1) := by decide +kernel
theorem dX5_remakeMeans_4 : decode cX5_remakeMeans 4 = .ok (.getfield 30, 3) := by decide +kernel
theorem dX5_remakeMeans_7 : decode cX5_remakeMeans 7 = .ok (.if_icmp .ge 48, 3) := by decide +kernel
theorem dX5_remakeMeans_10 : decode cX5_remakeMeans 10 = .ok (.aload_n 0, 1) := by decide +kernel
theorem dX5_remakeMeans_11 : decode cX5_remakeMeans 11 = .ok (.getfield 24, 3) := by decide +kernel
theorem dX5_remakeMeans_14 : decode cX5_remakeMeans 14 = .ok (.iload_n 2, 1) := by decide +kernel
theorem dX5_remakeMeans_15 : decode cX5_remakeMeans 15 = .ok (.aload_n 0, 1) := by decide +kernel
theorem dX5_remakeMeans_16 : decode cX5_remakeMeans 16 = .ok (.getfield 18, 3) := by decide +kernel
theorem dX5_remakeMeans_19 : decode cX5_remakeMeans 19 = .ok (.iload_n 2, 1) := by decide +kernel
theorem dX5_remakeMeans_20 : decode cX5_remakeMeans 20 = .ok (.iaload, 1) := by decide +kernel
theorem dX5_remakeMeans_21 : decode cX5_remakeMeans 21 = .ok (.iastore, 1) := by decide +kernel
theorem dX5_remakeMeans_22 : decode cX5_remakeMeans 22 = .ok (.iconst 0, 1) := by decide +kernel
theorem dX5_remakeMeans_23 : decode cX5_remakeMeans 23 = .ok (.istore_n 3, 1) := by decide +kernel
theorem dX5_remakeMeans_24 : decode cX5_remakeMeans 24 = .ok (.iload_n 3, 1) := by decide +kernel
theorem dX5_remakeMeans_25 : decode cX5_remakeMeans 25 = .ok (.aload_n 1, 1) := by decide +kernel
theorem dX5_remakeMeans_26 : decode cX5_remakeMeans 26 = .ok (.getfield 61, 3) := by decide +kernel
theorem dX5_remakeMeans_29 : decode cX5_remakeMeans 29 = .ok (.if_icmp .ge 20, 3) := by decide +kernel
theorem dX5_remakeMeans_32 : decode cX5_remakeMeans 32 = .ok (.aload_n 0, 1) := by decide +kernel
theorem dX5_remakeMeans_33 : decode cX5_remakeMeans 33 = .ok (.getfield 21, 3) := by decide +kernel
theorem dX5_remakeMeans_36 : decode cX5_remakeMeans 36 = .ok (.iload_n 2, 1) := by decide +kernel
theorem dX5_remakeMeans_37 : decode cX5_remakeMeans 37 = .ok (.iconst 4, 1) := by decide +kernel
theorem dX5_remakeMeans_38 : decode cX5_remakeMeans 38 = .ok (.imul, 1) := by decide +kernel
theorem dX5_remakeMeans_39 : decode cX5_remakeMeans 39 = .ok (.iload_n 3, 1) := by decide +kernel
theorem dX5_remakeMeans_40 : decode cX5_remakeMeans 40 = .ok (.iadd, 1) := by decide +kernel
theorem dX5_remakeMeans_41 : decode cX5_remakeMeans 41 = .ok (.iconst 0, 1) := by decide +kernel
theorem dX5_remakeMeans_42 : decode cX5_remakeMeans 42 = .ok (.iastore, 1) := by decide +kernel
theorem dX5_remakeMeans_43 : decode cX5_remakeMeans 43 = .ok (.iinc 3 1, 3) := by decide +kernel
theorem dX5_remakeMeans_46 : decode cX5_remakeMeans 46 = .ok (.goto (-22), 3) := by decide +kernel
theorem dX5_remakeMeans_49 : decode cX5_remakeMeans 49 = .ok (.iinc 2 1, 3) := by decide +kernel
theorem dX5_remakeMeans_52 : decode cX5_remakeMeans 52 = .ok (.goto (-50), 3) := by decide +kernel
theorem dX5_remakeMeans_55 : decode cX5_remakeMeans 55 = .ok (.iconst 0, 1) := by decide +kernel
theorem dX5_remakeMeans_56 : decode cX5_remakeMeans 56 = .ok (.istore_n 2, 1) := by decide +kernel
theorem dX5_remakeMeans_57 : decode cX5_remakeMeans 57 = .ok (.iload_n 2, 1) := by decide +kernel
theorem dX5_remakeMeans_58 : decode cX5_remakeMeans 58 = .ok (.aload_n 1, 1) := by decide +kernel
theorem dX5_remakeMeans_59 : decode cX5_remakeMeans 59 = .ok (.getfield 38, 3) := by decide +kernel
theorem dX5_remakeMeans_62 : decode cX5_remakeMeans 62 = .ok (.if_icmp .ge 49, 3) := by decide +kernel
theorem dX5_remakeMeans_65 : decode cX5_remakeMeans 65 = .ok (.iconst 0, 1) := by decide +kernel
theorem dX5_remakeMeans_66 : decode cX5_remakeMeans 66 = .ok (.istore_n 3, 1) := by decide +kernel
theorem dX5_remakeMeans_67 : decode cX5_remakeMeans 67 = .ok (.iload_n 3, 1) := by decide +kernel
theorem dX5_remakeMeans_68 : decode cX5_remakeMeans 68 = .ok (.aload_n 1, 1) := by decide +kernel
theorem dX5_remakeMeans_69 : decode cX5_remakeMeans 69 = .ok (.getfield 61, 3) := by decide +kernel
theorem dX5_remakeMeans_72 : decode cX5_remakeMeans 72 = .ok (.if_icmp .ge 33, 3) := by decide +kernel
theorem dX5_remakeMeans_75 : decode cX5_remakeMeans 75 = .ok (.aload_n 0, 1) := by decide +kernel
theorem dX5_remakeMeans_76 : decode cX5_remakeMeans 76 = .ok (.getfield 21, 3) := by decide +kernel
theorem dX5_remakeMeans_79 : decode cX5_remakeMeans 79 = .ok (.aload_n 0, 1) := by decide +kernel
theorem dX5_remakeMeans_80 : decode cX5_remakeMeans 80 = .ok (.getfield 9, 3) := by decide +kernel
theorem dX5_remakeMeans_83 : decode cX5_remakeMeans 83 = .ok (.iload_n 2, 1) := by decide +kernel
theorem dX5_remakeMeans_84 : decode cX5_remakeMeans 84 = .ok (.iaload, 1) := by decide +kernel
theorem dX5_remakeMeans_85 : decode cX5_remakeMeans 85 = .ok (.iconst 4, 1) := by decide +kernel
theorem dX5_remakeMeans_86 : decode cX5_remakeMeans 86 = .ok (.imul, 1) := by decide +kernel
theorem dX5_remakeMeans_87 : decode cX5_remakeMeans 87 = .ok (.iload_n 3, 1) := by decide +kernel
theorem dX5_remakeMeans_88 : decode cX5_remakeMeans 88 = .ok (.iadd, 1) := by decide +kernel
theorem dX5_remakeMeans_89 : decode cX5_remakeMeans 89 = .ok (.dup2, 1) := by decide +kernel
theorem dX5_remakeMeans_90 : decode cX5_remakeMeans 90 = .ok (.iaload, 1) := by decide +kernel
theorem dX5_remakeMeans_91 : decode cX5_remakeMeans 91 = .ok (.aload_n 1, 1) := by decide +kernel
theorem dX5_remakeMeans_92 : decode cX5_remakeMeans 92 = .ok (.iload_n 2, 1) := by decide +kernel
theorem dX5_remakeMeans_93 : decode cX5_remakeMeans 93 = .ok (.iload_n 3, 1) := by decide +kernel
theorem dX5_remakeMeans_94 : decode cX5_remakeMeans 94 = .ok (.invokevirtual 64, 3) := by decide +kernel
theorem dX5_remakeMeans_97 : decode cX5_remakeMeans 97 = .ok (.iadd, 1) := by decide +kernel
theorem dX5_remakeMeans_98 : decode cX5_remakeMeans 98 = .ok (.iastore, 1) := by decide +kernel
theorem dX5_remakeMeans_99 : decode cX5_remakeMeans 99 = .ok (.iinc 3 1, 3) := by decide +kernel
theorem dX5_remakeMeans_102 : decode cX5_remakeMeans 102 = .ok (.goto (-35), 3) := by decide +kernel
theorem dX5_remakeMeans_105 : decode cX5_remakeMeans 105 = .ok (.iinc 2 1, 3) := by decide +kernel
theorem dX5_remakeMeans_108 : decode cX5_remakeMeans 108 = .ok (.goto (-51), 3) := by decide +kernel
theorem dX5_remakeMeans_111 : decode cX5_remakeMeans 111 = .ok (.return_, 1) := by decide +kernel
theorem dX5_squaresAbove_0 : decode cX5_squaresAbove 0 = .ok (.lconst 0, 1) := by decide +kernel
theorem dX5_squaresAbove_1 : decode cX5_squaresAbove 1 = .ok (.lstore 4, 2) := by decide +kernel
theorem dX5_squaresAbove_3 : decode cX5_squaresAbove 3 = .ok (.iconst 0, 1) := by decide +kernel
theorem dX5_squaresAbove_4 : decode cX5_squaresAbove 4 = .ok (.istore 6, 2) := by decide +kernel
theorem dX5_squaresAbove_6 : decode cX5_squaresAbove 6 = .ok (.iload 6, 2) := by decide +kernel
theorem dX5_squaresAbove_8 : decode cX5_squaresAbove 8 = .ok (.aload_n 1, 1) := by decide +kernel
theorem dX5_squaresAbove_9 : decode cX5_squaresAbove 9 = .ok (.getfield 61, 3) := by decide +kernel
theorem dX5_squaresAbove_12 : decode cX5_squaresAbove 12 = .ok (.if_icmp .ge 48, 3) := by decide +kernel
theorem dX5_squaresAbove_15 : decode cX5_squaresAbove 15 = .ok (.aload_n 1, 1) := by decide +kernel
theorem dX5_squaresAbove_16 : decode cX5_squaresAbove 16 = .ok (.iload_n 2, 1) := by decide +kernel
theorem dX5_squaresAbove_17 : decode cX5_squaresAbove 17 = .ok (.iload 6, 2) := by decide +kernel
theorem dX5_squaresAbove_19 : decode cX5_squaresAbove 19 = .ok (.invokevirtual 64, 3) := by decide +kernel
theorem dX5_squaresAbove_22 : decode cX5_squaresAbove 22 = .ok (.aload_n 0, 1) := by decide +kernel
theorem dX5_squaresAbove_23 : decode cX5_squaresAbove 23 = .ok (.getfield 24, 3) := by decide +kernel
theorem dX5_squaresAbove_26 : decode cX5_squaresAbove 26 = .ok (.iload_n 3, 1) := by decide +kernel
theorem dX5_squaresAbove_27 : decode cX5_squaresAbove 27 = .ok (.iaload, 1) := by decide +kernel
theorem dX5_squaresAbove_28 : decode cX5_squaresAbove 28 = .ok (.imul, 1) := by decide +kernel
theorem dX5_squaresAbove_29 : decode cX5_squaresAbove 29 = .ok (.aload_n 0, 1) := by decide +kernel
theorem dX5_squaresAbove_30 : decode cX5_squaresAbove 30 = .ok (.getfield 21, 3) := by decide +kernel
theorem dX5_squaresAbove_33 : decode cX5_squaresAbove 33 = .ok (.iload_n 3, 1) := by decide +kernel
theorem dX5_squaresAbove_34 : decode cX5_squaresAbove 34 = .ok (.iconst 4, 1) := by decide +kernel
theorem dX5_squaresAbove_35 : decode cX5_squaresAbove 35 = .ok (.imul, 1) := by decide +kernel
theorem dX5_squaresAbove_36 : decode cX5_squaresAbove 36 = .ok (.iload 6, 2) := by decide +kernel
theorem dX5_squaresAbove_38 : decode cX5_squaresAbove 38 = .ok (.iadd, 1) := by decide +kernel
theorem dX5_squaresAbove_39 : decode cX5_squaresAbove 39 = .ok (.iaload, 1) := by decide +kernel
theorem dX5_squaresAbove_40 : decode cX5_squaresAbove 40 = .ok (.isub, 1) := by decide +kernel
theorem dX5_squaresAbove_41 : decode cX5_squaresAbove 41 = .ok (.i2l, 1) := by decide +kernel
theorem dX5_squaresAbove_42 : decode cX5_squaresAbove 42 = .ok (.lstore 7, 2) := by decide +kernel
theorem dX5_squaresAbove_44 : decode cX5_squaresAbove 44 = .ok (.lload 4, 2) := by decide +kernel
theorem dX5_squaresAbove_46 : decode cX5_squaresAbove 46 = .ok (.lload 7, 2) := by decide +kernel
theorem dX5_squaresAbove_48 : decode cX5_squaresAbove 48 = .ok (.lload 7, 2) := by decide +kernel
theorem dX5_squaresAbove_50 : decode cX5_squaresAbove 50 = .ok (.lmul, 1) := by decide +kernel
theorem dX5_squaresAbove_51 : decode cX5_squaresAbove 51 = .ok (.ladd, 1) := by decide +kernel
theorem dX5_squaresAbove_52 : decode cX5_squaresAbove 52 = .ok (.lstore 4, 2) := by decide +kernel
theorem dX5_squaresAbove_54 : decode cX5_squaresAbove 54 = .ok (.iinc 6 1, 3) := by decide +kernel
theorem dX5_squaresAbove_57 : decode cX5_squaresAbove 57 = .ok (.goto (-51), 3) := by decide +kernel
theorem dX5_squaresAbove_60 : decode cX5_squaresAbove 60 = .ok (.lload 4, 2) := by decide +kernel
theorem dX5_squaresAbove_62 : decode cX5_squaresAbove 62 = .ok (.lreturn, 1) := by decide +kernel
theorem dX5_squaresBelow_0 : decode cX5_squaresBelow 0 = .ok (.aload_n 0, 1) := by decide +kernel
theorem dX5_squaresBelow_1 : decode cX5_squaresBelow 1 = .ok (.getfield 24, 3) := by decide +kernel
theorem dX5_squaresBelow_4 : decode cX5_squaresBelow 4 = .ok (.iload_n 1, 1) := by decide +kernel
theorem dX5_squaresBelow_5 : decode cX5_squaresBelow 5 = .ok (.iaload, 1) := by decide +kernel
theorem dX5_squaresBelow_6 : decode cX5_squaresBelow 6 = .ok (.aload_n 0, 1) := by decide +kernel
theorem dX5_squaresBelow_7 : decode cX5_squaresBelow 7 = .ok (.getfield 24, 3) := by decide +kernel
theorem dX5_squaresBelow_10 : decode cX5_squaresBelow 10 = .ok (.iload_n 1, 1) := by decide +kernel
theorem dX5_squaresBelow_11 : decode cX5_squaresBelow 11 = .ok (.iaload, 1) := by decide +kernel
theorem dX5_squaresBelow_12 : decode cX5_squaresBelow 12 = .ok (.imul, 1) := by decide +kernel
theorem dX5_squaresBelow_13 : decode cX5_squaresBelow 13 = .ok (.i2l, 1) := by decide +kernel
theorem dX5_squaresBelow_14 : decode cX5_squaresBelow 14 = .ok (.lreturn, 1) := by decide +kernel
theorem dX6_init_0 : decode cX6_init 0 = .ok (.aload_n 0, 1) := by decide +kernel
theorem dX6_init_1 : decode cX6_init 1 = .ok (.invokespecial 3, 3) := by decide +kernel
theorem dX6_init_4 : decode cX6_init 4 = .ok (.aload_n 0, 1) := by decide +kernel
theorem dX6_init_5 : decode cX6_init 5 = .ok (.bipush 120, 2) := by decide +kernel
theorem dX6_init_7 : decode cX6_init 7 = .ok (.newarray .int, 2) := by decide +kernel
theorem dX6_init_9 : decode cX6_init 9 = .ok (.putfield 9, 3) := by decide +kernel
theorem dX6_init_12 : decode cX6_init 12 = .ok (.aload_n 0, 1) := by decide +kernel
theorem dX6_init_13 : decode cX6_init 13 = .ok (.sipush 2700, 3) := by decide +kernel
theorem dX6_init_16 : decode cX6_init 16 = .ok (.newarray .int, 2) := by decide +kernel
theorem dX6_init_18 : decode cX6_init 18 = .ok (.putfield 15, 3) := by decide +kernel
theorem dX6_init_21 : decode cX6_init 21 = .ok (.aload_n 0, 1) := by decide +kernel
theorem dX6_init_22 : decode cX6_init 22 = .ok (.iconst 2, 1) := by decide +kernel
theorem dX6_init_23 : decode cX6_init 23 = .ok (.putfield 18, 3) := by decide +kernel
theorem dX6_init_26 : decode cX6_init 26 = .ok (.aload_n 0, 1) := by decide +kernel
theorem dX6_init_27 : decode cX6_init 27 = .ok (.iconst 0, 1) := by decide +kernel
theorem dX6_init_28 : decode cX6_init 28 = .ok (.putfield 22, 3) := by decide +kernel
theorem dX6_init_31 : decode cX6_init 31 = .ok (.return_, 1) := by decide +kernel
theorem dX6_takes_0 : decode cX6_takes 0 = .ok (.iload_n 1, 1) := by decide +kernel
theorem dX6_takes_1 : decode cX6_takes 1 = .ok (.aload_n 0, 1) := by decide +kernel
theorem dX6_takes_2 : decode cX6_takes 2 = .ok (.getfield 18, 3) := by decide +kernel
theorem dX6_takes_5 : decode cX6_takes 5 = .ok (.if_icmp .ge 17, 3) := by decide +kernel
theorem dX6_takes_8 : decode cX6_takes 8 = .ok (.iload_n 2, 1) := by decide +kernel
theorem dX6_takes_9 : decode cX6_takes 9 = .ok (.sipush (-1000), 3) := by decide +kernel
theorem dX6_takes_12 : decode cX6_takes 12 = .ok (.if_icmp .lt 14, 3) := by decide +kernel
theorem dX6_takes_15 : decode cX6_takes 15 = .ok (.iload_n 2, 1) := by decide +kernel
theorem dX6_takes_16 : decode cX6_takes 16 = .ok (.sipush 1000, 3) := by decide +kernel
theorem dX6_takes_19 : decode cX6_takes 19 = .ok (.if_icmp .gt 7, 3) := by decide +kernel
theorem dX6_takes_22 : decode cX6_takes 22 = .ok (.iconst 1, 1) := by decide +kernel
theorem dX6_takes_23 : decode cX6_takes 23 = .ok (.goto 4, 3) := by decide +kernel
theorem dX6_takes_26 : decode cX6_takes 26 = .ok (.iconst 0, 1) := by decide +kernel
theorem dX6_takes_27 : decode cX6_takes 27 = .ok (.ireturn, 1) := by decide +kernel
theorem dX6_append_0 : decode cX6_append 0 = .ok (.aload_n 0, 1) := by decide +kernel
theorem dX6_append_1 : decode cX6_append 1 = .ok (.getfield 22, 3) := by decide +kernel
theorem dX6_append_4 : decode cX6_append 4 = .ok (.istore 5, 2) := by decide +kernel
theorem dX6_append_6 : decode cX6_append 6 = .ok (.iload 5, 2) := by decide +kernel
theorem dX6_append_8 : decode cX6_append 8 = .ok (.iconst 4, 1) := by decide +kernel
theorem dX6_append_9 : decode cX6_append 9 = .ok (.imul, 1) := by decide +kernel
theorem dX6_append_10 : decode cX6_append 10 = .ok (.istore 6, 2) := by decide +kernel
theorem dX6_append_12 : decode cX6_append 12 = .ok (.aload_n 0, 1) := by decide +kernel
theorem dX6_append_13 : decode cX6_append 13 = .ok (.getfield 9, 3) := by decide +kernel
theorem dX6_append_16 : decode cX6_append 16 = .ok (.iload 6, 2) := by decide +kernel
theorem dX6_append_18 : decode cX6_append 18 = .ok (.iload_n 1, 1) := by decide +kernel
theorem dX6_append_19 : decode cX6_append 19 = .ok (.iastore, 1) := by decide +kernel
theorem dX6_append_20 : decode cX6_append 20 = .ok (.aload_n 0, 1) := by decide +kernel
theorem dX6_append_21 : decode cX6_append 21 = .ok (.getfield 9, 3) := by decide +kernel
theorem dX6_append_24 : decode cX6_append 24 = .ok (.iload 6, 2) := by decide +kernel
theorem dX6_append_26 : decode cX6_append 26 = .ok (.iconst 1, 1) := by decide +kernel
theorem dX6_append_27 : decode cX6_append 27 = .ok (.iadd, 1) := by decide +kernel
theorem dX6_append_28 : decode cX6_append 28 = .ok (.iload_n 2, 1) := by decide +kernel
theorem dX6_append_29 : decode cX6_append 29 = .ok (.iastore, 1) := by decide +kernel
theorem dX6_append_30 : decode cX6_append 30 = .ok (.aload_n 0, 1) := by decide +kernel
theorem dX6_append_31 : decode cX6_append 31 = .ok (.getfield 9, 3) := by decide +kernel
theorem dX6_append_34 : decode cX6_append 34 = .ok (.iload 6, 2) := by decide +kernel
theorem dX6_append_36 : decode cX6_append 36 = .ok (.iconst 2, 1) := by decide +kernel
theorem dX6_append_37 : decode cX6_append 37 = .ok (.iadd, 1) := by decide +kernel
theorem dX6_append_38 : decode cX6_append 38 = .ok (.iload_n 3, 1) := by decide +kernel
theorem dX6_append_39 : decode cX6_append 39 = .ok (.iastore, 1) := by decide +kernel
theorem dX6_append_40 : decode cX6_append 40 = .ok (.aload_n 0, 1) := by decide +kernel
theorem dX6_append_41 : decode cX6_append 41 = .ok (.getfield 9, 3) := by decide +kernel
theorem dX6_append_44 : decode cX6_append 44 = .ok (.iload 6, 2) := by decide +kernel
theorem dX6_append_46 : decode cX6_append 46 = .ok (.iconst 3, 1) := by decide +kernel
theorem dX6_append_47 : decode cX6_append 47 = .ok (.iadd, 1) := by decide +kernel
theorem dX6_append_48 : decode cX6_append 48 = .ok (.iload 4, 2) := by decide +kernel
theorem dX6_append_50 : decode cX6_append 50 = .ok (.iastore, 1) := by decide +kernel
theorem dX6_append_51 : decode cX6_append 51 = .ok (.iconst 0, 1) := by decide +kernel
theorem dX6_append_52 : decode cX6_append 52 = .ok (.istore 7, 2) := by decide +kernel
theorem dX6_append_54 : decode cX6_append 54 = .ok (.iload 7, 2) := by decide +kernel
theorem dX6_append_56 : decode cX6_append 56 = .ok (.iload 5, 2) := by decide +kernel
theorem dX6_append_58 : decode cX6_append 58 = .ok (.if_icmp .gt 17, 3) := by decide +kernel
theorem dX6_append_61 : decode cX6_append 61 = .ok (.aload_n 0, 1) := by decide +kernel
theorem dX6_append_62 : decode cX6_append 62 = .ok (.iload 5, 2) := by decide +kernel
theorem dX6_append_64 : decode cX6_append 64 = .ok (.iload 7, 2) := by decide +kernel
theorem dX6_append_66 : decode cX6_append 66 = .ok (.invokevirtual 25, 3) := by decide +kernel
theorem dX6_append_69 : decode cX6_append 69 = .ok (.iinc 7 1, 3) := by decide +kernel
theorem dX6_append_72 : decode cX6_append 72 = .ok (.goto (-18), 3) := by decide +kernel
theorem dX6_append_75 : decode cX6_append 75 = .ok (.aload_n 0, 1) := by decide +kernel
theorem dX6_append_76 : decode cX6_append 76 = .ok (.iload 5, 2) := by decide +kernel
theorem dX6_append_78 : decode cX6_append 78 = .ok (.iconst 1, 1) := by decide +kernel
theorem dX6_append_79 : decode cX6_append 79 = .ok (.iadd, 1) := by decide +kernel
theorem dX6_append_80 : decode cX6_append 80 = .ok (.putfield 22, 3) := by decide +kernel
theorem dX6_append_83 : decode cX6_append 83 = .ok (.iload 5, 2) := by decide +kernel
theorem dX6_append_85 : decode cX6_append 85 = .ok (.ireturn, 1) := by decide +kernel
theorem dX6_cell_0 : decode cX6_cell 0 = .ok (.aload_n 0, 1) := by decide +kernel
theorem dX6_cell_1 : decode cX6_cell 1 = .ok (.getfield 9, 3) := by decide +kernel
theorem dX6_cell_4 : decode cX6_cell 4 = .ok (.iload_n 1, 1) := by decide +kernel
theorem dX6_cell_5 : decode cX6_cell 5 = .ok (.iconst 4, 1) := by decide +kernel
theorem dX6_cell_6 : decode cX6_cell 6 = .ok (.imul, 1) := by decide +kernel
theorem dX6_cell_7 : decode cX6_cell 7 = .ok (.iload_n 2, 1) := by decide +kernel
theorem dX6_cell_8 : decode cX6_cell 8 = .ok (.iadd, 1) := by decide +kernel
theorem dX6_cell_9 : decode cX6_cell 9 = .ok (.iaload, 1) := by decide +kernel
theorem dX6_cell_10 : decode cX6_cell 10 = .ok (.ireturn, 1) := by decide +kernel
theorem dX6_apart_0 : decode cX6_apart 0 = .ok (.aload_n 0, 1) := by decide +kernel
theorem dX6_apart_1 : decode cX6_apart 1 = .ok (.getfield 15, 3) := by decide +kernel
theorem dX6_apart_4 : decode cX6_apart 4 = .ok (.aload_n 0, 1) := by decide +kernel
theorem dX6_apart_5 : decode cX6_apart 5 = .ok (.iload_n 1, 1) := by decide +kernel
theorem dX6_apart_6 : decode cX6_apart 6 = .ok (.iload_n 2, 1) := by decide +kernel
theorem dX6_apart_7 : decode cX6_apart 7 = .ok (.invokevirtual 29, 3) := by decide +kernel
theorem dX6_apart_10 : decode cX6_apart 10 = .ok (.iload_n 3, 1) := by decide +kernel
theorem dX6_apart_11 : decode cX6_apart 11 = .ok (.iadd, 1) := by decide +kernel
theorem dX6_apart_12 : decode cX6_apart 12 = .ok (.iaload, 1) := by decide +kernel
theorem dX6_apart_13 : decode cX6_apart 13 = .ok (.ireturn, 1) := by decide +kernel
theorem dX6_placeOf_0 : decode cX6_placeOf 0 = .ok (.iload_n 1, 1) := by decide +kernel
theorem dX6_placeOf_1 : decode cX6_placeOf 1 = .ok (.bipush 30, 2) := by decide +kernel
theorem dX6_placeOf_3 : decode cX6_placeOf 3 = .ok (.imul, 1) := by decide +kernel
theorem dX6_placeOf_4 : decode cX6_placeOf 4 = .ok (.iload_n 2, 1) := by decide +kernel
theorem dX6_placeOf_5 : decode cX6_placeOf 5 = .ok (.iadd, 1) := by decide +kernel
theorem dX6_placeOf_6 : decode cX6_placeOf 6 = .ok (.bipush 30, 2) := by decide +kernel
theorem dX6_placeOf_8 : decode cX6_placeOf 8 = .ok (.imul, 1) := by decide +kernel
theorem dX6_placeOf_9 : decode cX6_placeOf 9 = .ok (.ireturn, 1) := by decide +kernel
theorem dX6_nearerThan_0 : decode cX6_nearerThan 0 = .ok (.aload_n 0, 1) := by decide +kernel
theorem dX6_nearerThan_1 : decode cX6_nearerThan 1 = .ok (.iload_n 1, 1) := by decide +kernel
theorem dX6_nearerThan_2 : decode cX6_nearerThan 2 = .ok (.iload_n 2, 1) := by decide +kernel
theorem dX6_nearerThan_3 : decode cX6_nearerThan 3 = .ok (.iload_n 3, 1) := by decide +kernel
theorem dX6_nearerThan_4 : decode cX6_nearerThan 4 = .ok (.invokevirtual 33, 3) := by decide +kernel
theorem dX6_nearerThan_7 : decode cX6_nearerThan 7 = .ok (.istore 4, 2) := by decide +kernel
theorem dX6_nearerThan_9 : decode cX6_nearerThan 9 = .ok (.iconst 0, 1) := by decide +kernel
theorem dX6_nearerThan_10 : decode cX6_nearerThan 10 = .ok (.istore 5, 2) := by decide +kernel
theorem dX6_nearerThan_12 : decode cX6_nearerThan 12 = .ok (.iconst 0, 1) := by decide +kernel
theorem dX6_nearerThan_13 : decode cX6_nearerThan 13 = .ok (.istore 6, 2) := by decide +kernel
theorem dX6_nearerThan_15 : decode cX6_nearerThan 15 = .ok (.iload 6, 2) := by decide +kernel
theorem dX6_nearerThan_17 : decode cX6_nearerThan 17 = .ok (.aload_n 0, 1) := by decide +kernel
theorem dX6_nearerThan_18 : decode cX6_nearerThan 18 = .ok (.getfield 22, 3) := by decide +kernel
theorem dX6_nearerThan_21 : decode cX6_nearerThan 21 = .ok (.if_icmp .ge 48, 3) := by decide +kernel
theorem dX6_nearerThan_24 : decode cX6_nearerThan 24 = .ok (.aload_n 0, 1) := by decide +kernel
theorem dX6_nearerThan_25 : decode cX6_nearerThan 25 = .ok (.iload_n 1, 1) := by decide +kernel
theorem dX6_nearerThan_26 : decode cX6_nearerThan 26 = .ok (.iload_n 2, 1) := by decide +kernel
theorem dX6_nearerThan_27 : decode cX6_nearerThan 27 = .ok (.iload 6, 2) := by decide +kernel
theorem dX6_nearerThan_29 : decode cX6_nearerThan 29 = .ok (.invokevirtual 33, 3) := by decide +kernel
theorem dX6_nearerThan_32 : decode cX6_nearerThan 32 = .ok (.istore 7, 2) := by decide +kernel
theorem dX6_nearerThan_34 : decode cX6_nearerThan 34 = .ok (.iload 6, 2) := by decide +kernel
theorem dX6_nearerThan_36 : decode cX6_nearerThan 36 = .ok (.iload_n 2, 1) := by decide +kernel
theorem dX6_nearerThan_37 : decode cX6_nearerThan 37 = .ok (.if_icmp .eq 26, 3) := by decide +kernel
theorem dX6_nearerThan_40 : decode cX6_nearerThan 40 = .ok (.iload 7, 2) := by decide +kernel
theorem dX6_nearerThan_42 : decode cX6_nearerThan 42 = .ok (.iload 4, 2) := by decide +kernel
theorem dX6_nearerThan_44 : decode cX6_nearerThan 44 = .ok (.if_icmp .lt 16, 3) := by decide +kernel
theorem dX6_nearerThan_47 : decode cX6_nearerThan 47 = .ok (.iload 7, 2) := by decide +kernel
theorem dX6_nearerThan_49 : decode cX6_nearerThan 49 = .ok (.iload 4, 2) := by decide +kernel
theorem dX6_nearerThan_51 : decode cX6_nearerThan 51 = .ok (.if_icmp .ne 12, 3) := by decide +kernel
theorem dX6_nearerThan_54 : decode cX6_nearerThan 54 = .ok (.iload 6, 2) := by decide +kernel
theorem dX6_nearerThan_56 : decode cX6_nearerThan 56 = .ok (.iload_n 3, 1) := by decide +kernel
theorem dX6_nearerThan_57 : decode cX6_nearerThan 57 = .ok (.if_icmp .ge 6, 3) := by decide +kernel
theorem dX6_nearerThan_60 : decode cX6_nearerThan 60 = .ok (.iinc 5 1, 3) := by decide +kernel
theorem dX6_nearerThan_63 : decode cX6_nearerThan 63 = .ok (.iinc 6 1, 3) := by decide +kernel
theorem dX6_nearerThan_66 : decode cX6_nearerThan 66 = .ok (.goto (-51), 3) := by decide +kernel
theorem dX6_nearerThan_69 : decode cX6_nearerThan 69 = .ok (.iload 5, 2) := by decide +kernel
theorem dX6_nearerThan_71 : decode cX6_nearerThan 71 = .ok (.ireturn, 1) := by decide +kernel
theorem dX6_measure_0 : decode cX6_measure 0 = .ok (.iconst 0, 1) := by decide +kernel
theorem dX6_measure_1 : decode cX6_measure 1 = .ok (.istore_n 3, 1) := by decide +kernel
theorem dX6_measure_2 : decode cX6_measure 2 = .ok (.iconst 0, 1) := by decide +kernel
theorem dX6_measure_3 : decode cX6_measure 3 = .ok (.istore 4, 2) := by decide +kernel
theorem dX6_measure_5 : decode cX6_measure 5 = .ok (.iconst 0, 1) := by decide +kernel
theorem dX6_measure_6 : decode cX6_measure 6 = .ok (.istore 5, 2) := by decide +kernel
theorem dX6_measure_8 : decode cX6_measure 8 = .ok (.iconst 0, 1) := by decide +kernel
theorem dX6_measure_9 : decode cX6_measure 9 = .ok (.istore 6, 2) := by decide +kernel
theorem dX6_measure_11 : decode cX6_measure 11 = .ok (.iload 6, 2) := by decide +kernel
theorem dX6_measure_13 : decode cX6_measure 13 = .ok (.aload_n 0, 1) := by decide +kernel
theorem dX6_measure_14 : decode cX6_measure 14 = .ok (.getfield 18, 3) := by decide +kernel
theorem dX6_measure_17 : decode cX6_measure 17 = .ok (.if_icmp .ge 53, 3) := by decide +kernel
theorem dX6_measure_20 : decode cX6_measure 20 = .ok (.aload_n 0, 1) := by decide +kernel
theorem dX6_measure_21 : decode cX6_measure 21 = .ok (.iload_n 1, 1) := by decide +kernel
theorem dX6_measure_22 : decode cX6_measure 22 = .ok (.iload 6, 2) := by decide +kernel
theorem dX6_measure_24 : decode cX6_measure 24 = .ok (.invokevirtual 37, 3) := by decide +kernel
theorem dX6_measure_27 : decode cX6_measure 27 = .ok (.aload_n 0, 1) := by decide +kernel
theorem dX6_measure_28 : decode cX6_measure 28 = .ok (.iload_n 2, 1) := by decide +kernel
theorem dX6_measure_29 : decode cX6_measure 29 = .ok (.iload 6, 2) := by decide +kernel
theorem dX6_measure_31 : decode cX6_measure 31 = .ok (.invokevirtual 37, 3) := by decide +kernel
theorem dX6_measure_34 : decode cX6_measure 34 = .ok (.isub, 1) := by decide +kernel
theorem dX6_measure_35 : decode cX6_measure 35 = .ok (.invokestatic 40, 3) := by decide +kernel
theorem dX6_measure_38 : decode cX6_measure 38 = .ok (.istore 7, 2) := by decide +kernel
theorem dX6_measure_40 : decode cX6_measure 40 = .ok (.iload_n 3, 1) := by decide +kernel
theorem dX6_measure_41 : decode cX6_measure 41 = .ok (.iload 7, 2) := by decide +kernel
theorem dX6_measure_43 : decode cX6_measure 43 = .ok (.iload 7, 2) := by decide +kernel
theorem dX6_measure_45 : decode cX6_measure 45 = .ok (.imul, 1) := by decide +kernel
theorem dX6_measure_46 : decode cX6_measure 46 = .ok (.iadd, 1) := by decide +kernel
theorem dX6_measure_47 : decode cX6_measure 47 = .ok (.istore_n 3, 1) := by decide +kernel
theorem dX6_measure_48 : decode cX6_measure 48 = .ok (.iload 4, 2) := by decide +kernel
theorem dX6_measure_50 : decode cX6_measure 50 = .ok (.iload 7, 2) := by decide +kernel
theorem dX6_measure_52 : decode cX6_measure 52 = .ok (.iadd, 1) := by decide +kernel
theorem dX6_measure_53 : decode cX6_measure 53 = .ok (.istore 4, 2) := by decide +kernel
theorem dX6_measure_55 : decode cX6_measure 55 = .ok (.iload 5, 2) := by decide +kernel
theorem dX6_measure_57 : decode cX6_measure 57 = .ok (.iload 7, 2) := by decide +kernel
theorem dX6_measure_59 : decode cX6_measure 59 = .ok (.invokestatic 46, 3) := by decide +kernel
theorem dX6_measure_62 : decode cX6_measure 62 = .ok (.istore 5, 2) := by decide +kernel
theorem dX6_measure_64 : decode cX6_measure 64 = .ok (.iinc 6 1, 3) := by decide +kernel
theorem dX6_measure_67 : decode cX6_measure 67 = .ok (.goto (-56), 3) := by decide +kernel
theorem dX6_measure_70 : decode cX6_measure 70 = .ok (.aload_n 0, 1) := by decide +kernel
theorem dX6_measure_71 : decode cX6_measure 71 = .ok (.iconst 0, 1) := by decide +kernel
theorem dX6_measure_72 : decode cX6_measure 72 = .ok (.iload_n 1, 1) := by decide +kernel
theorem dX6_measure_73 : decode cX6_measure 73 = .ok (.iload_n 2, 1) := by decide +kernel
theorem dX6_measure_74 : decode cX6_measure 74 = .ok (.iload_n 3, 1) := by decide +kernel
theorem dX6_measure_75 : decode cX6_measure 75 = .ok (.invokevirtual 49, 3) := by decide +kernel
theorem dX6_measure_78 : decode cX6_measure 78 = .ok (.aload_n 0, 1) := by decide +kernel
theorem dX6_measure_79 : decode cX6_measure 79 = .ok (.iconst 1, 1) := by decide +kernel
theorem dX6_measure_80 : decode cX6_measure 80 = .ok (.iload_n 1, 1) := by decide +kernel
theorem dX6_measure_81 : decode cX6_measure 81 = .ok (.iload_n 2, 1) := by decide +kernel
theorem dX6_measure_82 : decode cX6_measure 82 = .ok (.iload 4, 2) := by decide +kernel
theorem dX6_measure_84 : decode cX6_measure 84 = .ok (.invokevirtual 49, 3) := by decide +kernel
theorem dX6_measure_87 : decode cX6_measure 87 = .ok (.aload_n 0, 1) := by decide +kernel
theorem dX6_measure_88 : decode cX6_measure 88 = .ok (.iconst 2, 1) := by decide +kernel
theorem dX6_measure_89 : decode cX6_measure 89 = .ok (.iload_n 1, 1) := by decide +kernel
theorem dX6_measure_90 : decode cX6_measure 90 = .ok (.iload_n 2, 1) := by decide +kernel
theorem dX6_measure_91 : decode cX6_measure 91 = .ok (.iload 5, 2) := by decide +kernel
theorem dX6_measure_93 : decode cX6_measure 93 = .ok (.invokevirtual 49, 3) := by decide +kernel
theorem dX6_measure_96 : decode cX6_measure 96 = .ok (.return_, 1) := by decide +kernel
theorem dX6_note_0 : decode cX6_note 0 = .ok (.aload_n 0, 1) := by decide +kernel
theorem dX6_note_1 : decode cX6_note 1 = .ok (.getfield 15, 3) := by decide +kernel
theorem dX6_note_4 : decode cX6_note 4 = .ok (.aload_n 0, 1) := by decide +kernel
theorem dX6_note_5 : decode cX6_note 5 = .ok (.iload_n 1, 1) := by decide +kernel
theorem dX6_note_6 : decode cX6_note 6 = .ok (.iload_n 2, 1) := by decide +kernel
theorem dX6_note_7 : decode cX6_note 7 = .ok (.invokevirtual 29, 3) := by decide +kernel
theorem dX6_note_10 : decode cX6_note 10 = .ok (.iload_n 3, 1) := by decide +kernel
theorem dX6_note_11 : decode cX6_note 11 = .ok (.iadd, 1) := by decide +kernel
theorem dX6_note_12 : decode cX6_note 12 = .ok (.iload 4, 2) := by decide +kernel
theorem dX6_note_14 : decode cX6_note 14 = .ok (.iastore, 1) := by decide +kernel
theorem dX6_note_15 : decode cX6_note 15 = .ok (.aload_n 0, 1) := by decide +kernel
theorem dX6_note_16 : decode cX6_note 16 = .ok (.getfield 15, 3) := by decide +kernel
theorem dX6_note_19 : decode cX6_note 19 = .ok (.aload_n 0, 1) := by decide +kernel
theorem dX6_note_20 : decode cX6_note 20 = .ok (.iload_n 1, 1) := by decide +kernel
theorem dX6_note_21 : decode cX6_note 21 = .ok (.iload_n 3, 1) := by decide +kernel
theorem dX6_note_22 : decode cX6_note 22 = .ok (.invokevirtual 29, 3) := by decide +kernel
theorem dX6_note_25 : decode cX6_note 25 = .ok (.iload_n 2, 1) := by decide +kernel
theorem dX6_note_26 : decode cX6_note 26 = .ok (.iadd, 1) := by decide +kernel
theorem dX6_note_27 : decode cX6_note 27 = .ok (.iload 4, 2) := by decide +kernel
theorem dX6_note_29 : decode cX6_note 29 = .ok (.iastore, 1) := by decide +kernel
theorem dX6_note_30 : decode cX6_note 30 = .ok (.return_, 1) := by decide +kernel
theorem dX7_init_0 : decode cX7_init 0 = .ok (.aload_n 0, 1) := by decide +kernel
theorem dX7_init_1 : decode cX7_init 1 = .ok (.invokespecial 1, 3) := by decide +kernel
theorem dX7_init_4 : decode cX7_init 4 = .ok (.aload_n 0, 1) := by decide +kernel
theorem dX7_init_5 : decode cX7_init 5 = .ok (.new 7, 3) := by decide +kernel
theorem dX7_init_8 : decode cX7_init 8 = .ok (.dup, 1) := by decide +kernel
theorem dX7_init_9 : decode cX7_init 9 = .ok (.invokespecial 9, 3) := by decide +kernel
theorem dX7_init_12 : decode cX7_init 12 = .ok (.putfield 10, 3) := by decide +kernel
theorem dX7_init_15 : decode cX7_init 15 = .ok (.aload_n 0, 1) := by decide +kernel
theorem dX7_init_16 : decode cX7_init 16 = .ok (.iconst 2, 1) := by decide +kernel
theorem dX7_init_17 : decode cX7_init 17 = .ok (.anewarray 16, 3) := by decide +kernel
theorem dX7_init_20 : decode cX7_init 20 = .ok (.putfield 18, 3) := by decide +kernel
theorem dX7_init_23 : decode cX7_init 23 = .ok (.iconst 0, 1) := by decide +kernel
theorem dX7_init_24 : decode cX7_init 24 = .ok (.istore_n 1, 1) := by decide +kernel
theorem dX7_init_25 : decode cX7_init 25 = .ok (.iload_n 1, 1) := by decide +kernel
theorem dX7_init_26 : decode cX7_init 26 = .ok (.iconst 2, 1) := by decide +kernel
theorem dX7_init_27 : decode cX7_init 27 = .ok (.if_icmp .ge 22, 3) := by decide +kernel
theorem dX7_init_30 : decode cX7_init 30 = .ok (.aload_n 0, 1) := by decide +kernel
theorem dX7_init_31 : decode cX7_init 31 = .ok (.getfield 18, 3) := by decide +kernel
theorem dX7_init_34 : decode cX7_init 34 = .ok (.iload_n 1, 1) := by decide +kernel
theorem dX7_init_35 : decode cX7_init 35 = .ok (.new 16, 3) := by decide +kernel
theorem dX7_init_38 : decode cX7_init 38 = .ok (.dup, 1) := by decide +kernel
theorem dX7_init_39 : decode cX7_init 39 = .ok (.invokespecial 22, 3) := by decide +kernel
theorem dX7_init_42 : decode cX7_init 42 = .ok (.aastore, 1) := by decide +kernel
theorem dX7_init_43 : decode cX7_init 43 = .ok (.iinc 1 1, 3) := by decide +kernel
theorem dX7_init_46 : decode cX7_init 46 = .ok (.goto (-21), 3) := by decide +kernel
theorem dX7_init_49 : decode cX7_init 49 = .ok (.aload_n 0, 1) := by decide +kernel
theorem dX7_init_50 : decode cX7_init 50 = .ok (.new 23, 3) := by decide +kernel
theorem dX7_init_53 : decode cX7_init 53 = .ok (.dup, 1) := by decide +kernel
theorem dX7_init_54 : decode cX7_init 54 = .ok (.invokespecial 25, 3) := by decide +kernel
theorem dX7_init_57 : decode cX7_init 57 = .ok (.putfield 26, 3) := by decide +kernel
theorem dX7_init_60 : decode cX7_init 60 = .ok (.aload_n 0, 1) := by decide +kernel
theorem dX7_init_61 : decode cX7_init 61 = .ok (.new 30, 3) := by decide +kernel
theorem dX7_init_64 : decode cX7_init 64 = .ok (.dup, 1) := by decide +kernel
theorem dX7_init_65 : decode cX7_init 65 = .ok (.invokespecial 32, 3) := by decide +kernel
theorem dX7_init_68 : decode cX7_init 68 = .ok (.putfield 33, 3) := by decide +kernel
theorem dX7_init_71 : decode cX7_init 71 = .ok (.aload_n 0, 1) := by decide +kernel
theorem dX7_init_72 : decode cX7_init 72 = .ok (.new 37, 3) := by decide +kernel
theorem dX7_init_75 : decode cX7_init 75 = .ok (.dup, 1) := by decide +kernel
theorem dX7_init_76 : decode cX7_init 76 = .ok (.invokespecial 39, 3) := by decide +kernel
theorem dX7_init_79 : decode cX7_init 79 = .ok (.putfield 40, 3) := by decide +kernel
theorem dX7_init_82 : decode cX7_init 82 = .ok (.aload_n 0, 1) := by decide +kernel
theorem dX7_init_83 : decode cX7_init 83 = .ok (.new 44, 3) := by decide +kernel
theorem dX7_init_86 : decode cX7_init 86 = .ok (.dup, 1) := by decide +kernel
theorem dX7_init_87 : decode cX7_init 87 = .ok (.invokespecial 46, 3) := by decide +kernel
theorem dX7_init_90 : decode cX7_init 90 = .ok (.putfield 47, 3) := by decide +kernel
theorem dX7_init_93 : decode cX7_init 93 = .ok (.aload_n 0, 1) := by decide +kernel
theorem dX7_init_94 : decode cX7_init 94 = .ok (.new 51, 3) := by decide +kernel
theorem dX7_init_97 : decode cX7_init 97 = .ok (.dup, 1) := by decide +kernel
theorem dX7_init_98 : decode cX7_init 98 = .ok (.invokespecial 53, 3) := by decide +kernel
theorem dX7_init_101 : decode cX7_init 101 = .ok (.putfield 54, 3) := by decide +kernel
theorem dX7_init_104 : decode cX7_init 104 = .ok (.return_, 1) := by decide +kernel
theorem dX7_columns_0 : decode cX7_columns 0 = .ok (.iload_n 1, 1) := by decide +kernel
theorem dX7_columns_1 : decode cX7_columns 1 = .ok (.iconst 1, 1) := by decide +kernel
theorem dX7_columns_2 : decode cX7_columns 2 = .ok (.if_icmp .lt 8, 3) := by decide +kernel
theorem dX7_columns_5 : decode cX7_columns 5 = .ok (.iload_n 1, 1) := by decide +kernel
theorem dX7_columns_6 : decode cX7_columns 6 = .ok (.iconst 4, 1) := by decide +kernel
theorem dX7_columns_7 : decode cX7_columns 7 = .ok (.if_icmp .le 6, 3) := by decide +kernel
theorem dX7_columns_10 : decode cX7_columns 10 = .ok (.ldc 58, 2) := by decide +kernel
theorem dX7_columns_12 : decode cX7_columns 12 = .ok (.ireturn, 1) := by decide +kernel
theorem dX7_columns_13 : decode cX7_columns 13 = .ok (.aload_n 0, 1) := by decide +kernel
theorem dX7_columns_14 : decode cX7_columns 14 = .ok (.getfield 10, 3) := by decide +kernel
theorem dX7_columns_17 : decode cX7_columns 17 = .ok (.getfield 59, 3) := by decide +kernel
theorem dX7_columns_20 : decode cX7_columns 20 = .ok (.ifCond .le 6, 3) := by decide +kernel
theorem dX7_columns_23 : decode cX7_columns 23 = .ok (.ldc 63, 2) := by decide +kernel
theorem dX7_columns_25 : decode cX7_columns 25 = .ok (.ireturn, 1) := by decide +kernel
theorem dX7_columns_26 : decode cX7_columns 26 = .ok (.aload_n 0, 1) := by decide +kernel
theorem dX7_columns_27 : decode cX7_columns 27 = .ok (.getfield 10, 3) := by decide +kernel
theorem dX7_columns_30 : decode cX7_columns 30 = .ok (.iload_n 1, 1) := by decide +kernel
theorem dX7_columns_31 : decode cX7_columns 31 = .ok (.putfield 64, 3) := by decide +kernel
theorem dX7_columns_34 : decode cX7_columns 34 = .ok (.iconst 1, 1) := by decide +kernel
theorem dX7_columns_35 : decode cX7_columns 35 = .ok (.ireturn, 1) := by decide +kernel
theorem dX7_row_0 : decode cX7_row 0 = .ok (.aload_n 0, 1) := by decide +kernel
theorem dX7_row_1 : decode cX7_row 1 = .ok (.getfield 10, 3) := by decide +kernel
theorem dX7_row_4 : decode cX7_row 4 = .ok (.iconst 0, 1) := by decide +kernel
theorem dX7_row_5 : decode cX7_row 5 = .ok (.iload_n 1, 1) := by decide +kernel
theorem dX7_row_6 : decode cX7_row 6 = .ok (.invokevirtual 67, 3) := by decide +kernel
theorem dX7_row_9 : decode cX7_row 9 = .ok (.ifCond .eq 40, 3) := by decide +kernel
theorem dX7_row_12 : decode cX7_row 12 = .ok (.aload_n 0, 1) := by decide +kernel
theorem dX7_row_13 : decode cX7_row 13 = .ok (.getfield 10, 3) := by decide +kernel
theorem dX7_row_16 : decode cX7_row 16 = .ok (.iconst 1, 1) := by decide +kernel
theorem dX7_row_17 : decode cX7_row 17 = .ok (.iload_n 2, 1) := by decide +kernel
theorem dX7_row_18 : decode cX7_row 18 = .ok (.invokevirtual 67, 3) := by decide +kernel
theorem dX7_row_21 : decode cX7_row 21 = .ok (.ifCond .eq 28, 3) := by decide +kernel
theorem dX7_row_24 : decode cX7_row 24 = .ok (.aload_n 0, 1) := by decide +kernel
theorem dX7_row_25 : decode cX7_row 25 = .ok (.getfield 10, 3) := by decide +kernel
theorem dX7_row_28 : decode cX7_row 28 = .ok (.iconst 2, 1) := by decide +kernel
theorem dX7_row_29 : decode cX7_row 29 = .ok (.iload_n 3, 1) := by decide +kernel
theorem dX7_row_30 : decode cX7_row 30 = .ok (.invokevirtual 67, 3) := by decide +kernel
theorem dX7_row_33 : decode cX7_row 33 = .ok (.ifCond .eq 16, 3) := by decide +kernel
theorem dX7_row_36 : decode cX7_row 36 = .ok (.aload_n 0, 1) := by decide +kernel
theorem dX7_row_37 : decode cX7_row 37 = .ok (.getfield 10, 3) := by decide +kernel
theorem dX7_row_40 : decode cX7_row 40 = .ok (.iconst 3, 1) := by decide +kernel
theorem dX7_row_41 : decode cX7_row 41 = .ok (.iload 4, 2) := by decide +kernel
theorem dX7_row_43 : decode cX7_row 43 = .ok (.invokevirtual 67, 3) := by decide +kernel
theorem dX7_row_46 : decode cX7_row 46 = .ok (.ifCond .ne 6, 3) := by decide +kernel
theorem dX7_row_49 : decode cX7_row 49 = .ok (.ldc 58, 2) := by decide +kernel
theorem dX7_row_51 : decode cX7_row 51 = .ok (.ireturn, 1) := by decide +kernel
theorem dX7_row_52 : decode cX7_row 52 = .ok (.aload_n 0, 1) := by decide +kernel
theorem dX7_row_53 : decode cX7_row 53 = .ok (.getfield 10, 3) := by decide +kernel
theorem dX7_row_56 : decode cX7_row 56 = .ok (.getfield 59, 3) := by decide +kernel
theorem dX7_row_59 : decode cX7_row 59 = .ok (.bipush 30, 2) := by decide +kernel
theorem dX7_row_61 : decode cX7_row 61 = .ok (.if_icmp .lt 6, 3) := by decide +kernel
theorem dX7_row_64 : decode cX7_row 64 = .ok (.ldc 71, 2) := by decide +kernel
theorem dX7_row_66 : decode cX7_row 66 = .ok (.ireturn, 1) := by decide +kernel
theorem dX7_row_67 : decode cX7_row 67 = .ok (.aload_n 0, 1) := by decide +kernel
theorem dX7_row_68 : decode cX7_row 68 = .ok (.invokevirtual 72, 3) := by decide +kernel
theorem dX7_row_71 : decode cX7_row 71 = .ok (.aload_n 0, 1) := by decide +kernel
theorem dX7_row_72 : decode cX7_row 72 = .ok (.getfield 10, 3) := by decide +kernel
theorem dX7_row_75 : decode cX7_row 75 = .ok (.iload_n 1, 1) := by decide +kernel
theorem dX7_row_76 : decode cX7_row 76 = .ok (.iload_n 2, 1) := by decide +kernel
theorem dX7_row_77 : decode cX7_row 77 = .ok (.iload_n 3, 1) := by decide +kernel
theorem dX7_row_78 : decode cX7_row 78 = .ok (.iload 4, 2) := by decide +kernel
theorem dX7_row_80 : decode cX7_row 80 = .ok (.invokevirtual 75, 3) := by decide +kernel
theorem dX7_row_83 : decode cX7_row 83 = .ok (.ireturn, 1) := by decide +kernel
theorem dX7_clear_0 : decode cX7_clear 0 = .ok (.aload_n 0, 1) := by decide +kernel
theorem dX7_clear_1 : decode cX7_clear 1 = .ok (.getfield 10, 3) := by decide +kernel
theorem dX7_clear_4 : decode cX7_clear 4 = .ok (.getfield 59, 3) := by decide +kernel
theorem dX7_clear_7 : decode cX7_clear 7 = .ok (.istore_n 1, 1) := by decide +kernel
theorem dX7_clear_8 : decode cX7_clear 8 = .ok (.aload_n 0, 1) := by decide +kernel
theorem dX7_clear_9 : decode cX7_clear 9 = .ok (.getfield 10, 3) := by decide +kernel
theorem dX7_clear_12 : decode cX7_clear 12 = .ok (.iconst 0, 1) := by decide +kernel
theorem dX7_clear_13 : decode cX7_clear 13 = .ok (.putfield 59, 3) := by decide +kernel
theorem dX7_clear_16 : decode cX7_clear 16 = .ok (.aload_n 0, 1) := by decide +kernel
theorem dX7_clear_17 : decode cX7_clear 17 = .ok (.invokevirtual 72, 3) := by decide +kernel
theorem dX7_clear_20 : decode cX7_clear 20 = .ok (.iload_n 1, 1) := by decide +kernel
theorem dX7_clear_21 : decode cX7_clear 21 = .ok (.ireturn, 1) := by decide +kernel
theorem dX7_count_0 : decode cX7_count 0 = .ok (.iload_n 1, 1) := by decide +kernel
theorem dX7_count_1 : decode cX7_count 1 = .ok (.tableswitch 79 0 4 #[35, 43, 51, 61, 71], 35) := by decide +kernel
theorem dX7_count_36 : decode cX7_count 36 = .ok (.aload_n 0, 1) := by decide +kernel
theorem dX7_count_37 : decode cX7_count 37 = .ok (.getfield 10, 3) := by decide +kernel
theorem dX7_count_40 : decode cX7_count 40 = .ok (.getfield 59, 3) := by decide +kernel
theorem dX7_count_43 : decode cX7_count 43 = .ok (.ireturn, 1) := by decide +kernel
theorem dX7_count_44 : decode cX7_count 44 = .ok (.aload_n 0, 1) := by decide +kernel
theorem dX7_count_45 : decode cX7_count 45 = .ok (.getfield 10, 3) := by decide +kernel
theorem dX7_count_48 : decode cX7_count 48 = .ok (.getfield 64, 3) := by decide +kernel
theorem dX7_count_51 : decode cX7_count 51 = .ok (.ireturn, 1) := by decide +kernel
theorem dX7_count_52 : decode cX7_count 52 = .ok (.aload_n 0, 1) := by decide +kernel
theorem dX7_count_53 : decode cX7_count 53 = .ok (.getfield 18, 3) := by decide +kernel
theorem dX7_count_56 : decode cX7_count 56 = .ok (.iconst 0, 1) := by decide +kernel
theorem dX7_count_57 : decode cX7_count 57 = .ok (.aaload, 1) := by decide +kernel
theorem dX7_count_58 : decode cX7_count 58 = .ok (.getfield 79, 3) := by decide +kernel
theorem dX7_count_61 : decode cX7_count 61 = .ok (.ireturn, 1) := by decide +kernel
theorem dX7_count_62 : decode cX7_count 62 = .ok (.aload_n 0, 1) := by decide +kernel
theorem dX7_count_63 : decode cX7_count 63 = .ok (.getfield 18, 3) := by decide +kernel
theorem dX7_count_66 : decode cX7_count 66 = .ok (.iconst 1, 1) := by decide +kernel
theorem dX7_count_67 : decode cX7_count 67 = .ok (.aaload, 1) := by decide +kernel
theorem dX7_count_68 : decode cX7_count 68 = .ok (.getfield 79, 3) := by decide +kernel
theorem dX7_count_71 : decode cX7_count 71 = .ok (.ireturn, 1) := by decide +kernel
theorem dX7_count_72 : decode cX7_count 72 = .ok (.aload_n 0, 1) := by decide +kernel
theorem dX7_count_73 : decode cX7_count 73 = .ok (.getfield 47, 3) := by decide +kernel
theorem dX7_count_76 : decode cX7_count 76 = .ok (.getfield 82, 3) := by decide +kernel
theorem dX7_count_79 : decode cX7_count 79 = .ok (.ireturn, 1) := by decide +kernel
theorem dX7_count_80 : decode cX7_count 80 = .ok (.ldc 58, 2) := by decide +kernel
theorem dX7_count_82 : decode cX7_count 82 = .ok (.ireturn, 1) := by decide +kernel
theorem dX7_distance_0 : decode cX7_distance 0 = .ok (.aload_n 0, 1) := by decide +kernel
theorem dX7_distance_1 : decode cX7_distance 1 = .ok (.iload_n 2, 1) := by decide +kernel
theorem dX7_distance_2 : decode cX7_distance 2 = .ok (.invokevirtual 85, 3) := by decide +kernel
theorem dX7_distance_5 : decode cX7_distance 5 = .ok (.ifCond .eq 11, 3) := by decide +kernel
theorem dX7_distance_8 : decode cX7_distance 8 = .ok (.aload_n 0, 1) := by decide +kernel
theorem dX7_distance_9 : decode cX7_distance 9 = .ok (.iload_n 3, 1) := by decide +kernel
theorem dX7_distance_10 : decode cX7_distance 10 = .ok (.invokevirtual 85, 3) := by decide +kernel
theorem dX7_distance_13 : decode cX7_distance 13 = .ok (.ifCond .ne 6, 3) := by decide +kernel
theorem dX7_distance_16 : decode cX7_distance 16 = .ok (.ldc 89, 2) := by decide +kernel
theorem dX7_distance_18 : decode cX7_distance 18 = .ok (.ireturn, 1) := by decide +kernel
theorem dX7_distance_19 : decode cX7_distance 19 = .ok (.iload_n 1, 1) := by decide +kernel
theorem dX7_distance_20 : decode cX7_distance 20 = .ok (.invokestatic 90, 3) := by decide +kernel
theorem dX7_distance_23 : decode cX7_distance 23 = .ok (.ifCond .ne 6, 3) := by decide +kernel
theorem dX7_distance_26 : decode cX7_distance 26 = .ok (.ldc 58, 2) := by decide +kernel
theorem dX7_distance_28 : decode cX7_distance 28 = .ok (.ireturn, 1) := by decide +kernel
theorem dX7_distance_29 : decode cX7_distance 29 = .ok (.aload_n 0, 1) := by decide +kernel
theorem dX7_distance_30 : decode cX7_distance 30 = .ok (.getfield 10, 3) := by decide +kernel
theorem dX7_distance_33 : decode cX7_distance 33 = .ok (.iload_n 1, 1) := by decide +kernel
theorem dX7_distance_34 : decode cX7_distance 34 = .ok (.iload_n 2, 1) := by decide +kernel
theorem dX7_distance_35 : decode cX7_distance 35 = .ok (.iload_n 3, 1) := by decide +kernel
theorem dX7_distance_36 : decode cX7_distance 36 = .ok (.invokevirtual 93, 3) := by decide +kernel
theorem dX7_distance_39 : decode cX7_distance 39 = .ok (.ireturn, 1) := by decide +kernel
theorem dX7_near_0 : decode cX7_near 0 = .ok (.aload_n 0, 1) := by decide +kernel
theorem dX7_near_1 : decode cX7_near 1 = .ok (.iload_n 2, 1) := by decide +kernel
theorem dX7_near_2 : decode cX7_near 2 = .ok (.invokevirtual 85, 3) := by decide +kernel
theorem dX7_near_5 : decode cX7_near 5 = .ok (.ifCond .ne 6, 3) := by decide +kernel
theorem dX7_near_8 : decode cX7_near 8 = .ok (.ldc 89, 2) := by decide +kernel
theorem dX7_near_10 : decode cX7_near 10 = .ok (.ireturn, 1) := by decide +kernel
theorem dX7_near_11 : decode cX7_near 11 = .ok (.iload_n 1, 1) := by decide +kernel
theorem dX7_near_12 : decode cX7_near 12 = .ok (.invokestatic 90, 3) := by decide +kernel
theorem dX7_near_15 : decode cX7_near 15 = .ok (.ifCond .ne 6, 3) := by decide +kernel
theorem dX7_near_18 : decode cX7_near 18 = .ok (.ldc 58, 2) := by decide +kernel
theorem dX7_near_20 : decode cX7_near 20 = .ok (.ireturn, 1) := by decide +kernel
theorem dX7_near_21 : decode cX7_near 21 = .ok (.iconst 0, 1) := by decide +kernel
theorem dX7_near_22 : decode cX7_near 22 = .ok (.istore 4, 2) := by decide +kernel
theorem dX7_near_24 : decode cX7_near 24 = .ok (.iload 4, 2) := by decide +kernel
theorem dX7_near_26 : decode cX7_near 26 = .ok (.aload_n 0, 1) := by decide +kernel
theorem dX7_near_27 : decode cX7_near 27 = .ok (.getfield 10, 3) := by decide +kernel
theorem dX7_near_30 : decode cX7_near 30 = .ok (.getfield 59, 3) := by decide +kernel
theorem dX7_near_33 : decode cX7_near 33 = .ok (.if_icmp .ge 33, 3) := by decide +kernel
theorem dX7_near_36 : decode cX7_near 36 = .ok (.iload 4, 2) := by decide +kernel
theorem dX7_near_38 : decode cX7_near 38 = .ok (.iload_n 2, 1) := by decide +kernel
theorem dX7_near_39 : decode cX7_near 39 = .ok (.if_icmp .eq 21, 3) := by decide +kernel
theorem dX7_near_42 : decode cX7_near 42 = .ok (.aload_n 0, 1) := by decide +kernel
theorem dX7_near_43 : decode cX7_near 43 = .ok (.getfield 10, 3) := by decide +kernel
theorem dX7_near_46 : decode cX7_near 46 = .ok (.iload_n 1, 1) := by decide +kernel
theorem dX7_near_47 : decode cX7_near 47 = .ok (.iload_n 2, 1) := by decide +kernel
theorem dX7_near_48 : decode cX7_near 48 = .ok (.iload 4, 2) := by decide +kernel
theorem dX7_near_50 : decode cX7_near 50 = .ok (.invokevirtual 97, 3) := by decide +kernel
theorem dX7_near_53 : decode cX7_near 53 = .ok (.iload_n 3, 1) := by decide +kernel
theorem dX7_near_54 : decode cX7_near 54 = .ok (.if_icmp .ne 6, 3) := by decide +kernel
theorem dX7_near_57 : decode cX7_near 57 = .ok (.iload 4, 2) := by decide +kernel
theorem dX7_near_59 : decode cX7_near 59 = .ok (.ireturn, 1) := by decide +kernel
theorem dX7_near_60 : decode cX7_near 60 = .ok (.iinc 4 1, 3) := by decide +kernel
theorem dX7_near_63 : decode cX7_near 63 = .ok (.goto (-39), 3) := by decide +kernel
theorem dX7_near_66 : decode cX7_near 66 = .ok (.iconst (-1), 1) := by decide +kernel
theorem dX7_near_67 : decode cX7_near 67 = .ok (.ireturn, 1) := by decide +kernel
theorem dX7_means_0 : decode cX7_means 0 = .ok (.iload_n 1, 1) := by decide +kernel
theorem dX7_means_1 : decode cX7_means 1 = .ok (.invokestatic 100, 3) := by decide +kernel
theorem dX7_means_4 : decode cX7_means 4 = .ok (.ifCond .eq 14, 3) := by decide +kernel
theorem dX7_means_7 : decode cX7_means 7 = .ok (.iload_n 2, 1) := by decide +kernel
theorem dX7_means_8 : decode cX7_means 8 = .ok (.iconst 1, 1) := by decide +kernel
theorem dX7_means_9 : decode cX7_means 9 = .ok (.if_icmp .lt 9, 3) := by decide +kernel
theorem dX7_means_12 : decode cX7_means 12 = .ok (.iload_n 2, 1) := by decide +kernel
theorem dX7_means_13 : decode cX7_means 13 = .ok (.bipush 6, 2) := by decide +kernel
theorem dX7_means_15 : decode cX7_means 15 = .ok (.if_icmp .le 6, 3) := by decide +kernel
theorem dX7_means_18 : decode cX7_means 18 = .ok (.ldc 58, 2) := by decide +kernel
theorem dX7_means_20 : decode cX7_means 20 = .ok (.ireturn, 1) := by decide +kernel
theorem dX7_means_21 : decode cX7_means 21 = .ok (.aload_n 0, 1) := by decide +kernel
theorem dX7_means_22 : decode cX7_means 22 = .ok (.getfield 10, 3) := by decide +kernel
theorem dX7_means_25 : decode cX7_means 25 = .ok (.getfield 59, 3) := by decide +kernel
theorem dX7_means_28 : decode cX7_means 28 = .ok (.iload_n 2, 1) := by decide +kernel
theorem dX7_means_29 : decode cX7_means 29 = .ok (.if_icmp .ge 6, 3) := by decide +kernel
theorem dX7_means_32 : decode cX7_means 32 = .ok (.ldc 63, 2) := by decide +kernel
theorem dX7_means_34 : decode cX7_means 34 = .ok (.ireturn, 1) := by decide +kernel
theorem dX7_means_35 : decode cX7_means 35 = .ok (.aload_n 0, 1) := by decide +kernel
theorem dX7_means_36 : decode cX7_means 36 = .ok (.getfield 26, 3) := by decide +kernel
theorem dX7_means_39 : decode cX7_means 39 = .ok (.aload_n 0, 1) := by decide +kernel
theorem dX7_means_40 : decode cX7_means 40 = .ok (.getfield 10, 3) := by decide +kernel
theorem dX7_means_43 : decode cX7_means 43 = .ok (.iload_n 2, 1) := by decide +kernel
theorem dX7_means_44 : decode cX7_means 44 = .ok (.invokevirtual 103, 3) := by decide +kernel
theorem dX7_means_47 : decode cX7_means 47 = .ok (.istore_n 3, 1) := by decide +kernel
theorem dX7_means_48 : decode cX7_means 48 = .ok (.aload_n 0, 1) := by decide +kernel
theorem dX7_means_49 : decode cX7_means 49 = .ok (.getfield 18, 3) := by decide +kernel
theorem dX7_means_52 : decode cX7_means 52 = .ok (.iload_n 1, 1) := by decide +kernel
theorem dX7_means_53 : decode cX7_means 53 = .ok (.aaload, 1) := by decide +kernel
theorem dX7_means_54 : decode cX7_means 54 = .ok (.aload_n 0, 1) := by decide +kernel
theorem dX7_means_55 : decode cX7_means 55 = .ok (.getfield 26, 3) := by decide +kernel
theorem dX7_means_58 : decode cX7_means 58 = .ok (.getfield 107, 3) := by decide +kernel
theorem dX7_means_61 : decode cX7_means 61 = .ok (.aload_n 0, 1) := by decide +kernel
theorem dX7_means_62 : decode cX7_means 62 = .ok (.getfield 10, 3) := by decide +kernel
theorem dX7_means_65 : decode cX7_means 65 = .ok (.getfield 59, 3) := by decide +kernel
theorem dX7_means_68 : decode cX7_means 68 = .ok (.iload_n 2, 1) := by decide +kernel
theorem dX7_means_69 : decode cX7_means 69 = .ok (.invokevirtual 111, 3) := by decide +kernel
theorem dX7_means_72 : decode cX7_means 72 = .ok (.iload_n 3, 1) := by decide +kernel
theorem dX7_means_73 : decode cX7_means 73 = .ok (.ireturn, 1) := by decide +kernel
theorem dX7_medoids_0 : decode cX7_medoids 0 = .ok (.iload_n 1, 1) := by decide +kernel
theorem dX7_medoids_1 : decode cX7_medoids 1 = .ok (.invokestatic 100, 3) := by decide +kernel
theorem dX7_medoids_4 : decode cX7_medoids 4 = .ok (.ifCond .eq 20, 3) := by decide +kernel
theorem dX7_medoids_7 : decode cX7_medoids 7 = .ok (.iload_n 2, 1) := by decide +kernel
theorem dX7_medoids_8 : decode cX7_medoids 8 = .ok (.invokestatic 90, 3) := by decide +kernel
theorem dX7_medoids_11 : decode cX7_medoids 11 = .ok (.ifCond .eq 13, 3) := by decide +kernel
theorem dX7_medoids_14 : decode cX7_medoids 14 = .ok (.iload_n 3, 1) := by decide +kernel
theorem dX7_medoids_15 : decode cX7_medoids 15 = .ok (.iconst 1, 1) := by decide +kernel
theorem dX7_medoids_16 : decode cX7_medoids 16 = .ok (.if_icmp .lt 8, 3) := by decide +kernel
theorem dX7_medoids_19 : decode cX7_medoids 19 = .ok (.iload_n 3, 1) := by decide +kernel
theorem dX7_medoids_20 : decode cX7_medoids 20 = .ok (.iconst 3, 1) := by decide +kernel
theorem dX7_medoids_21 : decode cX7_medoids 21 = .ok (.if_icmp .le 6, 3) := by decide +kernel
theorem dX7_medoids_24 : decode cX7_medoids 24 = .ok (.ldc 58, 2) := by decide +kernel
theorem dX7_medoids_26 : decode cX7_medoids 26 = .ok (.ireturn, 1) := by decide +kernel
theorem dX7_medoids_27 : decode cX7_medoids 27 = .ok (.aload_n 0, 1) := by decide +kernel
theorem dX7_medoids_28 : decode cX7_medoids 28 = .ok (.getfield 10, 3) := by decide +kernel
theorem dX7_medoids_31 : decode cX7_medoids 31 = .ok (.getfield 59, 3) := by decide +kernel
theorem dX7_medoids_34 : decode cX7_medoids 34 = .ok (.iload_n 3, 1) := by decide +kernel
theorem dX7_medoids_35 : decode cX7_medoids 35 = .ok (.if_icmp .ge 6, 3) := by decide +kernel
theorem dX7_medoids_38 : decode cX7_medoids 38 = .ok (.ldc 63, 2) := by decide +kernel
theorem dX7_medoids_40 : decode cX7_medoids 40 = .ok (.ireturn, 1) := by decide +kernel
theorem dX7_medoids_41 : decode cX7_medoids 41 = .ok (.aload_n 0, 1) := by decide +kernel
theorem dX7_medoids_42 : decode cX7_medoids 42 = .ok (.getfield 33, 3) := by decide +kernel
theorem dX7_medoids_45 : decode cX7_medoids 45 = .ok (.aload_n 0, 1) := by decide +kernel
theorem dX7_medoids_46 : decode cX7_medoids 46 = .ok (.getfield 10, 3) := by decide +kernel
theorem dX7_medoids_49 : decode cX7_medoids 49 = .ok (.iload_n 2, 1) := by decide +kernel
theorem dX7_medoids_50 : decode cX7_medoids 50 = .ok (.iload_n 3, 1) := by decide +kernel
theorem dX7_medoids_51 : decode cX7_medoids 51 = .ok (.invokevirtual 115, 3) := by decide +kernel
theorem dX7_medoids_54 : decode cX7_medoids 54 = .ok (.istore 4, 2) := by decide +kernel
theorem dX7_medoids_56 : decode cX7_medoids 56 = .ok (.aload_n 0, 1) := by decide +kernel
theorem dX7_medoids_57 : decode cX7_medoids 57 = .ok (.getfield 18, 3) := by decide +kernel
theorem dX7_medoids_60 : decode cX7_medoids 60 = .ok (.iload_n 1, 1) := by decide +kernel
theorem dX7_medoids_61 : decode cX7_medoids 61 = .ok (.aaload, 1) := by decide +kernel
theorem dX7_medoids_62 : decode cX7_medoids 62 = .ok (.aload_n 0, 1) := by decide +kernel
theorem dX7_medoids_63 : decode cX7_medoids 63 = .ok (.getfield 33, 3) := by decide +kernel
theorem dX7_medoids_66 : decode cX7_medoids 66 = .ok (.getfield 119, 3) := by decide +kernel
theorem dX7_medoids_69 : decode cX7_medoids 69 = .ok (.aload_n 0, 1) := by decide +kernel
theorem dX7_medoids_70 : decode cX7_medoids 70 = .ok (.getfield 10, 3) := by decide +kernel
theorem dX7_medoids_73 : decode cX7_medoids 73 = .ok (.getfield 59, 3) := by decide +kernel
theorem dX7_medoids_76 : decode cX7_medoids 76 = .ok (.iload_n 3, 1) := by decide +kernel
theorem dX7_medoids_77 : decode cX7_medoids 77 = .ok (.invokevirtual 111, 3) := by decide +kernel
theorem dX7_medoids_80 : decode cX7_medoids 80 = .ok (.iload 4, 2) := by decide +kernel
theorem dX7_medoids_82 : decode cX7_medoids 82 = .ok (.ireturn, 1) := by decide +kernel
theorem dX7_medoid_0 : decode cX7_medoid 0 = .ok (.iload_n 1, 1) := by decide +kernel
theorem dX7_medoid_1 : decode cX7_medoid 1 = .ok (.ifCond .lt 14, 3) := by decide +kernel
theorem dX7_medoid_4 : decode cX7_medoid 4 = .ok (.iload_n 1, 1) := by decide +kernel
theorem dX7_medoid_5 : decode cX7_medoid 5 = .ok (.aload_n 0, 1) := by decide +kernel
theorem dX7_medoid_6 : decode cX7_medoid 6 = .ok (.getfield 33, 3) := by decide +kernel
theorem dX7_medoid_9 : decode cX7_medoid 9 = .ok (.getfield 120, 3) := by decide +kernel
theorem dX7_medoid_12 : decode cX7_medoid 12 = .ok (.if_icmp .lt 5, 3) := by decide +kernel
theorem dX7_medoid_15 : decode cX7_medoid 15 = .ok (.iconst (-1), 1) := by decide +kernel
theorem dX7_medoid_16 : decode cX7_medoid 16 = .ok (.ireturn, 1) := by decide +kernel
theorem dX7_medoid_17 : decode cX7_medoid 17 = .ok (.aload_n 0, 1) := by decide +kernel
theorem dX7_medoid_18 : decode cX7_medoid 18 = .ok (.getfield 33, 3) := by decide +kernel
theorem dX7_medoid_21 : decode cX7_medoid 21 = .ok (.getfield 123, 3) := by decide +kernel
theorem dX7_medoid_24 : decode cX7_medoid 24 = .ok (.iload_n 1, 1) := by decide +kernel
theorem dX7_medoid_25 : decode cX7_medoid 25 = .ok (.iaload, 1) := by decide +kernel
theorem dX7_medoid_26 : decode cX7_medoid 26 = .ok (.ireturn, 1) := by decide +kernel
theorem dX7_density_0 : decode cX7_density 0 = .ok (.iload_n 1, 1) := by decide +kernel
theorem dX7_density_1 : decode cX7_density 1 = .ok (.invokestatic 100, 3) := by decide +kernel
theorem dX7_density_4 : decode cX7_density 4 = .ok (.ifCond .eq 33, 3) := by decide +kernel
theorem dX7_density_7 : decode cX7_density 7 = .ok (.iload_n 2, 1) := by decide +kernel
theorem dX7_density_8 : decode cX7_density 8 = .ok (.invokestatic 90, 3) := by decide +kernel
theorem dX7_density_11 : decode cX7_density 11 = .ok (.ifCond .eq 26, 3) := by decide +kernel
theorem dX7_density_14 : decode cX7_density 14 = .ok (.iload_n 3, 1) := by decide +kernel
theorem dX7_density_15 : decode cX7_density 15 = .ok (.ifCond .lt 22, 3) := by decide +kernel
theorem dX7_density_18 : decode cX7_density 18 = .ok (.iload_n 3, 1) := by decide +kernel
theorem dX7_density_19 : decode cX7_density 19 = .ok (.ldc 126, 2) := by decide +kernel
theorem dX7_density_21 : decode cX7_density 21 = .ok (.if_icmp .gt 16, 3) := by decide +kernel
theorem dX7_density_24 : decode cX7_density 24 = .ok (.iload 4, 2) := by decide +kernel
theorem dX7_density_26 : decode cX7_density 26 = .ok (.iconst 1, 1) := by decide +kernel
theorem dX7_density_27 : decode cX7_density 27 = .ok (.if_icmp .lt 10, 3) := by decide +kernel
theorem dX7_density_30 : decode cX7_density 30 = .ok (.iload 4, 2) := by decide +kernel
theorem dX7_density_32 : decode cX7_density 32 = .ok (.bipush 30, 2) := by decide +kernel
theorem dX7_density_34 : decode cX7_density 34 = .ok (.if_icmp .le 6, 3) := by decide +kernel
theorem dX7_density_37 : decode cX7_density 37 = .ok (.ldc 58, 2) := by decide +kernel
theorem dX7_density_39 : decode cX7_density 39 = .ok (.ireturn, 1) := by decide +kernel
theorem dX7_density_40 : decode cX7_density 40 = .ok (.aload_n 0, 1) := by decide +kernel
theorem dX7_density_41 : decode cX7_density 41 = .ok (.getfield 10, 3) := by decide +kernel
theorem dX7_density_44 : decode cX7_density 44 = .ok (.getfield 59, 3) := by decide +kernel
theorem dX7_density_47 : decode cX7_density 47 = .ok (.ifCond .ne 6, 3) := by decide +kernel
theorem dX7_density_50 : decode cX7_density 50 = .ok (.ldc 63, 2) := by decide +kernel
theorem dX7_density_52 : decode cX7_density 52 = .ok (.ireturn, 1) := by decide +kernel
theorem dX7_density_53 : decode cX7_density 53 = .ok (.aload_n 0, 1) := by decide +kernel
theorem dX7_density_54 : decode cX7_density 54 = .ok (.getfield 40, 3) := by decide +kernel
theorem dX7_density_57 : decode cX7_density 57 = .ok (.aload_n 0, 1) := by decide +kernel
theorem dX7_density_58 : decode cX7_density 58 = .ok (.getfield 10, 3) := by decide +kernel
theorem dX7_density_61 : decode cX7_density 61 = .ok (.iload_n 2, 1) := by decide +kernel
theorem dX7_density_62 : decode cX7_density 62 = .ok (.iload_n 3, 1) := by decide +kernel
theorem dX7_density_63 : decode cX7_density 63 = .ok (.iload 4, 2) := by decide +kernel
theorem dX7_density_65 : decode cX7_density 65 = .ok (.invokevirtual 127, 3) := by decide +kernel
theorem dX7_density_68 : decode cX7_density 68 = .ok (.istore 5, 2) := by decide +kernel
theorem dX7_density_70 : decode cX7_density 70 = .ok (.aload_n 0, 1) := by decide +kernel
theorem dX7_density_71 : decode cX7_density 71 = .ok (.getfield 18, 3) := by decide +kernel
theorem dX7_density_74 : decode cX7_density 74 = .ok (.iload_n 1, 1) := by decide +kernel
theorem dX7_density_75 : decode cX7_density 75 = .ok (.aaload, 1) := by decide +kernel
theorem dX7_density_76 : decode cX7_density 76 = .ok (.aload_n 0, 1) := by decide +kernel
theorem dX7_density_77 : decode cX7_density 77 = .ok (.getfield 40, 3) := by decide +kernel
theorem dX7_density_80 : decode cX7_density 80 = .ok (.getfield 131, 3) := by decide +kernel
theorem dX7_density_83 : decode cX7_density 83 = .ok (.aload_n 0, 1) := by decide +kernel
theorem dX7_density_84 : decode cX7_density 84 = .ok (.getfield 10, 3) := by decide +kernel
theorem dX7_density_87 : decode cX7_density 87 = .ok (.getfield 59, 3) := by decide +kernel
theorem dX7_density_90 : decode cX7_density 90 = .ok (.iload 5, 2) := by decide +kernel
theorem dX7_density_92 : decode cX7_density 92 = .ok (.invokevirtual 111, 3) := by decide +kernel
theorem dX7_density_95 : decode cX7_density 95 = .ok (.iload 5, 2) := by decide +kernel
theorem dX7_density_97 : decode cX7_density 97 = .ok (.ireturn, 1) := by decide +kernel
theorem dX7_tree_0 : decode cX7_tree 0 = .ok (.iload_n 1, 1) := by decide +kernel
theorem dX7_tree_1 : decode cX7_tree 1 = .ok (.ifCond .lt 15, 3) := by decide +kernel
theorem dX7_tree_4 : decode cX7_tree 4 = .ok (.iload_n 1, 1) := by decide +kernel
theorem dX7_tree_5 : decode cX7_tree 5 = .ok (.iconst 4, 1) := by decide +kernel
theorem dX7_tree_6 : decode cX7_tree 6 = .ok (.if_icmp .ge 10, 3) := by decide +kernel
theorem dX7_tree_9 : decode cX7_tree 9 = .ok (.iload_n 2, 1) := by decide +kernel
theorem dX7_tree_10 : decode cX7_tree 10 = .ok (.invokestatic 90, 3) := by decide +kernel
theorem dX7_tree_13 : decode cX7_tree 13 = .ok (.ifCond .ne 6, 3) := by decide +kernel
theorem dX7_tree_16 : decode cX7_tree 16 = .ok (.ldc 58, 2) := by decide +kernel
theorem dX7_tree_18 : decode cX7_tree 18 = .ok (.ireturn, 1) := by decide +kernel
theorem dX7_tree_19 : decode cX7_tree 19 = .ok (.aload_n 0, 1) := by decide +kernel
theorem dX7_tree_20 : decode cX7_tree 20 = .ok (.getfield 10, 3) := by decide +kernel
theorem dX7_tree_23 : decode cX7_tree 23 = .ok (.getfield 59, 3) := by decide +kernel
theorem dX7_tree_26 : decode cX7_tree 26 = .ok (.ifCond .ne 6, 3) := by decide +kernel
theorem dX7_tree_29 : decode cX7_tree 29 = .ok (.ldc 63, 2) := by decide +kernel
theorem dX7_tree_31 : decode cX7_tree 31 = .ok (.ireturn, 1) := by decide +kernel
theorem dX7_tree_32 : decode cX7_tree 32 = .ok (.aload_n 0, 1) := by decide +kernel
theorem dX7_tree_33 : decode cX7_tree 33 = .ok (.getfield 47, 3) := by decide +kernel
theorem dX7_tree_36 : decode cX7_tree 36 = .ok (.aload_n 0, 1) := by decide +kernel
theorem dX7_tree_37 : decode cX7_tree 37 = .ok (.getfield 10, 3) := by decide +kernel
theorem dX7_tree_40 : decode cX7_tree 40 = .ok (.iload_n 1, 1) := by decide +kernel
theorem dX7_tree_41 : decode cX7_tree 41 = .ok (.iload_n 2, 1) := by decide +kernel
theorem dX7_tree_42 : decode cX7_tree 42 = .ok (.invokevirtual 132, 3) := by decide +kernel
theorem dX7_tree_45 : decode cX7_tree 45 = .ok (.ireturn, 1) := by decide +kernel
theorem dX7_join_0 : decode cX7_join 0 = .ok (.iload_n 2, 1) := by decide +kernel
theorem dX7_join_1 : decode cX7_join 1 = .ok (.ifCond .lt 8, 3) := by decide +kernel
theorem dX7_join_4 : decode cX7_join 4 = .ok (.iload_n 2, 1) := by decide +kernel
theorem dX7_join_5 : decode cX7_join 5 = .ok (.iconst 4, 1) := by decide +kernel
theorem dX7_join_6 : decode cX7_join 6 = .ok (.if_icmp .le 7, 3) := by decide +kernel
theorem dX7_join_9 : decode cX7_join 9 = .ok (.ldc2_w 135, 3) := by decide +kernel
theorem dX7_join_12 : decode cX7_join 12 = .ok (.lreturn, 1) := by decide +kernel
theorem dX7_join_13 : decode cX7_join 13 = .ok (.aload_n 0, 1) := by decide +kernel
theorem dX7_join_14 : decode cX7_join 14 = .ok (.getfield 47, 3) := by decide +kernel
theorem dX7_join_17 : decode cX7_join 17 = .ok (.getfield 82, 3) := by decide +kernel
theorem dX7_join_20 : decode cX7_join 20 = .ok (.iconst (-1), 1) := by decide +kernel
theorem dX7_join_21 : decode cX7_join 21 = .ok (.if_icmp .ne 7, 3) := by decide +kernel
theorem dX7_join_24 : decode cX7_join 24 = .ok (.ldc2_w 137, 3) := by decide +kernel
theorem dX7_join_27 : decode cX7_join 27 = .ok (.lreturn, 1) := by decide +kernel
theorem dX7_join_28 : decode cX7_join 28 = .ok (.iload_n 1, 1) := by decide +kernel
theorem dX7_join_29 : decode cX7_join 29 = .ok (.ifCond .lt 14, 3) := by decide +kernel
theorem dX7_join_32 : decode cX7_join 32 = .ok (.iload_n 1, 1) := by decide +kernel
theorem dX7_join_33 : decode cX7_join 33 = .ok (.aload_n 0, 1) := by decide +kernel
theorem dX7_join_34 : decode cX7_join 34 = .ok (.getfield 47, 3) := by decide +kernel
theorem dX7_join_37 : decode cX7_join 37 = .ok (.getfield 82, 3) := by decide +kernel
theorem dX7_join_40 : decode cX7_join 40 = .ok (.if_icmp .lt 7, 3) := by decide +kernel
theorem dX7_join_43 : decode cX7_join 43 = .ok (.ldc2_w 139, 3) := by decide +kernel
theorem dX7_join_46 : decode cX7_join 46 = .ok (.lreturn, 1) := by decide +kernel
theorem dX7_join_47 : decode cX7_join 47 = .ok (.iload_n 2, 1) := by decide +kernel
theorem dX7_join_48 : decode cX7_join 48 = .ok (.tableswitch 75 0 3 #[32, 43, 54, 65], 32) := by decide +kernel
theorem dX7_join_80 : decode cX7_join 80 = .ok (.aload_n 0, 1) := by decide +kernel
theorem dX7_join_81 : decode cX7_join 81 = .ok (.getfield 47, 3) := by decide +kernel
theorem dX7_join_84 : decode cX7_join 84 = .ok (.getfield 141, 3) := by decide +kernel
theorem dX7_join_87 : decode cX7_join 87 = .ok (.iload_n 1, 1) := by decide +kernel
theorem dX7_join_88 : decode cX7_join 88 = .ok (.iaload, 1) := by decide +kernel
theorem dX7_join_89 : decode cX7_join 89 = .ok (.i2l, 1) := by decide +kernel
theorem dX7_join_90 : decode cX7_join 90 = .ok (.lreturn, 1) := by decide +kernel
theorem dX7_join_91 : decode cX7_join 91 = .ok (.aload_n 0, 1) := by decide +kernel
theorem dX7_join_92 : decode cX7_join 92 = .ok (.getfield 47, 3) := by decide +kernel
theorem dX7_join_95 : decode cX7_join 95 = .ok (.getfield 144, 3) := by decide +kernel
theorem dX7_join_98 : decode cX7_join 98 = .ok (.iload_n 1, 1) := by decide +kernel
theorem dX7_join_99 : decode cX7_join 99 = .ok (.iaload, 1) := by decide +kernel
theorem dX7_join_100 : decode cX7_join 100 = .ok (.i2l, 1) := by decide +kernel
theorem dX7_join_101 : decode cX7_join 101 = .ok (.lreturn, 1) := by decide +kernel
theorem dX7_join_102 : decode cX7_join 102 = .ok (.aload_n 0, 1) := by decide +kernel
theorem dX7_join_103 : decode cX7_join 103 = .ok (.getfield 47, 3) := by decide +kernel
theorem dX7_join_106 : decode cX7_join 106 = .ok (.getfield 147, 3) := by decide +kernel
theorem dX7_join_109 : decode cX7_join 109 = .ok (.iload_n 1, 1) := by decide +kernel
theorem dX7_join_110 : decode cX7_join 110 = .ok (.iaload, 1) := by decide +kernel
theorem dX7_join_111 : decode cX7_join 111 = .ok (.i2l, 1) := by decide +kernel
theorem dX7_join_112 : decode cX7_join 112 = .ok (.lreturn, 1) := by decide +kernel
theorem dX7_join_113 : decode cX7_join 113 = .ok (.aload_n 0, 1) := by decide +kernel
theorem dX7_join_114 : decode cX7_join 114 = .ok (.getfield 47, 3) := by decide +kernel
theorem dX7_join_117 : decode cX7_join 117 = .ok (.getfield 150, 3) := by decide +kernel
theorem dX7_join_120 : decode cX7_join 120 = .ok (.iload_n 1, 1) := by decide +kernel
theorem dX7_join_121 : decode cX7_join 121 = .ok (.laload, 1) := by decide +kernel
theorem dX7_join_122 : decode cX7_join 122 = .ok (.lreturn, 1) := by decide +kernel
theorem dX7_join_123 : decode cX7_join 123 = .ok (.aload_n 0, 1) := by decide +kernel
theorem dX7_join_124 : decode cX7_join 124 = .ok (.getfield 47, 3) := by decide +kernel
theorem dX7_join_127 : decode cX7_join 127 = .ok (.getfield 154, 3) := by decide +kernel
theorem dX7_join_130 : decode cX7_join 130 = .ok (.iload_n 1, 1) := by decide +kernel
theorem dX7_join_131 : decode cX7_join 131 = .ok (.laload, 1) := by decide +kernel
theorem dX7_join_132 : decode cX7_join 132 = .ok (.lreturn, 1) := by decide +kernel
theorem dX7_cut_0 : decode cX7_cut 0 = .ok (.iload_n 1, 1) := by decide +kernel
theorem dX7_cut_1 : decode cX7_cut 1 = .ok (.invokestatic 100, 3) := by decide +kernel
theorem dX7_cut_4 : decode cX7_cut 4 = .ok (.ifCond .eq 14, 3) := by decide +kernel
theorem dX7_cut_7 : decode cX7_cut 7 = .ok (.iload_n 2, 1) := by decide +kernel
theorem dX7_cut_8 : decode cX7_cut 8 = .ok (.iconst 1, 1) := by decide +kernel
theorem dX7_cut_9 : decode cX7_cut 9 = .ok (.if_icmp .lt 9, 3) := by decide +kernel
theorem dX7_cut_12 : decode cX7_cut 12 = .ok (.iload_n 2, 1) := by decide +kernel
theorem dX7_cut_13 : decode cX7_cut 13 = .ok (.bipush 30, 2) := by decide +kernel
theorem dX7_cut_15 : decode cX7_cut 15 = .ok (.if_icmp .le 6, 3) := by decide +kernel
theorem dX7_cut_18 : decode cX7_cut 18 = .ok (.ldc 58, 2) := by decide +kernel
theorem dX7_cut_20 : decode cX7_cut 20 = .ok (.ireturn, 1) := by decide +kernel
theorem dX7_cut_21 : decode cX7_cut 21 = .ok (.aload_n 0, 1) := by decide +kernel
theorem dX7_cut_22 : decode cX7_cut 22 = .ok (.getfield 47, 3) := by decide +kernel
theorem dX7_cut_25 : decode cX7_cut 25 = .ok (.getfield 82, 3) := by decide +kernel
theorem dX7_cut_28 : decode cX7_cut 28 = .ok (.iconst (-1), 1) := by decide +kernel
theorem dX7_cut_29 : decode cX7_cut 29 = .ok (.if_icmp .eq 14, 3) := by decide +kernel
theorem dX7_cut_32 : decode cX7_cut 32 = .ok (.aload_n 0, 1) := by decide +kernel
theorem dX7_cut_33 : decode cX7_cut 33 = .ok (.getfield 10, 3) := by decide +kernel
theorem dX7_cut_36 : decode cX7_cut 36 = .ok (.getfield 59, 3) := by decide +kernel
theorem dX7_cut_39 : decode cX7_cut 39 = .ok (.iload_n 2, 1) := by decide +kernel
theorem dX7_cut_40 : decode cX7_cut 40 = .ok (.if_icmp .ge 6, 3) := by decide +kernel
theorem dX7_cut_43 : decode cX7_cut 43 = .ok (.ldc 63, 2) := by decide +kernel
theorem dX7_cut_45 : decode cX7_cut 45 = .ok (.ireturn, 1) := by decide +kernel
theorem dX7_cut_46 : decode cX7_cut 46 = .ok (.aload_n 0, 1) := by decide +kernel
theorem dX7_cut_47 : decode cX7_cut 47 = .ok (.getfield 47, 3) := by decide +kernel
theorem dX7_cut_50 : decode cX7_cut 50 = .ok (.aload_n 0, 1) := by decide +kernel
theorem dX7_cut_51 : decode cX7_cut 51 = .ok (.getfield 10, 3) := by decide +kernel
theorem dX7_cut_54 : decode cX7_cut 54 = .ok (.getfield 59, 3) := by decide +kernel
theorem dX7_cut_57 : decode cX7_cut 57 = .ok (.iload_n 2, 1) := by decide +kernel
theorem dX7_cut_58 : decode cX7_cut 58 = .ok (.invokevirtual 157, 3) := by decide +kernel
theorem dX7_cut_61 : decode cX7_cut 61 = .ok (.aload_n 0, 1) := by decide +kernel
theorem dX7_cut_62 : decode cX7_cut 62 = .ok (.getfield 18, 3) := by decide +kernel
theorem dX7_cut_65 : decode cX7_cut 65 = .ok (.iload_n 1, 1) := by decide +kernel
theorem dX7_cut_66 : decode cX7_cut 66 = .ok (.aaload, 1) := by decide +kernel
theorem dX7_cut_67 : decode cX7_cut 67 = .ok (.aload_n 0, 1) := by decide +kernel
theorem dX7_cut_68 : decode cX7_cut 68 = .ok (.getfield 47, 3) := by decide +kernel
theorem dX7_cut_71 : decode cX7_cut 71 = .ok (.getfield 161, 3) := by decide +kernel
theorem dX7_cut_74 : decode cX7_cut 74 = .ok (.aload_n 0, 1) := by decide +kernel
theorem dX7_cut_75 : decode cX7_cut 75 = .ok (.getfield 10, 3) := by decide +kernel
theorem dX7_cut_78 : decode cX7_cut 78 = .ok (.getfield 59, 3) := by decide +kernel
theorem dX7_cut_81 : decode cX7_cut 81 = .ok (.iload_n 2, 1) := by decide +kernel
theorem dX7_cut_82 : decode cX7_cut 82 = .ok (.invokevirtual 111, 3) := by decide +kernel
theorem dX7_cut_85 : decode cX7_cut 85 = .ok (.iconst 1, 1) := by decide +kernel
theorem dX7_cut_86 : decode cX7_cut 86 = .ok (.ireturn, 1) := by decide +kernel
theorem dX7_of_0 : decode cX7_of 0 = .ok (.aload_n 0, 1) := by decide +kernel
theorem dX7_of_1 : decode cX7_of 1 = .ok (.iload_n 2, 1) := by decide +kernel
theorem dX7_of_2 : decode cX7_of 2 = .ok (.invokevirtual 85, 3) := by decide +kernel
theorem dX7_of_5 : decode cX7_of 5 = .ok (.ifCond .ne 6, 3) := by decide +kernel
theorem dX7_of_8 : decode cX7_of 8 = .ok (.ldc 89, 2) := by decide +kernel
theorem dX7_of_10 : decode cX7_of 10 = .ok (.ireturn, 1) := by decide +kernel
theorem dX7_of_11 : decode cX7_of 11 = .ok (.iload_n 1, 1) := by decide +kernel
theorem dX7_of_12 : decode cX7_of 12 = .ok (.invokestatic 100, 3) := by decide +kernel
theorem dX7_of_15 : decode cX7_of 15 = .ok (.ifCond .ne 6, 3) := by decide +kernel
theorem dX7_of_18 : decode cX7_of 18 = .ok (.ldc 58, 2) := by decide +kernel
theorem dX7_of_20 : decode cX7_of 20 = .ok (.ireturn, 1) := by decide +kernel
theorem dX7_of_21 : decode cX7_of 21 = .ok (.aload_n 0, 1) := by decide +kernel
theorem dX7_of_22 : decode cX7_of 22 = .ok (.getfield 18, 3) := by decide +kernel
theorem dX7_of_25 : decode cX7_of 25 = .ok (.iload_n 1, 1) := by decide +kernel
theorem dX7_of_26 : decode cX7_of 26 = .ok (.aaload, 1) := by decide +kernel
theorem dX7_of_27 : decode cX7_of 27 = .ok (.invokevirtual 162, 3) := by decide +kernel
theorem dX7_of_30 : decode cX7_of 30 = .ok (.ifCond .eq 6, 3) := by decide +kernel
theorem dX7_of_33 : decode cX7_of 33 = .ok (.ldc 63, 2) := by decide +kernel
theorem dX7_of_35 : decode cX7_of 35 = .ok (.ireturn, 1) := by decide +kernel
theorem dX7_of_36 : decode cX7_of 36 = .ok (.aload_n 0, 1) := by decide +kernel
theorem dX7_of_37 : decode cX7_of 37 = .ok (.getfield 18, 3) := by decide +kernel
theorem dX7_of_40 : decode cX7_of 40 = .ok (.iload_n 1, 1) := by decide +kernel
theorem dX7_of_41 : decode cX7_of 41 = .ok (.aaload, 1) := by decide +kernel
theorem dX7_of_42 : decode cX7_of 42 = .ok (.getfield 166, 3) := by decide +kernel
theorem dX7_of_45 : decode cX7_of 45 = .ok (.iload_n 2, 1) := by decide +kernel
theorem dX7_of_46 : decode cX7_of 46 = .ok (.iaload, 1) := by decide +kernel
theorem dX7_of_47 : decode cX7_of 47 = .ok (.ireturn, 1) := by decide +kernel
theorem dX7_size_0 : decode cX7_size 0 = .ok (.aload_n 0, 1) := by decide +kernel
theorem dX7_size_1 : decode cX7_size 1 = .ok (.iload_n 1, 1) := by decide +kernel
theorem dX7_size_2 : decode cX7_size 2 = .ok (.iload_n 2, 1) := by decide +kernel
theorem dX7_size_3 : decode cX7_size 3 = .ok (.invokevirtual 169, 3) := by decide +kernel
theorem dX7_size_6 : decode cX7_size 6 = .ok (.istore_n 3, 1) := by decide +kernel
theorem dX7_size_7 : decode cX7_size 7 = .ok (.iload_n 3, 1) := by decide +kernel
theorem dX7_size_8 : decode cX7_size 8 = .ok (.ifCond .eq 5, 3) := by decide +kernel
theorem dX7_size_11 : decode cX7_size 11 = .ok (.iload_n 3, 1) := by decide +kernel
theorem dX7_size_12 : decode cX7_size 12 = .ok (.ireturn, 1) := by decide +kernel
theorem dX7_size_13 : decode cX7_size 13 = .ok (.aload_n 0, 1) := by decide +kernel
theorem dX7_size_14 : decode cX7_size 14 = .ok (.getfield 18, 3) := by decide +kernel
theorem dX7_size_17 : decode cX7_size 17 = .ok (.iload_n 1, 1) := by decide +kernel
theorem dX7_size_18 : decode cX7_size 18 = .ok (.aaload, 1) := by decide +kernel
theorem dX7_size_19 : decode cX7_size 19 = .ok (.getfield 173, 3) := by decide +kernel
theorem dX7_size_22 : decode cX7_size 22 = .ok (.iload_n 2, 1) := by decide +kernel
theorem dX7_size_23 : decode cX7_size 23 = .ok (.iaload, 1) := by decide +kernel
theorem dX7_size_24 : decode cX7_size 24 = .ok (.ireturn, 1) := by decide +kernel
theorem dX7_mean_0 : decode cX7_mean 0 = .ok (.aload_n 0, 1) := by decide +kernel
theorem dX7_mean_1 : decode cX7_mean 1 = .ok (.iload_n 1, 1) := by decide +kernel
theorem dX7_mean_2 : decode cX7_mean 2 = .ok (.iload_n 2, 1) := by decide +kernel
theorem dX7_mean_3 : decode cX7_mean 3 = .ok (.invokevirtual 169, 3) := by decide +kernel
theorem dX7_mean_6 : decode cX7_mean 6 = .ok (.istore 5, 2) := by decide +kernel
theorem dX7_mean_8 : decode cX7_mean 8 = .ok (.iload 5, 2) := by decide +kernel
theorem dX7_mean_10 : decode cX7_mean 10 = .ok (.ifCond .eq 6, 3) := by decide +kernel
theorem dX7_mean_13 : decode cX7_mean 13 = .ok (.iload 5, 2) := by decide +kernel
theorem dX7_mean_15 : decode cX7_mean 15 = .ok (.ireturn, 1) := by decide +kernel
theorem dX7_mean_16 : decode cX7_mean 16 = .ok (.iload_n 3, 1) := by decide +kernel
theorem dX7_mean_17 : decode cX7_mean 17 = .ok (.ifCond .lt 22, 3) := by decide +kernel
theorem dX7_mean_20 : decode cX7_mean 20 = .ok (.iload_n 3, 1) := by decide +kernel
theorem dX7_mean_21 : decode cX7_mean 21 = .ok (.aload_n 0, 1) := by decide +kernel
theorem dX7_mean_22 : decode cX7_mean 22 = .ok (.getfield 10, 3) := by decide +kernel
theorem dX7_mean_25 : decode cX7_mean 25 = .ok (.getfield 64, 3) := by decide +kernel
theorem dX7_mean_28 : decode cX7_mean 28 = .ok (.if_icmp .ge 11, 3) := by decide +kernel
theorem dX7_mean_31 : decode cX7_mean 31 = .ok (.iload 4, 2) := by decide +kernel
theorem dX7_mean_33 : decode cX7_mean 33 = .ok (.invokestatic 176, 3) := by decide +kernel
theorem dX7_mean_36 : decode cX7_mean 36 = .ok (.ifCond .ne 6, 3) := by decide +kernel
theorem dX7_mean_39 : decode cX7_mean 39 = .ok (.ldc 58, 2) := by decide +kernel
theorem dX7_mean_41 : decode cX7_mean 41 = .ok (.ireturn, 1) := by decide +kernel
theorem dX7_mean_42 : decode cX7_mean 42 = .ok (.aload_n 0, 1) := by decide +kernel
theorem dX7_mean_43 : decode cX7_mean 43 = .ok (.aload_n 0, 1) := by decide +kernel
theorem dX7_mean_44 : decode cX7_mean 44 = .ok (.getfield 18, 3) := by decide +kernel
theorem dX7_mean_47 : decode cX7_mean 47 = .ok (.iload_n 1, 1) := by decide +kernel
theorem dX7_mean_48 : decode cX7_mean 48 = .ok (.aaload, 1) := by decide +kernel
theorem dX7_mean_49 : decode cX7_mean 49 = .ok (.iload_n 2, 1) := by decide +kernel
theorem dX7_mean_50 : decode cX7_mean 50 = .ok (.iload_n 3, 1) := by decide +kernel
theorem dX7_mean_51 : decode cX7_mean 51 = .ok (.invokevirtual 179, 3) := by decide +kernel
theorem dX7_mean_54 : decode cX7_mean 54 = .ok (.aload_n 0, 1) := by decide +kernel
theorem dX7_mean_55 : decode cX7_mean 55 = .ok (.getfield 54, 3) := by decide +kernel
theorem dX7_mean_58 : decode cX7_mean 58 = .ok (.iload 4, 2) := by decide +kernel
theorem dX7_mean_60 : decode cX7_mean 60 = .ok (.invokevirtual 183, 3) := by decide +kernel
theorem dX7_mean_63 : decode cX7_mean 63 = .ok (.l2i, 1) := by decide +kernel
theorem dX7_mean_64 : decode cX7_mean 64 = .ok (.ireturn, 1) := by decide +kernel
theorem dX7_sum_0 : decode cX7_sum 0 = .ok (.iload_n 1, 1) := by decide +kernel
theorem dX7_sum_1 : decode cX7_sum 1 = .ok (.invokestatic 100, 3) := by decide +kernel
theorem dX7_sum_4 : decode cX7_sum 4 = .ok (.ifCond .eq 10, 3) := by decide +kernel
theorem dX7_sum_7 : decode cX7_sum 7 = .ok (.iload_n 2, 1) := by decide +kernel
theorem dX7_sum_8 : decode cX7_sum 8 = .ok (.invokestatic 176, 3) := by decide +kernel
theorem dX7_sum_11 : decode cX7_sum 11 = .ok (.ifCond .ne 7, 3) := by decide +kernel
theorem dX7_sum_14 : decode cX7_sum 14 = .ok (.ldc2_w 135, 3) := by decide +kernel
theorem dX7_sum_17 : decode cX7_sum 17 = .ok (.lreturn, 1) := by decide +kernel
theorem dX7_sum_18 : decode cX7_sum 18 = .ok (.aload_n 0, 1) := by decide +kernel
theorem dX7_sum_19 : decode cX7_sum 19 = .ok (.getfield 18, 3) := by decide +kernel
theorem dX7_sum_22 : decode cX7_sum 22 = .ok (.iload_n 1, 1) := by decide +kernel
theorem dX7_sum_23 : decode cX7_sum 23 = .ok (.aaload, 1) := by decide +kernel
theorem dX7_sum_24 : decode cX7_sum 24 = .ok (.invokevirtual 162, 3) := by decide +kernel
theorem dX7_sum_27 : decode cX7_sum 27 = .ok (.ifCond .eq 7, 3) := by decide +kernel
theorem dX7_sum_30 : decode cX7_sum 30 = .ok (.ldc2_w 137, 3) := by decide +kernel
theorem dX7_sum_33 : decode cX7_sum 33 = .ok (.lreturn, 1) := by decide +kernel
theorem dX7_sum_34 : decode cX7_sum 34 = .ok (.aload_n 0, 1) := by decide +kernel
theorem dX7_sum_35 : decode cX7_sum 35 = .ok (.aload_n 0, 1) := by decide +kernel
theorem dX7_sum_36 : decode cX7_sum 36 = .ok (.getfield 18, 3) := by decide +kernel
theorem dX7_sum_39 : decode cX7_sum 39 = .ok (.iload_n 1, 1) := by decide +kernel
theorem dX7_sum_40 : decode cX7_sum 40 = .ok (.aaload, 1) := by decide +kernel
theorem dX7_sum_41 : decode cX7_sum 41 = .ok (.invokevirtual 187, 3) := by decide +kernel
theorem dX7_sum_44 : decode cX7_sum 44 = .ok (.aload_n 0, 1) := by decide +kernel
theorem dX7_sum_45 : decode cX7_sum 45 = .ok (.getfield 54, 3) := by decide +kernel
theorem dX7_sum_48 : decode cX7_sum 48 = .ok (.iload_n 2, 1) := by decide +kernel
theorem dX7_sum_49 : decode cX7_sum 49 = .ok (.invokevirtual 183, 3) := by decide +kernel
theorem dX7_sum_52 : decode cX7_sum 52 = .ok (.lreturn, 1) := by decide +kernel
theorem dX7_well_0 : decode cX7_well 0 = .ok (.aload_n 0, 1) := by decide +kernel
theorem dX7_well_1 : decode cX7_well 1 = .ok (.iload_n 3, 1) := by decide +kernel
theorem dX7_well_2 : decode cX7_well 2 = .ok (.invokevirtual 85, 3) := by decide +kernel
theorem dX7_well_5 : decode cX7_well 5 = .ok (.ifCond .ne 7, 3) := by decide +kernel
theorem dX7_well_8 : decode cX7_well 8 = .ok (.ldc2_w 191, 3) := by decide +kernel
theorem dX7_well_11 : decode cX7_well 11 = .ok (.lreturn, 1) := by decide +kernel
theorem dX7_well_12 : decode cX7_well 12 = .ok (.iload_n 1, 1) := by decide +kernel
theorem dX7_well_13 : decode cX7_well 13 = .ok (.invokestatic 100, 3) := by decide +kernel
theorem dX7_well_16 : decode cX7_well 16 = .ok (.ifCond .eq 18, 3) := by decide +kernel
theorem dX7_well_19 : decode cX7_well 19 = .ok (.iload_n 2, 1) := by decide +kernel
theorem dX7_well_20 : decode cX7_well 20 = .ok (.invokestatic 90, 3) := by decide +kernel
theorem dX7_well_23 : decode cX7_well 23 = .ok (.ifCond .eq 11, 3) := by decide +kernel
theorem dX7_well_26 : decode cX7_well 26 = .ok (.iload 4, 2) := by decide +kernel
theorem dX7_well_28 : decode cX7_well 28 = .ok (.invokestatic 176, 3) := by decide +kernel
theorem dX7_well_31 : decode cX7_well 31 = .ok (.ifCond .ne 7, 3) := by decide +kernel
theorem dX7_well_34 : decode cX7_well 34 = .ok (.ldc2_w 135, 3) := by decide +kernel
theorem dX7_well_37 : decode cX7_well 37 = .ok (.lreturn, 1) := by decide +kernel
theorem dX7_well_38 : decode cX7_well 38 = .ok (.aload_n 0, 1) := by decide +kernel
theorem dX7_well_39 : decode cX7_well 39 = .ok (.getfield 18, 3) := by decide +kernel
theorem dX7_well_42 : decode cX7_well 42 = .ok (.iload_n 1, 1) := by decide +kernel
theorem dX7_well_43 : decode cX7_well 43 = .ok (.aaload, 1) := by decide +kernel
theorem dX7_well_44 : decode cX7_well 44 = .ok (.invokevirtual 162, 3) := by decide +kernel
theorem dX7_well_47 : decode cX7_well 47 = .ok (.ifCond .ne 18, 3) := by decide +kernel
theorem dX7_well_50 : decode cX7_well 50 = .ok (.aload_n 0, 1) := by decide +kernel
theorem dX7_well_51 : decode cX7_well 51 = .ok (.getfield 18, 3) := by decide +kernel
theorem dX7_well_54 : decode cX7_well 54 = .ok (.iload_n 1, 1) := by decide +kernel
theorem dX7_well_55 : decode cX7_well 55 = .ok (.aaload, 1) := by decide +kernel
theorem dX7_well_56 : decode cX7_well 56 = .ok (.getfield 166, 3) := by decide +kernel
theorem dX7_well_59 : decode cX7_well 59 = .ok (.iload_n 3, 1) := by decide +kernel
theorem dX7_well_60 : decode cX7_well 60 = .ok (.iaload, 1) := by decide +kernel
theorem dX7_well_61 : decode cX7_well 61 = .ok (.iconst (-1), 1) := by decide +kernel
theorem dX7_well_62 : decode cX7_well 62 = .ok (.if_icmp .ne 7, 3) := by decide +kernel
theorem dX7_well_65 : decode cX7_well 65 = .ok (.ldc2_w 137, 3) := by decide +kernel
theorem dX7_well_68 : decode cX7_well 68 = .ok (.lreturn, 1) := by decide +kernel
theorem dX7_well_69 : decode cX7_well 69 = .ok (.aload_n 0, 1) := by decide +kernel
theorem dX7_well_70 : decode cX7_well 70 = .ok (.aload_n 0, 1) := by decide +kernel
theorem dX7_well_71 : decode cX7_well 71 = .ok (.getfield 18, 3) := by decide +kernel
theorem dX7_well_74 : decode cX7_well 74 = .ok (.iload_n 1, 1) := by decide +kernel
theorem dX7_well_75 : decode cX7_well 75 = .ok (.aaload, 1) := by decide +kernel
theorem dX7_well_76 : decode cX7_well 76 = .ok (.iload_n 2, 1) := by decide +kernel
theorem dX7_well_77 : decode cX7_well 77 = .ok (.iload_n 3, 1) := by decide +kernel
theorem dX7_well_78 : decode cX7_well 78 = .ok (.invokevirtual 193, 3) := by decide +kernel
theorem dX7_well_81 : decode cX7_well 81 = .ok (.aload_n 0, 1) := by decide +kernel
theorem dX7_well_82 : decode cX7_well 82 = .ok (.getfield 54, 3) := by decide +kernel
theorem dX7_well_85 : decode cX7_well 85 = .ok (.iload 4, 2) := by decide +kernel
theorem dX7_well_87 : decode cX7_well 87 = .ok (.invokevirtual 183, 3) := by decide +kernel
theorem dX7_well_90 : decode cX7_well 90 = .ok (.lreturn, 1) := by decide +kernel
theorem dX7_agree_0 : decode cX7_agree 0 = .ok (.iload_n 1, 1) := by decide +kernel
theorem dX7_agree_1 : decode cX7_agree 1 = .ok (.ifCond .lt 8, 3) := by decide +kernel
theorem dX7_agree_4 : decode cX7_agree 4 = .ok (.iload_n 1, 1) := by decide +kernel
theorem dX7_agree_5 : decode cX7_agree 5 = .ok (.iconst 3, 1) := by decide +kernel
theorem dX7_agree_6 : decode cX7_agree 6 = .ok (.if_icmp .le 6, 3) := by decide +kernel
theorem dX7_agree_9 : decode cX7_agree 9 = .ok (.ldc 58, 2) := by decide +kernel
theorem dX7_agree_11 : decode cX7_agree 11 = .ok (.ireturn, 1) := by decide +kernel
theorem dX7_agree_12 : decode cX7_agree 12 = .ok (.aload_n 0, 1) := by decide +kernel
theorem dX7_agree_13 : decode cX7_agree 13 = .ok (.getfield 18, 3) := by decide +kernel
theorem dX7_agree_16 : decode cX7_agree 16 = .ok (.iconst 0, 1) := by decide +kernel
theorem dX7_agree_17 : decode cX7_agree 17 = .ok (.aaload, 1) := by decide +kernel
theorem dX7_agree_18 : decode cX7_agree 18 = .ok (.invokevirtual 162, 3) := by decide +kernel
theorem dX7_agree_21 : decode cX7_agree 21 = .ok (.ifCond .ne 15, 3) := by decide +kernel
theorem dX7_agree_24 : decode cX7_agree 24 = .ok (.aload_n 0, 1) := by decide +kernel
theorem dX7_agree_25 : decode cX7_agree 25 = .ok (.getfield 18, 3) := by decide +kernel
theorem dX7_agree_28 : decode cX7_agree 28 = .ok (.iconst 1, 1) := by decide +kernel
theorem dX7_agree_29 : decode cX7_agree 29 = .ok (.aaload, 1) := by decide +kernel
theorem dX7_agree_30 : decode cX7_agree 30 = .ok (.invokevirtual 162, 3) := by decide +kernel
theorem dX7_agree_33 : decode cX7_agree 33 = .ok (.ifCond .eq 6, 3) := by decide +kernel
theorem dX7_agree_36 : decode cX7_agree 36 = .ok (.ldc 63, 2) := by decide +kernel
theorem dX7_agree_38 : decode cX7_agree 38 = .ok (.ireturn, 1) := by decide +kernel
theorem dX7_agree_39 : decode cX7_agree 39 = .ok (.iconst 0, 1) := by decide +kernel
theorem dX7_agree_40 : decode cX7_agree 40 = .ok (.istore_n 2, 1) := by decide +kernel
theorem dX7_agree_41 : decode cX7_agree 41 = .ok (.iconst 0, 1) := by decide +kernel
theorem dX7_agree_42 : decode cX7_agree 42 = .ok (.istore_n 3, 1) := by decide +kernel
theorem dX7_agree_43 : decode cX7_agree 43 = .ok (.iload_n 3, 1) := by decide +kernel
theorem dX7_agree_44 : decode cX7_agree 44 = .ok (.aload_n 0, 1) := by decide +kernel
theorem dX7_agree_45 : decode cX7_agree 45 = .ok (.getfield 10, 3) := by decide +kernel
theorem dX7_agree_48 : decode cX7_agree 48 = .ok (.getfield 59, 3) := by decide +kernel
theorem dX7_agree_51 : decode cX7_agree 51 = .ok (.if_icmp .ge 46, 3) := by decide +kernel
theorem dX7_agree_54 : decode cX7_agree 54 = .ok (.iload_n 3, 1) := by decide +kernel
theorem dX7_agree_55 : decode cX7_agree 55 = .ok (.iconst 1, 1) := by decide +kernel
theorem dX7_agree_56 : decode cX7_agree 56 = .ok (.iadd, 1) := by decide +kernel
theorem dX7_agree_57 : decode cX7_agree 57 = .ok (.istore 4, 2) := by decide +kernel
theorem dX7_agree_59 : decode cX7_agree 59 = .ok (.iload 4, 2) := by decide +kernel
theorem dX7_agree_61 : decode cX7_agree 61 = .ok (.aload_n 0, 1) := by decide +kernel
theorem dX7_agree_62 : decode cX7_agree 62 = .ok (.getfield 10, 3) := by decide +kernel
theorem dX7_agree_65 : decode cX7_agree 65 = .ok (.getfield 59, 3) := by decide +kernel
theorem dX7_agree_68 : decode cX7_agree 68 = .ok (.if_icmp .ge 23, 3) := by decide +kernel
theorem dX7_agree_71 : decode cX7_agree 71 = .ok (.aload_n 0, 1) := by decide +kernel
theorem dX7_agree_72 : decode cX7_agree 72 = .ok (.iload_n 3, 1) := by decide +kernel
theorem dX7_agree_73 : decode cX7_agree 73 = .ok (.iload 4, 2) := by decide +kernel
theorem dX7_agree_75 : decode cX7_agree 75 = .ok (.invokevirtual 196, 3) := by decide +kernel
theorem dX7_agree_78 : decode cX7_agree 78 = .ok (.iload_n 1, 1) := by decide +kernel
theorem dX7_agree_79 : decode cX7_agree 79 = .ok (.if_icmp .ne 6, 3) := by decide +kernel
theorem dX7_agree_82 : decode cX7_agree 82 = .ok (.iinc 2 1, 3) := by decide +kernel
theorem dX7_agree_85 : decode cX7_agree 85 = .ok (.iinc 4 1, 3) := by decide +kernel
theorem dX7_agree_88 : decode cX7_agree 88 = .ok (.goto (-29), 3) := by decide +kernel
theorem dX7_agree_91 : decode cX7_agree 91 = .ok (.iinc 3 1, 3) := by decide +kernel
theorem dX7_agree_94 : decode cX7_agree 94 = .ok (.goto (-51), 3) := by decide +kernel
theorem dX7_agree_97 : decode cX7_agree 97 = .ok (.iload_n 2, 1) := by decide +kernel
theorem dX7_agree_98 : decode cX7_agree 98 = .ok (.ireturn, 1) := by decide +kernel
theorem dX7_forgetGroupings_0 : decode cX7_forgetGroupings 0 = .ok (.iconst 0, 1) := by decide +kernel
theorem dX7_forgetGroupings_1 : decode cX7_forgetGroupings 1 = .ok (.istore_n 1, 1) := by decide +kernel
theorem dX7_forgetGroupings_2 : decode cX7_forgetGroupings 2 = .ok (.iload_n 1, 1) := by decide +kernel
theorem dX7_forgetGroupings_3 : decode cX7_forgetGroupings 3 = .ok (.iconst 2, 1) := by decide +kernel
theorem dX7_forgetGroupings_4 : decode cX7_forgetGroupings 4 = .ok (.if_icmp .ge 19, 3) := by decide +kernel
theorem dX7_forgetGroupings_7 : decode cX7_forgetGroupings 7 = .ok (.aload_n 0, 1) := by decide +kernel
theorem dX7_forgetGroupings_8 : decode cX7_forgetGroupings 8 = .ok (.getfield 18, 3) := by decide +kernel
theorem dX7_forgetGroupings_11 : decode cX7_forgetGroupings 11 = .ok (.iload_n 1, 1) := by decide +kernel
theorem dX7_forgetGroupings_12 : decode cX7_forgetGroupings 12 = .ok (.aaload, 1) := by decide +kernel
theorem dX7_forgetGroupings_13 : decode cX7_forgetGroupings 13 = .ok (.iconst (-1), 1) := by decide +kernel
theorem dX7_forgetGroupings_14 : decode cX7_forgetGroupings 14 = .ok (.putfield 79, 3) := by decide +kernel
theorem dX7_forgetGroupings_17 : decode cX7_forgetGroupings 17 = .ok (.iinc 1 1, 3) := by decide +kernel
theorem dX7_forgetGroupings_20 : decode cX7_forgetGroupings 20 = .ok (.goto (-18), 3) := by decide +kernel
theorem dX7_forgetGroupings_23 : decode cX7_forgetGroupings 23 = .ok (.aload_n 0, 1) := by decide +kernel
theorem dX7_forgetGroupings_24 : decode cX7_forgetGroupings 24 = .ok (.getfield 33, 3) := by decide +kernel
theorem dX7_forgetGroupings_27 : decode cX7_forgetGroupings 27 = .ok (.iconst 0, 1) := by decide +kernel
theorem dX7_forgetGroupings_28 : decode cX7_forgetGroupings 28 = .ok (.putfield 120, 3) := by decide +kernel
theorem dX7_forgetGroupings_31 : decode cX7_forgetGroupings 31 = .ok (.aload_n 0, 1) := by decide +kernel
theorem dX7_forgetGroupings_32 : decode cX7_forgetGroupings 32 = .ok (.getfield 47, 3) := by decide +kernel
theorem dX7_forgetGroupings_35 : decode cX7_forgetGroupings 35 = .ok (.iconst (-1), 1) := by decide +kernel
theorem dX7_forgetGroupings_36 : decode cX7_forgetGroupings 36 = .ok (.putfield 82, 3) := by decide +kernel
theorem dX7_forgetGroupings_39 : decode cX7_forgetGroupings 39 = .ok (.return_, 1) := by decide +kernel
theorem dX7_isRow_0 : decode cX7_isRow 0 = .ok (.iload_n 1, 1) := by decide +kernel
theorem dX7_isRow_1 : decode cX7_isRow 1 = .ok (.ifCond .lt 18, 3) := by decide +kernel
theorem dX7_isRow_4 : decode cX7_isRow 4 = .ok (.iload_n 1, 1) := by decide +kernel
theorem dX7_isRow_5 : decode cX7_isRow 5 = .ok (.aload_n 0, 1) := by decide +kernel
theorem dX7_isRow_6 : decode cX7_isRow 6 = .ok (.getfield 10, 3) := by decide +kernel
theorem dX7_isRow_9 : decode cX7_isRow 9 = .ok (.getfield 59, 3) := by decide +kernel
theorem dX7_isRow_12 : decode cX7_isRow 12 = .ok (.if_icmp .ge 7, 3) := by decide +kernel
theorem dX7_isRow_15 : decode cX7_isRow 15 = .ok (.iconst 1, 1) := by decide +kernel
theorem dX7_isRow_16 : decode cX7_isRow 16 = .ok (.goto 4, 3) := by decide +kernel
theorem dX7_isRow_19 : decode cX7_isRow 19 = .ok (.iconst 0, 1) := by decide +kernel
theorem dX7_isRow_20 : decode cX7_isRow 20 = .ok (.ireturn, 1) := by decide +kernel
theorem dX7_isKind_0 : decode cX7_isKind 0 = .ok (.iload_n 0, 1) := by decide +kernel
theorem dX7_isKind_1 : decode cX7_isKind 1 = .ok (.ifCond .lt 12, 3) := by decide +kernel
theorem dX7_isKind_4 : decode cX7_isKind 4 = .ok (.iload_n 0, 1) := by decide +kernel
theorem dX7_isKind_5 : decode cX7_isKind 5 = .ok (.iconst 3, 1) := by decide +kernel
theorem dX7_isKind_6 : decode cX7_isKind 6 = .ok (.if_icmp .ge 7, 3) := by decide +kernel
theorem dX7_isKind_9 : decode cX7_isKind 9 = .ok (.iconst 1, 1) := by decide +kernel
theorem dX7_isKind_10 : decode cX7_isKind 10 = .ok (.goto 4, 3) := by decide +kernel
theorem dX7_isKind_13 : decode cX7_isKind 13 = .ok (.iconst 0, 1) := by decide +kernel
theorem dX7_isKind_14 : decode cX7_isKind 14 = .ok (.ireturn, 1) := by decide +kernel
theorem dX7_isSlot_0 : decode cX7_isSlot 0 = .ok (.iload_n 0, 1) := by decide +kernel
theorem dX7_isSlot_1 : decode cX7_isSlot 1 = .ok (.ifCond .lt 12, 3) := by decide +kernel
theorem dX7_isSlot_4 : decode cX7_isSlot 4 = .ok (.iload_n 0, 1) := by decide +kernel
theorem dX7_isSlot_5 : decode cX7_isSlot 5 = .ok (.iconst 2, 1) := by decide +kernel
theorem dX7_isSlot_6 : decode cX7_isSlot 6 = .ok (.if_icmp .ge 7, 3) := by decide +kernel
theorem dX7_isSlot_9 : decode cX7_isSlot 9 = .ok (.iconst 1, 1) := by decide +kernel
theorem dX7_isSlot_10 : decode cX7_isSlot 10 = .ok (.goto 4, 3) := by decide +kernel
theorem dX7_isSlot_13 : decode cX7_isSlot 13 = .ok (.iconst 0, 1) := by decide +kernel
theorem dX7_isSlot_14 : decode cX7_isSlot 14 = .ok (.ireturn, 1) := by decide +kernel
theorem dX7_isSide_0 : decode cX7_isSide 0 = .ok (.iload_n 0, 1) := by decide +kernel
theorem dX7_isSide_1 : decode cX7_isSide 1 = .ok (.ifCond .lt 12, 3) := by decide +kernel
theorem dX7_isSide_4 : decode cX7_isSide 4 = .ok (.iload_n 0, 1) := by decide +kernel
theorem dX7_isSide_5 : decode cX7_isSide 5 = .ok (.iconst 2, 1) := by decide +kernel
theorem dX7_isSide_6 : decode cX7_isSide 6 = .ok (.if_icmp .ge 7, 3) := by decide +kernel
theorem dX7_isSide_9 : decode cX7_isSide 9 = .ok (.iconst 1, 1) := by decide +kernel
theorem dX7_isSide_10 : decode cX7_isSide 10 = .ok (.goto 4, 3) := by decide +kernel
theorem dX7_isSide_13 : decode cX7_isSide 13 = .ok (.iconst 0, 1) := by decide +kernel
theorem dX7_isSide_14 : decode cX7_isSide 14 = .ok (.ireturn, 1) := by decide +kernel
theorem dX7_refusalOfGroup_0 : decode cX7_refusalOfGroup 0 = .ok (.iload_n 1, 1) := by decide +kernel
theorem dX7_refusalOfGroup_1 : decode cX7_refusalOfGroup 1 = .ok (.invokestatic 100, 3) := by decide +kernel
theorem dX7_refusalOfGroup_4 : decode cX7_refusalOfGroup 4 = .ok (.ifCond .ne 6, 3) := by decide +kernel
theorem dX7_refusalOfGroup_7 : decode cX7_refusalOfGroup 7 = .ok (.ldc 58, 2) := by decide +kernel
theorem dX7_refusalOfGroup_9 : decode cX7_refusalOfGroup 9 = .ok (.ireturn, 1) := by decide +kernel
theorem dX7_refusalOfGroup_10 : decode cX7_refusalOfGroup 10 = .ok (.aload_n 0, 1) := by decide +kernel
theorem dX7_refusalOfGroup_11 : decode cX7_refusalOfGroup 11 = .ok (.getfield 18, 3) := by decide +kernel
theorem dX7_refusalOfGroup_14 : decode cX7_refusalOfGroup 14 = .ok (.iload_n 1, 1) := by decide +kernel
theorem dX7_refusalOfGroup_15 : decode cX7_refusalOfGroup 15 = .ok (.aaload, 1) := by decide +kernel
theorem dX7_refusalOfGroup_16 : decode cX7_refusalOfGroup 16 = .ok (.invokevirtual 162, 3) := by decide +kernel
theorem dX7_refusalOfGroup_19 : decode cX7_refusalOfGroup 19 = .ok (.ifCond .eq 6, 3) := by decide +kernel
theorem dX7_refusalOfGroup_22 : decode cX7_refusalOfGroup 22 = .ok (.ldc 63, 2) := by decide +kernel
theorem dX7_refusalOfGroup_24 : decode cX7_refusalOfGroup 24 = .ok (.ireturn, 1) := by decide +kernel
theorem dX7_refusalOfGroup_25 : decode cX7_refusalOfGroup 25 = .ok (.iload_n 2, 1) := by decide +kernel
theorem dX7_refusalOfGroup_26 : decode cX7_refusalOfGroup 26 = .ok (.ifCond .lt 20, 3) := by decide +kernel
theorem dX7_refusalOfGroup_29 : decode cX7_refusalOfGroup 29 = .ok (.iload_n 2, 1) := by decide +kernel
theorem dX7_refusalOfGroup_30 : decode cX7_refusalOfGroup 30 = .ok (.aload_n 0, 1) := by decide +kernel
theorem dX7_refusalOfGroup_31 : decode cX7_refusalOfGroup 31 = .ok (.getfield 18, 3) := by decide +kernel
theorem dX7_refusalOfGroup_34 : decode cX7_refusalOfGroup 34 = .ok (.iload_n 1, 1) := by decide +kernel
theorem dX7_refusalOfGroup_35 : decode cX7_refusalOfGroup 35 = .ok (.aaload, 1) := by decide +kernel
theorem dX7_refusalOfGroup_36 : decode cX7_refusalOfGroup 36 = .ok (.getfield 79, 3) := by decide +kernel
theorem dX7_refusalOfGroup_39 : decode cX7_refusalOfGroup 39 = .ok (.if_icmp .ge 7, 3) := by decide +kernel
theorem dX7_refusalOfGroup_42 : decode cX7_refusalOfGroup 42 = .ok (.iconst 0, 1) := by decide +kernel
theorem dX7_refusalOfGroup_43 : decode cX7_refusalOfGroup 43 = .ok (.goto 5, 3) := by decide +kernel
theorem dX7_refusalOfGroup_46 : decode cX7_refusalOfGroup 46 = .ok (.ldc 89, 2) := by decide +kernel
theorem dX7_refusalOfGroup_48 : decode cX7_refusalOfGroup 48 = .ok (.ireturn, 1) := by decide +kernel
theorem dX7_reckonMean_0 : decode cX7_reckonMean 0 = .ok (.aload_n 1, 1) := by decide +kernel
theorem dX7_reckonMean_1 : decode cX7_reckonMean 1 = .ok (.getfield 173, 3) := by decide +kernel
theorem dX7_reckonMean_4 : decode cX7_reckonMean 4 = .ok (.iload_n 2, 1) := by decide +kernel
theorem dX7_reckonMean_5 : decode cX7_reckonMean 5 = .ok (.iaload, 1) := by decide +kernel
theorem dX7_reckonMean_6 : decode cX7_reckonMean 6 = .ok (.istore 4, 2) := by decide +kernel
theorem dX7_reckonMean_8 : decode cX7_reckonMean 8 = .ok (.iload 4, 2) := by decide +kernel
theorem dX7_reckonMean_10 : decode cX7_reckonMean 10 = .ok (.ifCond .ne 15, 3) := by decide +kernel
theorem dX7_reckonMean_13 : decode cX7_reckonMean 13 = .ok (.aload_n 0, 1) := by decide +kernel
theorem dX7_reckonMean_14 : decode cX7_reckonMean 14 = .ok (.getfield 54, 3) := by decide +kernel
theorem dX7_reckonMean_17 : decode cX7_reckonMean 17 = .ok (.lconst 0, 1) := by decide +kernel
theorem dX7_reckonMean_18 : decode cX7_reckonMean 18 = .ok (.lconst 1, 1) := by decide +kernel
theorem dX7_reckonMean_19 : decode cX7_reckonMean 19 = .ok (.invokevirtual 199, 3) := by decide +kernel
theorem dX7_reckonMean_22 : decode cX7_reckonMean 22 = .ok (.goto 23, 3) := by decide +kernel
theorem dX7_reckonMean_25 : decode cX7_reckonMean 25 = .ok (.aload_n 0, 1) := by decide +kernel
theorem dX7_reckonMean_26 : decode cX7_reckonMean 26 = .ok (.getfield 54, 3) := by decide +kernel
theorem dX7_reckonMean_29 : decode cX7_reckonMean 29 = .ok (.aload_n 1, 1) := by decide +kernel
theorem dX7_reckonMean_30 : decode cX7_reckonMean 30 = .ok (.aload_n 0, 1) := by decide +kernel
theorem dX7_reckonMean_31 : decode cX7_reckonMean 31 = .ok (.getfield 10, 3) := by decide +kernel
theorem dX7_reckonMean_34 : decode cX7_reckonMean 34 = .ok (.iload_n 2, 1) := by decide +kernel
theorem dX7_reckonMean_35 : decode cX7_reckonMean 35 = .ok (.iload_n 3, 1) := by decide +kernel
theorem dX7_reckonMean_36 : decode cX7_reckonMean 36 = .ok (.invokevirtual 203, 3) := by decide +kernel
theorem dX7_reckonMean_39 : decode cX7_reckonMean 39 = .ok (.iload 4, 2) := by decide +kernel
theorem dX7_reckonMean_41 : decode cX7_reckonMean 41 = .ok (.i2l, 1) := by decide +kernel
theorem dX7_reckonMean_42 : decode cX7_reckonMean 42 = .ok (.invokevirtual 199, 3) := by decide +kernel
theorem dX7_reckonMean_45 : decode cX7_reckonMean 45 = .ok (.return_, 1) := by decide +kernel
theorem dX7_reckonSum_0 : decode cX7_reckonSum 0 = .ok (.aload_n 0, 1) := by decide +kernel
theorem dX7_reckonSum_1 : decode cX7_reckonSum 1 = .ok (.getfield 54, 3) := by decide +kernel
theorem dX7_reckonSum_4 : decode cX7_reckonSum 4 = .ok (.lconst 0, 1) := by decide +kernel
theorem dX7_reckonSum_5 : decode cX7_reckonSum 5 = .ok (.lconst 1, 1) := by decide +kernel
theorem dX7_reckonSum_6 : decode cX7_reckonSum 6 = .ok (.invokevirtual 199, 3) := by decide +kernel
theorem dX7_reckonSum_9 : decode cX7_reckonSum 9 = .ok (.iconst 0, 1) := by decide +kernel
theorem dX7_reckonSum_10 : decode cX7_reckonSum 10 = .ok (.istore_n 2, 1) := by decide +kernel
theorem dX7_reckonSum_11 : decode cX7_reckonSum 11 = .ok (.iload_n 2, 1) := by decide +kernel
theorem dX7_reckonSum_12 : decode cX7_reckonSum 12 = .ok (.aload_n 1, 1) := by decide +kernel
theorem dX7_reckonSum_13 : decode cX7_reckonSum 13 = .ok (.getfield 79, 3) := by decide +kernel
theorem dX7_reckonSum_16 : decode cX7_reckonSum 16 = .ok (.if_icmp .ge 41, 3) := by decide +kernel
theorem dX7_reckonSum_19 : decode cX7_reckonSum 19 = .ok (.aload_n 1, 1) := by decide +kernel
theorem dX7_reckonSum_20 : decode cX7_reckonSum 20 = .ok (.getfield 173, 3) := by decide +kernel
theorem dX7_reckonSum_23 : decode cX7_reckonSum 23 = .ok (.iload_n 2, 1) := by decide +kernel
theorem dX7_reckonSum_24 : decode cX7_reckonSum 24 = .ok (.iaload, 1) := by decide +kernel
theorem dX7_reckonSum_25 : decode cX7_reckonSum 25 = .ok (.ifCond .le 26, 3) := by decide +kernel
theorem dX7_reckonSum_28 : decode cX7_reckonSum 28 = .ok (.aload_n 0, 1) := by decide +kernel
theorem dX7_reckonSum_29 : decode cX7_reckonSum 29 = .ok (.getfield 54, 3) := by decide +kernel
theorem dX7_reckonSum_32 : decode cX7_reckonSum 32 = .ok (.aload_n 1, 1) := by decide +kernel
theorem dX7_reckonSum_33 : decode cX7_reckonSum 33 = .ok (.aload_n 0, 1) := by decide +kernel
theorem dX7_reckonSum_34 : decode cX7_reckonSum 34 = .ok (.getfield 10, 3) := by decide +kernel
theorem dX7_reckonSum_37 : decode cX7_reckonSum 37 = .ok (.iload_n 2, 1) := by decide +kernel
theorem dX7_reckonSum_38 : decode cX7_reckonSum 38 = .ok (.invokevirtual 207, 3) := by decide +kernel
theorem dX7_reckonSum_41 : decode cX7_reckonSum 41 = .ok (.aload_n 1, 1) := by decide +kernel
theorem dX7_reckonSum_42 : decode cX7_reckonSum 42 = .ok (.getfield 173, 3) := by decide +kernel
theorem dX7_reckonSum_45 : decode cX7_reckonSum 45 = .ok (.iload_n 2, 1) := by decide +kernel
theorem dX7_reckonSum_46 : decode cX7_reckonSum 46 = .ok (.iaload, 1) := by decide +kernel
theorem dX7_reckonSum_47 : decode cX7_reckonSum 47 = .ok (.i2l, 1) := by decide +kernel
theorem dX7_reckonSum_48 : decode cX7_reckonSum 48 = .ok (.invokevirtual 211, 3) := by decide +kernel
theorem dX7_reckonSum_51 : decode cX7_reckonSum 51 = .ok (.iinc 2 1, 3) := by decide +kernel
theorem dX7_reckonSum_54 : decode cX7_reckonSum 54 = .ok (.goto (-43), 3) := by decide +kernel
theorem dX7_reckonSum_57 : decode cX7_reckonSum 57 = .ok (.return_, 1) := by decide +kernel
theorem dX7_reckonWell_0 : decode cX7_reckonWell 0 = .ok (.aload_n 1, 1) := by decide +kernel
theorem dX7_reckonWell_1 : decode cX7_reckonWell 1 = .ok (.getfield 166, 3) := by decide +kernel
theorem dX7_reckonWell_4 : decode cX7_reckonWell 4 = .ok (.iload_n 3, 1) := by decide +kernel
theorem dX7_reckonWell_5 : decode cX7_reckonWell 5 = .ok (.iaload, 1) := by decide +kernel
theorem dX7_reckonWell_6 : decode cX7_reckonWell 6 = .ok (.istore 4, 2) := by decide +kernel
theorem dX7_reckonWell_8 : decode cX7_reckonWell 8 = .ok (.aload_n 0, 1) := by decide +kernel
theorem dX7_reckonWell_9 : decode cX7_reckonWell 9 = .ok (.aload_n 1, 1) := by decide +kernel
theorem dX7_reckonWell_10 : decode cX7_reckonWell 10 = .ok (.iload_n 2, 1) := by decide +kernel
theorem dX7_reckonWell_11 : decode cX7_reckonWell 11 = .ok (.iload_n 3, 1) := by decide +kernel
theorem dX7_reckonWell_12 : decode cX7_reckonWell 12 = .ok (.invokevirtual 214, 3) := by decide +kernel
theorem dX7_reckonWell_15 : decode cX7_reckonWell 15 = .ok (.istore 5, 2) := by decide +kernel
theorem dX7_reckonWell_17 : decode cX7_reckonWell 17 = .ok (.iload 5, 2) := by decide +kernel
theorem dX7_reckonWell_19 : decode cX7_reckonWell 19 = .ok (.iconst (-1), 1) := by decide +kernel
theorem dX7_reckonWell_20 : decode cX7_reckonWell 20 = .ok (.if_icmp .eq 14, 3) := by decide +kernel
theorem dX7_reckonWell_23 : decode cX7_reckonWell 23 = .ok (.aload_n 1, 1) := by decide +kernel
theorem dX7_reckonWell_24 : decode cX7_reckonWell 24 = .ok (.getfield 173, 3) := by decide +kernel
theorem dX7_reckonWell_27 : decode cX7_reckonWell 27 = .ok (.iload 4, 2) := by decide +kernel
theorem dX7_reckonWell_29 : decode cX7_reckonWell 29 = .ok (.iaload, 1) := by decide +kernel
theorem dX7_reckonWell_30 : decode cX7_reckonWell 30 = .ok (.iconst 2, 1) := by decide +kernel
theorem dX7_reckonWell_31 : decode cX7_reckonWell 31 = .ok (.if_icmp .ge 13, 3) := by decide +kernel
theorem dX7_reckonWell_34 : decode cX7_reckonWell 34 = .ok (.aload_n 0, 1) := by decide +kernel
theorem dX7_reckonWell_35 : decode cX7_reckonWell 35 = .ok (.getfield 54, 3) := by decide +kernel
theorem dX7_reckonWell_38 : decode cX7_reckonWell 38 = .ok (.lconst 0, 1) := by decide +kernel
theorem dX7_reckonWell_39 : decode cX7_reckonWell 39 = .ok (.lconst 1, 1) := by decide +kernel
theorem dX7_reckonWell_40 : decode cX7_reckonWell 40 = .ok (.invokevirtual 199, 3) := by decide +kernel
theorem dX7_reckonWell_43 : decode cX7_reckonWell 43 = .ok (.return_, 1) := by decide +kernel
theorem dX7_reckonWell_44 : decode cX7_reckonWell 44 = .ok (.aload_n 1, 1) := by decide +kernel
theorem dX7_reckonWell_45 : decode cX7_reckonWell 45 = .ok (.aload_n 0, 1) := by decide +kernel
theorem dX7_reckonWell_46 : decode cX7_reckonWell 46 = .ok (.getfield 10, 3) := by decide +kernel
theorem dX7_reckonWell_49 : decode cX7_reckonWell 49 = .ok (.iload_n 2, 1) := by decide +kernel
theorem dX7_reckonWell_50 : decode cX7_reckonWell 50 = .ok (.iload_n 3, 1) := by decide +kernel
theorem dX7_reckonWell_51 : decode cX7_reckonWell 51 = .ok (.iload 4, 2) := by decide +kernel
theorem dX7_reckonWell_53 : decode cX7_reckonWell 53 = .ok (.invokevirtual 218, 3) := by decide +kernel
theorem dX7_reckonWell_56 : decode cX7_reckonWell 56 = .ok (.aload_n 1, 1) := by decide +kernel
theorem dX7_reckonWell_57 : decode cX7_reckonWell 57 = .ok (.getfield 173, 3) := by decide +kernel
theorem dX7_reckonWell_60 : decode cX7_reckonWell 60 = .ok (.iload 5, 2) := by decide +kernel
theorem dX7_reckonWell_62 : decode cX7_reckonWell 62 = .ok (.iaload, 1) := by decide +kernel
theorem dX7_reckonWell_63 : decode cX7_reckonWell 63 = .ok (.i2l, 1) := by decide +kernel
theorem dX7_reckonWell_64 : decode cX7_reckonWell 64 = .ok (.lmul, 1) := by decide +kernel
theorem dX7_reckonWell_65 : decode cX7_reckonWell 65 = .ok (.lstore 6, 2) := by decide +kernel
theorem dX7_reckonWell_67 : decode cX7_reckonWell 67 = .ok (.aload_n 1, 1) := by decide +kernel
theorem dX7_reckonWell_68 : decode cX7_reckonWell 68 = .ok (.aload_n 0, 1) := by decide +kernel
theorem dX7_reckonWell_69 : decode cX7_reckonWell 69 = .ok (.getfield 10, 3) := by decide +kernel
theorem dX7_reckonWell_72 : decode cX7_reckonWell 72 = .ok (.iload_n 2, 1) := by decide +kernel
theorem dX7_reckonWell_73 : decode cX7_reckonWell 73 = .ok (.iload_n 3, 1) := by decide +kernel
theorem dX7_reckonWell_74 : decode cX7_reckonWell 74 = .ok (.iload 5, 2) := by decide +kernel
theorem dX7_reckonWell_76 : decode cX7_reckonWell 76 = .ok (.invokevirtual 218, 3) := by decide +kernel
theorem dX7_reckonWell_79 : decode cX7_reckonWell 79 = .ok (.aload_n 1, 1) := by decide +kernel
theorem dX7_reckonWell_80 : decode cX7_reckonWell 80 = .ok (.getfield 173, 3) := by decide +kernel
theorem dX7_reckonWell_83 : decode cX7_reckonWell 83 = .ok (.iload 4, 2) := by decide +kernel
theorem dX7_reckonWell_85 : decode cX7_reckonWell 85 = .ok (.iaload, 1) := by decide +kernel
theorem dX7_reckonWell_86 : decode cX7_reckonWell 86 = .ok (.iconst 1, 1) := by decide +kernel
theorem dX7_reckonWell_87 : decode cX7_reckonWell 87 = .ok (.isub, 1) := by decide +kernel
theorem dX7_reckonWell_88 : decode cX7_reckonWell 88 = .ok (.i2l, 1) := by decide +kernel
theorem dX7_reckonWell_89 : decode cX7_reckonWell 89 = .ok (.lmul, 1) := by decide +kernel
theorem dX7_reckonWell_90 : decode cX7_reckonWell 90 = .ok (.lstore 8, 2) := by decide +kernel
theorem dX7_reckonWell_92 : decode cX7_reckonWell 92 = .ok (.lload 6, 2) := by decide +kernel
theorem dX7_reckonWell_94 : decode cX7_reckonWell 94 = .ok (.lload 8, 2) := by decide +kernel
theorem dX7_reckonWell_96 : decode cX7_reckonWell 96 = .ok (.invokestatic 222, 3) := by decide +kernel
theorem dX7_reckonWell_99 : decode cX7_reckonWell 99 = .ok (.lstore 10, 2) := by decide +kernel
theorem dX7_reckonWell_101 : decode cX7_reckonWell 101 = .ok (.lload 10, 2) := by decide +kernel
theorem dX7_reckonWell_103 : decode cX7_reckonWell 103 = .ok (.lconst 0, 1) := by decide +kernel
theorem dX7_reckonWell_104 : decode cX7_reckonWell 104 = .ok (.lcmp, 1) := by decide +kernel
theorem dX7_reckonWell_105 : decode cX7_reckonWell 105 = .ok (.ifCond .ne 15, 3) := by decide +kernel
theorem dX7_reckonWell_108 : decode cX7_reckonWell 108 = .ok (.aload_n 0, 1) := by decide +kernel
theorem dX7_reckonWell_109 : decode cX7_reckonWell 109 = .ok (.getfield 54, 3) := by decide +kernel
theorem dX7_reckonWell_112 : decode cX7_reckonWell 112 = .ok (.lconst 0, 1) := by decide +kernel
theorem dX7_reckonWell_113 : decode cX7_reckonWell 113 = .ok (.lconst 1, 1) := by decide +kernel
theorem dX7_reckonWell_114 : decode cX7_reckonWell 114 = .ok (.invokevirtual 199, 3) := by decide +kernel
theorem dX7_reckonWell_117 : decode cX7_reckonWell 117 = .ok (.goto 17, 3) := by decide +kernel
theorem dX7_reckonWell_120 : decode cX7_reckonWell 120 = .ok (.aload_n 0, 1) := by decide +kernel
theorem dX7_reckonWell_121 : decode cX7_reckonWell 121 = .ok (.getfield 54, 3) := by decide +kernel
theorem dX7_reckonWell_124 : decode cX7_reckonWell 124 = .ok (.lload 8, 2) := by decide +kernel
theorem dX7_reckonWell_126 : decode cX7_reckonWell 126 = .ok (.lload 6, 2) := by decide +kernel
theorem dX7_reckonWell_128 : decode cX7_reckonWell 128 = .ok (.lsub, 1) := by decide +kernel
theorem dX7_reckonWell_129 : decode cX7_reckonWell 129 = .ok (.lload 10, 2) := by decide +kernel
theorem dX7_reckonWell_131 : decode cX7_reckonWell 131 = .ok (.invokevirtual 199, 3) := by decide +kernel
theorem dX7_reckonWell_134 : decode cX7_reckonWell 134 = .ok (.return_, 1) := by decide +kernel
theorem dX7_nearestOtherGroup_0 : decode cX7_nearestOtherGroup 0 = .ok (.iconst (-1), 1) := by decide +kernel
theorem dX7_nearestOtherGroup_1 : decode cX7_nearestOtherGroup 1 = .ok (.istore 4, 2) := by decide +kernel
theorem dX7_nearestOtherGroup_3 : decode cX7_nearestOtherGroup 3 = .ok (.lconst 0, 1) := by decide +kernel
theorem dX7_nearestOtherGroup_4 : decode cX7_nearestOtherGroup 4 = .ok (.lstore 5, 2) := by decide +kernel
theorem dX7_nearestOtherGroup_6 : decode cX7_nearestOtherGroup 6 = .ok (.lconst 1, 1) := by decide +kernel
theorem dX7_nearestOtherGroup_7 : decode cX7_nearestOtherGroup 7 = .ok (.lstore 7, 2) := by decide +kernel
theorem dX7_nearestOtherGroup_9 : decode cX7_nearestOtherGroup 9 = .ok (.iconst 0, 1) := by decide +kernel
theorem dX7_nearestOtherGroup_10 : decode cX7_nearestOtherGroup 10 = .ok (.istore 9, 2) := by decide +kernel
theorem dX7_nearestOtherGroup_12 : decode cX7_nearestOtherGroup 12 = .ok (.iload 9, 2) := by decide +kernel
theorem dX7_nearestOtherGroup_14 : decode cX7_nearestOtherGroup 14 = .ok (.aload_n 1, 1) := by decide +kernel
theorem dX7_nearestOtherGroup_15 : decode cX7_nearestOtherGroup 15 = .ok (.getfield 79, 3) := by decide +kernel
theorem dX7_nearestOtherGroup_18 : decode cX7_nearestOtherGroup 18 = .ok (.if_icmp .ge 88, 3) := by decide +kernel
theorem dX7_nearestOtherGroup_21 : decode cX7_nearestOtherGroup 21 = .ok (.iload 9, 2) := by decide +kernel
theorem dX7_nearestOtherGroup_23 : decode cX7_nearestOtherGroup 23 = .ok (.aload_n 1, 1) := by decide +kernel
theorem dX7_nearestOtherGroup_24 : decode cX7_nearestOtherGroup 24 = .ok (.getfield 166, 3) := by decide +kernel
theorem dX7_nearestOtherGroup_27 : decode cX7_nearestOtherGroup 27 = .ok (.iload_n 3, 1) := by decide +kernel
theorem dX7_nearestOtherGroup_28 : decode cX7_nearestOtherGroup 28 = .ok (.iaload, 1) := by decide +kernel
theorem dX7_nearestOtherGroup_29 : decode cX7_nearestOtherGroup 29 = .ok (.if_icmp .eq 71, 3) := by decide +kernel
theorem dX7_nearestOtherGroup_32 : decode cX7_nearestOtherGroup 32 = .ok (.aload_n 1, 1) := by decide +kernel
theorem dX7_nearestOtherGroup_33 : decode cX7_nearestOtherGroup 33 = .ok (.getfield 173, 3) := by decide +kernel
theorem dX7_nearestOtherGroup_36 : decode cX7_nearestOtherGroup 36 = .ok (.iload 9, 2) := by decide +kernel
theorem dX7_nearestOtherGroup_38 : decode cX7_nearestOtherGroup 38 = .ok (.iaload, 1) := by decide +kernel
theorem dX7_nearestOtherGroup_39 : decode cX7_nearestOtherGroup 39 = .ok (.ifCond .le 61, 3) := by decide +kernel
theorem dX7_nearestOtherGroup_42 : decode cX7_nearestOtherGroup 42 = .ok (.aload_n 1, 1) := by decide +kernel
theorem dX7_nearestOtherGroup_43 : decode cX7_nearestOtherGroup 43 = .ok (.aload_n 0, 1) := by decide +kernel
theorem dX7_nearestOtherGroup_44 : decode cX7_nearestOtherGroup 44 = .ok (.getfield 10, 3) := by decide +kernel
theorem dX7_nearestOtherGroup_47 : decode cX7_nearestOtherGroup 47 = .ok (.iload_n 2, 1) := by decide +kernel
theorem dX7_nearestOtherGroup_48 : decode cX7_nearestOtherGroup 48 = .ok (.iload_n 3, 1) := by decide +kernel
theorem dX7_nearestOtherGroup_49 : decode cX7_nearestOtherGroup 49 = .ok (.iload 9, 2) := by decide +kernel
theorem dX7_nearestOtherGroup_51 : decode cX7_nearestOtherGroup 51 = .ok (.invokevirtual 218, 3) := by decide +kernel
theorem dX7_nearestOtherGroup_54 : decode cX7_nearestOtherGroup 54 = .ok (.lstore 10, 2) := by decide +kernel
theorem dX7_nearestOtherGroup_56 : decode cX7_nearestOtherGroup 56 = .ok (.iload 4, 2) := by decide +kernel
theorem dX7_nearestOtherGroup_58 : decode cX7_nearestOtherGroup 58 = .ok (.iconst (-1), 1) := by decide +kernel
theorem dX7_nearestOtherGroup_59 : decode cX7_nearestOtherGroup 59 = .ok (.if_icmp .eq 23, 3) := by decide +kernel
theorem dX7_nearestOtherGroup_62 : decode cX7_nearestOtherGroup 62 = .ok (.lload 10, 2) := by decide +kernel
theorem dX7_nearestOtherGroup_64 : decode cX7_nearestOtherGroup 64 = .ok (.aload_n 1, 1) := by decide +kernel
theorem dX7_nearestOtherGroup_65 : decode cX7_nearestOtherGroup 65 = .ok (.getfield 173, 3) := by decide +kernel
theorem dX7_nearestOtherGroup_68 : decode cX7_nearestOtherGroup 68 = .ok (.iload 9, 2) := by decide +kernel
theorem dX7_nearestOtherGroup_70 : decode cX7_nearestOtherGroup 70 = .ok (.iaload, 1) := by decide +kernel
theorem dX7_nearestOtherGroup_71 : decode cX7_nearestOtherGroup 71 = .ok (.i2l, 1) := by decide +kernel
theorem dX7_nearestOtherGroup_72 : decode cX7_nearestOtherGroup 72 = .ok (.lload 5, 2) := by decide +kernel
theorem dX7_nearestOtherGroup_74 : decode cX7_nearestOtherGroup 74 = .ok (.lload 7, 2) := by decide +kernel
theorem dX7_nearestOtherGroup_76 : decode cX7_nearestOtherGroup 76 = .ok (.invokestatic 228, 3) := by decide +kernel
theorem dX7_nearestOtherGroup_79 : decode cX7_nearestOtherGroup 79 = .ok (.ifCond .eq 21, 3) := by decide +kernel
theorem dX7_nearestOtherGroup_82 : decode cX7_nearestOtherGroup 82 = .ok (.iload 9, 2) := by decide +kernel
theorem dX7_nearestOtherGroup_84 : decode cX7_nearestOtherGroup 84 = .ok (.istore 4, 2) := by decide +kernel
theorem dX7_nearestOtherGroup_86 : decode cX7_nearestOtherGroup 86 = .ok (.lload 10, 2) := by decide +kernel
theorem dX7_nearestOtherGroup_88 : decode cX7_nearestOtherGroup 88 = .ok (.lstore 5, 2) := by decide +kernel
theorem dX7_nearestOtherGroup_90 : decode cX7_nearestOtherGroup 90 = .ok (.aload_n 1, 1) := by decide +kernel
theorem dX7_nearestOtherGroup_91 : decode cX7_nearestOtherGroup 91 = .ok (.getfield 173, 3) := by decide +kernel
theorem dX7_nearestOtherGroup_94 : decode cX7_nearestOtherGroup 94 = .ok (.iload 9, 2) := by decide +kernel
theorem dX7_nearestOtherGroup_96 : decode cX7_nearestOtherGroup 96 = .ok (.iaload, 1) := by decide +kernel
theorem dX7_nearestOtherGroup_97 : decode cX7_nearestOtherGroup 97 = .ok (.i2l, 1) := by decide +kernel
theorem dX7_nearestOtherGroup_98 : decode cX7_nearestOtherGroup 98 = .ok (.lstore 7, 2) := by decide +kernel
theorem dX7_nearestOtherGroup_100 : decode cX7_nearestOtherGroup 100 = .ok (.iinc 9 1, 3) := by decide +kernel
theorem dX7_nearestOtherGroup_103 : decode cX7_nearestOtherGroup 103 = .ok (.goto (-91), 3) := by decide +kernel
theorem dX7_nearestOtherGroup_106 : decode cX7_nearestOtherGroup 106 = .ok (.iload 4, 2) := by decide +kernel
theorem dX7_nearestOtherGroup_108 : decode cX7_nearestOtherGroup 108 = .ok (.ireturn, 1) := by decide +kernel
theorem dX7_agreementOf_0 : decode cX7_agreementOf 0 = .ok (.aload_n 0, 1) := by decide +kernel
theorem dX7_agreementOf_1 : decode cX7_agreementOf 1 = .ok (.getfield 18, 3) := by decide +kernel
theorem dX7_agreementOf_4 : decode cX7_agreementOf 4 = .ok (.iconst 0, 1) := by decide +kernel
theorem dX7_agreementOf_5 : decode cX7_agreementOf 5 = .ok (.aaload, 1) := by decide +kernel
theorem dX7_agreementOf_6 : decode cX7_agreementOf 6 = .ok (.iload_n 1, 1) := by decide +kernel
theorem dX7_agreementOf_7 : decode cX7_agreementOf 7 = .ok (.iload_n 2, 1) := by decide +kernel
theorem dX7_agreementOf_8 : decode cX7_agreementOf 8 = .ok (.invokevirtual 232, 3) := by decide +kernel
theorem dX7_agreementOf_11 : decode cX7_agreementOf 11 = .ok (.ifCond .eq 17, 3) := by decide +kernel
theorem dX7_agreementOf_14 : decode cX7_agreementOf 14 = .ok (.aload_n 0, 1) := by decide +kernel
theorem dX7_agreementOf_15 : decode cX7_agreementOf 15 = .ok (.getfield 18, 3) := by decide +kernel
theorem dX7_agreementOf_18 : decode cX7_agreementOf 18 = .ok (.iconst 1, 1) := by decide +kernel
theorem dX7_agreementOf_19 : decode cX7_agreementOf 19 = .ok (.aaload, 1) := by decide +kernel
theorem dX7_agreementOf_20 : decode cX7_agreementOf 20 = .ok (.iload_n 1, 1) := by decide +kernel
theorem dX7_agreementOf_21 : decode cX7_agreementOf 21 = .ok (.iload_n 2, 1) := by decide +kernel
theorem dX7_agreementOf_22 : decode cX7_agreementOf 22 = .ok (.invokevirtual 232, 3) := by decide +kernel
theorem dX7_agreementOf_25 : decode cX7_agreementOf 25 = .ok (.ifCond .ne 5, 3) := by decide +kernel
theorem dX7_agreementOf_28 : decode cX7_agreementOf 28 = .ok (.iconst (-1), 1) := by decide +kernel
theorem dX7_agreementOf_29 : decode cX7_agreementOf 29 = .ok (.ireturn, 1) := by decide +kernel
theorem dX7_agreementOf_30 : decode cX7_agreementOf 30 = .ok (.aload_n 0, 1) := by decide +kernel
theorem dX7_agreementOf_31 : decode cX7_agreementOf 31 = .ok (.getfield 18, 3) := by decide +kernel
theorem dX7_agreementOf_34 : decode cX7_agreementOf 34 = .ok (.iconst 0, 1) := by decide +kernel
theorem dX7_agreementOf_35 : decode cX7_agreementOf 35 = .ok (.aaload, 1) := by decide +kernel
theorem dX7_agreementOf_36 : decode cX7_agreementOf 36 = .ok (.getfield 166, 3) := by decide +kernel
theorem dX7_agreementOf_39 : decode cX7_agreementOf 39 = .ok (.iload_n 1, 1) := by decide +kernel
theorem dX7_agreementOf_40 : decode cX7_agreementOf 40 = .ok (.iaload, 1) := by decide +kernel
theorem dX7_agreementOf_41 : decode cX7_agreementOf 41 = .ok (.aload_n 0, 1) := by decide +kernel
theorem dX7_agreementOf_42 : decode cX7_agreementOf 42 = .ok (.getfield 18, 3) := by decide +kernel
theorem dX7_agreementOf_45 : decode cX7_agreementOf 45 = .ok (.iconst 0, 1) := by decide +kernel
theorem dX7_agreementOf_46 : decode cX7_agreementOf 46 = .ok (.aaload, 1) := by decide +kernel
theorem dX7_agreementOf_47 : decode cX7_agreementOf 47 = .ok (.getfield 166, 3) := by decide +kernel
theorem dX7_agreementOf_50 : decode cX7_agreementOf 50 = .ok (.iload_n 2, 1) := by decide +kernel
theorem dX7_agreementOf_51 : decode cX7_agreementOf 51 = .ok (.iaload, 1) := by decide +kernel
theorem dX7_agreementOf_52 : decode cX7_agreementOf 52 = .ok (.if_icmp .ne 7, 3) := by decide +kernel
theorem dX7_agreementOf_55 : decode cX7_agreementOf 55 = .ok (.iconst 1, 1) := by decide +kernel
theorem dX7_agreementOf_56 : decode cX7_agreementOf 56 = .ok (.goto 4, 3) := by decide +kernel
theorem dX7_agreementOf_59 : decode cX7_agreementOf 59 = .ok (.iconst 0, 1) := by decide +kernel
theorem dX7_agreementOf_60 : decode cX7_agreementOf 60 = .ok (.istore_n 3, 1) := by decide +kernel
theorem dX7_agreementOf_61 : decode cX7_agreementOf 61 = .ok (.aload_n 0, 1) := by decide +kernel
theorem dX7_agreementOf_62 : decode cX7_agreementOf 62 = .ok (.getfield 18, 3) := by decide +kernel
theorem dX7_agreementOf_65 : decode cX7_agreementOf 65 = .ok (.iconst 1, 1) := by decide +kernel
theorem dX7_agreementOf_66 : decode cX7_agreementOf 66 = .ok (.aaload, 1) := by decide +kernel
theorem dX7_agreementOf_67 : decode cX7_agreementOf 67 = .ok (.getfield 166, 3) := by decide +kernel
theorem dX7_agreementOf_70 : decode cX7_agreementOf 70 = .ok (.iload_n 1, 1) := by decide +kernel
theorem dX7_agreementOf_71 : decode cX7_agreementOf 71 = .ok (.iaload, 1) := by decide +kernel
theorem dX7_agreementOf_72 : decode cX7_agreementOf 72 = .ok (.aload_n 0, 1) := by decide +kernel
theorem dX7_agreementOf_73 : decode cX7_agreementOf 73 = .ok (.getfield 18, 3) := by decide +kernel
theorem dX7_agreementOf_76 : decode cX7_agreementOf 76 = .ok (.iconst 1, 1) := by decide +kernel
theorem dX7_agreementOf_77 : decode cX7_agreementOf 77 = .ok (.aaload, 1) := by decide +kernel
theorem dX7_agreementOf_78 : decode cX7_agreementOf 78 = .ok (.getfield 166, 3) := by decide +kernel
theorem dX7_agreementOf_81 : decode cX7_agreementOf 81 = .ok (.iload_n 2, 1) := by decide +kernel
theorem dX7_agreementOf_82 : decode cX7_agreementOf 82 = .ok (.iaload, 1) := by decide +kernel
theorem dX7_agreementOf_83 : decode cX7_agreementOf 83 = .ok (.if_icmp .ne 7, 3) := by decide +kernel
theorem dX7_agreementOf_86 : decode cX7_agreementOf 86 = .ok (.iconst 1, 1) := by decide +kernel
theorem dX7_agreementOf_87 : decode cX7_agreementOf 87 = .ok (.goto 4, 3) := by decide +kernel
theorem dX7_agreementOf_90 : decode cX7_agreementOf 90 = .ok (.iconst 0, 1) := by decide +kernel
theorem dX7_agreementOf_91 : decode cX7_agreementOf 91 = .ok (.istore 4, 2) := by decide +kernel
theorem dX7_agreementOf_93 : decode cX7_agreementOf 93 = .ok (.iload_n 3, 1) := by decide +kernel
theorem dX7_agreementOf_94 : decode cX7_agreementOf 94 = .ok (.ifCond .eq 14, 3) := by decide +kernel
theorem dX7_agreementOf_97 : decode cX7_agreementOf 97 = .ok (.iload 4, 2) := by decide +kernel
theorem dX7_agreementOf_99 : decode cX7_agreementOf 99 = .ok (.ifCond .eq 7, 3) := by decide +kernel
theorem dX7_agreementOf_102 : decode cX7_agreementOf 102 = .ok (.iconst 0, 1) := by decide +kernel
theorem dX7_agreementOf_103 : decode cX7_agreementOf 103 = .ok (.goto 4, 3) := by decide +kernel
theorem dX7_agreementOf_106 : decode cX7_agreementOf 106 = .ok (.iconst 1, 1) := by decide +kernel
theorem dX7_agreementOf_107 : decode cX7_agreementOf 107 = .ok (.ireturn, 1) := by decide +kernel
theorem dX7_agreementOf_108 : decode cX7_agreementOf 108 = .ok (.iload 4, 2) := by decide +kernel
theorem dX7_agreementOf_110 : decode cX7_agreementOf 110 = .ok (.ifCond .eq 7, 3) := by decide +kernel
theorem dX7_agreementOf_113 : decode cX7_agreementOf 113 = .ok (.iconst 2, 1) := by decide +kernel
theorem dX7_agreementOf_114 : decode cX7_agreementOf 114 = .ok (.goto 4, 3) := by decide +kernel
theorem dX7_agreementOf_117 : decode cX7_agreementOf 117 = .ok (.iconst 3, 1) := by decide +kernel
theorem dX7_agreementOf_118 : decode cX7_agreementOf 118 = .ok (.ireturn, 1) := by decide +kernel
theorem dX7_isLess_0 : decode cX7_isLess 0 = .ok (.lload_n 0, 1) := by decide +kernel
theorem dX7_isLess_1 : decode cX7_isLess 1 = .ok (.lload 6, 2) := by decide +kernel
theorem dX7_isLess_3 : decode cX7_isLess 3 = .ok (.lmul, 1) := by decide +kernel
theorem dX7_isLess_4 : decode cX7_isLess 4 = .ok (.lload 4, 2) := by decide +kernel
theorem dX7_isLess_6 : decode cX7_isLess 6 = .ok (.lload_n 2, 1) := by decide +kernel
theorem dX7_isLess_7 : decode cX7_isLess 7 = .ok (.lmul, 1) := by decide +kernel
theorem dX7_isLess_8 : decode cX7_isLess 8 = .ok (.lcmp, 1) := by decide +kernel
theorem dX7_isLess_9 : decode cX7_isLess 9 = .ok (.ifCond .ge 7, 3) := by decide +kernel
theorem dX7_isLess_12 : decode cX7_isLess 12 = .ok (.iconst 1, 1) := by decide +kernel
theorem dX7_isLess_13 : decode cX7_isLess 13 = .ok (.goto 4, 3) := by decide +kernel
theorem dX7_isLess_16 : decode cX7_isLess 16 = .ok (.iconst 0, 1) := by decide +kernel
theorem dX7_isLess_17 : decode cX7_isLess 17 = .ok (.ireturn, 1) := by decide +kernel
end
section
theorem dX8_init_0 : decode cX8_init 0 = .ok (.aload_n 0, 1) := by decide +kernel
theorem dX8_init_1 : decode cX8_init 1 = .ok (.invokespecial 1, 3) := by decide +kernel
theorem dX8_init_4 : decode cX8_init 4 = .ok (.aload_n 0, 1) := by decide +kernel
theorem dX8_init_5 : decode cX8_init 5 = .ok (.iconst 2, 1) := by decide +kernel
theorem dX8_init_6 : decode cX8_init 6 = .ok (.putfield 7, 3) := by decide +kernel
theorem dX8_init_9 : decode cX8_init 9 = .ok (.aload_n 0, 1) := by decide +kernel
theorem dX8_init_10 : decode cX8_init 10 = .ok (.bipush 120, 2) := by decide +kernel
theorem dX8_init_12 : decode cX8_init 12 = .ok (.newarray .int, 2) := by decide +kernel
theorem dX8_init_14 : decode cX8_init 14 = .ok (.putfield 13, 3) := by decide +kernel
theorem dX8_init_17 : decode cX8_init 17 = .ok (.aload_n 0, 1) := by decide +kernel
theorem dX8_init_18 : decode cX8_init 18 = .ok (.iconst 2, 1) := by decide +kernel
theorem dX8_init_19 : decode cX8_init 19 = .ok (.newarray .boolean, 2) := by decide +kernel
theorem dX8_init_21 : decode cX8_init 21 = .ok (.putfield 17, 3) := by decide +kernel
theorem dX8_init_24 : decode cX8_init 24 = .ok (.aload_n 0, 1) := by decide +kernel
theorem dX8_init_25 : decode cX8_init 25 = .ok (.iconst 2, 1) := by decide +kernel
theorem dX8_init_26 : decode cX8_init 26 = .ok (.newarray .int, 2) := by decide +kernel
theorem dX8_init_28 : decode cX8_init 28 = .ok (.putfield 21, 3) := by decide +kernel
theorem dX8_init_31 : decode cX8_init 31 = .ok (.aload_n 0, 1) := by decide +kernel
theorem dX8_init_32 : decode cX8_init 32 = .ok (.bipush 60, 2) := by decide +kernel
theorem dX8_init_34 : decode cX8_init 34 = .ok (.newarray .int, 2) := by decide +kernel
theorem dX8_init_36 : decode cX8_init 36 = .ok (.putfield 24, 3) := by decide +kernel
theorem dX8_init_39 : decode cX8_init 39 = .ok (.aload_n 0, 1) := by decide +kernel
theorem dX8_init_40 : decode cX8_init 40 = .ok (.iconst 3, 1) := by decide +kernel
theorem dX8_init_41 : decode cX8_init 41 = .ok (.newarray .int, 2) := by decide +kernel
theorem dX8_init_43 : decode cX8_init 43 = .ok (.putfield 27, 3) := by decide +kernel
theorem dX8_init_46 : decode cX8_init 46 = .ok (.aload_n 0, 1) := by decide +kernel
theorem dX8_init_47 : decode cX8_init 47 = .ok (.bipush 29, 2) := by decide +kernel
theorem dX8_init_49 : decode cX8_init 49 = .ok (.newarray .int, 2) := by decide +kernel
theorem dX8_init_51 : decode cX8_init 51 = .ok (.putfield 30, 3) := by decide +kernel
theorem dX8_init_54 : decode cX8_init 54 = .ok (.aload_n 0, 1) := by decide +kernel
theorem dX8_init_55 : decode cX8_init 55 = .ok (.bipush 29, 2) := by decide +kernel
theorem dX8_init_57 : decode cX8_init 57 = .ok (.newarray .int, 2) := by decide +kernel
theorem dX8_init_59 : decode cX8_init 59 = .ok (.putfield 33, 3) := by decide +kernel
theorem dX8_init_62 : decode cX8_init 62 = .ok (.aload_n 0, 1) := by decide +kernel
theorem dX8_init_63 : decode cX8_init 63 = .ok (.bipush 29, 2) := by decide +kernel
theorem dX8_init_65 : decode cX8_init 65 = .ok (.newarray .int, 2) := by decide +kernel
theorem dX8_init_67 : decode cX8_init 67 = .ok (.putfield 36, 3) := by decide +kernel
theorem dX8_init_70 : decode cX8_init 70 = .ok (.aload_n 0, 1) := by decide +kernel
theorem dX8_init_71 : decode cX8_init 71 = .ok (.bipush 29, 2) := by decide +kernel
theorem dX8_init_73 : decode cX8_init 73 = .ok (.newarray .long, 2) := by decide +kernel
theorem dX8_init_75 : decode cX8_init 75 = .ok (.putfield 39, 3) := by decide +kernel
theorem dX8_init_78 : decode cX8_init 78 = .ok (.aload_n 0, 1) := by decide +kernel
theorem dX8_init_79 : decode cX8_init 79 = .ok (.bipush 29, 2) := by decide +kernel
theorem dX8_init_81 : decode cX8_init 81 = .ok (.newarray .long, 2) := by decide +kernel
theorem dX8_init_83 : decode cX8_init 83 = .ok (.putfield 43, 3) := by decide +kernel
theorem dX8_init_86 : decode cX8_init 86 = .ok (.aload_n 0, 1) := by decide +kernel
theorem dX8_init_87 : decode cX8_init 87 = .ok (.sipush 900, 3) := by decide +kernel
theorem dX8_init_90 : decode cX8_init 90 = .ok (.newarray .int, 2) := by decide +kernel
theorem dX8_init_92 : decode cX8_init 92 = .ok (.putfield 46, 3) := by decide +kernel
theorem dX8_init_95 : decode cX8_init 95 = .ok (.aload_n 0, 1) := by decide +kernel
theorem dX8_init_96 : decode cX8_init 96 = .ok (.bipush 24, 2) := by decide +kernel
theorem dX8_init_98 : decode cX8_init 98 = .ok (.newarray .long, 2) := by decide +kernel
theorem dX8_init_100 : decode cX8_init 100 = .ok (.putfield 49, 3) := by decide +kernel
theorem dX8_init_103 : decode cX8_init 103 = .ok (.aload_n 0, 1) := by decide +kernel
theorem dX8_init_104 : decode cX8_init 104 = .ok (.bipush 6, 2) := by decide +kernel
theorem dX8_init_106 : decode cX8_init 106 = .ok (.newarray .int, 2) := by decide +kernel
theorem dX8_init_108 : decode cX8_init 108 = .ok (.putfield 52, 3) := by decide +kernel
theorem dX8_init_111 : decode cX8_init 111 = .ok (.aload_n 0, 1) := by decide +kernel
theorem dX8_init_112 : decode cX8_init 112 = .ok (.bipush 30, 2) := by decide +kernel
theorem dX8_init_114 : decode cX8_init 114 = .ok (.newarray .int, 2) := by decide +kernel
theorem dX8_init_116 : decode cX8_init 116 = .ok (.putfield 55, 3) := by decide +kernel
theorem dX8_init_119 : decode cX8_init 119 = .ok (.aload_n 0, 1) := by decide +kernel
theorem dX8_init_120 : decode cX8_init 120 = .ok (.bipush 30, 2) := by decide +kernel
theorem dX8_init_122 : decode cX8_init 122 = .ok (.newarray .boolean, 2) := by decide +kernel
theorem dX8_init_124 : decode cX8_init 124 = .ok (.putfield 58, 3) := by decide +kernel
theorem dX8_init_127 : decode cX8_init 127 = .ok (.aload_n 0, 1) := by decide +kernel
theorem dX8_init_128 : decode cX8_init 128 = .ok (.bipush 30, 2) := by decide +kernel
theorem dX8_init_130 : decode cX8_init 130 = .ok (.newarray .boolean, 2) := by decide +kernel
theorem dX8_init_132 : decode cX8_init 132 = .ok (.putfield 61, 3) := by decide +kernel
theorem dX8_init_135 : decode cX8_init 135 = .ok (.aload_n 0, 1) := by decide +kernel
theorem dX8_init_136 : decode cX8_init 136 = .ok (.bipush 30, 2) := by decide +kernel
theorem dX8_init_138 : decode cX8_init 138 = .ok (.newarray .int, 2) := by decide +kernel
theorem dX8_init_140 : decode cX8_init 140 = .ok (.putfield 64, 3) := by decide +kernel
theorem dX8_init_143 : decode cX8_init 143 = .ok (.aload_n 0, 1) := by decide +kernel
theorem dX8_init_144 : decode cX8_init 144 = .ok (.bipush 30, 2) := by decide +kernel
theorem dX8_init_146 : decode cX8_init 146 = .ok (.newarray .long, 2) := by decide +kernel
theorem dX8_init_148 : decode cX8_init 148 = .ok (.putfield 67, 3) := by decide +kernel
theorem dX8_init_151 : decode cX8_init 151 = .ok (.aload_n 0, 1) := by decide +kernel
theorem dX8_init_152 : decode cX8_init 152 = .ok (.bipush 120, 2) := by decide +kernel
theorem dX8_init_154 : decode cX8_init 154 = .ok (.newarray .long, 2) := by decide +kernel
theorem dX8_init_156 : decode cX8_init 156 = .ok (.putfield 70, 3) := by decide +kernel
theorem dX8_init_159 : decode cX8_init 159 = .ok (.aload_n 0, 1) := by decide +kernel
theorem dX8_init_160 : decode cX8_init 160 = .ok (.sipush 900, 3) := by decide +kernel
theorem dX8_init_163 : decode cX8_init 163 = .ok (.newarray .long, 2) := by decide +kernel
theorem dX8_init_165 : decode cX8_init 165 = .ok (.putfield 73, 3) := by decide +kernel
theorem dX8_init_168 : decode cX8_init 168 = .ok (.aload_n 0, 1) := by decide +kernel
theorem dX8_init_169 : decode cX8_init 169 = .ok (.sipush 900, 3) := by decide +kernel
theorem dX8_init_172 : decode cX8_init 172 = .ok (.newarray .long, 2) := by decide +kernel
theorem dX8_init_174 : decode cX8_init 174 = .ok (.putfield 76, 3) := by decide +kernel
theorem dX8_init_177 : decode cX8_init 177 = .ok (.aload_n 0, 1) := by decide +kernel
theorem dX8_init_178 : decode cX8_init 178 = .ok (.sipush 900, 3) := by decide +kernel
theorem dX8_init_181 : decode cX8_init 181 = .ok (.newarray .long, 2) := by decide +kernel
theorem dX8_init_183 : decode cX8_init 183 = .ok (.putfield 79, 3) := by decide +kernel
theorem dX8_init_186 : decode cX8_init 186 = .ok (.return_, 1) := by decide +kernel
theorem dX8_within_0 : decode cX8_within 0 = .ok (.iload_n 0, 1) := by decide +kernel
theorem dX8_within_1 : decode cX8_within 1 = .ok (.iload_n 1, 1) := by decide +kernel
theorem dX8_within_2 : decode cX8_within 2 = .ok (.if_icmp .lt 12, 3) := by decide +kernel
theorem dX8_within_5 : decode cX8_within 5 = .ok (.iload_n 0, 1) := by decide +kernel
theorem dX8_within_6 : decode cX8_within 6 = .ok (.iload_n 2, 1) := by decide +kernel
theorem dX8_within_7 : decode cX8_within 7 = .ok (.if_icmp .gt 7, 3) := by decide +kernel
theorem dX8_within_10 : decode cX8_within 10 = .ok (.iconst 1, 1) := by decide +kernel
theorem dX8_within_11 : decode cX8_within 11 = .ok (.goto 4, 3) := by decide +kernel
theorem dX8_within_14 : decode cX8_within 14 = .ok (.iconst 0, 1) := by decide +kernel
theorem dX8_within_15 : decode cX8_within 15 = .ok (.ireturn, 1) := by decide +kernel
theorem dX8_isRow_0 : decode cX8_isRow 0 = .ok (.iload_n 1, 1) := by decide +kernel
theorem dX8_isRow_1 : decode cX8_isRow 1 = .ok (.iconst 0, 1) := by decide +kernel
theorem dX8_isRow_2 : decode cX8_isRow 2 = .ok (.aload_n 0, 1) := by decide +kernel
theorem dX8_isRow_3 : decode cX8_isRow 3 = .ok (.getfield 82, 3) := by decide +kernel
theorem dX8_isRow_6 : decode cX8_isRow 6 = .ok (.iconst 1, 1) := by decide +kernel
theorem dX8_isRow_7 : decode cX8_isRow 7 = .ok (.isub, 1) := by decide +kernel
theorem dX8_isRow_8 : decode cX8_isRow 8 = .ok (.invokestatic 85, 3) := by decide +kernel
theorem dX8_isRow_11 : decode cX8_isRow 11 = .ok (.ireturn, 1) := by decide +kernel
theorem dX8_common_0 : decode cX8_common 0 = .ok (.lload_n 0, 1) := by decide +kernel
theorem dX8_common_1 : decode cX8_common 1 = .ok (.lconst 0, 1) := by decide +kernel
theorem dX8_common_2 : decode cX8_common 2 = .ok (.lcmp, 1) := by decide +kernel
theorem dX8_common_3 : decode cX8_common 3 = .ok (.ifCond .ge 9, 3) := by decide +kernel
theorem dX8_common_6 : decode cX8_common 6 = .ok (.lconst 0, 1) := by decide +kernel
theorem dX8_common_7 : decode cX8_common 7 = .ok (.lload_n 0, 1) := by decide +kernel
theorem dX8_common_8 : decode cX8_common 8 = .ok (.lsub, 1) := by decide +kernel
theorem dX8_common_9 : decode cX8_common 9 = .ok (.goto 4, 3) := by decide +kernel
theorem dX8_common_12 : decode cX8_common 12 = .ok (.lload_n 0, 1) := by decide +kernel
theorem dX8_common_13 : decode cX8_common 13 = .ok (.lstore 4, 2) := by decide +kernel
theorem dX8_common_15 : decode cX8_common 15 = .ok (.lload_n 2, 1) := by decide +kernel
theorem dX8_common_16 : decode cX8_common 16 = .ok (.lconst 0, 1) := by decide +kernel
theorem dX8_common_17 : decode cX8_common 17 = .ok (.lcmp, 1) := by decide +kernel
theorem dX8_common_18 : decode cX8_common 18 = .ok (.ifCond .ge 9, 3) := by decide +kernel
theorem dX8_common_21 : decode cX8_common 21 = .ok (.lconst 0, 1) := by decide +kernel
theorem dX8_common_22 : decode cX8_common 22 = .ok (.lload_n 2, 1) := by decide +kernel
theorem dX8_common_23 : decode cX8_common 23 = .ok (.lsub, 1) := by decide +kernel
theorem dX8_common_24 : decode cX8_common 24 = .ok (.goto 4, 3) := by decide +kernel
theorem dX8_common_27 : decode cX8_common 27 = .ok (.lload_n 2, 1) := by decide +kernel
theorem dX8_common_28 : decode cX8_common 28 = .ok (.lstore 6, 2) := by decide +kernel
theorem dX8_common_30 : decode cX8_common 30 = .ok (.lload 6, 2) := by decide +kernel
theorem dX8_common_32 : decode cX8_common 32 = .ok (.lconst 0, 1) := by decide +kernel
theorem dX8_common_33 : decode cX8_common 33 = .ok (.lcmp, 1) := by decide +kernel
theorem dX8_common_34 : decode cX8_common 34 = .ok (.ifCond .eq 21, 3) := by decide +kernel
theorem dX8_common_37 : decode cX8_common 37 = .ok (.lload 4, 2) := by decide +kernel
theorem dX8_common_39 : decode cX8_common 39 = .ok (.lload 6, 2) := by decide +kernel
theorem dX8_common_41 : decode cX8_common 41 = .ok (.lrem, 1) := by decide +kernel
theorem dX8_common_42 : decode cX8_common 42 = .ok (.lstore 8, 2) := by decide +kernel
theorem dX8_common_44 : decode cX8_common 44 = .ok (.lload 6, 2) := by decide +kernel
theorem dX8_common_46 : decode cX8_common 46 = .ok (.lstore 4, 2) := by decide +kernel
theorem dX8_common_48 : decode cX8_common 48 = .ok (.lload 8, 2) := by decide +kernel
theorem dX8_common_50 : decode cX8_common 50 = .ok (.lstore 6, 2) := by decide +kernel
theorem dX8_common_52 : decode cX8_common 52 = .ok (.goto (-22), 3) := by decide +kernel
theorem dX8_common_55 : decode cX8_common 55 = .ok (.lload 4, 2) := by decide +kernel
theorem dX8_common_57 : decode cX8_common 57 = .ok (.lreturn, 1) := by decide +kernel
theorem dX8_forget_0 : decode cX8_forget 0 = .ok (.aload_n 0, 1) := by decide +kernel
theorem dX8_forget_1 : decode cX8_forget 1 = .ok (.getfield 17, 3) := by decide +kernel
theorem dX8_forget_4 : decode cX8_forget 4 = .ok (.iconst 0, 1) := by decide +kernel
theorem dX8_forget_5 : decode cX8_forget 5 = .ok (.iconst 0, 1) := by decide +kernel
theorem dX8_forget_6 : decode cX8_forget 6 = .ok (.bastore, 1) := by decide +kernel
theorem dX8_forget_7 : decode cX8_forget 7 = .ok (.aload_n 0, 1) := by decide +kernel
theorem dX8_forget_8 : decode cX8_forget 8 = .ok (.getfield 17, 3) := by decide +kernel
theorem dX8_forget_11 : decode cX8_forget 11 = .ok (.iconst 1, 1) := by decide +kernel
theorem dX8_forget_12 : decode cX8_forget 12 = .ok (.iconst 0, 1) := by decide +kernel
theorem dX8_forget_13 : decode cX8_forget 13 = .ok (.bastore, 1) := by decide +kernel
theorem dX8_forget_14 : decode cX8_forget 14 = .ok (.aload_n 0, 1) := by decide +kernel
theorem dX8_forget_15 : decode cX8_forget 15 = .ok (.iconst 0, 1) := by decide +kernel
theorem dX8_forget_16 : decode cX8_forget 16 = .ok (.putfield 89, 3) := by decide +kernel
theorem dX8_forget_19 : decode cX8_forget 19 = .ok (.aload_n 0, 1) := by decide +kernel
theorem dX8_forget_20 : decode cX8_forget 20 = .ok (.iconst 0, 1) := by decide +kernel
theorem dX8_forget_21 : decode cX8_forget 21 = .ok (.putfield 92, 3) := by decide +kernel
theorem dX8_forget_24 : decode cX8_forget 24 = .ok (.return_, 1) := by decide +kernel
theorem dX8_columns_0 : decode cX8_columns 0 = .ok (.iload_n 1, 1) := by decide +kernel
theorem dX8_columns_1 : decode cX8_columns 1 = .ok (.iconst 1, 1) := by decide +kernel
theorem dX8_columns_2 : decode cX8_columns 2 = .ok (.iconst 4, 1) := by decide +kernel
theorem dX8_columns_3 : decode cX8_columns 3 = .ok (.invokestatic 85, 3) := by decide +kernel
theorem dX8_columns_6 : decode cX8_columns 6 = .ok (.ifCond .ne 6, 3) := by decide +kernel
theorem dX8_columns_9 : decode cX8_columns 9 = .ok (.ldc 96, 2) := by decide +kernel
theorem dX8_columns_11 : decode cX8_columns 11 = .ok (.ireturn, 1) := by decide +kernel
theorem dX8_columns_12 : decode cX8_columns 12 = .ok (.aload_n 0, 1) := by decide +kernel
theorem dX8_columns_13 : decode cX8_columns 13 = .ok (.getfield 82, 3) := by decide +kernel
theorem dX8_columns_16 : decode cX8_columns 16 = .ok (.ifCond .le 6, 3) := by decide +kernel
theorem dX8_columns_19 : decode cX8_columns 19 = .ok (.ldc 97, 2) := by decide +kernel
theorem dX8_columns_21 : decode cX8_columns 21 = .ok (.ireturn, 1) := by decide +kernel
theorem dX8_columns_22 : decode cX8_columns 22 = .ok (.aload_n 0, 1) := by decide +kernel
theorem dX8_columns_23 : decode cX8_columns 23 = .ok (.iload_n 1, 1) := by decide +kernel
theorem dX8_columns_24 : decode cX8_columns 24 = .ok (.putfield 7, 3) := by decide +kernel
theorem dX8_columns_27 : decode cX8_columns 27 = .ok (.iconst 1, 1) := by decide +kernel
theorem dX8_columns_28 : decode cX8_columns 28 = .ok (.ireturn, 1) := by decide +kernel
theorem dX8_row_0 : decode cX8_row 0 = .ok (.iload_n 1, 1) := by decide +kernel
theorem dX8_row_1 : decode cX8_row 1 = .ok (.sipush (-1000), 3) := by decide +kernel
theorem dX8_row_4 : decode cX8_row 4 = .ok (.sipush 1000, 3) := by decide +kernel
theorem dX8_row_7 : decode cX8_row 7 = .ok (.invokestatic 85, 3) := by decide +kernel
theorem dX8_row_10 : decode cX8_row 10 = .ok (.ifCond .eq 71, 3) := by decide +kernel
theorem dX8_row_13 : decode cX8_row 13 = .ok (.aload_n 0, 1) := by decide +kernel
theorem dX8_row_14 : decode cX8_row 14 = .ok (.getfield 7, 3) := by decide +kernel
theorem dX8_row_17 : decode cX8_row 17 = .ok (.iconst 2, 1) := by decide +kernel
theorem dX8_row_18 : decode cX8_row 18 = .ok (.if_icmp .lt 16, 3) := by decide +kernel
theorem dX8_row_21 : decode cX8_row 21 = .ok (.iload_n 2, 1) := by decide +kernel
theorem dX8_row_22 : decode cX8_row 22 = .ok (.sipush (-1000), 3) := by decide +kernel
theorem dX8_row_25 : decode cX8_row 25 = .ok (.sipush 1000, 3) := by decide +kernel
theorem dX8_row_28 : decode cX8_row 28 = .ok (.invokestatic 85, 3) := by decide +kernel
theorem dX8_row_31 : decode cX8_row 31 = .ok (.ifCond .eq 50, 3) := by decide +kernel
theorem dX8_row_34 : decode cX8_row 34 = .ok (.aload_n 0, 1) := by decide +kernel
theorem dX8_row_35 : decode cX8_row 35 = .ok (.getfield 7, 3) := by decide +kernel
theorem dX8_row_38 : decode cX8_row 38 = .ok (.iconst 3, 1) := by decide +kernel
theorem dX8_row_39 : decode cX8_row 39 = .ok (.if_icmp .lt 16, 3) := by decide +kernel
theorem dX8_row_42 : decode cX8_row 42 = .ok (.iload_n 3, 1) := by decide +kernel
theorem dX8_row_43 : decode cX8_row 43 = .ok (.sipush (-1000), 3) := by decide +kernel
theorem dX8_row_46 : decode cX8_row 46 = .ok (.sipush 1000, 3) := by decide +kernel
theorem dX8_row_49 : decode cX8_row 49 = .ok (.invokestatic 85, 3) := by decide +kernel
theorem dX8_row_52 : decode cX8_row 52 = .ok (.ifCond .eq 29, 3) := by decide +kernel
theorem dX8_row_55 : decode cX8_row 55 = .ok (.aload_n 0, 1) := by decide +kernel
theorem dX8_row_56 : decode cX8_row 56 = .ok (.getfield 7, 3) := by decide +kernel
theorem dX8_row_59 : decode cX8_row 59 = .ok (.iconst 4, 1) := by decide +kernel
theorem dX8_row_60 : decode cX8_row 60 = .ok (.if_icmp .lt 17, 3) := by decide +kernel
theorem dX8_row_63 : decode cX8_row 63 = .ok (.iload 4, 2) := by decide +kernel
theorem dX8_row_65 : decode cX8_row 65 = .ok (.sipush (-1000), 3) := by decide +kernel
theorem dX8_row_68 : decode cX8_row 68 = .ok (.sipush 1000, 3) := by decide +kernel
theorem dX8_row_71 : decode cX8_row 71 = .ok (.invokestatic 85, 3) := by decide +kernel
theorem dX8_row_74 : decode cX8_row 74 = .ok (.ifCond .eq 7, 3) := by decide +kernel
theorem dX8_row_77 : decode cX8_row 77 = .ok (.iconst 1, 1) := by decide +kernel
theorem dX8_row_78 : decode cX8_row 78 = .ok (.goto 4, 3) := by decide +kernel
theorem dX8_row_81 : decode cX8_row 81 = .ok (.iconst 0, 1) := by decide +kernel
theorem dX8_row_82 : decode cX8_row 82 = .ok (.istore 5, 2) := by decide +kernel
theorem dX8_row_84 : decode cX8_row 84 = .ok (.iload 5, 2) := by decide +kernel
theorem dX8_row_86 : decode cX8_row 86 = .ok (.ifCond .ne 6, 3) := by decide +kernel
theorem dX8_row_89 : decode cX8_row 89 = .ok (.ldc 96, 2) := by decide +kernel
theorem dX8_row_91 : decode cX8_row 91 = .ok (.ireturn, 1) := by decide +kernel
theorem dX8_row_92 : decode cX8_row 92 = .ok (.aload_n 0, 1) := by decide +kernel
theorem dX8_row_93 : decode cX8_row 93 = .ok (.getfield 82, 3) := by decide +kernel
theorem dX8_row_96 : decode cX8_row 96 = .ok (.bipush 30, 2) := by decide +kernel
theorem dX8_row_98 : decode cX8_row 98 = .ok (.if_icmp .ne 6, 3) := by decide +kernel
theorem dX8_row_101 : decode cX8_row 101 = .ok (.ldc 98, 2) := by decide +kernel
theorem dX8_row_103 : decode cX8_row 103 = .ok (.ireturn, 1) := by decide +kernel
theorem dX8_row_104 : decode cX8_row 104 = .ok (.aload_n 0, 1) := by decide +kernel
theorem dX8_row_105 : decode cX8_row 105 = .ok (.getfield 13, 3) := by decide +kernel
theorem dX8_row_108 : decode cX8_row 108 = .ok (.iconst 4, 1) := by decide +kernel
theorem dX8_row_109 : decode cX8_row 109 = .ok (.aload_n 0, 1) := by decide +kernel
theorem dX8_row_110 : decode cX8_row 110 = .ok (.getfield 82, 3) := by decide +kernel
theorem dX8_row_113 : decode cX8_row 113 = .ok (.imul, 1) := by decide +kernel
theorem dX8_row_114 : decode cX8_row 114 = .ok (.iload_n 1, 1) := by decide +kernel
theorem dX8_row_115 : decode cX8_row 115 = .ok (.iastore, 1) := by decide +kernel
theorem dX8_row_116 : decode cX8_row 116 = .ok (.aload_n 0, 1) := by decide +kernel
theorem dX8_row_117 : decode cX8_row 117 = .ok (.getfield 13, 3) := by decide +kernel
theorem dX8_row_120 : decode cX8_row 120 = .ok (.iconst 4, 1) := by decide +kernel
theorem dX8_row_121 : decode cX8_row 121 = .ok (.aload_n 0, 1) := by decide +kernel
theorem dX8_row_122 : decode cX8_row 122 = .ok (.getfield 82, 3) := by decide +kernel
theorem dX8_row_125 : decode cX8_row 125 = .ok (.imul, 1) := by decide +kernel
theorem dX8_row_126 : decode cX8_row 126 = .ok (.iconst 1, 1) := by decide +kernel
theorem dX8_row_127 : decode cX8_row 127 = .ok (.iadd, 1) := by decide +kernel
theorem dX8_row_128 : decode cX8_row 128 = .ok (.iload_n 2, 1) := by decide +kernel
theorem dX8_row_129 : decode cX8_row 129 = .ok (.iastore, 1) := by decide +kernel
theorem dX8_row_130 : decode cX8_row 130 = .ok (.aload_n 0, 1) := by decide +kernel
theorem dX8_row_131 : decode cX8_row 131 = .ok (.getfield 13, 3) := by decide +kernel
theorem dX8_row_134 : decode cX8_row 134 = .ok (.iconst 4, 1) := by decide +kernel
theorem dX8_row_135 : decode cX8_row 135 = .ok (.aload_n 0, 1) := by decide +kernel
theorem dX8_row_136 : decode cX8_row 136 = .ok (.getfield 82, 3) := by decide +kernel
theorem dX8_row_139 : decode cX8_row 139 = .ok (.imul, 1) := by decide +kernel
theorem dX8_row_140 : decode cX8_row 140 = .ok (.iconst 2, 1) := by decide +kernel
theorem dX8_row_141 : decode cX8_row 141 = .ok (.iadd, 1) := by decide +kernel
theorem dX8_row_142 : decode cX8_row 142 = .ok (.iload_n 3, 1) := by decide +kernel
theorem dX8_row_143 : decode cX8_row 143 = .ok (.iastore, 1) := by decide +kernel
theorem dX8_row_144 : decode cX8_row 144 = .ok (.aload_n 0, 1) := by decide +kernel
theorem dX8_row_145 : decode cX8_row 145 = .ok (.getfield 13, 3) := by decide +kernel
theorem dX8_row_148 : decode cX8_row 148 = .ok (.iconst 4, 1) := by decide +kernel
theorem dX8_row_149 : decode cX8_row 149 = .ok (.aload_n 0, 1) := by decide +kernel
theorem dX8_row_150 : decode cX8_row 150 = .ok (.getfield 82, 3) := by decide +kernel
theorem dX8_row_153 : decode cX8_row 153 = .ok (.imul, 1) := by decide +kernel
theorem dX8_row_154 : decode cX8_row 154 = .ok (.iconst 3, 1) := by decide +kernel
theorem dX8_row_155 : decode cX8_row 155 = .ok (.iadd, 1) := by decide +kernel
theorem dX8_row_156 : decode cX8_row 156 = .ok (.iload 4, 2) := by decide +kernel
theorem dX8_row_158 : decode cX8_row 158 = .ok (.iastore, 1) := by decide +kernel
theorem dX8_row_159 : decode cX8_row 159 = .ok (.aload_n 0, 1) := by decide +kernel
theorem dX8_row_160 : decode cX8_row 160 = .ok (.dup, 1) := by decide +kernel
theorem dX8_row_161 : decode cX8_row 161 = .ok (.getfield 82, 3) := by decide +kernel
theorem dX8_row_164 : decode cX8_row 164 = .ok (.iconst 1, 1) := by decide +kernel
theorem dX8_row_165 : decode cX8_row 165 = .ok (.iadd, 1) := by decide +kernel
theorem dX8_row_166 : decode cX8_row 166 = .ok (.putfield 82, 3) := by decide +kernel
theorem dX8_row_169 : decode cX8_row 169 = .ok (.aload_n 0, 1) := by decide +kernel
theorem dX8_row_170 : decode cX8_row 170 = .ok (.invokevirtual 99, 3) := by decide +kernel
theorem dX8_row_173 : decode cX8_row 173 = .ok (.aload_n 0, 1) := by decide +kernel
theorem dX8_row_174 : decode cX8_row 174 = .ok (.getfield 82, 3) := by decide +kernel
theorem dX8_row_177 : decode cX8_row 177 = .ok (.iconst 1, 1) := by decide +kernel
theorem dX8_row_178 : decode cX8_row 178 = .ok (.isub, 1) := by decide +kernel
theorem dX8_row_179 : decode cX8_row 179 = .ok (.ireturn, 1) := by decide +kernel
theorem dX8_clear_0 : decode cX8_clear 0 = .ok (.aload_n 0, 1) := by decide +kernel
theorem dX8_clear_1 : decode cX8_clear 1 = .ok (.getfield 82, 3) := by decide +kernel
theorem dX8_clear_4 : decode cX8_clear 4 = .ok (.istore_n 1, 1) := by decide +kernel
theorem dX8_clear_5 : decode cX8_clear 5 = .ok (.aload_n 0, 1) := by decide +kernel
theorem dX8_clear_6 : decode cX8_clear 6 = .ok (.iconst 0, 1) := by decide +kernel
theorem dX8_clear_7 : decode cX8_clear 7 = .ok (.putfield 82, 3) := by decide +kernel
theorem dX8_clear_10 : decode cX8_clear 10 = .ok (.aload_n 0, 1) := by decide +kernel
theorem dX8_clear_11 : decode cX8_clear 11 = .ok (.invokevirtual 99, 3) := by decide +kernel
theorem dX8_clear_14 : decode cX8_clear 14 = .ok (.iload_n 1, 1) := by decide +kernel
theorem dX8_clear_15 : decode cX8_clear 15 = .ok (.ireturn, 1) := by decide +kernel
theorem dX8_count_0 : decode cX8_count 0 = .ok (.iload_n 1, 1) := by decide +kernel
theorem dX8_count_1 : decode cX8_count 1 = .ok (.tableswitch 65 0 3 #[31, 36, 41, 41], 31) := by decide +kernel
theorem dX8_count_32 : decode cX8_count 32 = .ok (.aload_n 0, 1) := by decide +kernel
theorem dX8_count_33 : decode cX8_count 33 = .ok (.getfield 82, 3) := by decide +kernel
theorem dX8_count_36 : decode cX8_count 36 = .ok (.ireturn, 1) := by decide +kernel
theorem dX8_count_37 : decode cX8_count 37 = .ok (.aload_n 0, 1) := by decide +kernel
theorem dX8_count_38 : decode cX8_count 38 = .ok (.getfield 7, 3) := by decide +kernel
theorem dX8_count_41 : decode cX8_count 41 = .ok (.ireturn, 1) := by decide +kernel
theorem dX8_count_42 : decode cX8_count 42 = .ok (.aload_n 0, 1) := by decide +kernel
theorem dX8_count_43 : decode cX8_count 43 = .ok (.getfield 17, 3) := by decide +kernel
theorem dX8_count_46 : decode cX8_count 46 = .ok (.iload_n 1, 1) := by decide +kernel
theorem dX8_count_47 : decode cX8_count 47 = .ok (.iconst 2, 1) := by decide +kernel
theorem dX8_count_48 : decode cX8_count 48 = .ok (.isub, 1) := by decide +kernel
theorem dX8_count_49 : decode cX8_count 49 = .ok (.baload, 1) := by decide +kernel
theorem dX8_count_50 : decode cX8_count 50 = .ok (.ifCond .eq 14, 3) := by decide +kernel
theorem dX8_count_53 : decode cX8_count 53 = .ok (.aload_n 0, 1) := by decide +kernel
theorem dX8_count_54 : decode cX8_count 54 = .ok (.getfield 21, 3) := by decide +kernel
theorem dX8_count_57 : decode cX8_count 57 = .ok (.iload_n 1, 1) := by decide +kernel
theorem dX8_count_58 : decode cX8_count 58 = .ok (.iconst 2, 1) := by decide +kernel
theorem dX8_count_59 : decode cX8_count 59 = .ok (.isub, 1) := by decide +kernel
theorem dX8_count_60 : decode cX8_count 60 = .ok (.iaload, 1) := by decide +kernel
theorem dX8_count_61 : decode cX8_count 61 = .ok (.goto 4, 3) := by decide +kernel
theorem dX8_count_64 : decode cX8_count 64 = .ok (.iconst (-1), 1) := by decide +kernel
theorem dX8_count_65 : decode cX8_count 65 = .ok (.ireturn, 1) := by decide +kernel
theorem dX8_count_66 : decode cX8_count 66 = .ok (.iload_n 1, 1) := by decide +kernel
theorem dX8_count_67 : decode cX8_count 67 = .ok (.iconst 4, 1) := by decide +kernel
theorem dX8_count_68 : decode cX8_count 68 = .ok (.if_icmp .eq 8, 3) := by decide +kernel
theorem dX8_count_71 : decode cX8_count 71 = .ok (.ldc 96, 2) := by decide +kernel
theorem dX8_count_73 : decode cX8_count 73 = .ok (.goto 18, 3) := by decide +kernel
theorem dX8_count_76 : decode cX8_count 76 = .ok (.aload_n 0, 1) := by decide +kernel
theorem dX8_count_77 : decode cX8_count 77 = .ok (.getfield 92, 3) := by decide +kernel
theorem dX8_count_80 : decode cX8_count 80 = .ok (.ifCond .eq 10, 3) := by decide +kernel
theorem dX8_count_83 : decode cX8_count 83 = .ok (.aload_n 0, 1) := by decide +kernel
theorem dX8_count_84 : decode cX8_count 84 = .ok (.getfield 102, 3) := by decide +kernel
theorem dX8_count_87 : decode cX8_count 87 = .ok (.goto 4, 3) := by decide +kernel
theorem dX8_count_90 : decode cX8_count 90 = .ok (.iconst (-1), 1) := by decide +kernel
theorem dX8_count_91 : decode cX8_count 91 = .ok (.ireturn, 1) := by decide +kernel
theorem dX8_apart_0 : decode cX8_apart 0 = .ok (.iconst 0, 1) := by decide +kernel
theorem dX8_apart_1 : decode cX8_apart 1 = .ok (.istore 4, 2) := by decide +kernel
theorem dX8_apart_3 : decode cX8_apart 3 = .ok (.iconst 0, 1) := by decide +kernel
theorem dX8_apart_4 : decode cX8_apart 4 = .ok (.istore 5, 2) := by decide +kernel
theorem dX8_apart_6 : decode cX8_apart 6 = .ok (.iload 5, 2) := by decide +kernel
theorem dX8_apart_8 : decode cX8_apart 8 = .ok (.aload_n 0, 1) := by decide +kernel
theorem dX8_apart_9 : decode cX8_apart 9 = .ok (.getfield 7, 3) := by decide +kernel
theorem dX8_apart_12 : decode cX8_apart 12 = .ok (.if_icmp .ge 94, 3) := by decide +kernel
theorem dX8_apart_15 : decode cX8_apart 15 = .ok (.aload_n 0, 1) := by decide +kernel
theorem dX8_apart_16 : decode cX8_apart 16 = .ok (.getfield 13, 3) := by decide +kernel
theorem dX8_apart_19 : decode cX8_apart 19 = .ok (.iconst 4, 1) := by decide +kernel
theorem dX8_apart_20 : decode cX8_apart 20 = .ok (.iload_n 2, 1) := by decide +kernel
theorem dX8_apart_21 : decode cX8_apart 21 = .ok (.imul, 1) := by decide +kernel
theorem dX8_apart_22 : decode cX8_apart 22 = .ok (.iload 5, 2) := by decide +kernel
theorem dX8_apart_24 : decode cX8_apart 24 = .ok (.iadd, 1) := by decide +kernel
theorem dX8_apart_25 : decode cX8_apart 25 = .ok (.iaload, 1) := by decide +kernel
theorem dX8_apart_26 : decode cX8_apart 26 = .ok (.aload_n 0, 1) := by decide +kernel
theorem dX8_apart_27 : decode cX8_apart 27 = .ok (.getfield 13, 3) := by decide +kernel
theorem dX8_apart_30 : decode cX8_apart 30 = .ok (.iconst 4, 1) := by decide +kernel
theorem dX8_apart_31 : decode cX8_apart 31 = .ok (.iload_n 3, 1) := by decide +kernel
theorem dX8_apart_32 : decode cX8_apart 32 = .ok (.imul, 1) := by decide +kernel
theorem dX8_apart_33 : decode cX8_apart 33 = .ok (.iload 5, 2) := by decide +kernel
theorem dX8_apart_35 : decode cX8_apart 35 = .ok (.iadd, 1) := by decide +kernel
theorem dX8_apart_36 : decode cX8_apart 36 = .ok (.iaload, 1) := by decide +kernel
theorem dX8_apart_37 : decode cX8_apart 37 = .ok (.isub, 1) := by decide +kernel
theorem dX8_apart_38 : decode cX8_apart 38 = .ok (.istore 6, 2) := by decide +kernel
theorem dX8_apart_40 : decode cX8_apart 40 = .ok (.iload 6, 2) := by decide +kernel
theorem dX8_apart_42 : decode cX8_apart 42 = .ok (.ifCond .ge 10, 3) := by decide +kernel
theorem dX8_apart_45 : decode cX8_apart 45 = .ok (.iconst 0, 1) := by decide +kernel
theorem dX8_apart_46 : decode cX8_apart 46 = .ok (.iload 6, 2) := by decide +kernel
theorem dX8_apart_48 : decode cX8_apart 48 = .ok (.isub, 1) := by decide +kernel
theorem dX8_apart_49 : decode cX8_apart 49 = .ok (.goto 5, 3) := by decide +kernel
theorem dX8_apart_52 : decode cX8_apart 52 = .ok (.iload 6, 2) := by decide +kernel
theorem dX8_apart_54 : decode cX8_apart 54 = .ok (.istore 6, 2) := by decide +kernel
theorem dX8_apart_56 : decode cX8_apart 56 = .ok (.iload_n 1, 1) := by decide +kernel
theorem dX8_apart_57 : decode cX8_apart 57 = .ok (.ifCond .ne 14, 3) := by decide +kernel
theorem dX8_apart_60 : decode cX8_apart 60 = .ok (.iload 4, 2) := by decide +kernel
theorem dX8_apart_62 : decode cX8_apart 62 = .ok (.iload 6, 2) := by decide +kernel
theorem dX8_apart_64 : decode cX8_apart 64 = .ok (.iload 6, 2) := by decide +kernel
theorem dX8_apart_66 : decode cX8_apart 66 = .ok (.imul, 1) := by decide +kernel
theorem dX8_apart_67 : decode cX8_apart 67 = .ok (.iadd, 1) := by decide +kernel
theorem dX8_apart_68 : decode cX8_apart 68 = .ok (.goto 30, 3) := by decide +kernel
theorem dX8_apart_71 : decode cX8_apart 71 = .ok (.iload_n 1, 1) := by decide +kernel
theorem dX8_apart_72 : decode cX8_apart 72 = .ok (.iconst 1, 1) := by decide +kernel
theorem dX8_apart_73 : decode cX8_apart 73 = .ok (.if_icmp .ne 11, 3) := by decide +kernel
theorem dX8_apart_76 : decode cX8_apart 76 = .ok (.iload 4, 2) := by decide +kernel
theorem dX8_apart_78 : decode cX8_apart 78 = .ok (.iload 6, 2) := by decide +kernel
theorem dX8_apart_80 : decode cX8_apart 80 = .ok (.iadd, 1) := by decide +kernel
theorem dX8_apart_81 : decode cX8_apart 81 = .ok (.goto 17, 3) := by decide +kernel
theorem dX8_apart_84 : decode cX8_apart 84 = .ok (.iload 6, 2) := by decide +kernel
theorem dX8_apart_86 : decode cX8_apart 86 = .ok (.iload 4, 2) := by decide +kernel
theorem dX8_apart_88 : decode cX8_apart 88 = .ok (.if_icmp .le 8, 3) := by decide +kernel
theorem dX8_apart_91 : decode cX8_apart 91 = .ok (.iload 6, 2) := by decide +kernel
theorem dX8_apart_93 : decode cX8_apart 93 = .ok (.goto 5, 3) := by decide +kernel
theorem dX8_apart_96 : decode cX8_apart 96 = .ok (.iload 4, 2) := by decide +kernel
theorem dX8_apart_98 : decode cX8_apart 98 = .ok (.istore 4, 2) := by decide +kernel
theorem dX8_apart_100 : decode cX8_apart 100 = .ok (.iinc 5 1, 3) := by decide +kernel
theorem dX8_apart_103 : decode cX8_apart 103 = .ok (.goto (-97), 3) := by decide +kernel
theorem dX8_apart_106 : decode cX8_apart 106 = .ok (.iload 4, 2) := by decide +kernel
theorem dX8_apart_108 : decode cX8_apart 108 = .ok (.ireturn, 1) := by decide +kernel
theorem dX8_lay_0 : decode cX8_lay 0 = .ok (.iconst 0, 1) := by decide +kernel
theorem dX8_lay_1 : decode cX8_lay 1 = .ok (.istore_n 2, 1) := by decide +kernel
theorem dX8_lay_2 : decode cX8_lay 2 = .ok (.iload_n 2, 1) := by decide +kernel
theorem dX8_lay_3 : decode cX8_lay 3 = .ok (.aload_n 0, 1) := by decide +kernel
theorem dX8_lay_4 : decode cX8_lay 4 = .ok (.getfield 82, 3) := by decide +kernel
theorem dX8_lay_7 : decode cX8_lay 7 = .ok (.if_icmp .ge 43, 3) := by decide +kernel
theorem dX8_lay_10 : decode cX8_lay 10 = .ok (.iconst 0, 1) := by decide +kernel
theorem dX8_lay_11 : decode cX8_lay 11 = .ok (.istore_n 3, 1) := by decide +kernel
theorem dX8_lay_12 : decode cX8_lay 12 = .ok (.iload_n 3, 1) := by decide +kernel
theorem dX8_lay_13 : decode cX8_lay 13 = .ok (.aload_n 0, 1) := by decide +kernel
theorem dX8_lay_14 : decode cX8_lay 14 = .ok (.getfield 82, 3) := by decide +kernel
theorem dX8_lay_17 : decode cX8_lay 17 = .ok (.if_icmp .ge 27, 3) := by decide +kernel
theorem dX8_lay_20 : decode cX8_lay 20 = .ok (.aload_n 0, 1) := by decide +kernel
theorem dX8_lay_21 : decode cX8_lay 21 = .ok (.getfield 46, 3) := by decide +kernel
theorem dX8_lay_24 : decode cX8_lay 24 = .ok (.bipush 30, 2) := by decide +kernel
theorem dX8_lay_26 : decode cX8_lay 26 = .ok (.iload_n 2, 1) := by decide +kernel
theorem dX8_lay_27 : decode cX8_lay 27 = .ok (.imul, 1) := by decide +kernel
theorem dX8_lay_28 : decode cX8_lay 28 = .ok (.iload_n 3, 1) := by decide +kernel
theorem dX8_lay_29 : decode cX8_lay 29 = .ok (.iadd, 1) := by decide +kernel
theorem dX8_lay_30 : decode cX8_lay 30 = .ok (.aload_n 0, 1) := by decide +kernel
theorem dX8_lay_31 : decode cX8_lay 31 = .ok (.iload_n 1, 1) := by decide +kernel
theorem dX8_lay_32 : decode cX8_lay 32 = .ok (.iload_n 2, 1) := by decide +kernel
theorem dX8_lay_33 : decode cX8_lay 33 = .ok (.iload_n 3, 1) := by decide +kernel
theorem dX8_lay_34 : decode cX8_lay 34 = .ok (.invokevirtual 105, 3) := by decide +kernel
theorem dX8_lay_37 : decode cX8_lay 37 = .ok (.iastore, 1) := by decide +kernel
theorem dX8_lay_38 : decode cX8_lay 38 = .ok (.iinc 3 1, 3) := by decide +kernel
theorem dX8_lay_41 : decode cX8_lay 41 = .ok (.goto (-29), 3) := by decide +kernel
theorem dX8_lay_44 : decode cX8_lay 44 = .ok (.iinc 2 1, 3) := by decide +kernel
theorem dX8_lay_47 : decode cX8_lay 47 = .ok (.goto (-45), 3) := by decide +kernel
theorem dX8_lay_50 : decode cX8_lay 50 = .ok (.return_, 1) := by decide +kernel
theorem dX8_distance_0 : decode cX8_distance 0 = .ok (.aload_n 0, 1) := by decide +kernel
theorem dX8_distance_1 : decode cX8_distance 1 = .ok (.iload_n 2, 1) := by decide +kernel
theorem dX8_distance_2 : decode cX8_distance 2 = .ok (.invokevirtual 109, 3) := by decide +kernel
theorem dX8_distance_5 : decode cX8_distance 5 = .ok (.ifCond .eq 11, 3) := by decide +kernel
theorem dX8_distance_8 : decode cX8_distance 8 = .ok (.aload_n 0, 1) := by decide +kernel
theorem dX8_distance_9 : decode cX8_distance 9 = .ok (.iload_n 3, 1) := by decide +kernel
theorem dX8_distance_10 : decode cX8_distance 10 = .ok (.invokevirtual 109, 3) := by decide +kernel
theorem dX8_distance_13 : decode cX8_distance 13 = .ok (.ifCond .ne 6, 3) := by decide +kernel
theorem dX8_distance_16 : decode cX8_distance 16 = .ok (.ldc 113, 2) := by decide +kernel
theorem dX8_distance_18 : decode cX8_distance 18 = .ok (.ireturn, 1) := by decide +kernel
theorem dX8_distance_19 : decode cX8_distance 19 = .ok (.iload_n 1, 1) := by decide +kernel
theorem dX8_distance_20 : decode cX8_distance 20 = .ok (.iconst 0, 1) := by decide +kernel
theorem dX8_distance_21 : decode cX8_distance 21 = .ok (.iconst 2, 1) := by decide +kernel
theorem dX8_distance_22 : decode cX8_distance 22 = .ok (.invokestatic 85, 3) := by decide +kernel
theorem dX8_distance_25 : decode cX8_distance 25 = .ok (.ifCond .eq 13, 3) := by decide +kernel
theorem dX8_distance_28 : decode cX8_distance 28 = .ok (.aload_n 0, 1) := by decide +kernel
theorem dX8_distance_29 : decode cX8_distance 29 = .ok (.iload_n 1, 1) := by decide +kernel
theorem dX8_distance_30 : decode cX8_distance 30 = .ok (.iload_n 2, 1) := by decide +kernel
theorem dX8_distance_31 : decode cX8_distance 31 = .ok (.iload_n 3, 1) := by decide +kernel
theorem dX8_distance_32 : decode cX8_distance 32 = .ok (.invokevirtual 105, 3) := by decide +kernel
theorem dX8_distance_35 : decode cX8_distance 35 = .ok (.goto 5, 3) := by decide +kernel
theorem dX8_distance_38 : decode cX8_distance 38 = .ok (.ldc 96, 2) := by decide +kernel
theorem dX8_distance_40 : decode cX8_distance 40 = .ok (.ireturn, 1) := by decide +kernel
theorem dX8_near_0 : decode cX8_near 0 = .ok (.aload_n 0, 1) := by decide +kernel
theorem dX8_near_1 : decode cX8_near 1 = .ok (.iload_n 2, 1) := by decide +kernel
theorem dX8_near_2 : decode cX8_near 2 = .ok (.invokevirtual 109, 3) := by decide +kernel
theorem dX8_near_5 : decode cX8_near 5 = .ok (.ifCond .ne 6, 3) := by decide +kernel
theorem dX8_near_8 : decode cX8_near 8 = .ok (.ldc 113, 2) := by decide +kernel
theorem dX8_near_10 : decode cX8_near 10 = .ok (.ireturn, 1) := by decide +kernel
theorem dX8_near_11 : decode cX8_near 11 = .ok (.iload_n 1, 1) := by decide +kernel
theorem dX8_near_12 : decode cX8_near 12 = .ok (.iconst 0, 1) := by decide +kernel
theorem dX8_near_13 : decode cX8_near 13 = .ok (.iconst 2, 1) := by decide +kernel
theorem dX8_near_14 : decode cX8_near 14 = .ok (.invokestatic 85, 3) := by decide +kernel
theorem dX8_near_17 : decode cX8_near 17 = .ok (.ifCond .ne 6, 3) := by decide +kernel
theorem dX8_near_20 : decode cX8_near 20 = .ok (.ldc 96, 2) := by decide +kernel
theorem dX8_near_22 : decode cX8_near 22 = .ok (.ireturn, 1) := by decide +kernel
theorem dX8_near_23 : decode cX8_near 23 = .ok (.aload_n 0, 1) := by decide +kernel
theorem dX8_near_24 : decode cX8_near 24 = .ok (.iload_n 1, 1) := by decide +kernel
theorem dX8_near_25 : decode cX8_near 25 = .ok (.invokevirtual 114, 3) := by decide +kernel
theorem dX8_near_28 : decode cX8_near 28 = .ok (.iconst 0, 1) := by decide +kernel
theorem dX8_near_29 : decode cX8_near 29 = .ok (.istore 4, 2) := by decide +kernel
theorem dX8_near_31 : decode cX8_near 31 = .ok (.iload 4, 2) := by decide +kernel
theorem dX8_near_33 : decode cX8_near 33 = .ok (.aload_n 0, 1) := by decide +kernel
theorem dX8_near_34 : decode cX8_near 34 = .ok (.getfield 82, 3) := by decide +kernel
theorem dX8_near_37 : decode cX8_near 37 = .ok (.if_icmp .ge 105, 3) := by decide +kernel
theorem dX8_near_40 : decode cX8_near 40 = .ok (.iconst 0, 1) := by decide +kernel
theorem dX8_near_41 : decode cX8_near 41 = .ok (.istore 5, 2) := by decide +kernel
theorem dX8_near_43 : decode cX8_near 43 = .ok (.iconst 0, 1) := by decide +kernel
theorem dX8_near_44 : decode cX8_near 44 = .ok (.istore 6, 2) := by decide +kernel
theorem dX8_near_46 : decode cX8_near 46 = .ok (.iload 6, 2) := by decide +kernel
theorem dX8_near_48 : decode cX8_near 48 = .ok (.aload_n 0, 1) := by decide +kernel
theorem dX8_near_49 : decode cX8_near 49 = .ok (.getfield 82, 3) := by decide +kernel
theorem dX8_near_52 : decode cX8_near 52 = .ok (.if_icmp .ge 69, 3) := by decide +kernel
theorem dX8_near_55 : decode cX8_near 55 = .ok (.aload_n 0, 1) := by decide +kernel
theorem dX8_near_56 : decode cX8_near 56 = .ok (.getfield 46, 3) := by decide +kernel
theorem dX8_near_59 : decode cX8_near 59 = .ok (.bipush 30, 2) := by decide +kernel
theorem dX8_near_61 : decode cX8_near 61 = .ok (.iload_n 2, 1) := by decide +kernel
theorem dX8_near_62 : decode cX8_near 62 = .ok (.imul, 1) := by decide +kernel
theorem dX8_near_63 : decode cX8_near 63 = .ok (.iload 6, 2) := by decide +kernel
theorem dX8_near_65 : decode cX8_near 65 = .ok (.iadd, 1) := by decide +kernel
theorem dX8_near_66 : decode cX8_near 66 = .ok (.iaload, 1) := by decide +kernel
theorem dX8_near_67 : decode cX8_near 67 = .ok (.aload_n 0, 1) := by decide +kernel
theorem dX8_near_68 : decode cX8_near 68 = .ok (.getfield 46, 3) := by decide +kernel
theorem dX8_near_71 : decode cX8_near 71 = .ok (.bipush 30, 2) := by decide +kernel
theorem dX8_near_73 : decode cX8_near 73 = .ok (.iload_n 2, 1) := by decide +kernel
theorem dX8_near_74 : decode cX8_near 74 = .ok (.imul, 1) := by decide +kernel
theorem dX8_near_75 : decode cX8_near 75 = .ok (.iload 4, 2) := by decide +kernel
theorem dX8_near_77 : decode cX8_near 77 = .ok (.iadd, 1) := by decide +kernel
theorem dX8_near_78 : decode cX8_near 78 = .ok (.iaload, 1) := by decide +kernel
theorem dX8_near_79 : decode cX8_near 79 = .ok (.isub, 1) := by decide +kernel
theorem dX8_near_80 : decode cX8_near 80 = .ok (.istore 7, 2) := by decide +kernel
theorem dX8_near_82 : decode cX8_near 82 = .ok (.iload 5, 2) := by decide +kernel
theorem dX8_near_84 : decode cX8_near 84 = .ok (.iload 6, 2) := by decide +kernel
theorem dX8_near_86 : decode cX8_near 86 = .ok (.iload_n 2, 1) := by decide +kernel
theorem dX8_near_87 : decode cX8_near 87 = .ok (.if_icmp .eq 24, 3) := by decide +kernel
theorem dX8_near_90 : decode cX8_near 90 = .ok (.iload 7, 2) := by decide +kernel
theorem dX8_near_92 : decode cX8_near 92 = .ok (.ifCond .lt 15, 3) := by decide +kernel
theorem dX8_near_95 : decode cX8_near 95 = .ok (.iload 7, 2) := by decide +kernel
theorem dX8_near_97 : decode cX8_near 97 = .ok (.ifCond .ne 14, 3) := by decide +kernel
theorem dX8_near_100 : decode cX8_near 100 = .ok (.iload 6, 2) := by decide +kernel
theorem dX8_near_102 : decode cX8_near 102 = .ok (.iload 4, 2) := by decide +kernel
theorem dX8_near_104 : decode cX8_near 104 = .ok (.if_icmp .ge 7, 3) := by decide +kernel
theorem dX8_near_107 : decode cX8_near 107 = .ok (.iconst 1, 1) := by decide +kernel
theorem dX8_near_108 : decode cX8_near 108 = .ok (.goto 4, 3) := by decide +kernel
theorem dX8_near_111 : decode cX8_near 111 = .ok (.iconst 0, 1) := by decide +kernel
theorem dX8_near_112 : decode cX8_near 112 = .ok (.iadd, 1) := by decide +kernel
theorem dX8_near_113 : decode cX8_near 113 = .ok (.istore 5, 2) := by decide +kernel
theorem dX8_near_115 : decode cX8_near 115 = .ok (.iinc 6 1, 3) := by decide +kernel
theorem dX8_near_118 : decode cX8_near 118 = .ok (.goto (-72), 3) := by decide +kernel
theorem dX8_near_121 : decode cX8_near 121 = .ok (.iload 4, 2) := by decide +kernel
theorem dX8_near_123 : decode cX8_near 123 = .ok (.iload_n 2, 1) := by decide +kernel
theorem dX8_near_124 : decode cX8_near 124 = .ok (.if_icmp .eq 12, 3) := by decide +kernel
theorem dX8_near_127 : decode cX8_near 127 = .ok (.iload 5, 2) := by decide +kernel
theorem dX8_near_129 : decode cX8_near 129 = .ok (.iload_n 3, 1) := by decide +kernel
theorem dX8_near_130 : decode cX8_near 130 = .ok (.if_icmp .ne 6, 3) := by decide +kernel
theorem dX8_near_133 : decode cX8_near 133 = .ok (.iload 4, 2) := by decide +kernel
theorem dX8_near_135 : decode cX8_near 135 = .ok (.ireturn, 1) := by decide +kernel
theorem dX8_near_136 : decode cX8_near 136 = .ok (.iinc 4 1, 3) := by decide +kernel
theorem dX8_near_139 : decode cX8_near 139 = .ok (.goto (-108), 3) := by decide +kernel
theorem dX8_near_142 : decode cX8_near 142 = .ok (.iconst (-1), 1) := by decide +kernel
theorem dX8_near_143 : decode cX8_near 143 = .ok (.ireturn, 1) := by decide +kernel
theorem dX8_chooseFirst_0 : decode cX8_chooseFirst 0 = .ok (.iconst 0, 1) := by decide +kernel
theorem dX8_chooseFirst_1 : decode cX8_chooseFirst 1 = .ok (.istore_n 2, 1) := by decide +kernel
theorem dX8_chooseFirst_2 : decode cX8_chooseFirst 2 = .ok (.iload_n 2, 1) := by decide +kernel
theorem dX8_chooseFirst_3 : decode cX8_chooseFirst 3 = .ok (.aload_n 0, 1) := by decide +kernel
theorem dX8_chooseFirst_4 : decode cX8_chooseFirst 4 = .ok (.getfield 82, 3) := by decide +kernel
theorem dX8_chooseFirst_7 : decode cX8_chooseFirst 7 = .ok (.if_icmp .ge 16, 3) := by decide +kernel
theorem dX8_chooseFirst_10 : decode cX8_chooseFirst 10 = .ok (.aload_n 0, 1) := by decide +kernel
theorem dX8_chooseFirst_11 : decode cX8_chooseFirst 11 = .ok (.getfield 58, 3) := by decide +kernel
theorem dX8_chooseFirst_14 : decode cX8_chooseFirst 14 = .ok (.iload_n 2, 1) := by decide +kernel
theorem dX8_chooseFirst_15 : decode cX8_chooseFirst 15 = .ok (.iconst 0, 1) := by decide +kernel
theorem dX8_chooseFirst_16 : decode cX8_chooseFirst 16 = .ok (.bastore, 1) := by decide +kernel
theorem dX8_chooseFirst_17 : decode cX8_chooseFirst 17 = .ok (.iinc 2 1, 3) := by decide +kernel
theorem dX8_chooseFirst_20 : decode cX8_chooseFirst 20 = .ok (.goto (-18), 3) := by decide +kernel
theorem dX8_chooseFirst_23 : decode cX8_chooseFirst 23 = .ok (.iconst 0, 1) := by decide +kernel
theorem dX8_chooseFirst_24 : decode cX8_chooseFirst 24 = .ok (.istore_n 2, 1) := by decide +kernel
theorem dX8_chooseFirst_25 : decode cX8_chooseFirst 25 = .ok (.iconst 0, 1) := by decide +kernel
theorem dX8_chooseFirst_26 : decode cX8_chooseFirst 26 = .ok (.istore_n 3, 1) := by decide +kernel
theorem dX8_chooseFirst_27 : decode cX8_chooseFirst 27 = .ok (.iload_n 3, 1) := by decide +kernel
theorem dX8_chooseFirst_28 : decode cX8_chooseFirst 28 = .ok (.iload_n 1, 1) := by decide +kernel
theorem dX8_chooseFirst_29 : decode cX8_chooseFirst 29 = .ok (.if_icmp .ge 69, 3) := by decide +kernel
theorem dX8_chooseFirst_32 : decode cX8_chooseFirst 32 = .ok (.aload_n 0, 1) := by decide +kernel
theorem dX8_chooseFirst_33 : decode cX8_chooseFirst 33 = .ok (.getfield 58, 3) := by decide +kernel
theorem dX8_chooseFirst_36 : decode cX8_chooseFirst 36 = .ok (.iload_n 2, 1) := by decide +kernel
theorem dX8_chooseFirst_37 : decode cX8_chooseFirst 37 = .ok (.iconst 1, 1) := by decide +kernel
theorem dX8_chooseFirst_38 : decode cX8_chooseFirst 38 = .ok (.bastore, 1) := by decide +kernel
theorem dX8_chooseFirst_39 : decode cX8_chooseFirst 39 = .ok (.aload_n 0, 1) := by decide +kernel
theorem dX8_chooseFirst_40 : decode cX8_chooseFirst 40 = .ok (.getfield 52, 3) := by decide +kernel
theorem dX8_chooseFirst_43 : decode cX8_chooseFirst 43 = .ok (.iload_n 3, 1) := by decide +kernel
theorem dX8_chooseFirst_44 : decode cX8_chooseFirst 44 = .ok (.iconst 1, 1) := by decide +kernel
theorem dX8_chooseFirst_45 : decode cX8_chooseFirst 45 = .ok (.iastore, 1) := by decide +kernel
theorem dX8_chooseFirst_46 : decode cX8_chooseFirst 46 = .ok (.iconst 0, 1) := by decide +kernel
theorem dX8_chooseFirst_47 : decode cX8_chooseFirst 47 = .ok (.istore 4, 2) := by decide +kernel
theorem dX8_chooseFirst_49 : decode cX8_chooseFirst 49 = .ok (.iload 4, 2) := by decide +kernel
theorem dX8_chooseFirst_51 : decode cX8_chooseFirst 51 = .ok (.aload_n 0, 1) := by decide +kernel
theorem dX8_chooseFirst_52 : decode cX8_chooseFirst 52 = .ok (.getfield 7, 3) := by decide +kernel
theorem dX8_chooseFirst_55 : decode cX8_chooseFirst 55 = .ok (.if_icmp .ge 32, 3) := by decide +kernel
theorem dX8_chooseFirst_58 : decode cX8_chooseFirst 58 = .ok (.aload_n 0, 1) := by decide +kernel
theorem dX8_chooseFirst_59 : decode cX8_chooseFirst 59 = .ok (.getfield 49, 3) := by decide +kernel
theorem dX8_chooseFirst_62 : decode cX8_chooseFirst 62 = .ok (.iconst 4, 1) := by decide +kernel
theorem dX8_chooseFirst_63 : decode cX8_chooseFirst 63 = .ok (.iload_n 3, 1) := by decide +kernel
theorem dX8_chooseFirst_64 : decode cX8_chooseFirst 64 = .ok (.imul, 1) := by decide +kernel
theorem dX8_chooseFirst_65 : decode cX8_chooseFirst 65 = .ok (.iload 4, 2) := by decide +kernel
theorem dX8_chooseFirst_67 : decode cX8_chooseFirst 67 = .ok (.iadd, 1) := by decide +kernel
theorem dX8_chooseFirst_68 : decode cX8_chooseFirst 68 = .ok (.aload_n 0, 1) := by decide +kernel
theorem dX8_chooseFirst_69 : decode cX8_chooseFirst 69 = .ok (.getfield 13, 3) := by decide +kernel
theorem dX8_chooseFirst_72 : decode cX8_chooseFirst 72 = .ok (.iconst 4, 1) := by decide +kernel
theorem dX8_chooseFirst_73 : decode cX8_chooseFirst 73 = .ok (.iload_n 2, 1) := by decide +kernel
theorem dX8_chooseFirst_74 : decode cX8_chooseFirst 74 = .ok (.imul, 1) := by decide +kernel
theorem dX8_chooseFirst_75 : decode cX8_chooseFirst 75 = .ok (.iload 4, 2) := by decide +kernel
theorem dX8_chooseFirst_77 : decode cX8_chooseFirst 77 = .ok (.iadd, 1) := by decide +kernel
theorem dX8_chooseFirst_78 : decode cX8_chooseFirst 78 = .ok (.iaload, 1) := by decide +kernel
theorem dX8_chooseFirst_79 : decode cX8_chooseFirst 79 = .ok (.i2l, 1) := by decide +kernel
theorem dX8_chooseFirst_80 : decode cX8_chooseFirst 80 = .ok (.lastore, 1) := by decide +kernel
theorem dX8_chooseFirst_81 : decode cX8_chooseFirst 81 = .ok (.iinc 4 1, 3) := by decide +kernel
theorem dX8_chooseFirst_84 : decode cX8_chooseFirst 84 = .ok (.goto (-35), 3) := by decide +kernel
theorem dX8_chooseFirst_87 : decode cX8_chooseFirst 87 = .ok (.aload_n 0, 1) := by decide +kernel
theorem dX8_chooseFirst_88 : decode cX8_chooseFirst 88 = .ok (.invokevirtual 118, 3) := by decide +kernel
theorem dX8_chooseFirst_91 : decode cX8_chooseFirst 91 = .ok (.istore_n 2, 1) := by decide +kernel
theorem dX8_chooseFirst_92 : decode cX8_chooseFirst 92 = .ok (.iinc 3 1, 3) := by decide +kernel
theorem dX8_chooseFirst_95 : decode cX8_chooseFirst 95 = .ok (.goto (-68), 3) := by decide +kernel
theorem dX8_chooseFirst_98 : decode cX8_chooseFirst 98 = .ok (.return_, 1) := by decide +kernel
theorem dX8_farthest_0 : decode cX8_farthest 0 = .ok (.iconst (-1), 1) := by decide +kernel
theorem dX8_farthest_1 : decode cX8_farthest 1 = .ok (.istore_n 1, 1) := by decide +kernel
theorem dX8_farthest_2 : decode cX8_farthest 2 = .ok (.iconst (-1), 1) := by decide +kernel
theorem dX8_farthest_3 : decode cX8_farthest 3 = .ok (.istore_n 2, 1) := by decide +kernel
theorem dX8_farthest_4 : decode cX8_farthest 4 = .ok (.iconst 0, 1) := by decide +kernel
theorem dX8_farthest_5 : decode cX8_farthest 5 = .ok (.istore_n 3, 1) := by decide +kernel
theorem dX8_farthest_6 : decode cX8_farthest 6 = .ok (.iload_n 3, 1) := by decide +kernel
theorem dX8_farthest_7 : decode cX8_farthest 7 = .ok (.aload_n 0, 1) := by decide +kernel
theorem dX8_farthest_8 : decode cX8_farthest 8 = .ok (.getfield 82, 3) := by decide +kernel
theorem dX8_farthest_11 : decode cX8_farthest 11 = .ok (.if_icmp .ge 92, 3) := by decide +kernel
theorem dX8_farthest_14 : decode cX8_farthest 14 = .ok (.iconst (-1), 1) := by decide +kernel
theorem dX8_farthest_15 : decode cX8_farthest 15 = .ok (.istore 4, 2) := by decide +kernel
theorem dX8_farthest_17 : decode cX8_farthest 17 = .ok (.iconst 0, 1) := by decide +kernel
theorem dX8_farthest_18 : decode cX8_farthest 18 = .ok (.istore 5, 2) := by decide +kernel
theorem dX8_farthest_20 : decode cX8_farthest 20 = .ok (.iload 5, 2) := by decide +kernel
theorem dX8_farthest_22 : decode cX8_farthest 22 = .ok (.aload_n 0, 1) := by decide +kernel
theorem dX8_farthest_23 : decode cX8_farthest 23 = .ok (.getfield 82, 3) := by decide +kernel
theorem dX8_farthest_26 : decode cX8_farthest 26 = .ok (.if_icmp .ge 51, 3) := by decide +kernel
theorem dX8_farthest_29 : decode cX8_farthest 29 = .ok (.aload_n 0, 1) := by decide +kernel
theorem dX8_farthest_30 : decode cX8_farthest 30 = .ok (.iconst 0, 1) := by decide +kernel
theorem dX8_farthest_31 : decode cX8_farthest 31 = .ok (.iload_n 3, 1) := by decide +kernel
theorem dX8_farthest_32 : decode cX8_farthest 32 = .ok (.iload 5, 2) := by decide +kernel
theorem dX8_farthest_34 : decode cX8_farthest 34 = .ok (.invokevirtual 105, 3) := by decide +kernel
theorem dX8_farthest_37 : decode cX8_farthest 37 = .ok (.istore 6, 2) := by decide +kernel
theorem dX8_farthest_39 : decode cX8_farthest 39 = .ok (.aload_n 0, 1) := by decide +kernel
theorem dX8_farthest_40 : decode cX8_farthest 40 = .ok (.getfield 58, 3) := by decide +kernel
theorem dX8_farthest_43 : decode cX8_farthest 43 = .ok (.iload 5, 2) := by decide +kernel
theorem dX8_farthest_45 : decode cX8_farthest 45 = .ok (.baload, 1) := by decide +kernel
theorem dX8_farthest_46 : decode cX8_farthest 46 = .ok (.ifCond .eq 21, 3) := by decide +kernel
theorem dX8_farthest_49 : decode cX8_farthest 49 = .ok (.iload 4, 2) := by decide +kernel
theorem dX8_farthest_51 : decode cX8_farthest 51 = .ok (.iconst (-1), 1) := by decide +kernel
theorem dX8_farthest_52 : decode cX8_farthest 52 = .ok (.if_icmp .eq 10, 3) := by decide +kernel
theorem dX8_farthest_55 : decode cX8_farthest 55 = .ok (.iload 6, 2) := by decide +kernel
theorem dX8_farthest_57 : decode cX8_farthest 57 = .ok (.iload 4, 2) := by decide +kernel
theorem dX8_farthest_59 : decode cX8_farthest 59 = .ok (.if_icmp .ge 8, 3) := by decide +kernel
theorem dX8_farthest_62 : decode cX8_farthest 62 = .ok (.iload 6, 2) := by decide +kernel
theorem dX8_farthest_64 : decode cX8_farthest 64 = .ok (.goto 5, 3) := by decide +kernel
theorem dX8_farthest_67 : decode cX8_farthest 67 = .ok (.iload 4, 2) := by decide +kernel
theorem dX8_farthest_69 : decode cX8_farthest 69 = .ok (.istore 4, 2) := by decide +kernel
theorem dX8_farthest_71 : decode cX8_farthest 71 = .ok (.iinc 5 1, 3) := by decide +kernel
theorem dX8_farthest_74 : decode cX8_farthest 74 = .ok (.goto (-54), 3) := by decide +kernel
theorem dX8_farthest_77 : decode cX8_farthest 77 = .ok (.aload_n 0, 1) := by decide +kernel
theorem dX8_farthest_78 : decode cX8_farthest 78 = .ok (.getfield 58, 3) := by decide +kernel
theorem dX8_farthest_81 : decode cX8_farthest 81 = .ok (.iload_n 3, 1) := by decide +kernel
theorem dX8_farthest_82 : decode cX8_farthest 82 = .ok (.baload, 1) := by decide +kernel
theorem dX8_farthest_83 : decode cX8_farthest 83 = .ok (.ifCond .ne 14, 3) := by decide +kernel
theorem dX8_farthest_86 : decode cX8_farthest 86 = .ok (.iload 4, 2) := by decide +kernel
theorem dX8_farthest_88 : decode cX8_farthest 88 = .ok (.iload_n 2, 1) := by decide +kernel
theorem dX8_farthest_89 : decode cX8_farthest 89 = .ok (.if_icmp .le 8, 3) := by decide +kernel
theorem dX8_farthest_92 : decode cX8_farthest 92 = .ok (.iload 4, 2) := by decide +kernel
theorem dX8_farthest_94 : decode cX8_farthest 94 = .ok (.istore_n 2, 1) := by decide +kernel
theorem dX8_farthest_95 : decode cX8_farthest 95 = .ok (.iload_n 3, 1) := by decide +kernel
theorem dX8_farthest_96 : decode cX8_farthest 96 = .ok (.istore_n 1, 1) := by decide +kernel
theorem dX8_farthest_97 : decode cX8_farthest 97 = .ok (.iinc 3 1, 3) := by decide +kernel
theorem dX8_farthest_100 : decode cX8_farthest 100 = .ok (.goto (-94), 3) := by decide +kernel
theorem dX8_farthest_103 : decode cX8_farthest 103 = .ok (.iload_n 1, 1) := by decide +kernel
theorem dX8_farthest_104 : decode cX8_farthest 104 = .ok (.ireturn, 1) := by decide +kernel
theorem dX8_square_0 : decode cX8_square 0 = .ok (.lconst 0, 1) := by decide +kernel
theorem dX8_square_1 : decode cX8_square 1 = .ok (.lstore_n 3, 1) := by decide +kernel
theorem dX8_square_2 : decode cX8_square 2 = .ok (.iconst 0, 1) := by decide +kernel
theorem dX8_square_3 : decode cX8_square 3 = .ok (.istore 5, 2) := by decide +kernel
theorem dX8_square_5 : decode cX8_square 5 = .ok (.iload 5, 2) := by decide +kernel
theorem dX8_square_7 : decode cX8_square 7 = .ok (.aload_n 0, 1) := by decide +kernel
theorem dX8_square_8 : decode cX8_square 8 = .ok (.getfield 7, 3) := by decide +kernel
theorem dX8_square_11 : decode cX8_square 11 = .ok (.if_icmp .ge 51, 3) := by decide +kernel
theorem dX8_square_14 : decode cX8_square 14 = .ok (.aload_n 0, 1) := by decide +kernel
theorem dX8_square_15 : decode cX8_square 15 = .ok (.getfield 52, 3) := by decide +kernel
theorem dX8_square_18 : decode cX8_square 18 = .ok (.iload_n 2, 1) := by decide +kernel
theorem dX8_square_19 : decode cX8_square 19 = .ok (.iaload, 1) := by decide +kernel
theorem dX8_square_20 : decode cX8_square 20 = .ok (.i2l, 1) := by decide +kernel
theorem dX8_square_21 : decode cX8_square 21 = .ok (.aload_n 0, 1) := by decide +kernel
theorem dX8_square_22 : decode cX8_square 22 = .ok (.getfield 13, 3) := by decide +kernel
theorem dX8_square_25 : decode cX8_square 25 = .ok (.iconst 4, 1) := by decide +kernel
theorem dX8_square_26 : decode cX8_square 26 = .ok (.iload_n 1, 1) := by decide +kernel
theorem dX8_square_27 : decode cX8_square 27 = .ok (.imul, 1) := by decide +kernel
theorem dX8_square_28 : decode cX8_square 28 = .ok (.iload 5, 2) := by decide +kernel
theorem dX8_square_30 : decode cX8_square 30 = .ok (.iadd, 1) := by decide +kernel
theorem dX8_square_31 : decode cX8_square 31 = .ok (.iaload, 1) := by decide +kernel
theorem dX8_square_32 : decode cX8_square 32 = .ok (.i2l, 1) := by decide +kernel
theorem dX8_square_33 : decode cX8_square 33 = .ok (.lmul, 1) := by decide +kernel
theorem dX8_square_34 : decode cX8_square 34 = .ok (.aload_n 0, 1) := by decide +kernel
theorem dX8_square_35 : decode cX8_square 35 = .ok (.getfield 49, 3) := by decide +kernel
theorem dX8_square_38 : decode cX8_square 38 = .ok (.iconst 4, 1) := by decide +kernel
theorem dX8_square_39 : decode cX8_square 39 = .ok (.iload_n 2, 1) := by decide +kernel
theorem dX8_square_40 : decode cX8_square 40 = .ok (.imul, 1) := by decide +kernel
theorem dX8_square_41 : decode cX8_square 41 = .ok (.iload 5, 2) := by decide +kernel
theorem dX8_square_43 : decode cX8_square 43 = .ok (.iadd, 1) := by decide +kernel
theorem dX8_square_44 : decode cX8_square 44 = .ok (.laload, 1) := by decide +kernel
theorem dX8_square_45 : decode cX8_square 45 = .ok (.lsub, 1) := by decide +kernel
theorem dX8_square_46 : decode cX8_square 46 = .ok (.lstore 6, 2) := by decide +kernel
theorem dX8_square_48 : decode cX8_square 48 = .ok (.lload_n 3, 1) := by decide +kernel
theorem dX8_square_49 : decode cX8_square 49 = .ok (.lload 6, 2) := by decide +kernel
theorem dX8_square_51 : decode cX8_square 51 = .ok (.lload 6, 2) := by decide +kernel
theorem dX8_square_53 : decode cX8_square 53 = .ok (.lmul, 1) := by decide +kernel
theorem dX8_square_54 : decode cX8_square 54 = .ok (.ladd, 1) := by decide +kernel
theorem dX8_square_55 : decode cX8_square 55 = .ok (.lstore_n 3, 1) := by decide +kernel
theorem dX8_square_56 : decode cX8_square 56 = .ok (.iinc 5 1, 3) := by decide +kernel
theorem dX8_square_59 : decode cX8_square 59 = .ok (.goto (-54), 3) := by decide +kernel
theorem dX8_square_62 : decode cX8_square 62 = .ok (.lload_n 3, 1) := by decide +kernel
theorem dX8_square_63 : decode cX8_square 63 = .ok (.lreturn, 1) := by decide +kernel
theorem dX8_isNearer_0 : decode cX8_isNearer 0 = .ok (.aload_n 0, 1) := by decide +kernel
theorem dX8_isNearer_1 : decode cX8_isNearer 1 = .ok (.iload_n 1, 1) := by decide +kernel
theorem dX8_isNearer_2 : decode cX8_isNearer 2 = .ok (.iload_n 2, 1) := by decide +kernel
theorem dX8_isNearer_3 : decode cX8_isNearer 3 = .ok (.invokevirtual 122, 3) := by decide +kernel
theorem dX8_isNearer_6 : decode cX8_isNearer 6 = .ok (.aload_n 0, 1) := by decide +kernel
theorem dX8_isNearer_7 : decode cX8_isNearer 7 = .ok (.getfield 52, 3) := by decide +kernel
theorem dX8_isNearer_10 : decode cX8_isNearer 10 = .ok (.iload 4, 2) := by decide +kernel
theorem dX8_isNearer_12 : decode cX8_isNearer 12 = .ok (.iaload, 1) := by decide +kernel
theorem dX8_isNearer_13 : decode cX8_isNearer 13 = .ok (.i2l, 1) := by decide +kernel
theorem dX8_isNearer_14 : decode cX8_isNearer 14 = .ok (.lmul, 1) := by decide +kernel
theorem dX8_isNearer_15 : decode cX8_isNearer 15 = .ok (.aload_n 0, 1) := by decide +kernel
theorem dX8_isNearer_16 : decode cX8_isNearer 16 = .ok (.getfield 52, 3) := by decide +kernel
theorem dX8_isNearer_19 : decode cX8_isNearer 19 = .ok (.iload 4, 2) := by decide +kernel
theorem dX8_isNearer_21 : decode cX8_isNearer 21 = .ok (.iaload, 1) := by decide +kernel
theorem dX8_isNearer_22 : decode cX8_isNearer 22 = .ok (.i2l, 1) := by decide +kernel
theorem dX8_isNearer_23 : decode cX8_isNearer 23 = .ok (.lmul, 1) := by decide +kernel
theorem dX8_isNearer_24 : decode cX8_isNearer 24 = .ok (.lstore 5, 2) := by decide +kernel
theorem dX8_isNearer_26 : decode cX8_isNearer 26 = .ok (.aload_n 0, 1) := by decide +kernel
theorem dX8_isNearer_27 : decode cX8_isNearer 27 = .ok (.iload_n 3, 1) := by decide +kernel
theorem dX8_isNearer_28 : decode cX8_isNearer 28 = .ok (.iload 4, 2) := by decide +kernel
theorem dX8_isNearer_30 : decode cX8_isNearer 30 = .ok (.invokevirtual 122, 3) := by decide +kernel
theorem dX8_isNearer_33 : decode cX8_isNearer 33 = .ok (.aload_n 0, 1) := by decide +kernel
theorem dX8_isNearer_34 : decode cX8_isNearer 34 = .ok (.getfield 52, 3) := by decide +kernel
theorem dX8_isNearer_37 : decode cX8_isNearer 37 = .ok (.iload_n 2, 1) := by decide +kernel
theorem dX8_isNearer_38 : decode cX8_isNearer 38 = .ok (.iaload, 1) := by decide +kernel
theorem dX8_isNearer_39 : decode cX8_isNearer 39 = .ok (.i2l, 1) := by decide +kernel
theorem dX8_isNearer_40 : decode cX8_isNearer 40 = .ok (.lmul, 1) := by decide +kernel
theorem dX8_isNearer_41 : decode cX8_isNearer 41 = .ok (.aload_n 0, 1) := by decide +kernel
theorem dX8_isNearer_42 : decode cX8_isNearer 42 = .ok (.getfield 52, 3) := by decide +kernel
theorem dX8_isNearer_45 : decode cX8_isNearer 45 = .ok (.iload_n 2, 1) := by decide +kernel
theorem dX8_isNearer_46 : decode cX8_isNearer 46 = .ok (.iaload, 1) := by decide +kernel
theorem dX8_isNearer_47 : decode cX8_isNearer 47 = .ok (.i2l, 1) := by decide +kernel
theorem dX8_isNearer_48 : decode cX8_isNearer 48 = .ok (.lmul, 1) := by decide +kernel
theorem dX8_isNearer_49 : decode cX8_isNearer 49 = .ok (.lstore 7, 2) := by decide +kernel
theorem dX8_isNearer_51 : decode cX8_isNearer 51 = .ok (.lload 5, 2) := by decide +kernel
theorem dX8_isNearer_53 : decode cX8_isNearer 53 = .ok (.lload 7, 2) := by decide +kernel
theorem dX8_isNearer_55 : decode cX8_isNearer 55 = .ok (.lcmp, 1) := by decide +kernel
theorem dX8_isNearer_56 : decode cX8_isNearer 56 = .ok (.ifCond .ge 7, 3) := by decide +kernel
theorem dX8_isNearer_59 : decode cX8_isNearer 59 = .ok (.iconst 1, 1) := by decide +kernel
theorem dX8_isNearer_60 : decode cX8_isNearer 60 = .ok (.goto 4, 3) := by decide +kernel
theorem dX8_isNearer_63 : decode cX8_isNearer 63 = .ok (.iconst 0, 1) := by decide +kernel
theorem dX8_isNearer_64 : decode cX8_isNearer 64 = .ok (.ireturn, 1) := by decide +kernel
theorem dX8_sizeNow_0 : decode cX8_sizeNow 0 = .ok (.iconst 0, 1) := by decide +kernel
theorem dX8_sizeNow_1 : decode cX8_sizeNow 1 = .ok (.istore_n 2, 1) := by decide +kernel
theorem dX8_sizeNow_2 : decode cX8_sizeNow 2 = .ok (.iconst 0, 1) := by decide +kernel
theorem dX8_sizeNow_3 : decode cX8_sizeNow 3 = .ok (.istore_n 3, 1) := by decide +kernel
theorem dX8_sizeNow_4 : decode cX8_sizeNow 4 = .ok (.iload_n 3, 1) := by decide +kernel
theorem dX8_sizeNow_5 : decode cX8_sizeNow 5 = .ok (.aload_n 0, 1) := by decide +kernel
theorem dX8_sizeNow_6 : decode cX8_sizeNow 6 = .ok (.getfield 82, 3) := by decide +kernel
theorem dX8_sizeNow_9 : decode cX8_sizeNow 9 = .ok (.if_icmp .ge 27, 3) := by decide +kernel
theorem dX8_sizeNow_12 : decode cX8_sizeNow 12 = .ok (.iload_n 2, 1) := by decide +kernel
theorem dX8_sizeNow_13 : decode cX8_sizeNow 13 = .ok (.aload_n 0, 1) := by decide +kernel
theorem dX8_sizeNow_14 : decode cX8_sizeNow 14 = .ok (.getfield 55, 3) := by decide +kernel
theorem dX8_sizeNow_17 : decode cX8_sizeNow 17 = .ok (.iload_n 3, 1) := by decide +kernel
theorem dX8_sizeNow_18 : decode cX8_sizeNow 18 = .ok (.iaload, 1) := by decide +kernel
theorem dX8_sizeNow_19 : decode cX8_sizeNow 19 = .ok (.iload_n 1, 1) := by decide +kernel
theorem dX8_sizeNow_20 : decode cX8_sizeNow 20 = .ok (.if_icmp .ne 7, 3) := by decide +kernel
theorem dX8_sizeNow_23 : decode cX8_sizeNow 23 = .ok (.iconst 1, 1) := by decide +kernel
theorem dX8_sizeNow_24 : decode cX8_sizeNow 24 = .ok (.goto 4, 3) := by decide +kernel
theorem dX8_sizeNow_27 : decode cX8_sizeNow 27 = .ok (.iconst 0, 1) := by decide +kernel
theorem dX8_sizeNow_28 : decode cX8_sizeNow 28 = .ok (.iadd, 1) := by decide +kernel
theorem dX8_sizeNow_29 : decode cX8_sizeNow 29 = .ok (.istore_n 2, 1) := by decide +kernel
theorem dX8_sizeNow_30 : decode cX8_sizeNow 30 = .ok (.iinc 3 1, 3) := by decide +kernel
theorem dX8_sizeNow_33 : decode cX8_sizeNow 33 = .ok (.goto (-29), 3) := by decide +kernel
theorem dX8_sizeNow_36 : decode cX8_sizeNow 36 = .ok (.iload_n 2, 1) := by decide +kernel
theorem dX8_sizeNow_37 : decode cX8_sizeNow 37 = .ok (.ireturn, 1) := by decide +kernel
theorem dX8_fill_0 : decode cX8_fill 0 = .ok (.aload_n 0, 1) := by decide +kernel
theorem dX8_fill_1 : decode cX8_fill 1 = .ok (.iload_n 1, 1) := by decide +kernel
theorem dX8_fill_2 : decode cX8_fill 2 = .ok (.invokevirtual 126, 3) := by decide +kernel
theorem dX8_fill_5 : decode cX8_fill 5 = .ok (.ifCond .le 4, 3) := by decide +kernel
theorem dX8_fill_8 : decode cX8_fill 8 = .ok (.return_, 1) := by decide +kernel
theorem dX8_fill_9 : decode cX8_fill 9 = .ok (.iconst (-1), 1) := by decide +kernel
theorem dX8_fill_10 : decode cX8_fill 10 = .ok (.istore_n 2, 1) := by decide +kernel
theorem dX8_fill_11 : decode cX8_fill 11 = .ok (.iconst 0, 1) := by decide +kernel
theorem dX8_fill_12 : decode cX8_fill 12 = .ok (.istore_n 3, 1) := by decide +kernel
theorem dX8_fill_13 : decode cX8_fill 13 = .ok (.iload_n 3, 1) := by decide +kernel
theorem dX8_fill_14 : decode cX8_fill 14 = .ok (.aload_n 0, 1) := by decide +kernel
theorem dX8_fill_15 : decode cX8_fill 15 = .ok (.getfield 82, 3) := by decide +kernel
theorem dX8_fill_18 : decode cX8_fill 18 = .ok (.if_icmp .ge 51, 3) := by decide +kernel
theorem dX8_fill_21 : decode cX8_fill 21 = .ok (.aload_n 0, 1) := by decide +kernel
theorem dX8_fill_22 : decode cX8_fill 22 = .ok (.aload_n 0, 1) := by decide +kernel
theorem dX8_fill_23 : decode cX8_fill 23 = .ok (.getfield 55, 3) := by decide +kernel
theorem dX8_fill_26 : decode cX8_fill 26 = .ok (.iload_n 3, 1) := by decide +kernel
theorem dX8_fill_27 : decode cX8_fill 27 = .ok (.iaload, 1) := by decide +kernel
theorem dX8_fill_28 : decode cX8_fill 28 = .ok (.invokevirtual 126, 3) := by decide +kernel
theorem dX8_fill_31 : decode cX8_fill 31 = .ok (.iconst 1, 1) := by decide +kernel
theorem dX8_fill_32 : decode cX8_fill 32 = .ok (.if_icmp .le 31, 3) := by decide +kernel
theorem dX8_fill_35 : decode cX8_fill 35 = .ok (.iload_n 2, 1) := by decide +kernel
theorem dX8_fill_36 : decode cX8_fill 36 = .ok (.iconst (-1), 1) := by decide +kernel
theorem dX8_fill_37 : decode cX8_fill 37 = .ok (.if_icmp .eq 24, 3) := by decide +kernel
theorem dX8_fill_40 : decode cX8_fill 40 = .ok (.aload_n 0, 1) := by decide +kernel
theorem dX8_fill_41 : decode cX8_fill 41 = .ok (.iload_n 2, 1) := by decide +kernel
theorem dX8_fill_42 : decode cX8_fill 42 = .ok (.aload_n 0, 1) := by decide +kernel
theorem dX8_fill_43 : decode cX8_fill 43 = .ok (.getfield 55, 3) := by decide +kernel
theorem dX8_fill_46 : decode cX8_fill 46 = .ok (.iload_n 2, 1) := by decide +kernel
theorem dX8_fill_47 : decode cX8_fill 47 = .ok (.iaload, 1) := by decide +kernel
theorem dX8_fill_48 : decode cX8_fill 48 = .ok (.iload_n 3, 1) := by decide +kernel
theorem dX8_fill_49 : decode cX8_fill 49 = .ok (.aload_n 0, 1) := by decide +kernel
theorem dX8_fill_50 : decode cX8_fill 50 = .ok (.getfield 55, 3) := by decide +kernel
theorem dX8_fill_53 : decode cX8_fill 53 = .ok (.iload_n 3, 1) := by decide +kernel
theorem dX8_fill_54 : decode cX8_fill 54 = .ok (.iaload, 1) := by decide +kernel
theorem dX8_fill_55 : decode cX8_fill 55 = .ok (.invokevirtual 130, 3) := by decide +kernel
theorem dX8_fill_58 : decode cX8_fill 58 = .ok (.ifCond .eq 5, 3) := by decide +kernel
theorem dX8_fill_61 : decode cX8_fill 61 = .ok (.iload_n 3, 1) := by decide +kernel
theorem dX8_fill_62 : decode cX8_fill 62 = .ok (.istore_n 2, 1) := by decide +kernel
theorem dX8_fill_63 : decode cX8_fill 63 = .ok (.iinc 3 1, 3) := by decide +kernel
theorem dX8_fill_66 : decode cX8_fill 66 = .ok (.goto (-53), 3) := by decide +kernel
theorem dX8_fill_69 : decode cX8_fill 69 = .ok (.aload_n 0, 1) := by decide +kernel
theorem dX8_fill_70 : decode cX8_fill 70 = .ok (.getfield 55, 3) := by decide +kernel
theorem dX8_fill_73 : decode cX8_fill 73 = .ok (.iload_n 2, 1) := by decide +kernel
theorem dX8_fill_74 : decode cX8_fill 74 = .ok (.iload_n 1, 1) := by decide +kernel
theorem dX8_fill_75 : decode cX8_fill 75 = .ok (.iastore, 1) := by decide +kernel
theorem dX8_fill_76 : decode cX8_fill 76 = .ok (.return_, 1) := by decide +kernel
theorem dX8_takeMeans_0 : decode cX8_takeMeans 0 = .ok (.iconst 0, 1) := by decide +kernel
theorem dX8_takeMeans_1 : decode cX8_takeMeans 1 = .ok (.istore_n 2, 1) := by decide +kernel
theorem dX8_takeMeans_2 : decode cX8_takeMeans 2 = .ok (.iload_n 2, 1) := by decide +kernel
theorem dX8_takeMeans_3 : decode cX8_takeMeans 3 = .ok (.iload_n 1, 1) := by decide +kernel
theorem dX8_takeMeans_4 : decode cX8_takeMeans 4 = .ok (.if_icmp .ge 105, 3) := by decide +kernel
theorem dX8_takeMeans_7 : decode cX8_takeMeans 7 = .ok (.aload_n 0, 1) := by decide +kernel
theorem dX8_takeMeans_8 : decode cX8_takeMeans 8 = .ok (.getfield 52, 3) := by decide +kernel
theorem dX8_takeMeans_11 : decode cX8_takeMeans 11 = .ok (.iload_n 2, 1) := by decide +kernel
theorem dX8_takeMeans_12 : decode cX8_takeMeans 12 = .ok (.aload_n 0, 1) := by decide +kernel
theorem dX8_takeMeans_13 : decode cX8_takeMeans 13 = .ok (.iload_n 2, 1) := by decide +kernel
theorem dX8_takeMeans_14 : decode cX8_takeMeans 14 = .ok (.invokevirtual 126, 3) := by decide +kernel
theorem dX8_takeMeans_17 : decode cX8_takeMeans 17 = .ok (.iastore, 1) := by decide +kernel
theorem dX8_takeMeans_18 : decode cX8_takeMeans 18 = .ok (.iconst 0, 1) := by decide +kernel
theorem dX8_takeMeans_19 : decode cX8_takeMeans 19 = .ok (.istore_n 3, 1) := by decide +kernel
theorem dX8_takeMeans_20 : decode cX8_takeMeans 20 = .ok (.iload_n 3, 1) := by decide +kernel
theorem dX8_takeMeans_21 : decode cX8_takeMeans 21 = .ok (.aload_n 0, 1) := by decide +kernel
theorem dX8_takeMeans_22 : decode cX8_takeMeans 22 = .ok (.getfield 7, 3) := by decide +kernel
theorem dX8_takeMeans_25 : decode cX8_takeMeans 25 = .ok (.if_icmp .ge 78, 3) := by decide +kernel
theorem dX8_takeMeans_28 : decode cX8_takeMeans 28 = .ok (.aload_n 0, 1) := by decide +kernel
theorem dX8_takeMeans_29 : decode cX8_takeMeans 29 = .ok (.getfield 49, 3) := by decide +kernel
theorem dX8_takeMeans_32 : decode cX8_takeMeans 32 = .ok (.iconst 4, 1) := by decide +kernel
theorem dX8_takeMeans_33 : decode cX8_takeMeans 33 = .ok (.iload_n 2, 1) := by decide +kernel
theorem dX8_takeMeans_34 : decode cX8_takeMeans 34 = .ok (.imul, 1) := by decide +kernel
theorem dX8_takeMeans_35 : decode cX8_takeMeans 35 = .ok (.iload_n 3, 1) := by decide +kernel
theorem dX8_takeMeans_36 : decode cX8_takeMeans 36 = .ok (.iadd, 1) := by decide +kernel
theorem dX8_takeMeans_37 : decode cX8_takeMeans 37 = .ok (.lconst 0, 1) := by decide +kernel
theorem dX8_takeMeans_38 : decode cX8_takeMeans 38 = .ok (.lastore, 1) := by decide +kernel
theorem dX8_takeMeans_39 : decode cX8_takeMeans 39 = .ok (.iconst 0, 1) := by decide +kernel
theorem dX8_takeMeans_40 : decode cX8_takeMeans 40 = .ok (.istore 4, 2) := by decide +kernel
theorem dX8_takeMeans_42 : decode cX8_takeMeans 42 = .ok (.iload 4, 2) := by decide +kernel
theorem dX8_takeMeans_44 : decode cX8_takeMeans 44 = .ok (.aload_n 0, 1) := by decide +kernel
theorem dX8_takeMeans_45 : decode cX8_takeMeans 45 = .ok (.getfield 82, 3) := by decide +kernel
theorem dX8_takeMeans_48 : decode cX8_takeMeans 48 = .ok (.if_icmp .ge 49, 3) := by decide +kernel
theorem dX8_takeMeans_51 : decode cX8_takeMeans 51 = .ok (.aload_n 0, 1) := by decide +kernel
theorem dX8_takeMeans_52 : decode cX8_takeMeans 52 = .ok (.getfield 49, 3) := by decide +kernel
theorem dX8_takeMeans_55 : decode cX8_takeMeans 55 = .ok (.iconst 4, 1) := by decide +kernel
theorem dX8_takeMeans_56 : decode cX8_takeMeans 56 = .ok (.iload_n 2, 1) := by decide +kernel
theorem dX8_takeMeans_57 : decode cX8_takeMeans 57 = .ok (.imul, 1) := by decide +kernel
theorem dX8_takeMeans_58 : decode cX8_takeMeans 58 = .ok (.iload_n 3, 1) := by decide +kernel
theorem dX8_takeMeans_59 : decode cX8_takeMeans 59 = .ok (.iadd, 1) := by decide +kernel
theorem dX8_takeMeans_60 : decode cX8_takeMeans 60 = .ok (.dup2, 1) := by decide +kernel
theorem dX8_takeMeans_61 : decode cX8_takeMeans 61 = .ok (.laload, 1) := by decide +kernel
theorem dX8_takeMeans_62 : decode cX8_takeMeans 62 = .ok (.aload_n 0, 1) := by decide +kernel
theorem dX8_takeMeans_63 : decode cX8_takeMeans 63 = .ok (.getfield 55, 3) := by decide +kernel
theorem dX8_takeMeans_66 : decode cX8_takeMeans 66 = .ok (.iload 4, 2) := by decide +kernel
theorem dX8_takeMeans_68 : decode cX8_takeMeans 68 = .ok (.iaload, 1) := by decide +kernel
theorem dX8_takeMeans_69 : decode cX8_takeMeans 69 = .ok (.iload_n 2, 1) := by decide +kernel
theorem dX8_takeMeans_70 : decode cX8_takeMeans 70 = .ok (.if_icmp .ne 18, 3) := by decide +kernel
theorem dX8_takeMeans_73 : decode cX8_takeMeans 73 = .ok (.aload_n 0, 1) := by decide +kernel
theorem dX8_takeMeans_74 : decode cX8_takeMeans 74 = .ok (.getfield 13, 3) := by decide +kernel
theorem dX8_takeMeans_77 : decode cX8_takeMeans 77 = .ok (.iconst 4, 1) := by decide +kernel
theorem dX8_takeMeans_78 : decode cX8_takeMeans 78 = .ok (.iload 4, 2) := by decide +kernel
theorem dX8_takeMeans_80 : decode cX8_takeMeans 80 = .ok (.imul, 1) := by decide +kernel
theorem dX8_takeMeans_81 : decode cX8_takeMeans 81 = .ok (.iload_n 3, 1) := by decide +kernel
theorem dX8_takeMeans_82 : decode cX8_takeMeans 82 = .ok (.iadd, 1) := by decide +kernel
theorem dX8_takeMeans_83 : decode cX8_takeMeans 83 = .ok (.iaload, 1) := by decide +kernel
theorem dX8_takeMeans_84 : decode cX8_takeMeans 84 = .ok (.i2l, 1) := by decide +kernel
theorem dX8_takeMeans_85 : decode cX8_takeMeans 85 = .ok (.goto 4, 3) := by decide +kernel
theorem dX8_takeMeans_88 : decode cX8_takeMeans 88 = .ok (.lconst 0, 1) := by decide +kernel
theorem dX8_takeMeans_89 : decode cX8_takeMeans 89 = .ok (.ladd, 1) := by decide +kernel
theorem dX8_takeMeans_90 : decode cX8_takeMeans 90 = .ok (.lastore, 1) := by decide +kernel
theorem dX8_takeMeans_91 : decode cX8_takeMeans 91 = .ok (.iinc 4 1, 3) := by decide +kernel
theorem dX8_takeMeans_94 : decode cX8_takeMeans 94 = .ok (.goto (-52), 3) := by decide +kernel
theorem dX8_takeMeans_97 : decode cX8_takeMeans 97 = .ok (.iinc 3 1, 3) := by decide +kernel
theorem dX8_takeMeans_100 : decode cX8_takeMeans 100 = .ok (.goto (-80), 3) := by decide +kernel
theorem dX8_takeMeans_103 : decode cX8_takeMeans 103 = .ok (.iinc 2 1, 3) := by decide +kernel
theorem dX8_takeMeans_106 : decode cX8_takeMeans 106 = .ok (.goto (-104), 3) := by decide +kernel
theorem dX8_takeMeans_109 : decode cX8_takeMeans 109 = .ok (.return_, 1) := by decide +kernel
theorem dX8_means_0 : decode cX8_means 0 = .ok (.iload_n 1, 1) := by decide +kernel
theorem dX8_means_1 : decode cX8_means 1 = .ok (.iconst 0, 1) := by decide +kernel
theorem dX8_means_2 : decode cX8_means 2 = .ok (.iconst 1, 1) := by decide +kernel
theorem dX8_means_3 : decode cX8_means 3 = .ok (.invokestatic 85, 3) := by decide +kernel
theorem dX8_means_6 : decode cX8_means 6 = .ok (.ifCond .eq 13, 3) := by decide +kernel
theorem dX8_means_9 : decode cX8_means 9 = .ok (.iload_n 2, 1) := by decide +kernel
theorem dX8_means_10 : decode cX8_means 10 = .ok (.iconst 1, 1) := by decide +kernel
theorem dX8_means_11 : decode cX8_means 11 = .ok (.bipush 6, 2) := by decide +kernel
theorem dX8_means_13 : decode cX8_means 13 = .ok (.invokestatic 85, 3) := by decide +kernel
theorem dX8_means_16 : decode cX8_means 16 = .ok (.ifCond .ne 6, 3) := by decide +kernel
theorem dX8_means_19 : decode cX8_means 19 = .ok (.ldc 96, 2) := by decide +kernel
theorem dX8_means_21 : decode cX8_means 21 = .ok (.ireturn, 1) := by decide +kernel
theorem dX8_means_22 : decode cX8_means 22 = .ok (.aload_n 0, 1) := by decide +kernel
theorem dX8_means_23 : decode cX8_means 23 = .ok (.getfield 82, 3) := by decide +kernel
theorem dX8_means_26 : decode cX8_means 26 = .ok (.iload_n 2, 1) := by decide +kernel
theorem dX8_means_27 : decode cX8_means 27 = .ok (.if_icmp .ge 6, 3) := by decide +kernel
theorem dX8_means_30 : decode cX8_means 30 = .ok (.ldc 97, 2) := by decide +kernel
theorem dX8_means_32 : decode cX8_means 32 = .ok (.ireturn, 1) := by decide +kernel
theorem dX8_means_33 : decode cX8_means 33 = .ok (.aload_n 0, 1) := by decide +kernel
theorem dX8_means_34 : decode cX8_means 34 = .ok (.iload_n 2, 1) := by decide +kernel
theorem dX8_means_35 : decode cX8_means 35 = .ok (.invokevirtual 134, 3) := by decide +kernel
theorem dX8_means_38 : decode cX8_means 38 = .ok (.iconst 0, 1) := by decide +kernel
theorem dX8_means_39 : decode cX8_means 39 = .ok (.istore_n 3, 1) := by decide +kernel
theorem dX8_means_40 : decode cX8_means 40 = .ok (.iload_n 3, 1) := by decide +kernel
theorem dX8_means_41 : decode cX8_means 41 = .ok (.aload_n 0, 1) := by decide +kernel
theorem dX8_means_42 : decode cX8_means 42 = .ok (.getfield 82, 3) := by decide +kernel
theorem dX8_means_45 : decode cX8_means 45 = .ok (.if_icmp .ge 21, 3) := by decide +kernel
theorem dX8_means_48 : decode cX8_means 48 = .ok (.aload_n 0, 1) := by decide +kernel
theorem dX8_means_49 : decode cX8_means 49 = .ok (.getfield 24, 3) := by decide +kernel
theorem dX8_means_52 : decode cX8_means 52 = .ok (.bipush 30, 2) := by decide +kernel
theorem dX8_means_54 : decode cX8_means 54 = .ok (.iload_n 1, 1) := by decide +kernel
theorem dX8_means_55 : decode cX8_means 55 = .ok (.imul, 1) := by decide +kernel
theorem dX8_means_56 : decode cX8_means 56 = .ok (.iload_n 3, 1) := by decide +kernel
theorem dX8_means_57 : decode cX8_means 57 = .ok (.iadd, 1) := by decide +kernel
theorem dX8_means_58 : decode cX8_means 58 = .ok (.iconst (-1), 1) := by decide +kernel
theorem dX8_means_59 : decode cX8_means 59 = .ok (.iastore, 1) := by decide +kernel
theorem dX8_means_60 : decode cX8_means 60 = .ok (.iinc 3 1, 3) := by decide +kernel
theorem dX8_means_63 : decode cX8_means 63 = .ok (.goto (-23), 3) := by decide +kernel
theorem dX8_means_66 : decode cX8_means 66 = .ok (.iconst 0, 1) := by decide +kernel
theorem dX8_means_67 : decode cX8_means 67 = .ok (.istore_n 3, 1) := by decide +kernel
theorem dX8_means_68 : decode cX8_means 68 = .ok (.iconst 1, 1) := by decide +kernel
theorem dX8_means_69 : decode cX8_means 69 = .ok (.istore 4, 2) := by decide +kernel
theorem dX8_means_71 : decode cX8_means 71 = .ok (.iload 4, 2) := by decide +kernel
theorem dX8_means_73 : decode cX8_means 73 = .ok (.ifCond .eq 195, 3) := by decide +kernel
theorem dX8_means_76 : decode cX8_means 76 = .ok (.iload_n 3, 1) := by decide +kernel
theorem dX8_means_77 : decode cX8_means 77 = .ok (.bipush 60, 2) := by decide +kernel
theorem dX8_means_79 : decode cX8_means 79 = .ok (.if_icmp .ge 189, 3) := by decide +kernel
theorem dX8_means_82 : decode cX8_means 82 = .ok (.iinc 3 1, 3) := by decide +kernel
theorem dX8_means_85 : decode cX8_means 85 = .ok (.iconst 0, 1) := by decide +kernel
theorem dX8_means_86 : decode cX8_means 86 = .ok (.istore 5, 2) := by decide +kernel
theorem dX8_means_88 : decode cX8_means 88 = .ok (.iload 5, 2) := by decide +kernel
theorem dX8_means_90 : decode cX8_means 90 = .ok (.aload_n 0, 1) := by decide +kernel
theorem dX8_means_91 : decode cX8_means 91 = .ok (.getfield 82, 3) := by decide +kernel
theorem dX8_means_94 : decode cX8_means 94 = .ok (.if_icmp .ge 71, 3) := by decide +kernel
theorem dX8_means_97 : decode cX8_means 97 = .ok (.aload_n 0, 1) := by decide +kernel
theorem dX8_means_98 : decode cX8_means 98 = .ok (.getfield 55, 3) := by decide +kernel
theorem dX8_means_101 : decode cX8_means 101 = .ok (.iload 5, 2) := by decide +kernel
theorem dX8_means_103 : decode cX8_means 103 = .ok (.iconst 0, 1) := by decide +kernel
theorem dX8_means_104 : decode cX8_means 104 = .ok (.iastore, 1) := by decide +kernel
theorem dX8_means_105 : decode cX8_means 105 = .ok (.iconst 1, 1) := by decide +kernel
theorem dX8_means_106 : decode cX8_means 106 = .ok (.istore 6, 2) := by decide +kernel
theorem dX8_means_108 : decode cX8_means 108 = .ok (.iload 6, 2) := by decide +kernel
theorem dX8_means_110 : decode cX8_means 110 = .ok (.iload_n 2, 1) := by decide +kernel
theorem dX8_means_111 : decode cX8_means 111 = .ok (.if_icmp .ge 48, 3) := by decide +kernel
theorem dX8_means_114 : decode cX8_means 114 = .ok (.aload_n 0, 1) := by decide +kernel
theorem dX8_means_115 : decode cX8_means 115 = .ok (.getfield 55, 3) := by decide +kernel
theorem dX8_means_118 : decode cX8_means 118 = .ok (.iload 5, 2) := by decide +kernel
theorem dX8_means_120 : decode cX8_means 120 = .ok (.aload_n 0, 1) := by decide +kernel
theorem dX8_means_121 : decode cX8_means 121 = .ok (.iload 5, 2) := by decide +kernel
theorem dX8_means_123 : decode cX8_means 123 = .ok (.iload 6, 2) := by decide +kernel
theorem dX8_means_125 : decode cX8_means 125 = .ok (.iload 5, 2) := by decide +kernel
theorem dX8_means_127 : decode cX8_means 127 = .ok (.aload_n 0, 1) := by decide +kernel
theorem dX8_means_128 : decode cX8_means 128 = .ok (.getfield 55, 3) := by decide +kernel
theorem dX8_means_131 : decode cX8_means 131 = .ok (.iload 5, 2) := by decide +kernel
theorem dX8_means_133 : decode cX8_means 133 = .ok (.iaload, 1) := by decide +kernel
theorem dX8_means_134 : decode cX8_means 134 = .ok (.invokevirtual 130, 3) := by decide +kernel
theorem dX8_means_137 : decode cX8_means 137 = .ok (.ifCond .eq 8, 3) := by decide +kernel
theorem dX8_means_140 : decode cX8_means 140 = .ok (.iload 6, 2) := by decide +kernel
theorem dX8_means_142 : decode cX8_means 142 = .ok (.goto 10, 3) := by decide +kernel
theorem dX8_means_145 : decode cX8_means 145 = .ok (.aload_n 0, 1) := by decide +kernel
theorem dX8_means_146 : decode cX8_means 146 = .ok (.getfield 55, 3) := by decide +kernel
theorem dX8_means_149 : decode cX8_means 149 = .ok (.iload 5, 2) := by decide +kernel
theorem dX8_means_151 : decode cX8_means 151 = .ok (.iaload, 1) := by decide +kernel
theorem dX8_means_152 : decode cX8_means 152 = .ok (.iastore, 1) := by decide +kernel
theorem dX8_means_153 : decode cX8_means 153 = .ok (.iinc 6 1, 3) := by decide +kernel
theorem dX8_means_156 : decode cX8_means 156 = .ok (.goto (-48), 3) := by decide +kernel
theorem dX8_means_159 : decode cX8_means 159 = .ok (.iinc 5 1, 3) := by decide +kernel
theorem dX8_means_162 : decode cX8_means 162 = .ok (.goto (-74), 3) := by decide +kernel
theorem dX8_means_165 : decode cX8_means 165 = .ok (.iconst 0, 1) := by decide +kernel
theorem dX8_means_166 : decode cX8_means 166 = .ok (.istore 5, 2) := by decide +kernel
theorem dX8_means_168 : decode cX8_means 168 = .ok (.iload 5, 2) := by decide +kernel
theorem dX8_means_170 : decode cX8_means 170 = .ok (.iload_n 2, 1) := by decide +kernel
theorem dX8_means_171 : decode cX8_means 171 = .ok (.if_icmp .ge 15, 3) := by decide +kernel
theorem dX8_means_174 : decode cX8_means 174 = .ok (.aload_n 0, 1) := by decide +kernel
theorem dX8_means_175 : decode cX8_means 175 = .ok (.iload 5, 2) := by decide +kernel
theorem dX8_means_177 : decode cX8_means 177 = .ok (.invokevirtual 137, 3) := by decide +kernel
theorem dX8_means_180 : decode cX8_means 180 = .ok (.iinc 5 1, 3) := by decide +kernel
theorem dX8_means_183 : decode cX8_means 183 = .ok (.goto (-15), 3) := by decide +kernel
theorem dX8_means_186 : decode cX8_means 186 = .ok (.iconst 0, 1) := by decide +kernel
theorem dX8_means_187 : decode cX8_means 187 = .ok (.istore 4, 2) := by decide +kernel
theorem dX8_means_189 : decode cX8_means 189 = .ok (.iconst 0, 1) := by decide +kernel
theorem dX8_means_190 : decode cX8_means 190 = .ok (.istore 5, 2) := by decide +kernel
theorem dX8_means_192 : decode cX8_means 192 = .ok (.iload 5, 2) := by decide +kernel
theorem dX8_means_194 : decode cX8_means 194 = .ok (.aload_n 0, 1) := by decide +kernel
theorem dX8_means_195 : decode cX8_means 195 = .ok (.getfield 82, 3) := by decide +kernel
theorem dX8_means_198 : decode cX8_means 198 = .ok (.if_icmp .ge 62, 3) := by decide +kernel
theorem dX8_means_201 : decode cX8_means 201 = .ok (.iload 4, 2) := by decide +kernel
theorem dX8_means_203 : decode cX8_means 203 = .ok (.ifCond .ne 25, 3) := by decide +kernel
theorem dX8_means_206 : decode cX8_means 206 = .ok (.aload_n 0, 1) := by decide +kernel
theorem dX8_means_207 : decode cX8_means 207 = .ok (.getfield 24, 3) := by decide +kernel
theorem dX8_means_210 : decode cX8_means 210 = .ok (.bipush 30, 2) := by decide +kernel
theorem dX8_means_212 : decode cX8_means 212 = .ok (.iload_n 1, 1) := by decide +kernel
theorem dX8_means_213 : decode cX8_means 213 = .ok (.imul, 1) := by decide +kernel
theorem dX8_means_214 : decode cX8_means 214 = .ok (.iload 5, 2) := by decide +kernel
theorem dX8_means_216 : decode cX8_means 216 = .ok (.iadd, 1) := by decide +kernel
theorem dX8_means_217 : decode cX8_means 217 = .ok (.iaload, 1) := by decide +kernel
theorem dX8_means_218 : decode cX8_means 218 = .ok (.aload_n 0, 1) := by decide +kernel
theorem dX8_means_219 : decode cX8_means 219 = .ok (.getfield 55, 3) := by decide +kernel
theorem dX8_means_222 : decode cX8_means 222 = .ok (.iload 5, 2) := by decide +kernel
theorem dX8_means_224 : decode cX8_means 224 = .ok (.iaload, 1) := by decide +kernel
theorem dX8_means_225 : decode cX8_means 225 = .ok (.if_icmp .eq 7, 3) := by decide +kernel
theorem dX8_means_228 : decode cX8_means 228 = .ok (.iconst 1, 1) := by decide +kernel
theorem dX8_means_229 : decode cX8_means 229 = .ok (.goto 4, 3) := by decide +kernel
theorem dX8_means_232 : decode cX8_means 232 = .ok (.iconst 0, 1) := by decide +kernel
theorem dX8_means_233 : decode cX8_means 233 = .ok (.istore 4, 2) := by decide +kernel
theorem dX8_means_235 : decode cX8_means 235 = .ok (.aload_n 0, 1) := by decide +kernel
theorem dX8_means_236 : decode cX8_means 236 = .ok (.getfield 24, 3) := by decide +kernel
theorem dX8_means_239 : decode cX8_means 239 = .ok (.bipush 30, 2) := by decide +kernel
theorem dX8_means_241 : decode cX8_means 241 = .ok (.iload_n 1, 1) := by decide +kernel
theorem dX8_means_242 : decode cX8_means 242 = .ok (.imul, 1) := by decide +kernel
theorem dX8_means_243 : decode cX8_means 243 = .ok (.iload 5, 2) := by decide +kernel
theorem dX8_means_245 : decode cX8_means 245 = .ok (.iadd, 1) := by decide +kernel
theorem dX8_means_246 : decode cX8_means 246 = .ok (.aload_n 0, 1) := by decide +kernel
theorem dX8_means_247 : decode cX8_means 247 = .ok (.getfield 55, 3) := by decide +kernel
theorem dX8_means_250 : decode cX8_means 250 = .ok (.iload 5, 2) := by decide +kernel
theorem dX8_means_252 : decode cX8_means 252 = .ok (.iaload, 1) := by decide +kernel
theorem dX8_means_253 : decode cX8_means 253 = .ok (.iastore, 1) := by decide +kernel
theorem dX8_means_254 : decode cX8_means 254 = .ok (.iinc 5 1, 3) := by decide +kernel
theorem dX8_means_257 : decode cX8_means 257 = .ok (.goto (-65), 3) := by decide +kernel
theorem dX8_means_260 : decode cX8_means 260 = .ok (.aload_n 0, 1) := by decide +kernel
theorem dX8_means_261 : decode cX8_means 261 = .ok (.iload_n 2, 1) := by decide +kernel
theorem dX8_means_262 : decode cX8_means 262 = .ok (.invokevirtual 140, 3) := by decide +kernel
theorem dX8_means_265 : decode cX8_means 265 = .ok (.goto (-194), 3) := by decide +kernel
theorem dX8_means_268 : decode cX8_means 268 = .ok (.aload_n 0, 1) := by decide +kernel
theorem dX8_means_269 : decode cX8_means 269 = .ok (.getfield 21, 3) := by decide +kernel
theorem dX8_means_272 : decode cX8_means 272 = .ok (.iload_n 1, 1) := by decide +kernel
theorem dX8_means_273 : decode cX8_means 273 = .ok (.iload_n 2, 1) := by decide +kernel
theorem dX8_means_274 : decode cX8_means 274 = .ok (.iastore, 1) := by decide +kernel
theorem dX8_means_275 : decode cX8_means 275 = .ok (.aload_n 0, 1) := by decide +kernel
theorem dX8_means_276 : decode cX8_means 276 = .ok (.getfield 17, 3) := by decide +kernel
theorem dX8_means_279 : decode cX8_means 279 = .ok (.iload_n 1, 1) := by decide +kernel
theorem dX8_means_280 : decode cX8_means 280 = .ok (.iconst 1, 1) := by decide +kernel
theorem dX8_means_281 : decode cX8_means 281 = .ok (.bastore, 1) := by decide +kernel
theorem dX8_means_282 : decode cX8_means 282 = .ok (.iload_n 3, 1) := by decide +kernel
theorem dX8_means_283 : decode cX8_means 283 = .ok (.ireturn, 1) := by decide +kernel
theorem dX8_nearestOf_0 : decode cX8_nearestOf 0 = .ok (.aload_n 0, 1) := by decide +kernel
theorem dX8_nearestOf_1 : decode cX8_nearestOf 1 = .ok (.getfield 46, 3) := by decide +kernel
theorem dX8_nearestOf_4 : decode cX8_nearestOf 4 = .ok (.bipush 30, 2) := by decide +kernel
theorem dX8_nearestOf_6 : decode cX8_nearestOf 6 = .ok (.iload_n 1, 1) := by decide +kernel
theorem dX8_nearestOf_7 : decode cX8_nearestOf 7 = .ok (.imul, 1) := by decide +kernel
theorem dX8_nearestOf_8 : decode cX8_nearestOf 8 = .ok (.iload_n 3, 1) := by decide +kernel
theorem dX8_nearestOf_9 : decode cX8_nearestOf 9 = .ok (.iadd, 1) := by decide +kernel
theorem dX8_nearestOf_10 : decode cX8_nearestOf 10 = .ok (.iaload, 1) := by decide +kernel
theorem dX8_nearestOf_11 : decode cX8_nearestOf 11 = .ok (.istore 6, 2) := by decide +kernel
theorem dX8_nearestOf_13 : decode cX8_nearestOf 13 = .ok (.iload_n 2, 1) := by decide +kernel
theorem dX8_nearestOf_14 : decode cX8_nearestOf 14 = .ok (.iconst 1, 1) := by decide +kernel
theorem dX8_nearestOf_15 : decode cX8_nearestOf 15 = .ok (.if_icmp .le 18, 3) := by decide +kernel
theorem dX8_nearestOf_18 : decode cX8_nearestOf 18 = .ok (.aload_n 0, 1) := by decide +kernel
theorem dX8_nearestOf_19 : decode cX8_nearestOf 19 = .ok (.getfield 46, 3) := by decide +kernel
theorem dX8_nearestOf_22 : decode cX8_nearestOf 22 = .ok (.bipush 30, 2) := by decide +kernel
theorem dX8_nearestOf_24 : decode cX8_nearestOf 24 = .ok (.iload_n 1, 1) := by decide +kernel
theorem dX8_nearestOf_25 : decode cX8_nearestOf 25 = .ok (.imul, 1) := by decide +kernel
theorem dX8_nearestOf_26 : decode cX8_nearestOf 26 = .ok (.iload 4, 2) := by decide +kernel
theorem dX8_nearestOf_28 : decode cX8_nearestOf 28 = .ok (.iadd, 1) := by decide +kernel
theorem dX8_nearestOf_29 : decode cX8_nearestOf 29 = .ok (.iaload, 1) := by decide +kernel
theorem dX8_nearestOf_30 : decode cX8_nearestOf 30 = .ok (.goto 5, 3) := by decide +kernel
theorem dX8_nearestOf_33 : decode cX8_nearestOf 33 = .ok (.iload 6, 2) := by decide +kernel
theorem dX8_nearestOf_35 : decode cX8_nearestOf 35 = .ok (.istore 7, 2) := by decide +kernel
theorem dX8_nearestOf_37 : decode cX8_nearestOf 37 = .ok (.iload 7, 2) := by decide +kernel
theorem dX8_nearestOf_39 : decode cX8_nearestOf 39 = .ok (.iload 6, 2) := by decide +kernel
theorem dX8_nearestOf_41 : decode cX8_nearestOf 41 = .ok (.if_icmp .ge 8, 3) := by decide +kernel
theorem dX8_nearestOf_44 : decode cX8_nearestOf 44 = .ok (.iload 7, 2) := by decide +kernel
theorem dX8_nearestOf_46 : decode cX8_nearestOf 46 = .ok (.goto 5, 3) := by decide +kernel
theorem dX8_nearestOf_49 : decode cX8_nearestOf 49 = .ok (.iload 6, 2) := by decide +kernel
theorem dX8_nearestOf_51 : decode cX8_nearestOf 51 = .ok (.istore 6, 2) := by decide +kernel
theorem dX8_nearestOf_53 : decode cX8_nearestOf 53 = .ok (.iload_n 2, 1) := by decide +kernel
theorem dX8_nearestOf_54 : decode cX8_nearestOf 54 = .ok (.iconst 2, 1) := by decide +kernel
theorem dX8_nearestOf_55 : decode cX8_nearestOf 55 = .ok (.if_icmp .le 18, 3) := by decide +kernel
theorem dX8_nearestOf_58 : decode cX8_nearestOf 58 = .ok (.aload_n 0, 1) := by decide +kernel
theorem dX8_nearestOf_59 : decode cX8_nearestOf 59 = .ok (.getfield 46, 3) := by decide +kernel
theorem dX8_nearestOf_62 : decode cX8_nearestOf 62 = .ok (.bipush 30, 2) := by decide +kernel
theorem dX8_nearestOf_64 : decode cX8_nearestOf 64 = .ok (.iload_n 1, 1) := by decide +kernel
theorem dX8_nearestOf_65 : decode cX8_nearestOf 65 = .ok (.imul, 1) := by decide +kernel
theorem dX8_nearestOf_66 : decode cX8_nearestOf 66 = .ok (.iload 5, 2) := by decide +kernel
theorem dX8_nearestOf_68 : decode cX8_nearestOf 68 = .ok (.iadd, 1) := by decide +kernel
theorem dX8_nearestOf_69 : decode cX8_nearestOf 69 = .ok (.iaload, 1) := by decide +kernel
theorem dX8_nearestOf_70 : decode cX8_nearestOf 70 = .ok (.goto 5, 3) := by decide +kernel
theorem dX8_nearestOf_73 : decode cX8_nearestOf 73 = .ok (.iload 6, 2) := by decide +kernel
theorem dX8_nearestOf_75 : decode cX8_nearestOf 75 = .ok (.istore 7, 2) := by decide +kernel
theorem dX8_nearestOf_77 : decode cX8_nearestOf 77 = .ok (.iload 7, 2) := by decide +kernel
theorem dX8_nearestOf_79 : decode cX8_nearestOf 79 = .ok (.iload 6, 2) := by decide +kernel
theorem dX8_nearestOf_81 : decode cX8_nearestOf 81 = .ok (.if_icmp .ge 8, 3) := by decide +kernel
theorem dX8_nearestOf_84 : decode cX8_nearestOf 84 = .ok (.iload 7, 2) := by decide +kernel
theorem dX8_nearestOf_86 : decode cX8_nearestOf 86 = .ok (.goto 5, 3) := by decide +kernel
theorem dX8_nearestOf_89 : decode cX8_nearestOf 89 = .ok (.iload 6, 2) := by decide +kernel
theorem dX8_nearestOf_91 : decode cX8_nearestOf 91 = .ok (.ireturn, 1) := by decide +kernel
theorem dX8_sumOf_0 : decode cX8_sumOf 0 = .ok (.iconst 0, 1) := by decide +kernel
theorem dX8_sumOf_1 : decode cX8_sumOf 1 = .ok (.istore 5, 2) := by decide +kernel
theorem dX8_sumOf_3 : decode cX8_sumOf 3 = .ok (.iconst 0, 1) := by decide +kernel
theorem dX8_sumOf_4 : decode cX8_sumOf 4 = .ok (.istore 6, 2) := by decide +kernel
theorem dX8_sumOf_6 : decode cX8_sumOf 6 = .ok (.iload 6, 2) := by decide +kernel
theorem dX8_sumOf_8 : decode cX8_sumOf 8 = .ok (.aload_n 0, 1) := by decide +kernel
theorem dX8_sumOf_9 : decode cX8_sumOf 9 = .ok (.getfield 82, 3) := by decide +kernel
theorem dX8_sumOf_12 : decode cX8_sumOf 12 = .ok (.if_icmp .ge 25, 3) := by decide +kernel
theorem dX8_sumOf_15 : decode cX8_sumOf 15 = .ok (.iload 5, 2) := by decide +kernel
theorem dX8_sumOf_17 : decode cX8_sumOf 17 = .ok (.aload_n 0, 1) := by decide +kernel
theorem dX8_sumOf_18 : decode cX8_sumOf 18 = .ok (.iload 6, 2) := by decide +kernel
theorem dX8_sumOf_20 : decode cX8_sumOf 20 = .ok (.iload_n 1, 1) := by decide +kernel
theorem dX8_sumOf_21 : decode cX8_sumOf 21 = .ok (.iload_n 2, 1) := by decide +kernel
theorem dX8_sumOf_22 : decode cX8_sumOf 22 = .ok (.iload_n 3, 1) := by decide +kernel
theorem dX8_sumOf_23 : decode cX8_sumOf 23 = .ok (.iload 4, 2) := by decide +kernel
theorem dX8_sumOf_25 : decode cX8_sumOf 25 = .ok (.invokevirtual 143, 3) := by decide +kernel
theorem dX8_sumOf_28 : decode cX8_sumOf 28 = .ok (.iadd, 1) := by decide +kernel
theorem dX8_sumOf_29 : decode cX8_sumOf 29 = .ok (.istore 5, 2) := by decide +kernel
theorem dX8_sumOf_31 : decode cX8_sumOf 31 = .ok (.iinc 6 1, 3) := by decide +kernel
theorem dX8_sumOf_34 : decode cX8_sumOf 34 = .ok (.goto (-28), 3) := by decide +kernel
theorem dX8_sumOf_37 : decode cX8_sumOf 37 = .ok (.iload 5, 2) := by decide +kernel
theorem dX8_sumOf_39 : decode cX8_sumOf 39 = .ok (.ireturn, 1) := by decide +kernel
theorem dX8_medoids_0 : decode cX8_medoids 0 = .ok (.iload_n 1, 1) := by decide +kernel
theorem dX8_medoids_1 : decode cX8_medoids 1 = .ok (.iconst 0, 1) := by decide +kernel
theorem dX8_medoids_2 : decode cX8_medoids 2 = .ok (.iconst 1, 1) := by decide +kernel
theorem dX8_medoids_3 : decode cX8_medoids 3 = .ok (.invokestatic 85, 3) := by decide +kernel
theorem dX8_medoids_6 : decode cX8_medoids 6 = .ok (.ifCond .eq 21, 3) := by decide +kernel
theorem dX8_medoids_9 : decode cX8_medoids 9 = .ok (.iload_n 2, 1) := by decide +kernel
theorem dX8_medoids_10 : decode cX8_medoids 10 = .ok (.iconst 0, 1) := by decide +kernel
theorem dX8_medoids_11 : decode cX8_medoids 11 = .ok (.iconst 2, 1) := by decide +kernel
theorem dX8_medoids_12 : decode cX8_medoids 12 = .ok (.invokestatic 85, 3) := by decide +kernel
theorem dX8_medoids_15 : decode cX8_medoids 15 = .ok (.ifCond .eq 12, 3) := by decide +kernel
theorem dX8_medoids_18 : decode cX8_medoids 18 = .ok (.iload_n 3, 1) := by decide +kernel
theorem dX8_medoids_19 : decode cX8_medoids 19 = .ok (.iconst 1, 1) := by decide +kernel
theorem dX8_medoids_20 : decode cX8_medoids 20 = .ok (.iconst 3, 1) := by decide +kernel
theorem dX8_medoids_21 : decode cX8_medoids 21 = .ok (.invokestatic 85, 3) := by decide +kernel
theorem dX8_medoids_24 : decode cX8_medoids 24 = .ok (.ifCond .ne 6, 3) := by decide +kernel
theorem dX8_medoids_27 : decode cX8_medoids 27 = .ok (.ldc 96, 2) := by decide +kernel
theorem dX8_medoids_29 : decode cX8_medoids 29 = .ok (.ireturn, 1) := by decide +kernel
theorem dX8_medoids_30 : decode cX8_medoids 30 = .ok (.aload_n 0, 1) := by decide +kernel
theorem dX8_medoids_31 : decode cX8_medoids 31 = .ok (.getfield 82, 3) := by decide +kernel
theorem dX8_medoids_34 : decode cX8_medoids 34 = .ok (.iload_n 3, 1) := by decide +kernel
theorem dX8_medoids_35 : decode cX8_medoids 35 = .ok (.if_icmp .ge 6, 3) := by decide +kernel
theorem dX8_medoids_38 : decode cX8_medoids 38 = .ok (.ldc 97, 2) := by decide +kernel
theorem dX8_medoids_40 : decode cX8_medoids 40 = .ok (.ireturn, 1) := by decide +kernel
theorem dX8_medoids_41 : decode cX8_medoids 41 = .ok (.aload_n 0, 1) := by decide +kernel
theorem dX8_medoids_42 : decode cX8_medoids 42 = .ok (.iload_n 2, 1) := by decide +kernel
theorem dX8_medoids_43 : decode cX8_medoids 43 = .ok (.invokevirtual 114, 3) := by decide +kernel
theorem dX8_medoids_46 : decode cX8_medoids 46 = .ok (.iconst (-1), 1) := by decide +kernel
theorem dX8_medoids_47 : decode cX8_medoids 47 = .ok (.istore 4, 2) := by decide +kernel
theorem dX8_medoids_49 : decode cX8_medoids 49 = .ok (.iconst 0, 1) := by decide +kernel
theorem dX8_medoids_50 : decode cX8_medoids 50 = .ok (.istore 5, 2) := by decide +kernel
theorem dX8_medoids_52 : decode cX8_medoids 52 = .ok (.iload 5, 2) := by decide +kernel
theorem dX8_medoids_54 : decode cX8_medoids 54 = .ok (.aload_n 0, 1) := by decide +kernel
theorem dX8_medoids_55 : decode cX8_medoids 55 = .ok (.getfield 82, 3) := by decide +kernel
theorem dX8_medoids_58 : decode cX8_medoids 58 = .ok (.if_icmp .ge 133, 3) := by decide +kernel
theorem dX8_medoids_61 : decode cX8_medoids 61 = .ok (.iload_n 3, 1) := by decide +kernel
theorem dX8_medoids_62 : decode cX8_medoids 62 = .ok (.iconst 1, 1) := by decide +kernel
theorem dX8_medoids_63 : decode cX8_medoids 63 = .ok (.if_icmp .le 10, 3) := by decide +kernel
theorem dX8_medoids_66 : decode cX8_medoids 66 = .ok (.iload 5, 2) := by decide +kernel
theorem dX8_medoids_68 : decode cX8_medoids 68 = .ok (.iconst 1, 1) := by decide +kernel
theorem dX8_medoids_69 : decode cX8_medoids 69 = .ok (.iadd, 1) := by decide +kernel
theorem dX8_medoids_70 : decode cX8_medoids 70 = .ok (.goto 9, 3) := by decide +kernel
theorem dX8_medoids_73 : decode cX8_medoids 73 = .ok (.aload_n 0, 1) := by decide +kernel
theorem dX8_medoids_74 : decode cX8_medoids 74 = .ok (.getfield 82, 3) := by decide +kernel
theorem dX8_medoids_77 : decode cX8_medoids 77 = .ok (.iconst 1, 1) := by decide +kernel
theorem dX8_medoids_78 : decode cX8_medoids 78 = .ok (.isub, 1) := by decide +kernel
theorem dX8_medoids_79 : decode cX8_medoids 79 = .ok (.istore 6, 2) := by decide +kernel
theorem dX8_medoids_81 : decode cX8_medoids 81 = .ok (.iload 6, 2) := by decide +kernel
theorem dX8_medoids_83 : decode cX8_medoids 83 = .ok (.aload_n 0, 1) := by decide +kernel
theorem dX8_medoids_84 : decode cX8_medoids 84 = .ok (.getfield 82, 3) := by decide +kernel
theorem dX8_medoids_87 : decode cX8_medoids 87 = .ok (.if_icmp .ge 98, 3) := by decide +kernel
theorem dX8_medoids_90 : decode cX8_medoids 90 = .ok (.iload_n 3, 1) := by decide +kernel
theorem dX8_medoids_91 : decode cX8_medoids 91 = .ok (.iconst 2, 1) := by decide +kernel
theorem dX8_medoids_92 : decode cX8_medoids 92 = .ok (.if_icmp .le 10, 3) := by decide +kernel
theorem dX8_medoids_95 : decode cX8_medoids 95 = .ok (.iload 6, 2) := by decide +kernel
theorem dX8_medoids_97 : decode cX8_medoids 97 = .ok (.iconst 1, 1) := by decide +kernel
theorem dX8_medoids_98 : decode cX8_medoids 98 = .ok (.iadd, 1) := by decide +kernel
theorem dX8_medoids_99 : decode cX8_medoids 99 = .ok (.goto 9, 3) := by decide +kernel
theorem dX8_medoids_102 : decode cX8_medoids 102 = .ok (.aload_n 0, 1) := by decide +kernel
theorem dX8_medoids_103 : decode cX8_medoids 103 = .ok (.getfield 82, 3) := by decide +kernel
theorem dX8_medoids_106 : decode cX8_medoids 106 = .ok (.iconst 1, 1) := by decide +kernel
theorem dX8_medoids_107 : decode cX8_medoids 107 = .ok (.isub, 1) := by decide +kernel
theorem dX8_medoids_108 : decode cX8_medoids 108 = .ok (.istore 7, 2) := by decide +kernel
theorem dX8_medoids_110 : decode cX8_medoids 110 = .ok (.iload 7, 2) := by decide +kernel
theorem dX8_medoids_112 : decode cX8_medoids 112 = .ok (.aload_n 0, 1) := by decide +kernel
theorem dX8_medoids_113 : decode cX8_medoids 113 = .ok (.getfield 82, 3) := by decide +kernel
theorem dX8_medoids_116 : decode cX8_medoids 116 = .ok (.if_icmp .ge 63, 3) := by decide +kernel
theorem dX8_medoids_119 : decode cX8_medoids 119 = .ok (.aload_n 0, 1) := by decide +kernel
theorem dX8_medoids_120 : decode cX8_medoids 120 = .ok (.iload_n 3, 1) := by decide +kernel
theorem dX8_medoids_121 : decode cX8_medoids 121 = .ok (.iload 5, 2) := by decide +kernel
theorem dX8_medoids_123 : decode cX8_medoids 123 = .ok (.iload 6, 2) := by decide +kernel
theorem dX8_medoids_125 : decode cX8_medoids 125 = .ok (.iload 7, 2) := by decide +kernel
theorem dX8_medoids_127 : decode cX8_medoids 127 = .ok (.invokevirtual 147, 3) := by decide +kernel
theorem dX8_medoids_130 : decode cX8_medoids 130 = .ok (.istore 8, 2) := by decide +kernel
theorem dX8_medoids_132 : decode cX8_medoids 132 = .ok (.iload 4, 2) := by decide +kernel
theorem dX8_medoids_134 : decode cX8_medoids 134 = .ok (.iconst (-1), 1) := by decide +kernel
theorem dX8_medoids_135 : decode cX8_medoids 135 = .ok (.if_icmp .eq 10, 3) := by decide +kernel
theorem dX8_medoids_138 : decode cX8_medoids 138 = .ok (.iload 8, 2) := by decide +kernel
theorem dX8_medoids_140 : decode cX8_medoids 140 = .ok (.iload 4, 2) := by decide +kernel
theorem dX8_medoids_142 : decode cX8_medoids 142 = .ok (.if_icmp .ge 31, 3) := by decide +kernel
theorem dX8_medoids_145 : decode cX8_medoids 145 = .ok (.iload 8, 2) := by decide +kernel
theorem dX8_medoids_147 : decode cX8_medoids 147 = .ok (.istore 4, 2) := by decide +kernel
theorem dX8_medoids_149 : decode cX8_medoids 149 = .ok (.aload_n 0, 1) := by decide +kernel
theorem dX8_medoids_150 : decode cX8_medoids 150 = .ok (.getfield 27, 3) := by decide +kernel
theorem dX8_medoids_153 : decode cX8_medoids 153 = .ok (.iconst 0, 1) := by decide +kernel
theorem dX8_medoids_154 : decode cX8_medoids 154 = .ok (.iload 5, 2) := by decide +kernel
theorem dX8_medoids_156 : decode cX8_medoids 156 = .ok (.iastore, 1) := by decide +kernel
theorem dX8_medoids_157 : decode cX8_medoids 157 = .ok (.aload_n 0, 1) := by decide +kernel
theorem dX8_medoids_158 : decode cX8_medoids 158 = .ok (.getfield 27, 3) := by decide +kernel
theorem dX8_medoids_161 : decode cX8_medoids 161 = .ok (.iconst 1, 1) := by decide +kernel
theorem dX8_medoids_162 : decode cX8_medoids 162 = .ok (.iload 6, 2) := by decide +kernel
theorem dX8_medoids_164 : decode cX8_medoids 164 = .ok (.iastore, 1) := by decide +kernel
theorem dX8_medoids_165 : decode cX8_medoids 165 = .ok (.aload_n 0, 1) := by decide +kernel
theorem dX8_medoids_166 : decode cX8_medoids 166 = .ok (.getfield 27, 3) := by decide +kernel
theorem dX8_medoids_169 : decode cX8_medoids 169 = .ok (.iconst 2, 1) := by decide +kernel
theorem dX8_medoids_170 : decode cX8_medoids 170 = .ok (.iload 7, 2) := by decide +kernel
theorem dX8_medoids_172 : decode cX8_medoids 172 = .ok (.iastore, 1) := by decide +kernel
theorem dX8_medoids_173 : decode cX8_medoids 173 = .ok (.iinc 7 1, 3) := by decide +kernel
theorem dX8_medoids_176 : decode cX8_medoids 176 = .ok (.goto (-66), 3) := by decide +kernel
theorem dX8_medoids_179 : decode cX8_medoids 179 = .ok (.iinc 6 1, 3) := by decide +kernel
theorem dX8_medoids_182 : decode cX8_medoids 182 = .ok (.goto (-101), 3) := by decide +kernel
theorem dX8_medoids_185 : decode cX8_medoids 185 = .ok (.iinc 5 1, 3) := by decide +kernel
theorem dX8_medoids_188 : decode cX8_medoids 188 = .ok (.goto (-136), 3) := by decide +kernel
theorem dX8_medoids_191 : decode cX8_medoids 191 = .ok (.aload_n 0, 1) := by decide +kernel
theorem dX8_medoids_192 : decode cX8_medoids 192 = .ok (.iload_n 3, 1) := by decide +kernel
theorem dX8_medoids_193 : decode cX8_medoids 193 = .ok (.putfield 89, 3) := by decide +kernel
theorem dX8_medoids_196 : decode cX8_medoids 196 = .ok (.iconst 0, 1) := by decide +kernel
theorem dX8_medoids_197 : decode cX8_medoids 197 = .ok (.istore 5, 2) := by decide +kernel
theorem dX8_medoids_199 : decode cX8_medoids 199 = .ok (.iload 5, 2) := by decide +kernel
theorem dX8_medoids_201 : decode cX8_medoids 201 = .ok (.aload_n 0, 1) := by decide +kernel
theorem dX8_medoids_202 : decode cX8_medoids 202 = .ok (.getfield 82, 3) := by decide +kernel
theorem dX8_medoids_205 : decode cX8_medoids 205 = .ok (.if_icmp .ge 81, 3) := by decide +kernel
theorem dX8_medoids_208 : decode cX8_medoids 208 = .ok (.iconst 0, 1) := by decide +kernel
theorem dX8_medoids_209 : decode cX8_medoids 209 = .ok (.istore 6, 2) := by decide +kernel
theorem dX8_medoids_211 : decode cX8_medoids 211 = .ok (.iconst 1, 1) := by decide +kernel
theorem dX8_medoids_212 : decode cX8_medoids 212 = .ok (.istore 7, 2) := by decide +kernel
theorem dX8_medoids_214 : decode cX8_medoids 214 = .ok (.iload 7, 2) := by decide +kernel
theorem dX8_medoids_216 : decode cX8_medoids 216 = .ok (.iload_n 3, 1) := by decide +kernel
theorem dX8_medoids_217 : decode cX8_medoids 217 = .ok (.if_icmp .ge 49, 3) := by decide +kernel
theorem dX8_medoids_220 : decode cX8_medoids 220 = .ok (.aload_n 0, 1) := by decide +kernel
theorem dX8_medoids_221 : decode cX8_medoids 221 = .ok (.iload_n 2, 1) := by decide +kernel
theorem dX8_medoids_222 : decode cX8_medoids 222 = .ok (.iload 5, 2) := by decide +kernel
theorem dX8_medoids_224 : decode cX8_medoids 224 = .ok (.aload_n 0, 1) := by decide +kernel
theorem dX8_medoids_225 : decode cX8_medoids 225 = .ok (.getfield 27, 3) := by decide +kernel
theorem dX8_medoids_228 : decode cX8_medoids 228 = .ok (.iload 7, 2) := by decide +kernel
theorem dX8_medoids_230 : decode cX8_medoids 230 = .ok (.iaload, 1) := by decide +kernel
theorem dX8_medoids_231 : decode cX8_medoids 231 = .ok (.invokevirtual 105, 3) := by decide +kernel
theorem dX8_medoids_234 : decode cX8_medoids 234 = .ok (.aload_n 0, 1) := by decide +kernel
theorem dX8_medoids_235 : decode cX8_medoids 235 = .ok (.iload_n 2, 1) := by decide +kernel
theorem dX8_medoids_236 : decode cX8_medoids 236 = .ok (.iload 5, 2) := by decide +kernel
theorem dX8_medoids_238 : decode cX8_medoids 238 = .ok (.aload_n 0, 1) := by decide +kernel
theorem dX8_medoids_239 : decode cX8_medoids 239 = .ok (.getfield 27, 3) := by decide +kernel
theorem dX8_medoids_242 : decode cX8_medoids 242 = .ok (.iload 6, 2) := by decide +kernel
theorem dX8_medoids_244 : decode cX8_medoids 244 = .ok (.iaload, 1) := by decide +kernel
theorem dX8_medoids_245 : decode cX8_medoids 245 = .ok (.invokevirtual 105, 3) := by decide +kernel
theorem dX8_medoids_248 : decode cX8_medoids 248 = .ok (.if_icmp .ge 8, 3) := by decide +kernel
theorem dX8_medoids_251 : decode cX8_medoids 251 = .ok (.iload 7, 2) := by decide +kernel
theorem dX8_medoids_253 : decode cX8_medoids 253 = .ok (.goto 5, 3) := by decide +kernel
theorem dX8_medoids_256 : decode cX8_medoids 256 = .ok (.iload 6, 2) := by decide +kernel
theorem dX8_medoids_258 : decode cX8_medoids 258 = .ok (.istore 6, 2) := by decide +kernel
theorem dX8_medoids_260 : decode cX8_medoids 260 = .ok (.iinc 7 1, 3) := by decide +kernel
theorem dX8_medoids_263 : decode cX8_medoids 263 = .ok (.goto (-49), 3) := by decide +kernel
theorem dX8_medoids_266 : decode cX8_medoids 266 = .ok (.aload_n 0, 1) := by decide +kernel
theorem dX8_medoids_267 : decode cX8_medoids 267 = .ok (.getfield 24, 3) := by decide +kernel
theorem dX8_medoids_270 : decode cX8_medoids 270 = .ok (.bipush 30, 2) := by decide +kernel
theorem dX8_medoids_272 : decode cX8_medoids 272 = .ok (.iload_n 1, 1) := by decide +kernel
theorem dX8_medoids_273 : decode cX8_medoids 273 = .ok (.imul, 1) := by decide +kernel
theorem dX8_medoids_274 : decode cX8_medoids 274 = .ok (.iload 5, 2) := by decide +kernel
theorem dX8_medoids_276 : decode cX8_medoids 276 = .ok (.iadd, 1) := by decide +kernel
theorem dX8_medoids_277 : decode cX8_medoids 277 = .ok (.iload 6, 2) := by decide +kernel
theorem dX8_medoids_279 : decode cX8_medoids 279 = .ok (.iastore, 1) := by decide +kernel
theorem dX8_medoids_280 : decode cX8_medoids 280 = .ok (.iinc 5 1, 3) := by decide +kernel
theorem dX8_medoids_283 : decode cX8_medoids 283 = .ok (.goto (-84), 3) := by decide +kernel
theorem dX8_medoids_286 : decode cX8_medoids 286 = .ok (.aload_n 0, 1) := by decide +kernel
theorem dX8_medoids_287 : decode cX8_medoids 287 = .ok (.getfield 21, 3) := by decide +kernel
theorem dX8_medoids_290 : decode cX8_medoids 290 = .ok (.iload_n 1, 1) := by decide +kernel
theorem dX8_medoids_291 : decode cX8_medoids 291 = .ok (.iload_n 3, 1) := by decide +kernel
theorem dX8_medoids_292 : decode cX8_medoids 292 = .ok (.iastore, 1) := by decide +kernel
theorem dX8_medoids_293 : decode cX8_medoids 293 = .ok (.aload_n 0, 1) := by decide +kernel
theorem dX8_medoids_294 : decode cX8_medoids 294 = .ok (.getfield 17, 3) := by decide +kernel
theorem dX8_medoids_297 : decode cX8_medoids 297 = .ok (.iload_n 1, 1) := by decide +kernel
theorem dX8_medoids_298 : decode cX8_medoids 298 = .ok (.iconst 1, 1) := by decide +kernel
theorem dX8_medoids_299 : decode cX8_medoids 299 = .ok (.bastore, 1) := by decide +kernel
theorem dX8_medoids_300 : decode cX8_medoids 300 = .ok (.iload 4, 2) := by decide +kernel
theorem dX8_medoids_302 : decode cX8_medoids 302 = .ok (.ireturn, 1) := by decide +kernel
theorem dX8_medoid_0 : decode cX8_medoid 0 = .ok (.iload_n 1, 1) := by decide +kernel
theorem dX8_medoid_1 : decode cX8_medoid 1 = .ok (.iconst 0, 1) := by decide +kernel
theorem dX8_medoid_2 : decode cX8_medoid 2 = .ok (.aload_n 0, 1) := by decide +kernel
theorem dX8_medoid_3 : decode cX8_medoid 3 = .ok (.getfield 89, 3) := by decide +kernel
theorem dX8_medoid_6 : decode cX8_medoid 6 = .ok (.iconst 1, 1) := by decide +kernel
theorem dX8_medoid_7 : decode cX8_medoid 7 = .ok (.isub, 1) := by decide +kernel
theorem dX8_medoid_8 : decode cX8_medoid 8 = .ok (.invokestatic 85, 3) := by decide +kernel
theorem dX8_medoid_11 : decode cX8_medoid 11 = .ok (.ifCond .eq 12, 3) := by decide +kernel
theorem dX8_medoid_14 : decode cX8_medoid 14 = .ok (.aload_n 0, 1) := by decide +kernel
theorem dX8_medoid_15 : decode cX8_medoid 15 = .ok (.getfield 27, 3) := by decide +kernel
theorem dX8_medoid_18 : decode cX8_medoid 18 = .ok (.iload_n 1, 1) := by decide +kernel
theorem dX8_medoid_19 : decode cX8_medoid 19 = .ok (.iaload, 1) := by decide +kernel
theorem dX8_medoid_20 : decode cX8_medoid 20 = .ok (.goto 4, 3) := by decide +kernel
theorem dX8_medoid_23 : decode cX8_medoid 23 = .ok (.iconst (-1), 1) := by decide +kernel
theorem dX8_medoid_24 : decode cX8_medoid 24 = .ok (.ireturn, 1) := by decide +kernel
theorem dX8_density_0 : decode cX8_density 0 = .ok (.iload_n 1, 1) := by decide +kernel
theorem dX8_density_1 : decode cX8_density 1 = .ok (.iconst 0, 1) := by decide +kernel
theorem dX8_density_2 : decode cX8_density 2 = .ok (.iconst 1, 1) := by decide +kernel
theorem dX8_density_3 : decode cX8_density 3 = .ok (.invokestatic 85, 3) := by decide +kernel
theorem dX8_density_6 : decode cX8_density 6 = .ok (.ifCond .eq 33, 3) := by decide +kernel
theorem dX8_density_9 : decode cX8_density 9 = .ok (.iload_n 2, 1) := by decide +kernel
theorem dX8_density_10 : decode cX8_density 10 = .ok (.iconst 0, 1) := by decide +kernel
theorem dX8_density_11 : decode cX8_density 11 = .ok (.iconst 2, 1) := by decide +kernel
theorem dX8_density_12 : decode cX8_density 12 = .ok (.invokestatic 85, 3) := by decide +kernel
theorem dX8_density_15 : decode cX8_density 15 = .ok (.ifCond .eq 24, 3) := by decide +kernel
theorem dX8_density_18 : decode cX8_density 18 = .ok (.iload_n 3, 1) := by decide +kernel
theorem dX8_density_19 : decode cX8_density 19 = .ok (.iconst 0, 1) := by decide +kernel
theorem dX8_density_20 : decode cX8_density 20 = .ok (.ldc 151, 2) := by decide +kernel
theorem dX8_density_22 : decode cX8_density 22 = .ok (.invokestatic 85, 3) := by decide +kernel
theorem dX8_density_25 : decode cX8_density 25 = .ok (.ifCond .eq 14, 3) := by decide +kernel
theorem dX8_density_28 : decode cX8_density 28 = .ok (.iload 4, 2) := by decide +kernel
theorem dX8_density_30 : decode cX8_density 30 = .ok (.iconst 1, 1) := by decide +kernel
theorem dX8_density_31 : decode cX8_density 31 = .ok (.bipush 30, 2) := by decide +kernel
theorem dX8_density_33 : decode cX8_density 33 = .ok (.invokestatic 85, 3) := by decide +kernel
theorem dX8_density_36 : decode cX8_density 36 = .ok (.ifCond .ne 6, 3) := by decide +kernel
theorem dX8_density_39 : decode cX8_density 39 = .ok (.ldc 96, 2) := by decide +kernel
theorem dX8_density_41 : decode cX8_density 41 = .ok (.ireturn, 1) := by decide +kernel
theorem dX8_density_42 : decode cX8_density 42 = .ok (.aload_n 0, 1) := by decide +kernel
theorem dX8_density_43 : decode cX8_density 43 = .ok (.getfield 82, 3) := by decide +kernel
theorem dX8_density_46 : decode cX8_density 46 = .ok (.ifCond .ne 6, 3) := by decide +kernel
theorem dX8_density_49 : decode cX8_density 49 = .ok (.ldc 97, 2) := by decide +kernel
theorem dX8_density_51 : decode cX8_density 51 = .ok (.ireturn, 1) := by decide +kernel
theorem dX8_density_52 : decode cX8_density 52 = .ok (.iconst 0, 1) := by decide +kernel
theorem dX8_density_53 : decode cX8_density 53 = .ok (.istore 5, 2) := by decide +kernel
theorem dX8_density_55 : decode cX8_density 55 = .ok (.iload 5, 2) := by decide +kernel
theorem dX8_density_57 : decode cX8_density 57 = .ok (.aload_n 0, 1) := by decide +kernel
theorem dX8_density_58 : decode cX8_density 58 = .ok (.getfield 82, 3) := by decide +kernel
theorem dX8_density_61 : decode cX8_density 61 = .ok (.if_icmp .ge 80, 3) := by decide +kernel
theorem dX8_density_64 : decode cX8_density 64 = .ok (.iconst 0, 1) := by decide +kernel
theorem dX8_density_65 : decode cX8_density 65 = .ok (.istore 6, 2) := by decide +kernel
theorem dX8_density_67 : decode cX8_density 67 = .ok (.iconst 0, 1) := by decide +kernel
theorem dX8_density_68 : decode cX8_density 68 = .ok (.istore 7, 2) := by decide +kernel
theorem dX8_density_70 : decode cX8_density 70 = .ok (.iload 7, 2) := by decide +kernel
theorem dX8_density_72 : decode cX8_density 72 = .ok (.aload_n 0, 1) := by decide +kernel
theorem dX8_density_73 : decode cX8_density 73 = .ok (.getfield 82, 3) := by decide +kernel
theorem dX8_density_76 : decode cX8_density 76 = .ok (.if_icmp .ge 32, 3) := by decide +kernel
theorem dX8_density_79 : decode cX8_density 79 = .ok (.iload 6, 2) := by decide +kernel
theorem dX8_density_81 : decode cX8_density 81 = .ok (.aload_n 0, 1) := by decide +kernel
theorem dX8_density_82 : decode cX8_density 82 = .ok (.iload_n 2, 1) := by decide +kernel
theorem dX8_density_83 : decode cX8_density 83 = .ok (.iload 5, 2) := by decide +kernel
theorem dX8_density_85 : decode cX8_density 85 = .ok (.iload 7, 2) := by decide +kernel
theorem dX8_density_87 : decode cX8_density 87 = .ok (.invokevirtual 105, 3) := by decide +kernel
theorem dX8_density_90 : decode cX8_density 90 = .ok (.iload_n 3, 1) := by decide +kernel
theorem dX8_density_91 : decode cX8_density 91 = .ok (.if_icmp .gt 7, 3) := by decide +kernel
theorem dX8_density_94 : decode cX8_density 94 = .ok (.iconst 1, 1) := by decide +kernel
theorem dX8_density_95 : decode cX8_density 95 = .ok (.goto 4, 3) := by decide +kernel
theorem dX8_density_98 : decode cX8_density 98 = .ok (.iconst 0, 1) := by decide +kernel
theorem dX8_density_99 : decode cX8_density 99 = .ok (.iadd, 1) := by decide +kernel
theorem dX8_density_100 : decode cX8_density 100 = .ok (.istore 6, 2) := by decide +kernel
theorem dX8_density_102 : decode cX8_density 102 = .ok (.iinc 7 1, 3) := by decide +kernel
theorem dX8_density_105 : decode cX8_density 105 = .ok (.goto (-35), 3) := by decide +kernel
theorem dX8_density_108 : decode cX8_density 108 = .ok (.aload_n 0, 1) := by decide +kernel
theorem dX8_density_109 : decode cX8_density 109 = .ok (.getfield 61, 3) := by decide +kernel
theorem dX8_density_112 : decode cX8_density 112 = .ok (.iload 5, 2) := by decide +kernel
theorem dX8_density_114 : decode cX8_density 114 = .ok (.iload 6, 2) := by decide +kernel
theorem dX8_density_116 : decode cX8_density 116 = .ok (.iload 4, 2) := by decide +kernel
theorem dX8_density_118 : decode cX8_density 118 = .ok (.if_icmp .lt 7, 3) := by decide +kernel
theorem dX8_density_121 : decode cX8_density 121 = .ok (.iconst 1, 1) := by decide +kernel
theorem dX8_density_122 : decode cX8_density 122 = .ok (.goto 4, 3) := by decide +kernel
theorem dX8_density_125 : decode cX8_density 125 = .ok (.iconst 0, 1) := by decide +kernel
theorem dX8_density_126 : decode cX8_density 126 = .ok (.bastore, 1) := by decide +kernel
theorem dX8_density_127 : decode cX8_density 127 = .ok (.aload_n 0, 1) := by decide +kernel
theorem dX8_density_128 : decode cX8_density 128 = .ok (.getfield 55, 3) := by decide +kernel
theorem dX8_density_131 : decode cX8_density 131 = .ok (.iload 5, 2) := by decide +kernel
theorem dX8_density_133 : decode cX8_density 133 = .ok (.iconst (-1), 1) := by decide +kernel
theorem dX8_density_134 : decode cX8_density 134 = .ok (.iastore, 1) := by decide +kernel
theorem dX8_density_135 : decode cX8_density 135 = .ok (.iinc 5 1, 3) := by decide +kernel
theorem dX8_density_138 : decode cX8_density 138 = .ok (.goto (-83), 3) := by decide +kernel
theorem dX8_density_141 : decode cX8_density 141 = .ok (.iconst 0, 1) := by decide +kernel
theorem dX8_density_142 : decode cX8_density 142 = .ok (.istore 5, 2) := by decide +kernel
theorem dX8_density_144 : decode cX8_density 144 = .ok (.iconst 0, 1) := by decide +kernel
theorem dX8_density_145 : decode cX8_density 145 = .ok (.istore 6, 2) := by decide +kernel
theorem dX8_density_147 : decode cX8_density 147 = .ok (.iload 6, 2) := by decide +kernel
theorem dX8_density_149 : decode cX8_density 149 = .ok (.aload_n 0, 1) := by decide +kernel
theorem dX8_density_150 : decode cX8_density 150 = .ok (.getfield 82, 3) := by decide +kernel
theorem dX8_density_153 : decode cX8_density 153 = .ok (.if_icmp .ge 50, 3) := by decide +kernel
theorem dX8_density_156 : decode cX8_density 156 = .ok (.aload_n 0, 1) := by decide +kernel
theorem dX8_density_157 : decode cX8_density 157 = .ok (.getfield 61, 3) := by decide +kernel
theorem dX8_density_160 : decode cX8_density 160 = .ok (.iload 6, 2) := by decide +kernel
theorem dX8_density_162 : decode cX8_density 162 = .ok (.baload, 1) := by decide +kernel
theorem dX8_density_163 : decode cX8_density 163 = .ok (.ifCond .eq 34, 3) := by decide +kernel
theorem dX8_density_166 : decode cX8_density 166 = .ok (.aload_n 0, 1) := by decide +kernel
theorem dX8_density_167 : decode cX8_density 167 = .ok (.getfield 55, 3) := by decide +kernel
theorem dX8_density_170 : decode cX8_density 170 = .ok (.iload 6, 2) := by decide +kernel
theorem dX8_density_172 : decode cX8_density 172 = .ok (.iaload, 1) := by decide +kernel
theorem dX8_density_173 : decode cX8_density 173 = .ok (.iconst (-1), 1) := by decide +kernel
theorem dX8_density_174 : decode cX8_density 174 = .ok (.if_icmp .ne 23, 3) := by decide +kernel
theorem dX8_density_177 : decode cX8_density 177 = .ok (.aload_n 0, 1) := by decide +kernel
theorem dX8_density_178 : decode cX8_density 178 = .ok (.getfield 55, 3) := by decide +kernel
theorem dX8_density_181 : decode cX8_density 181 = .ok (.iload 6, 2) := by decide +kernel
theorem dX8_density_183 : decode cX8_density 183 = .ok (.iload 5, 2) := by decide +kernel
theorem dX8_density_185 : decode cX8_density 185 = .ok (.iastore, 1) := by decide +kernel
theorem dX8_density_186 : decode cX8_density 186 = .ok (.aload_n 0, 1) := by decide +kernel
theorem dX8_density_187 : decode cX8_density 187 = .ok (.iload_n 2, 1) := by decide +kernel
theorem dX8_density_188 : decode cX8_density 188 = .ok (.iload_n 3, 1) := by decide +kernel
theorem dX8_density_189 : decode cX8_density 189 = .ok (.iload 5, 2) := by decide +kernel
theorem dX8_density_191 : decode cX8_density 191 = .ok (.invokevirtual 152, 3) := by decide +kernel
theorem dX8_density_194 : decode cX8_density 194 = .ok (.iinc 5 1, 3) := by decide +kernel
theorem dX8_density_197 : decode cX8_density 197 = .ok (.iinc 6 1, 3) := by decide +kernel
theorem dX8_density_200 : decode cX8_density 200 = .ok (.goto (-53), 3) := by decide +kernel
theorem dX8_density_203 : decode cX8_density 203 = .ok (.iconst 0, 1) := by decide +kernel
theorem dX8_density_204 : decode cX8_density 204 = .ok (.istore 6, 2) := by decide +kernel
theorem dX8_density_206 : decode cX8_density 206 = .ok (.iload 6, 2) := by decide +kernel
theorem dX8_density_208 : decode cX8_density 208 = .ok (.aload_n 0, 1) := by decide +kernel
theorem dX8_density_209 : decode cX8_density 209 = .ok (.getfield 82, 3) := by decide +kernel
theorem dX8_density_212 : decode cX8_density 212 = .ok (.if_icmp .ge 127, 3) := by decide +kernel
theorem dX8_density_215 : decode cX8_density 215 = .ok (.aload_n 0, 1) := by decide +kernel
theorem dX8_density_216 : decode cX8_density 216 = .ok (.getfield 55, 3) := by decide +kernel
theorem dX8_density_219 : decode cX8_density 219 = .ok (.iload 6, 2) := by decide +kernel
theorem dX8_density_221 : decode cX8_density 221 = .ok (.iaload, 1) := by decide +kernel
theorem dX8_density_222 : decode cX8_density 222 = .ok (.istore 7, 2) := by decide +kernel
theorem dX8_density_224 : decode cX8_density 224 = .ok (.iconst 0, 1) := by decide +kernel
theorem dX8_density_225 : decode cX8_density 225 = .ok (.istore 8, 2) := by decide +kernel
theorem dX8_density_227 : decode cX8_density 227 = .ok (.iload 8, 2) := by decide +kernel
theorem dX8_density_229 : decode cX8_density 229 = .ok (.aload_n 0, 1) := by decide +kernel
theorem dX8_density_230 : decode cX8_density 230 = .ok (.getfield 82, 3) := by decide +kernel
theorem dX8_density_233 : decode cX8_density 233 = .ok (.if_icmp .ge 86, 3) := by decide +kernel
theorem dX8_density_236 : decode cX8_density 236 = .ok (.aload_n 0, 1) := by decide +kernel
theorem dX8_density_237 : decode cX8_density 237 = .ok (.getfield 61, 3) := by decide +kernel
theorem dX8_density_240 : decode cX8_density 240 = .ok (.iload 6, 2) := by decide +kernel
theorem dX8_density_242 : decode cX8_density 242 = .ok (.baload, 1) := by decide +kernel
theorem dX8_density_243 : decode cX8_density 243 = .ok (.ifCond .ne 76, 3) := by decide +kernel
theorem dX8_density_246 : decode cX8_density 246 = .ok (.aload_n 0, 1) := by decide +kernel
theorem dX8_density_247 : decode cX8_density 247 = .ok (.getfield 61, 3) := by decide +kernel
theorem dX8_density_250 : decode cX8_density 250 = .ok (.iload 8, 2) := by decide +kernel
theorem dX8_density_252 : decode cX8_density 252 = .ok (.baload, 1) := by decide +kernel
theorem dX8_density_253 : decode cX8_density 253 = .ok (.ifCond .eq 20, 3) := by decide +kernel
theorem dX8_density_256 : decode cX8_density 256 = .ok (.aload_n 0, 1) := by decide +kernel
theorem dX8_density_257 : decode cX8_density 257 = .ok (.iload_n 2, 1) := by decide +kernel
theorem dX8_density_258 : decode cX8_density 258 = .ok (.iload 6, 2) := by decide +kernel
theorem dX8_density_260 : decode cX8_density 260 = .ok (.iload 8, 2) := by decide +kernel
theorem dX8_density_262 : decode cX8_density 262 = .ok (.invokevirtual 105, 3) := by decide +kernel
theorem dX8_density_265 : decode cX8_density 265 = .ok (.iload_n 3, 1) := by decide +kernel
theorem dX8_density_266 : decode cX8_density 266 = .ok (.if_icmp .gt 7, 3) := by decide +kernel
theorem dX8_density_269 : decode cX8_density 269 = .ok (.iconst 1, 1) := by decide +kernel
theorem dX8_density_270 : decode cX8_density 270 = .ok (.goto 4, 3) := by decide +kernel
theorem dX8_density_273 : decode cX8_density 273 = .ok (.iconst 0, 1) := by decide +kernel
theorem dX8_density_274 : decode cX8_density 274 = .ok (.istore 9, 2) := by decide +kernel
theorem dX8_density_276 : decode cX8_density 276 = .ok (.iload 9, 2) := by decide +kernel
theorem dX8_density_278 : decode cX8_density 278 = .ok (.ifCond .eq 31, 3) := by decide +kernel
theorem dX8_density_281 : decode cX8_density 281 = .ok (.iload 7, 2) := by decide +kernel
theorem dX8_density_283 : decode cX8_density 283 = .ok (.iconst (-1), 1) := by decide +kernel
theorem dX8_density_284 : decode cX8_density 284 = .ok (.if_icmp .eq 15, 3) := by decide +kernel
theorem dX8_density_287 : decode cX8_density 287 = .ok (.aload_n 0, 1) := by decide +kernel
theorem dX8_density_288 : decode cX8_density 288 = .ok (.getfield 55, 3) := by decide +kernel
theorem dX8_density_291 : decode cX8_density 291 = .ok (.iload 8, 2) := by decide +kernel
theorem dX8_density_293 : decode cX8_density 293 = .ok (.iaload, 1) := by decide +kernel
theorem dX8_density_294 : decode cX8_density 294 = .ok (.iload 7, 2) := by decide +kernel
theorem dX8_density_296 : decode cX8_density 296 = .ok (.if_icmp .ge 13, 3) := by decide +kernel
theorem dX8_density_299 : decode cX8_density 299 = .ok (.aload_n 0, 1) := by decide +kernel
theorem dX8_density_300 : decode cX8_density 300 = .ok (.getfield 55, 3) := by decide +kernel
theorem dX8_density_303 : decode cX8_density 303 = .ok (.iload 8, 2) := by decide +kernel
theorem dX8_density_305 : decode cX8_density 305 = .ok (.iaload, 1) := by decide +kernel
theorem dX8_density_306 : decode cX8_density 306 = .ok (.goto 5, 3) := by decide +kernel
theorem dX8_density_309 : decode cX8_density 309 = .ok (.iload 7, 2) := by decide +kernel
theorem dX8_density_311 : decode cX8_density 311 = .ok (.istore 7, 2) := by decide +kernel
theorem dX8_density_313 : decode cX8_density 313 = .ok (.iinc 8 1, 3) := by decide +kernel
theorem dX8_density_316 : decode cX8_density 316 = .ok (.goto (-89), 3) := by decide +kernel
theorem dX8_density_319 : decode cX8_density 319 = .ok (.aload_n 0, 1) := by decide +kernel
theorem dX8_density_320 : decode cX8_density 320 = .ok (.getfield 24, 3) := by decide +kernel
theorem dX8_density_323 : decode cX8_density 323 = .ok (.bipush 30, 2) := by decide +kernel
theorem dX8_density_325 : decode cX8_density 325 = .ok (.iload_n 1, 1) := by decide +kernel
theorem dX8_density_326 : decode cX8_density 326 = .ok (.imul, 1) := by decide +kernel
theorem dX8_density_327 : decode cX8_density 327 = .ok (.iload 6, 2) := by decide +kernel
theorem dX8_density_329 : decode cX8_density 329 = .ok (.iadd, 1) := by decide +kernel
theorem dX8_density_330 : decode cX8_density 330 = .ok (.iload 7, 2) := by decide +kernel
theorem dX8_density_332 : decode cX8_density 332 = .ok (.iastore, 1) := by decide +kernel
theorem dX8_density_333 : decode cX8_density 333 = .ok (.iinc 6 1, 3) := by decide +kernel
theorem dX8_density_336 : decode cX8_density 336 = .ok (.goto (-130), 3) := by decide +kernel
theorem dX8_density_339 : decode cX8_density 339 = .ok (.aload_n 0, 1) := by decide +kernel
theorem dX8_density_340 : decode cX8_density 340 = .ok (.getfield 21, 3) := by decide +kernel
theorem dX8_density_343 : decode cX8_density 343 = .ok (.iload_n 1, 1) := by decide +kernel
theorem dX8_density_344 : decode cX8_density 344 = .ok (.iload 5, 2) := by decide +kernel
theorem dX8_density_346 : decode cX8_density 346 = .ok (.iastore, 1) := by decide +kernel
theorem dX8_density_347 : decode cX8_density 347 = .ok (.aload_n 0, 1) := by decide +kernel
theorem dX8_density_348 : decode cX8_density 348 = .ok (.getfield 17, 3) := by decide +kernel
theorem dX8_density_351 : decode cX8_density 351 = .ok (.iload_n 1, 1) := by decide +kernel
theorem dX8_density_352 : decode cX8_density 352 = .ok (.iconst 1, 1) := by decide +kernel
theorem dX8_density_353 : decode cX8_density 353 = .ok (.bastore, 1) := by decide +kernel
theorem dX8_density_354 : decode cX8_density 354 = .ok (.iload 5, 2) := by decide +kernel
theorem dX8_density_356 : decode cX8_density 356 = .ok (.ireturn, 1) := by decide +kernel
theorem dX8_spread_0 : decode cX8_spread 0 = .ok (.iconst 1, 1) := by decide +kernel
theorem dX8_spread_1 : decode cX8_spread 1 = .ok (.istore 4, 2) := by decide +kernel
theorem dX8_spread_3 : decode cX8_spread 3 = .ok (.iload 4, 2) := by decide +kernel
theorem dX8_spread_5 : decode cX8_spread 5 = .ok (.ifCond .eq 101, 3) := by decide +kernel
theorem dX8_spread_8 : decode cX8_spread 8 = .ok (.iconst 0, 1) := by decide +kernel
theorem dX8_spread_9 : decode cX8_spread 9 = .ok (.istore 4, 2) := by decide +kernel
theorem dX8_spread_11 : decode cX8_spread 11 = .ok (.iconst 0, 1) := by decide +kernel
theorem dX8_spread_12 : decode cX8_spread 12 = .ok (.istore 5, 2) := by decide +kernel
theorem dX8_spread_14 : decode cX8_spread 14 = .ok (.iload 5, 2) := by decide +kernel
theorem dX8_spread_16 : decode cX8_spread 16 = .ok (.aload_n 0, 1) := by decide +kernel
theorem dX8_spread_17 : decode cX8_spread 17 = .ok (.getfield 82, 3) := by decide +kernel
theorem dX8_spread_20 : decode cX8_spread 20 = .ok (.if_icmp .ge 83, 3) := by decide +kernel
theorem dX8_spread_23 : decode cX8_spread 23 = .ok (.iconst 0, 1) := by decide +kernel
theorem dX8_spread_24 : decode cX8_spread 24 = .ok (.istore 6, 2) := by decide +kernel
theorem dX8_spread_26 : decode cX8_spread 26 = .ok (.iload 6, 2) := by decide +kernel
theorem dX8_spread_28 : decode cX8_spread 28 = .ok (.aload_n 0, 1) := by decide +kernel
theorem dX8_spread_29 : decode cX8_spread 29 = .ok (.getfield 82, 3) := by decide +kernel
theorem dX8_spread_32 : decode cX8_spread 32 = .ok (.if_icmp .ge 65, 3) := by decide +kernel
theorem dX8_spread_35 : decode cX8_spread 35 = .ok (.aload_n 0, 1) := by decide +kernel
theorem dX8_spread_36 : decode cX8_spread 36 = .ok (.getfield 55, 3) := by decide +kernel
theorem dX8_spread_39 : decode cX8_spread 39 = .ok (.iload 5, 2) := by decide +kernel
theorem dX8_spread_41 : decode cX8_spread 41 = .ok (.iaload, 1) := by decide +kernel
theorem dX8_spread_42 : decode cX8_spread 42 = .ok (.iload_n 3, 1) := by decide +kernel
theorem dX8_spread_43 : decode cX8_spread 43 = .ok (.if_icmp .ne 54, 3) := by decide +kernel
theorem dX8_spread_46 : decode cX8_spread 46 = .ok (.aload_n 0, 1) := by decide +kernel
theorem dX8_spread_47 : decode cX8_spread 47 = .ok (.getfield 61, 3) := by decide +kernel
theorem dX8_spread_50 : decode cX8_spread 50 = .ok (.iload 6, 2) := by decide +kernel
theorem dX8_spread_52 : decode cX8_spread 52 = .ok (.baload, 1) := by decide +kernel
theorem dX8_spread_53 : decode cX8_spread 53 = .ok (.ifCond .eq 38, 3) := by decide +kernel
theorem dX8_spread_56 : decode cX8_spread 56 = .ok (.aload_n 0, 1) := by decide +kernel
theorem dX8_spread_57 : decode cX8_spread 57 = .ok (.getfield 55, 3) := by decide +kernel
theorem dX8_spread_60 : decode cX8_spread 60 = .ok (.iload 6, 2) := by decide +kernel
theorem dX8_spread_62 : decode cX8_spread 62 = .ok (.iaload, 1) := by decide +kernel
theorem dX8_spread_63 : decode cX8_spread 63 = .ok (.iconst (-1), 1) := by decide +kernel
theorem dX8_spread_64 : decode cX8_spread 64 = .ok (.if_icmp .ne 27, 3) := by decide +kernel
theorem dX8_spread_67 : decode cX8_spread 67 = .ok (.aload_n 0, 1) := by decide +kernel
theorem dX8_spread_68 : decode cX8_spread 68 = .ok (.iload_n 1, 1) := by decide +kernel
theorem dX8_spread_69 : decode cX8_spread 69 = .ok (.iload 5, 2) := by decide +kernel
theorem dX8_spread_71 : decode cX8_spread 71 = .ok (.iload 6, 2) := by decide +kernel
theorem dX8_spread_73 : decode cX8_spread 73 = .ok (.invokevirtual 105, 3) := by decide +kernel
theorem dX8_spread_76 : decode cX8_spread 76 = .ok (.iload_n 2, 1) := by decide +kernel
theorem dX8_spread_77 : decode cX8_spread 77 = .ok (.if_icmp .gt 14, 3) := by decide +kernel
theorem dX8_spread_80 : decode cX8_spread 80 = .ok (.aload_n 0, 1) := by decide +kernel
theorem dX8_spread_81 : decode cX8_spread 81 = .ok (.getfield 55, 3) := by decide +kernel
theorem dX8_spread_84 : decode cX8_spread 84 = .ok (.iload 6, 2) := by decide +kernel
theorem dX8_spread_86 : decode cX8_spread 86 = .ok (.iload_n 3, 1) := by decide +kernel
theorem dX8_spread_87 : decode cX8_spread 87 = .ok (.iastore, 1) := by decide +kernel
theorem dX8_spread_88 : decode cX8_spread 88 = .ok (.iconst 1, 1) := by decide +kernel
theorem dX8_spread_89 : decode cX8_spread 89 = .ok (.istore 4, 2) := by decide +kernel
theorem dX8_spread_91 : decode cX8_spread 91 = .ok (.iinc 6 1, 3) := by decide +kernel
theorem dX8_spread_94 : decode cX8_spread 94 = .ok (.goto (-68), 3) := by decide +kernel
theorem dX8_spread_97 : decode cX8_spread 97 = .ok (.iinc 5 1, 3) := by decide +kernel
theorem dX8_spread_100 : decode cX8_spread 100 = .ok (.goto (-86), 3) := by decide +kernel
theorem dX8_spread_103 : decode cX8_spread 103 = .ok (.goto (-100), 3) := by decide +kernel
theorem dX8_spread_106 : decode cX8_spread 106 = .ok (.return_, 1) := by decide +kernel
theorem dX8_gather_0 : decode cX8_gather 0 = .ok (.iconst 0, 1) := by decide +kernel
theorem dX8_gather_1 : decode cX8_gather 1 = .ok (.istore_n 1, 1) := by decide +kernel
theorem dX8_gather_2 : decode cX8_gather 2 = .ok (.iload_n 1, 1) := by decide +kernel
theorem dX8_gather_3 : decode cX8_gather 3 = .ok (.sipush 900, 3) := by decide +kernel
theorem dX8_gather_6 : decode cX8_gather 6 = .ok (.if_icmp .ge 34, 3) := by decide +kernel
theorem dX8_gather_9 : decode cX8_gather 9 = .ok (.aload_n 0, 1) := by decide +kernel
theorem dX8_gather_10 : decode cX8_gather 10 = .ok (.getfield 73, 3) := by decide +kernel
theorem dX8_gather_13 : decode cX8_gather 13 = .ok (.iload_n 1, 1) := by decide +kernel
theorem dX8_gather_14 : decode cX8_gather 14 = .ok (.ldc2_w 156, 3) := by decide +kernel
theorem dX8_gather_17 : decode cX8_gather 17 = .ok (.lastore, 1) := by decide +kernel
theorem dX8_gather_18 : decode cX8_gather 18 = .ok (.aload_n 0, 1) := by decide +kernel
theorem dX8_gather_19 : decode cX8_gather 19 = .ok (.getfield 76, 3) := by decide +kernel
theorem dX8_gather_22 : decode cX8_gather 22 = .ok (.iload_n 1, 1) := by decide +kernel
theorem dX8_gather_23 : decode cX8_gather 23 = .ok (.ldc2_w 156, 3) := by decide +kernel
theorem dX8_gather_26 : decode cX8_gather 26 = .ok (.lastore, 1) := by decide +kernel
theorem dX8_gather_27 : decode cX8_gather 27 = .ok (.aload_n 0, 1) := by decide +kernel
theorem dX8_gather_28 : decode cX8_gather 28 = .ok (.getfield 79, 3) := by decide +kernel
theorem dX8_gather_31 : decode cX8_gather 31 = .ok (.iload_n 1, 1) := by decide +kernel
theorem dX8_gather_32 : decode cX8_gather 32 = .ok (.lconst 0, 1) := by decide +kernel
theorem dX8_gather_33 : decode cX8_gather 33 = .ok (.lastore, 1) := by decide +kernel
theorem dX8_gather_34 : decode cX8_gather 34 = .ok (.iinc 1 1, 3) := by decide +kernel
theorem dX8_gather_37 : decode cX8_gather 37 = .ok (.goto (-35), 3) := by decide +kernel
theorem dX8_gather_40 : decode cX8_gather 40 = .ok (.iconst 0, 1) := by decide +kernel
theorem dX8_gather_41 : decode cX8_gather 41 = .ok (.istore_n 1, 1) := by decide +kernel
theorem dX8_gather_42 : decode cX8_gather 42 = .ok (.iload_n 1, 1) := by decide +kernel
theorem dX8_gather_43 : decode cX8_gather 43 = .ok (.aload_n 0, 1) := by decide +kernel
theorem dX8_gather_44 : decode cX8_gather 44 = .ok (.getfield 82, 3) := by decide +kernel
theorem dX8_gather_47 : decode cX8_gather 47 = .ok (.if_icmp .ge 43, 3) := by decide +kernel
theorem dX8_gather_50 : decode cX8_gather 50 = .ok (.aload_n 0, 1) := by decide +kernel
theorem dX8_gather_51 : decode cX8_gather 51 = .ok (.getfield 67, 3) := by decide +kernel
theorem dX8_gather_54 : decode cX8_gather 54 = .ok (.iload_n 1, 1) := by decide +kernel
theorem dX8_gather_55 : decode cX8_gather 55 = .ok (.lconst 0, 1) := by decide +kernel
theorem dX8_gather_56 : decode cX8_gather 56 = .ok (.lastore, 1) := by decide +kernel
theorem dX8_gather_57 : decode cX8_gather 57 = .ok (.iconst 0, 1) := by decide +kernel
theorem dX8_gather_58 : decode cX8_gather 58 = .ok (.istore_n 2, 1) := by decide +kernel
theorem dX8_gather_59 : decode cX8_gather 59 = .ok (.iload_n 2, 1) := by decide +kernel
theorem dX8_gather_60 : decode cX8_gather 60 = .ok (.aload_n 0, 1) := by decide +kernel
theorem dX8_gather_61 : decode cX8_gather 61 = .ok (.getfield 7, 3) := by decide +kernel
theorem dX8_gather_64 : decode cX8_gather 64 = .ok (.if_icmp .ge 20, 3) := by decide +kernel
theorem dX8_gather_67 : decode cX8_gather 67 = .ok (.aload_n 0, 1) := by decide +kernel
theorem dX8_gather_68 : decode cX8_gather 68 = .ok (.getfield 70, 3) := by decide +kernel
theorem dX8_gather_71 : decode cX8_gather 71 = .ok (.iconst 4, 1) := by decide +kernel
theorem dX8_gather_72 : decode cX8_gather 72 = .ok (.iload_n 1, 1) := by decide +kernel
theorem dX8_gather_73 : decode cX8_gather 73 = .ok (.imul, 1) := by decide +kernel
theorem dX8_gather_74 : decode cX8_gather 74 = .ok (.iload_n 2, 1) := by decide +kernel
theorem dX8_gather_75 : decode cX8_gather 75 = .ok (.iadd, 1) := by decide +kernel
theorem dX8_gather_76 : decode cX8_gather 76 = .ok (.lconst 0, 1) := by decide +kernel
theorem dX8_gather_77 : decode cX8_gather 77 = .ok (.lastore, 1) := by decide +kernel
theorem dX8_gather_78 : decode cX8_gather 78 = .ok (.iinc 2 1, 3) := by decide +kernel
theorem dX8_gather_81 : decode cX8_gather 81 = .ok (.goto (-22), 3) := by decide +kernel
theorem dX8_gather_84 : decode cX8_gather 84 = .ok (.iinc 1 1, 3) := by decide +kernel
theorem dX8_gather_87 : decode cX8_gather 87 = .ok (.goto (-45), 3) := by decide +kernel
theorem dX8_gather_90 : decode cX8_gather 90 = .ok (.iconst 0, 1) := by decide +kernel
theorem dX8_gather_91 : decode cX8_gather 91 = .ok (.istore_n 1, 1) := by decide +kernel
theorem dX8_gather_92 : decode cX8_gather 92 = .ok (.iload_n 1, 1) := by decide +kernel
theorem dX8_gather_93 : decode cX8_gather 93 = .ok (.aload_n 0, 1) := by decide +kernel
theorem dX8_gather_94 : decode cX8_gather 94 = .ok (.getfield 82, 3) := by decide +kernel
theorem dX8_gather_97 : decode cX8_gather 97 = .ok (.if_icmp .ge 199, 3) := by decide +kernel
theorem dX8_gather_100 : decode cX8_gather 100 = .ok (.aload_n 0, 1) := by decide +kernel
theorem dX8_gather_101 : decode cX8_gather 101 = .ok (.getfield 64, 3) := by decide +kernel
theorem dX8_gather_104 : decode cX8_gather 104 = .ok (.iload_n 1, 1) := by decide +kernel
theorem dX8_gather_105 : decode cX8_gather 105 = .ok (.iaload, 1) := by decide +kernel
theorem dX8_gather_106 : decode cX8_gather 106 = .ok (.istore_n 2, 1) := by decide +kernel
theorem dX8_gather_107 : decode cX8_gather 107 = .ok (.aload_n 0, 1) := by decide +kernel
theorem dX8_gather_108 : decode cX8_gather 108 = .ok (.getfield 67, 3) := by decide +kernel
theorem dX8_gather_111 : decode cX8_gather 111 = .ok (.iload_n 2, 1) := by decide +kernel
theorem dX8_gather_112 : decode cX8_gather 112 = .ok (.dup2, 1) := by decide +kernel
theorem dX8_gather_113 : decode cX8_gather 113 = .ok (.laload, 1) := by decide +kernel
theorem dX8_gather_114 : decode cX8_gather 114 = .ok (.lconst 1, 1) := by decide +kernel
theorem dX8_gather_115 : decode cX8_gather 115 = .ok (.ladd, 1) := by decide +kernel
theorem dX8_gather_116 : decode cX8_gather 116 = .ok (.lastore, 1) := by decide +kernel
theorem dX8_gather_117 : decode cX8_gather 117 = .ok (.iconst 0, 1) := by decide +kernel
theorem dX8_gather_118 : decode cX8_gather 118 = .ok (.istore_n 3, 1) := by decide +kernel
theorem dX8_gather_119 : decode cX8_gather 119 = .ok (.iload_n 3, 1) := by decide +kernel
theorem dX8_gather_120 : decode cX8_gather 120 = .ok (.aload_n 0, 1) := by decide +kernel
theorem dX8_gather_121 : decode cX8_gather 121 = .ok (.getfield 7, 3) := by decide +kernel
theorem dX8_gather_124 : decode cX8_gather 124 = .ok (.if_icmp .ge 33, 3) := by decide +kernel
theorem dX8_gather_127 : decode cX8_gather 127 = .ok (.aload_n 0, 1) := by decide +kernel
theorem dX8_gather_128 : decode cX8_gather 128 = .ok (.getfield 70, 3) := by decide +kernel
theorem dX8_gather_131 : decode cX8_gather 131 = .ok (.iconst 4, 1) := by decide +kernel
theorem dX8_gather_132 : decode cX8_gather 132 = .ok (.iload_n 2, 1) := by decide +kernel
theorem dX8_gather_133 : decode cX8_gather 133 = .ok (.imul, 1) := by decide +kernel
theorem dX8_gather_134 : decode cX8_gather 134 = .ok (.iload_n 3, 1) := by decide +kernel
theorem dX8_gather_135 : decode cX8_gather 135 = .ok (.iadd, 1) := by decide +kernel
theorem dX8_gather_136 : decode cX8_gather 136 = .ok (.dup2, 1) := by decide +kernel
theorem dX8_gather_137 : decode cX8_gather 137 = .ok (.laload, 1) := by decide +kernel
theorem dX8_gather_138 : decode cX8_gather 138 = .ok (.aload_n 0, 1) := by decide +kernel
theorem dX8_gather_139 : decode cX8_gather 139 = .ok (.getfield 13, 3) := by decide +kernel
theorem dX8_gather_142 : decode cX8_gather 142 = .ok (.iconst 4, 1) := by decide +kernel
theorem dX8_gather_143 : decode cX8_gather 143 = .ok (.iload_n 1, 1) := by decide +kernel
theorem dX8_gather_144 : decode cX8_gather 144 = .ok (.imul, 1) := by decide +kernel
theorem dX8_gather_145 : decode cX8_gather 145 = .ok (.iload_n 3, 1) := by decide +kernel
theorem dX8_gather_146 : decode cX8_gather 146 = .ok (.iadd, 1) := by decide +kernel
theorem dX8_gather_147 : decode cX8_gather 147 = .ok (.iaload, 1) := by decide +kernel
theorem dX8_gather_148 : decode cX8_gather 148 = .ok (.i2l, 1) := by decide +kernel
theorem dX8_gather_149 : decode cX8_gather 149 = .ok (.ladd, 1) := by decide +kernel
theorem dX8_gather_150 : decode cX8_gather 150 = .ok (.lastore, 1) := by decide +kernel
theorem dX8_gather_151 : decode cX8_gather 151 = .ok (.iinc 3 1, 3) := by decide +kernel
theorem dX8_gather_154 : decode cX8_gather 154 = .ok (.goto (-35), 3) := by decide +kernel
theorem dX8_gather_157 : decode cX8_gather 157 = .ok (.iconst 0, 1) := by decide +kernel
theorem dX8_gather_158 : decode cX8_gather 158 = .ok (.istore_n 3, 1) := by decide +kernel
theorem dX8_gather_159 : decode cX8_gather 159 = .ok (.iload_n 3, 1) := by decide +kernel
theorem dX8_gather_160 : decode cX8_gather 160 = .ok (.aload_n 0, 1) := by decide +kernel
theorem dX8_gather_161 : decode cX8_gather 161 = .ok (.getfield 82, 3) := by decide +kernel
theorem dX8_gather_164 : decode cX8_gather 164 = .ok (.if_icmp .ge 126, 3) := by decide +kernel
theorem dX8_gather_167 : decode cX8_gather 167 = .ok (.bipush 30, 2) := by decide +kernel
theorem dX8_gather_169 : decode cX8_gather 169 = .ok (.iload_n 2, 1) := by decide +kernel
theorem dX8_gather_170 : decode cX8_gather 170 = .ok (.imul, 1) := by decide +kernel
theorem dX8_gather_171 : decode cX8_gather 171 = .ok (.aload_n 0, 1) := by decide +kernel
theorem dX8_gather_172 : decode cX8_gather 172 = .ok (.getfield 64, 3) := by decide +kernel
theorem dX8_gather_175 : decode cX8_gather 175 = .ok (.iload_n 3, 1) := by decide +kernel
theorem dX8_gather_176 : decode cX8_gather 176 = .ok (.iaload, 1) := by decide +kernel
theorem dX8_gather_177 : decode cX8_gather 177 = .ok (.iadd, 1) := by decide +kernel
theorem dX8_gather_178 : decode cX8_gather 178 = .ok (.istore 4, 2) := by decide +kernel
theorem dX8_gather_180 : decode cX8_gather 180 = .ok (.aload_n 0, 1) := by decide +kernel
theorem dX8_gather_181 : decode cX8_gather 181 = .ok (.getfield 46, 3) := by decide +kernel
theorem dX8_gather_184 : decode cX8_gather 184 = .ok (.bipush 30, 2) := by decide +kernel
theorem dX8_gather_186 : decode cX8_gather 186 = .ok (.iload_n 1, 1) := by decide +kernel
theorem dX8_gather_187 : decode cX8_gather 187 = .ok (.imul, 1) := by decide +kernel
theorem dX8_gather_188 : decode cX8_gather 188 = .ok (.iload_n 3, 1) := by decide +kernel
theorem dX8_gather_189 : decode cX8_gather 189 = .ok (.iadd, 1) := by decide +kernel
theorem dX8_gather_190 : decode cX8_gather 190 = .ok (.iaload, 1) := by decide +kernel
theorem dX8_gather_191 : decode cX8_gather 191 = .ok (.i2l, 1) := by decide +kernel
theorem dX8_gather_192 : decode cX8_gather 192 = .ok (.lstore 5, 2) := by decide +kernel
theorem dX8_gather_194 : decode cX8_gather 194 = .ok (.aload_n 0, 1) := by decide +kernel
theorem dX8_gather_195 : decode cX8_gather 195 = .ok (.getfield 73, 3) := by decide +kernel
theorem dX8_gather_198 : decode cX8_gather 198 = .ok (.iload 4, 2) := by decide +kernel
theorem dX8_gather_200 : decode cX8_gather 200 = .ok (.aload_n 0, 1) := by decide +kernel
theorem dX8_gather_201 : decode cX8_gather 201 = .ok (.getfield 73, 3) := by decide +kernel
theorem dX8_gather_204 : decode cX8_gather 204 = .ok (.iload 4, 2) := by decide +kernel
theorem dX8_gather_206 : decode cX8_gather 206 = .ok (.laload, 1) := by decide +kernel
theorem dX8_gather_207 : decode cX8_gather 207 = .ok (.ldc2_w 156, 3) := by decide +kernel
theorem dX8_gather_210 : decode cX8_gather 210 = .ok (.lcmp, 1) := by decide +kernel
theorem dX8_gather_211 : decode cX8_gather 211 = .ok (.ifCond .eq 16, 3) := by decide +kernel
theorem dX8_gather_214 : decode cX8_gather 214 = .ok (.lload 5, 2) := by decide +kernel
theorem dX8_gather_216 : decode cX8_gather 216 = .ok (.aload_n 0, 1) := by decide +kernel
theorem dX8_gather_217 : decode cX8_gather 217 = .ok (.getfield 73, 3) := by decide +kernel
theorem dX8_gather_220 : decode cX8_gather 220 = .ok (.iload 4, 2) := by decide +kernel
theorem dX8_gather_222 : decode cX8_gather 222 = .ok (.laload, 1) := by decide +kernel
theorem dX8_gather_223 : decode cX8_gather 223 = .ok (.lcmp, 1) := by decide +kernel
theorem dX8_gather_224 : decode cX8_gather 224 = .ok (.ifCond .ge 8, 3) := by decide +kernel
theorem dX8_gather_227 : decode cX8_gather 227 = .ok (.lload 5, 2) := by decide +kernel
theorem dX8_gather_229 : decode cX8_gather 229 = .ok (.goto 10, 3) := by decide +kernel
theorem dX8_gather_232 : decode cX8_gather 232 = .ok (.aload_n 0, 1) := by decide +kernel
theorem dX8_gather_233 : decode cX8_gather 233 = .ok (.getfield 73, 3) := by decide +kernel
theorem dX8_gather_236 : decode cX8_gather 236 = .ok (.iload 4, 2) := by decide +kernel
theorem dX8_gather_238 : decode cX8_gather 238 = .ok (.laload, 1) := by decide +kernel
theorem dX8_gather_239 : decode cX8_gather 239 = .ok (.lastore, 1) := by decide +kernel
theorem dX8_gather_240 : decode cX8_gather 240 = .ok (.aload_n 0, 1) := by decide +kernel
theorem dX8_gather_241 : decode cX8_gather 241 = .ok (.getfield 76, 3) := by decide +kernel
theorem dX8_gather_244 : decode cX8_gather 244 = .ok (.iload 4, 2) := by decide +kernel
theorem dX8_gather_246 : decode cX8_gather 246 = .ok (.lload 5, 2) := by decide +kernel
theorem dX8_gather_248 : decode cX8_gather 248 = .ok (.aload_n 0, 1) := by decide +kernel
theorem dX8_gather_249 : decode cX8_gather 249 = .ok (.getfield 76, 3) := by decide +kernel
theorem dX8_gather_252 : decode cX8_gather 252 = .ok (.iload 4, 2) := by decide +kernel
theorem dX8_gather_254 : decode cX8_gather 254 = .ok (.laload, 1) := by decide +kernel
theorem dX8_gather_255 : decode cX8_gather 255 = .ok (.lcmp, 1) := by decide +kernel
theorem dX8_gather_256 : decode cX8_gather 256 = .ok (.ifCond .le 8, 3) := by decide +kernel
theorem dX8_gather_259 : decode cX8_gather 259 = .ok (.lload 5, 2) := by decide +kernel
theorem dX8_gather_261 : decode cX8_gather 261 = .ok (.goto 10, 3) := by decide +kernel
theorem dX8_gather_264 : decode cX8_gather 264 = .ok (.aload_n 0, 1) := by decide +kernel
theorem dX8_gather_265 : decode cX8_gather 265 = .ok (.getfield 76, 3) := by decide +kernel
theorem dX8_gather_268 : decode cX8_gather 268 = .ok (.iload 4, 2) := by decide +kernel
theorem dX8_gather_270 : decode cX8_gather 270 = .ok (.laload, 1) := by decide +kernel
theorem dX8_gather_271 : decode cX8_gather 271 = .ok (.lastore, 1) := by decide +kernel
theorem dX8_gather_272 : decode cX8_gather 272 = .ok (.aload_n 0, 1) := by decide +kernel
theorem dX8_gather_273 : decode cX8_gather 273 = .ok (.getfield 79, 3) := by decide +kernel
theorem dX8_gather_276 : decode cX8_gather 276 = .ok (.iload 4, 2) := by decide +kernel
theorem dX8_gather_278 : decode cX8_gather 278 = .ok (.dup2, 1) := by decide +kernel
theorem dX8_gather_279 : decode cX8_gather 279 = .ok (.laload, 1) := by decide +kernel
theorem dX8_gather_280 : decode cX8_gather 280 = .ok (.lload 5, 2) := by decide +kernel
theorem dX8_gather_282 : decode cX8_gather 282 = .ok (.ladd, 1) := by decide +kernel
theorem dX8_gather_283 : decode cX8_gather 283 = .ok (.lastore, 1) := by decide +kernel
theorem dX8_gather_284 : decode cX8_gather 284 = .ok (.iinc 3 1, 3) := by decide +kernel
theorem dX8_gather_287 : decode cX8_gather 287 = .ok (.goto (-128), 3) := by decide +kernel
theorem dX8_gather_290 : decode cX8_gather 290 = .ok (.iinc 1 1, 3) := by decide +kernel
theorem dX8_gather_293 : decode cX8_gather 293 = .ok (.goto (-201), 3) := by decide +kernel
theorem dX8_gather_296 : decode cX8_gather 296 = .ok (.return_, 1) := by decide +kernel
theorem dX8_apartOf_0 : decode cX8_apartOf 0 = .ok (.bipush 30, 2) := by decide +kernel
theorem dX8_apartOf_2 : decode cX8_apartOf 2 = .ok (.iload_n 2, 1) := by decide +kernel
theorem dX8_apartOf_3 : decode cX8_apartOf 3 = .ok (.imul, 1) := by decide +kernel
theorem dX8_apartOf_4 : decode cX8_apartOf 4 = .ok (.iload_n 3, 1) := by decide +kernel
theorem dX8_apartOf_5 : decode cX8_apartOf 5 = .ok (.iadd, 1) := by decide +kernel
theorem dX8_apartOf_6 : decode cX8_apartOf 6 = .ok (.istore 4, 2) := by decide +kernel
theorem dX8_apartOf_8 : decode cX8_apartOf 8 = .ok (.aload_n 0, 1) := by decide +kernel
theorem dX8_apartOf_9 : decode cX8_apartOf 9 = .ok (.iload_n 1, 1) := by decide +kernel
theorem dX8_apartOf_10 : decode cX8_apartOf 10 = .ok (.ifCond .ne 13, 3) := by decide +kernel
theorem dX8_apartOf_13 : decode cX8_apartOf 13 = .ok (.aload_n 0, 1) := by decide +kernel
theorem dX8_apartOf_14 : decode cX8_apartOf 14 = .ok (.getfield 73, 3) := by decide +kernel
theorem dX8_apartOf_17 : decode cX8_apartOf 17 = .ok (.iload 4, 2) := by decide +kernel
theorem dX8_apartOf_19 : decode cX8_apartOf 19 = .ok (.laload, 1) := by decide +kernel
theorem dX8_apartOf_20 : decode cX8_apartOf 20 = .ok (.goto 25, 3) := by decide +kernel
theorem dX8_apartOf_23 : decode cX8_apartOf 23 = .ok (.iload_n 1, 1) := by decide +kernel
theorem dX8_apartOf_24 : decode cX8_apartOf 24 = .ok (.iconst 1, 1) := by decide +kernel
theorem dX8_apartOf_25 : decode cX8_apartOf 25 = .ok (.if_icmp .ne 13, 3) := by decide +kernel
theorem dX8_apartOf_28 : decode cX8_apartOf 28 = .ok (.aload_n 0, 1) := by decide +kernel
theorem dX8_apartOf_29 : decode cX8_apartOf 29 = .ok (.getfield 76, 3) := by decide +kernel
theorem dX8_apartOf_32 : decode cX8_apartOf 32 = .ok (.iload 4, 2) := by decide +kernel
theorem dX8_apartOf_34 : decode cX8_apartOf 34 = .ok (.laload, 1) := by decide +kernel
theorem dX8_apartOf_35 : decode cX8_apartOf 35 = .ok (.goto 10, 3) := by decide +kernel
theorem dX8_apartOf_38 : decode cX8_apartOf 38 = .ok (.aload_n 0, 1) := by decide +kernel
theorem dX8_apartOf_39 : decode cX8_apartOf 39 = .ok (.getfield 79, 3) := by decide +kernel
theorem dX8_apartOf_42 : decode cX8_apartOf 42 = .ok (.iload 4, 2) := by decide +kernel
theorem dX8_apartOf_44 : decode cX8_apartOf 44 = .ok (.laload, 1) := by decide +kernel
theorem dX8_apartOf_45 : decode cX8_apartOf 45 = .ok (.putfield 158, 3) := by decide +kernel
theorem dX8_apartOf_48 : decode cX8_apartOf 48 = .ok (.aload_n 0, 1) := by decide +kernel
theorem dX8_apartOf_49 : decode cX8_apartOf 49 = .ok (.iload_n 1, 1) := by decide +kernel
theorem dX8_apartOf_50 : decode cX8_apartOf 50 = .ok (.iconst 2, 1) := by decide +kernel
theorem dX8_apartOf_51 : decode cX8_apartOf 51 = .ok (.if_icmp .ne 19, 3) := by decide +kernel
theorem dX8_apartOf_54 : decode cX8_apartOf 54 = .ok (.aload_n 0, 1) := by decide +kernel
theorem dX8_apartOf_55 : decode cX8_apartOf 55 = .ok (.getfield 67, 3) := by decide +kernel
theorem dX8_apartOf_58 : decode cX8_apartOf 58 = .ok (.iload_n 2, 1) := by decide +kernel
theorem dX8_apartOf_59 : decode cX8_apartOf 59 = .ok (.laload, 1) := by decide +kernel
theorem dX8_apartOf_60 : decode cX8_apartOf 60 = .ok (.aload_n 0, 1) := by decide +kernel
theorem dX8_apartOf_61 : decode cX8_apartOf 61 = .ok (.getfield 67, 3) := by decide +kernel
theorem dX8_apartOf_64 : decode cX8_apartOf 64 = .ok (.iload_n 3, 1) := by decide +kernel
theorem dX8_apartOf_65 : decode cX8_apartOf 65 = .ok (.laload, 1) := by decide +kernel
theorem dX8_apartOf_66 : decode cX8_apartOf 66 = .ok (.lmul, 1) := by decide +kernel
theorem dX8_apartOf_67 : decode cX8_apartOf 67 = .ok (.goto 4, 3) := by decide +kernel
theorem dX8_apartOf_70 : decode cX8_apartOf 70 = .ok (.lconst 1, 1) := by decide +kernel
theorem dX8_apartOf_71 : decode cX8_apartOf 71 = .ok (.putfield 162, 3) := by decide +kernel
theorem dX8_apartOf_74 : decode cX8_apartOf 74 = .ok (.iload_n 1, 1) := by decide +kernel
theorem dX8_apartOf_75 : decode cX8_apartOf 75 = .ok (.iconst 3, 1) := by decide +kernel
theorem dX8_apartOf_76 : decode cX8_apartOf 76 = .ok (.if_icmp .ge 4, 3) := by decide +kernel
theorem dX8_apartOf_79 : decode cX8_apartOf 79 = .ok (.return_, 1) := by decide +kernel
theorem dX8_apartOf_80 : decode cX8_apartOf 80 = .ok (.aload_n 0, 1) := by decide +kernel
theorem dX8_apartOf_81 : decode cX8_apartOf 81 = .ok (.lconst 0, 1) := by decide +kernel
theorem dX8_apartOf_82 : decode cX8_apartOf 82 = .ok (.putfield 158, 3) := by decide +kernel
theorem dX8_apartOf_85 : decode cX8_apartOf 85 = .ok (.iconst 0, 1) := by decide +kernel
theorem dX8_apartOf_86 : decode cX8_apartOf 86 = .ok (.istore 5, 2) := by decide +kernel
theorem dX8_apartOf_88 : decode cX8_apartOf 88 = .ok (.iload 5, 2) := by decide +kernel
theorem dX8_apartOf_90 : decode cX8_apartOf 90 = .ok (.aload_n 0, 1) := by decide +kernel
theorem dX8_apartOf_91 : decode cX8_apartOf 91 = .ok (.getfield 7, 3) := by decide +kernel
theorem dX8_apartOf_94 : decode cX8_apartOf 94 = .ok (.if_icmp .ge 62, 3) := by decide +kernel
theorem dX8_apartOf_97 : decode cX8_apartOf 97 = .ok (.aload_n 0, 1) := by decide +kernel
theorem dX8_apartOf_98 : decode cX8_apartOf 98 = .ok (.getfield 67, 3) := by decide +kernel
theorem dX8_apartOf_101 : decode cX8_apartOf 101 = .ok (.iload_n 3, 1) := by decide +kernel
theorem dX8_apartOf_102 : decode cX8_apartOf 102 = .ok (.laload, 1) := by decide +kernel
theorem dX8_apartOf_103 : decode cX8_apartOf 103 = .ok (.aload_n 0, 1) := by decide +kernel
theorem dX8_apartOf_104 : decode cX8_apartOf 104 = .ok (.getfield 70, 3) := by decide +kernel
theorem dX8_apartOf_107 : decode cX8_apartOf 107 = .ok (.iconst 4, 1) := by decide +kernel
theorem dX8_apartOf_108 : decode cX8_apartOf 108 = .ok (.iload_n 2, 1) := by decide +kernel
theorem dX8_apartOf_109 : decode cX8_apartOf 109 = .ok (.imul, 1) := by decide +kernel
theorem dX8_apartOf_110 : decode cX8_apartOf 110 = .ok (.iload 5, 2) := by decide +kernel
theorem dX8_apartOf_112 : decode cX8_apartOf 112 = .ok (.iadd, 1) := by decide +kernel
theorem dX8_apartOf_113 : decode cX8_apartOf 113 = .ok (.laload, 1) := by decide +kernel
theorem dX8_apartOf_114 : decode cX8_apartOf 114 = .ok (.lmul, 1) := by decide +kernel
theorem dX8_apartOf_115 : decode cX8_apartOf 115 = .ok (.aload_n 0, 1) := by decide +kernel
theorem dX8_apartOf_116 : decode cX8_apartOf 116 = .ok (.getfield 67, 3) := by decide +kernel
theorem dX8_apartOf_119 : decode cX8_apartOf 119 = .ok (.iload_n 2, 1) := by decide +kernel
theorem dX8_apartOf_120 : decode cX8_apartOf 120 = .ok (.laload, 1) := by decide +kernel
theorem dX8_apartOf_121 : decode cX8_apartOf 121 = .ok (.aload_n 0, 1) := by decide +kernel
theorem dX8_apartOf_122 : decode cX8_apartOf 122 = .ok (.getfield 70, 3) := by decide +kernel
theorem dX8_apartOf_125 : decode cX8_apartOf 125 = .ok (.iconst 4, 1) := by decide +kernel
theorem dX8_apartOf_126 : decode cX8_apartOf 126 = .ok (.iload_n 3, 1) := by decide +kernel
theorem dX8_apartOf_127 : decode cX8_apartOf 127 = .ok (.imul, 1) := by decide +kernel
theorem dX8_apartOf_128 : decode cX8_apartOf 128 = .ok (.iload 5, 2) := by decide +kernel
theorem dX8_apartOf_130 : decode cX8_apartOf 130 = .ok (.iadd, 1) := by decide +kernel
theorem dX8_apartOf_131 : decode cX8_apartOf 131 = .ok (.laload, 1) := by decide +kernel
theorem dX8_apartOf_132 : decode cX8_apartOf 132 = .ok (.lmul, 1) := by decide +kernel
theorem dX8_apartOf_133 : decode cX8_apartOf 133 = .ok (.lsub, 1) := by decide +kernel
theorem dX8_apartOf_134 : decode cX8_apartOf 134 = .ok (.lstore 6, 2) := by decide +kernel
theorem dX8_apartOf_136 : decode cX8_apartOf 136 = .ok (.aload_n 0, 1) := by decide +kernel
theorem dX8_apartOf_137 : decode cX8_apartOf 137 = .ok (.dup, 1) := by decide +kernel
theorem dX8_apartOf_138 : decode cX8_apartOf 138 = .ok (.getfield 158, 3) := by decide +kernel
theorem dX8_apartOf_141 : decode cX8_apartOf 141 = .ok (.lload 6, 2) := by decide +kernel
theorem dX8_apartOf_143 : decode cX8_apartOf 143 = .ok (.lload 6, 2) := by decide +kernel
theorem dX8_apartOf_145 : decode cX8_apartOf 145 = .ok (.lmul, 1) := by decide +kernel
theorem dX8_apartOf_146 : decode cX8_apartOf 146 = .ok (.ladd, 1) := by decide +kernel
theorem dX8_apartOf_147 : decode cX8_apartOf 147 = .ok (.putfield 158, 3) := by decide +kernel
theorem dX8_apartOf_150 : decode cX8_apartOf 150 = .ok (.iinc 5 1, 3) := by decide +kernel
theorem dX8_apartOf_153 : decode cX8_apartOf 153 = .ok (.goto (-65), 3) := by decide +kernel
theorem dX8_apartOf_156 : decode cX8_apartOf 156 = .ok (.aload_n 0, 1) := by decide +kernel
theorem dX8_apartOf_157 : decode cX8_apartOf 157 = .ok (.aload_n 0, 1) := by decide +kernel
theorem dX8_apartOf_158 : decode cX8_apartOf 158 = .ok (.getfield 67, 3) := by decide +kernel
theorem dX8_apartOf_161 : decode cX8_apartOf 161 = .ok (.iload_n 2, 1) := by decide +kernel
theorem dX8_apartOf_162 : decode cX8_apartOf 162 = .ok (.laload, 1) := by decide +kernel
theorem dX8_apartOf_163 : decode cX8_apartOf 163 = .ok (.aload_n 0, 1) := by decide +kernel
theorem dX8_apartOf_164 : decode cX8_apartOf 164 = .ok (.getfield 67, 3) := by decide +kernel
theorem dX8_apartOf_167 : decode cX8_apartOf 167 = .ok (.iload_n 3, 1) := by decide +kernel
theorem dX8_apartOf_168 : decode cX8_apartOf 168 = .ok (.laload, 1) := by decide +kernel
theorem dX8_apartOf_169 : decode cX8_apartOf 169 = .ok (.lmul, 1) := by decide +kernel
theorem dX8_apartOf_170 : decode cX8_apartOf 170 = .ok (.aload_n 0, 1) := by decide +kernel
theorem dX8_apartOf_171 : decode cX8_apartOf 171 = .ok (.getfield 67, 3) := by decide +kernel
theorem dX8_apartOf_174 : decode cX8_apartOf 174 = .ok (.iload_n 2, 1) := by decide +kernel
theorem dX8_apartOf_175 : decode cX8_apartOf 175 = .ok (.laload, 1) := by decide +kernel
theorem dX8_apartOf_176 : decode cX8_apartOf 176 = .ok (.aload_n 0, 1) := by decide +kernel
theorem dX8_apartOf_177 : decode cX8_apartOf 177 = .ok (.getfield 67, 3) := by decide +kernel
theorem dX8_apartOf_180 : decode cX8_apartOf 180 = .ok (.iload_n 3, 1) := by decide +kernel
theorem dX8_apartOf_181 : decode cX8_apartOf 181 = .ok (.laload, 1) := by decide +kernel
theorem dX8_apartOf_182 : decode cX8_apartOf 182 = .ok (.ladd, 1) := by decide +kernel
theorem dX8_apartOf_183 : decode cX8_apartOf 183 = .ok (.lmul, 1) := by decide +kernel
theorem dX8_apartOf_184 : decode cX8_apartOf 184 = .ok (.putfield 162, 3) := by decide +kernel
theorem dX8_apartOf_187 : decode cX8_apartOf 187 = .ok (.return_, 1) := by decide +kernel
theorem dX8_tree_0 : decode cX8_tree 0 = .ok (.iload_n 1, 1) := by decide +kernel
theorem dX8_tree_1 : decode cX8_tree 1 = .ok (.iconst 0, 1) := by decide +kernel
theorem dX8_tree_2 : decode cX8_tree 2 = .ok (.iconst 3, 1) := by decide +kernel
theorem dX8_tree_3 : decode cX8_tree 3 = .ok (.invokestatic 85, 3) := by decide +kernel
theorem dX8_tree_6 : decode cX8_tree 6 = .ok (.ifCond .eq 12, 3) := by decide +kernel
theorem dX8_tree_9 : decode cX8_tree 9 = .ok (.iload_n 2, 1) := by decide +kernel
theorem dX8_tree_10 : decode cX8_tree 10 = .ok (.iconst 0, 1) := by decide +kernel
theorem dX8_tree_11 : decode cX8_tree 11 = .ok (.iconst 2, 1) := by decide +kernel
theorem dX8_tree_12 : decode cX8_tree 12 = .ok (.invokestatic 85, 3) := by decide +kernel
theorem dX8_tree_15 : decode cX8_tree 15 = .ok (.ifCond .ne 6, 3) := by decide +kernel
theorem dX8_tree_18 : decode cX8_tree 18 = .ok (.ldc 96, 2) := by decide +kernel
theorem dX8_tree_20 : decode cX8_tree 20 = .ok (.ireturn, 1) := by decide +kernel
theorem dX8_tree_21 : decode cX8_tree 21 = .ok (.aload_n 0, 1) := by decide +kernel
theorem dX8_tree_22 : decode cX8_tree 22 = .ok (.getfield 82, 3) := by decide +kernel
theorem dX8_tree_25 : decode cX8_tree 25 = .ok (.ifCond .ne 6, 3) := by decide +kernel
theorem dX8_tree_28 : decode cX8_tree 28 = .ok (.ldc 97, 2) := by decide +kernel
theorem dX8_tree_30 : decode cX8_tree 30 = .ok (.ireturn, 1) := by decide +kernel
theorem dX8_tree_31 : decode cX8_tree 31 = .ok (.iconst 0, 1) := by decide +kernel
theorem dX8_tree_32 : decode cX8_tree 32 = .ok (.istore_n 3, 1) := by decide +kernel
theorem dX8_tree_33 : decode cX8_tree 33 = .ok (.iload_n 3, 1) := by decide +kernel
theorem dX8_tree_34 : decode cX8_tree 34 = .ok (.aload_n 0, 1) := by decide +kernel
theorem dX8_tree_35 : decode cX8_tree 35 = .ok (.getfield 82, 3) := by decide +kernel
theorem dX8_tree_38 : decode cX8_tree 38 = .ok (.if_icmp .ge 16, 3) := by decide +kernel
theorem dX8_tree_41 : decode cX8_tree 41 = .ok (.aload_n 0, 1) := by decide +kernel
theorem dX8_tree_42 : decode cX8_tree 42 = .ok (.getfield 64, 3) := by decide +kernel
theorem dX8_tree_45 : decode cX8_tree 45 = .ok (.iload_n 3, 1) := by decide +kernel
theorem dX8_tree_46 : decode cX8_tree 46 = .ok (.iload_n 3, 1) := by decide +kernel
theorem dX8_tree_47 : decode cX8_tree 47 = .ok (.iastore, 1) := by decide +kernel
theorem dX8_tree_48 : decode cX8_tree 48 = .ok (.iinc 3 1, 3) := by decide +kernel
theorem dX8_tree_51 : decode cX8_tree 51 = .ok (.goto (-18), 3) := by decide +kernel
theorem dX8_tree_54 : decode cX8_tree 54 = .ok (.aload_n 0, 1) := by decide +kernel
theorem dX8_tree_55 : decode cX8_tree 55 = .ok (.iload_n 2, 1) := by decide +kernel
theorem dX8_tree_56 : decode cX8_tree 56 = .ok (.invokevirtual 114, 3) := by decide +kernel
theorem dX8_tree_59 : decode cX8_tree 59 = .ok (.aload_n 0, 1) := by decide +kernel
theorem dX8_tree_60 : decode cX8_tree 60 = .ok (.iconst 0, 1) := by decide +kernel
theorem dX8_tree_61 : decode cX8_tree 61 = .ok (.putfield 102, 3) := by decide +kernel
theorem dX8_tree_64 : decode cX8_tree 64 = .ok (.aload_n 0, 1) := by decide +kernel
theorem dX8_tree_65 : decode cX8_tree 65 = .ok (.getfield 102, 3) := by decide +kernel
theorem dX8_tree_68 : decode cX8_tree 68 = .ok (.aload_n 0, 1) := by decide +kernel
theorem dX8_tree_69 : decode cX8_tree 69 = .ok (.getfield 82, 3) := by decide +kernel
theorem dX8_tree_72 : decode cX8_tree 72 = .ok (.iconst 1, 1) := by decide +kernel
theorem dX8_tree_73 : decode cX8_tree 73 = .ok (.isub, 1) := by decide +kernel
theorem dX8_tree_74 : decode cX8_tree 74 = .ok (.if_icmp .ge 11, 3) := by decide +kernel
theorem dX8_tree_77 : decode cX8_tree 77 = .ok (.aload_n 0, 1) := by decide +kernel
theorem dX8_tree_78 : decode cX8_tree 78 = .ok (.iload_n 1, 1) := by decide +kernel
theorem dX8_tree_79 : decode cX8_tree 79 = .ok (.invokevirtual 165, 3) := by decide +kernel
theorem dX8_tree_82 : decode cX8_tree 82 = .ok (.goto (-18), 3) := by decide +kernel
theorem dX8_tree_85 : decode cX8_tree 85 = .ok (.aload_n 0, 1) := by decide +kernel
theorem dX8_tree_86 : decode cX8_tree 86 = .ok (.iconst 1, 1) := by decide +kernel
theorem dX8_tree_87 : decode cX8_tree 87 = .ok (.putfield 92, 3) := by decide +kernel
theorem dX8_tree_90 : decode cX8_tree 90 = .ok (.aload_n 0, 1) := by decide +kernel
theorem dX8_tree_91 : decode cX8_tree 91 = .ok (.getfield 102, 3) := by decide +kernel
theorem dX8_tree_94 : decode cX8_tree 94 = .ok (.ireturn, 1) := by decide +kernel
theorem dX8_joinNext_0 : decode cX8_joinNext 0 = .ok (.iconst (-1), 1) := by decide +kernel
theorem dX8_joinNext_1 : decode cX8_joinNext 1 = .ok (.istore_n 2, 1) := by decide +kernel
theorem dX8_joinNext_2 : decode cX8_joinNext 2 = .ok (.iconst (-1), 1) := by decide +kernel
theorem dX8_joinNext_3 : decode cX8_joinNext 3 = .ok (.istore_n 3, 1) := by decide +kernel
theorem dX8_joinNext_4 : decode cX8_joinNext 4 = .ok (.lconst 0, 1) := by decide +kernel
theorem dX8_joinNext_5 : decode cX8_joinNext 5 = .ok (.lstore 4, 2) := by decide +kernel
theorem dX8_joinNext_7 : decode cX8_joinNext 7 = .ok (.lconst 1, 1) := by decide +kernel
theorem dX8_joinNext_8 : decode cX8_joinNext 8 = .ok (.lstore 6, 2) := by decide +kernel
theorem dX8_joinNext_10 : decode cX8_joinNext 10 = .ok (.aload_n 0, 1) := by decide +kernel
theorem dX8_joinNext_11 : decode cX8_joinNext 11 = .ok (.invokevirtual 168, 3) := by decide +kernel
theorem dX8_joinNext_14 : decode cX8_joinNext 14 = .ok (.iconst 0, 1) := by decide +kernel
theorem dX8_joinNext_15 : decode cX8_joinNext 15 = .ok (.istore 8, 2) := by decide +kernel
theorem dX8_joinNext_17 : decode cX8_joinNext 17 = .ok (.iload 8, 2) := by decide +kernel
theorem dX8_joinNext_19 : decode cX8_joinNext 19 = .ok (.aload_n 0, 1) := by decide +kernel
theorem dX8_joinNext_20 : decode cX8_joinNext 20 = .ok (.getfield 82, 3) := by decide +kernel
theorem dX8_joinNext_23 : decode cX8_joinNext 23 = .ok (.if_icmp .ge 104, 3) := by decide +kernel
theorem dX8_joinNext_26 : decode cX8_joinNext 26 = .ok (.iload 8, 2) := by decide +kernel
theorem dX8_joinNext_28 : decode cX8_joinNext 28 = .ok (.iconst 1, 1) := by decide +kernel
theorem dX8_joinNext_29 : decode cX8_joinNext 29 = .ok (.iadd, 1) := by decide +kernel
theorem dX8_joinNext_30 : decode cX8_joinNext 30 = .ok (.istore 9, 2) := by decide +kernel
theorem dX8_joinNext_32 : decode cX8_joinNext 32 = .ok (.iload 9, 2) := by decide +kernel
theorem dX8_joinNext_34 : decode cX8_joinNext 34 = .ok (.aload_n 0, 1) := by decide +kernel
theorem dX8_joinNext_35 : decode cX8_joinNext 35 = .ok (.getfield 82, 3) := by decide +kernel
theorem dX8_joinNext_38 : decode cX8_joinNext 38 = .ok (.if_icmp .ge 83, 3) := by decide +kernel
theorem dX8_joinNext_41 : decode cX8_joinNext 41 = .ok (.aload_n 0, 1) := by decide +kernel
theorem dX8_joinNext_42 : decode cX8_joinNext 42 = .ok (.getfield 64, 3) := by decide +kernel
theorem dX8_joinNext_45 : decode cX8_joinNext 45 = .ok (.iload 8, 2) := by decide +kernel
theorem dX8_joinNext_47 : decode cX8_joinNext 47 = .ok (.iaload, 1) := by decide +kernel
theorem dX8_joinNext_48 : decode cX8_joinNext 48 = .ok (.iload 8, 2) := by decide +kernel
theorem dX8_joinNext_50 : decode cX8_joinNext 50 = .ok (.if_icmp .ne 71, 3) := by decide +kernel
theorem dX8_joinNext_53 : decode cX8_joinNext 53 = .ok (.aload_n 0, 1) := by decide +kernel
theorem dX8_joinNext_54 : decode cX8_joinNext 54 = .ok (.getfield 64, 3) := by decide +kernel
theorem dX8_joinNext_57 : decode cX8_joinNext 57 = .ok (.iload 9, 2) := by decide +kernel
theorem dX8_joinNext_59 : decode cX8_joinNext 59 = .ok (.iaload, 1) := by decide +kernel
theorem dX8_joinNext_60 : decode cX8_joinNext 60 = .ok (.iload 9, 2) := by decide +kernel
theorem dX8_joinNext_62 : decode cX8_joinNext 62 = .ok (.if_icmp .ne 53, 3) := by decide +kernel
theorem dX8_joinNext_65 : decode cX8_joinNext 65 = .ok (.aload_n 0, 1) := by decide +kernel
theorem dX8_joinNext_66 : decode cX8_joinNext 66 = .ok (.iload_n 1, 1) := by decide +kernel
theorem dX8_joinNext_67 : decode cX8_joinNext 67 = .ok (.iload 8, 2) := by decide +kernel
theorem dX8_joinNext_69 : decode cX8_joinNext 69 = .ok (.iload 9, 2) := by decide +kernel
theorem dX8_joinNext_71 : decode cX8_joinNext 71 = .ok (.invokevirtual 171, 3) := by decide +kernel
theorem dX8_joinNext_74 : decode cX8_joinNext 74 = .ok (.iload_n 2, 1) := by decide +kernel
theorem dX8_joinNext_75 : decode cX8_joinNext 75 = .ok (.iconst (-1), 1) := by decide +kernel
theorem dX8_joinNext_76 : decode cX8_joinNext 76 = .ok (.if_icmp .eq 21, 3) := by decide +kernel
theorem dX8_joinNext_79 : decode cX8_joinNext 79 = .ok (.aload_n 0, 1) := by decide +kernel
theorem dX8_joinNext_80 : decode cX8_joinNext 80 = .ok (.getfield 158, 3) := by decide +kernel
theorem dX8_joinNext_83 : decode cX8_joinNext 83 = .ok (.lload 6, 2) := by decide +kernel
theorem dX8_joinNext_85 : decode cX8_joinNext 85 = .ok (.lmul, 1) := by decide +kernel
theorem dX8_joinNext_86 : decode cX8_joinNext 86 = .ok (.lload 4, 2) := by decide +kernel
theorem dX8_joinNext_88 : decode cX8_joinNext 88 = .ok (.aload_n 0, 1) := by decide +kernel
theorem dX8_joinNext_89 : decode cX8_joinNext 89 = .ok (.getfield 162, 3) := by decide +kernel
theorem dX8_joinNext_92 : decode cX8_joinNext 92 = .ok (.lmul, 1) := by decide +kernel
theorem dX8_joinNext_93 : decode cX8_joinNext 93 = .ok (.lcmp, 1) := by decide +kernel
theorem dX8_joinNext_94 : decode cX8_joinNext 94 = .ok (.ifCond .ge 21, 3) := by decide +kernel
theorem dX8_joinNext_97 : decode cX8_joinNext 97 = .ok (.iload 8, 2) := by decide +kernel
theorem dX8_joinNext_99 : decode cX8_joinNext 99 = .ok (.istore_n 2, 1) := by decide +kernel
theorem dX8_joinNext_100 : decode cX8_joinNext 100 = .ok (.iload 9, 2) := by decide +kernel
theorem dX8_joinNext_102 : decode cX8_joinNext 102 = .ok (.istore_n 3, 1) := by decide +kernel
theorem dX8_joinNext_103 : decode cX8_joinNext 103 = .ok (.aload_n 0, 1) := by decide +kernel
theorem dX8_joinNext_104 : decode cX8_joinNext 104 = .ok (.getfield 158, 3) := by decide +kernel
theorem dX8_joinNext_107 : decode cX8_joinNext 107 = .ok (.lstore 4, 2) := by decide +kernel
theorem dX8_joinNext_109 : decode cX8_joinNext 109 = .ok (.aload_n 0, 1) := by decide +kernel
theorem dX8_joinNext_110 : decode cX8_joinNext 110 = .ok (.getfield 162, 3) := by decide +kernel
theorem dX8_joinNext_113 : decode cX8_joinNext 113 = .ok (.lstore 6, 2) := by decide +kernel
theorem dX8_joinNext_115 : decode cX8_joinNext 115 = .ok (.iinc 9 1, 3) := by decide +kernel
theorem dX8_joinNext_118 : decode cX8_joinNext 118 = .ok (.goto (-86), 3) := by decide +kernel
theorem dX8_joinNext_121 : decode cX8_joinNext 121 = .ok (.iinc 8 1, 3) := by decide +kernel
theorem dX8_joinNext_124 : decode cX8_joinNext 124 = .ok (.goto (-107), 3) := by decide +kernel
theorem dX8_joinNext_127 : decode cX8_joinNext 127 = .ok (.lload 4, 2) := by decide +kernel
theorem dX8_joinNext_129 : decode cX8_joinNext 129 = .ok (.lload 6, 2) := by decide +kernel
theorem dX8_joinNext_131 : decode cX8_joinNext 131 = .ok (.invokestatic 174, 3) := by decide +kernel
theorem dX8_joinNext_134 : decode cX8_joinNext 134 = .ok (.lstore 8, 2) := by decide +kernel
theorem dX8_joinNext_136 : decode cX8_joinNext 136 = .ok (.aload_n 0, 1) := by decide +kernel
theorem dX8_joinNext_137 : decode cX8_joinNext 137 = .ok (.getfield 30, 3) := by decide +kernel
theorem dX8_joinNext_140 : decode cX8_joinNext 140 = .ok (.aload_n 0, 1) := by decide +kernel
theorem dX8_joinNext_141 : decode cX8_joinNext 141 = .ok (.getfield 102, 3) := by decide +kernel
theorem dX8_joinNext_144 : decode cX8_joinNext 144 = .ok (.iload_n 2, 1) := by decide +kernel
theorem dX8_joinNext_145 : decode cX8_joinNext 145 = .ok (.iastore, 1) := by decide +kernel
theorem dX8_joinNext_146 : decode cX8_joinNext 146 = .ok (.aload_n 0, 1) := by decide +kernel
theorem dX8_joinNext_147 : decode cX8_joinNext 147 = .ok (.getfield 33, 3) := by decide +kernel
theorem dX8_joinNext_150 : decode cX8_joinNext 150 = .ok (.aload_n 0, 1) := by decide +kernel
theorem dX8_joinNext_151 : decode cX8_joinNext 151 = .ok (.getfield 102, 3) := by decide +kernel
theorem dX8_joinNext_154 : decode cX8_joinNext 154 = .ok (.iload_n 3, 1) := by decide +kernel
theorem dX8_joinNext_155 : decode cX8_joinNext 155 = .ok (.iastore, 1) := by decide +kernel
theorem dX8_joinNext_156 : decode cX8_joinNext 156 = .ok (.aload_n 0, 1) := by decide +kernel
theorem dX8_joinNext_157 : decode cX8_joinNext 157 = .ok (.getfield 39, 3) := by decide +kernel
theorem dX8_joinNext_160 : decode cX8_joinNext 160 = .ok (.aload_n 0, 1) := by decide +kernel
theorem dX8_joinNext_161 : decode cX8_joinNext 161 = .ok (.getfield 102, 3) := by decide +kernel
theorem dX8_joinNext_164 : decode cX8_joinNext 164 = .ok (.lload 4, 2) := by decide +kernel
theorem dX8_joinNext_166 : decode cX8_joinNext 166 = .ok (.lload 8, 2) := by decide +kernel
theorem dX8_joinNext_168 : decode cX8_joinNext 168 = .ok (.ldiv, 1) := by decide +kernel
theorem dX8_joinNext_169 : decode cX8_joinNext 169 = .ok (.lastore, 1) := by decide +kernel
theorem dX8_joinNext_170 : decode cX8_joinNext 170 = .ok (.aload_n 0, 1) := by decide +kernel
theorem dX8_joinNext_171 : decode cX8_joinNext 171 = .ok (.getfield 43, 3) := by decide +kernel
theorem dX8_joinNext_174 : decode cX8_joinNext 174 = .ok (.aload_n 0, 1) := by decide +kernel
theorem dX8_joinNext_175 : decode cX8_joinNext 175 = .ok (.getfield 102, 3) := by decide +kernel
theorem dX8_joinNext_178 : decode cX8_joinNext 178 = .ok (.lload 6, 2) := by decide +kernel
theorem dX8_joinNext_180 : decode cX8_joinNext 180 = .ok (.lload 8, 2) := by decide +kernel
theorem dX8_joinNext_182 : decode cX8_joinNext 182 = .ok (.ldiv, 1) := by decide +kernel
theorem dX8_joinNext_183 : decode cX8_joinNext 183 = .ok (.lastore, 1) := by decide +kernel
theorem dX8_joinNext_184 : decode cX8_joinNext 184 = .ok (.iconst 0, 1) := by decide +kernel
theorem dX8_joinNext_185 : decode cX8_joinNext 185 = .ok (.istore 10, 2) := by decide +kernel
theorem dX8_joinNext_187 : decode cX8_joinNext 187 = .ok (.iload 10, 2) := by decide +kernel
theorem dX8_joinNext_189 : decode cX8_joinNext 189 = .ok (.aload_n 0, 1) := by decide +kernel
theorem dX8_joinNext_190 : decode cX8_joinNext 190 = .ok (.getfield 82, 3) := by decide +kernel
theorem dX8_joinNext_193 : decode cX8_joinNext 193 = .ok (.if_icmp .ge 38, 3) := by decide +kernel
theorem dX8_joinNext_196 : decode cX8_joinNext 196 = .ok (.aload_n 0, 1) := by decide +kernel
theorem dX8_joinNext_197 : decode cX8_joinNext 197 = .ok (.getfield 64, 3) := by decide +kernel
theorem dX8_joinNext_200 : decode cX8_joinNext 200 = .ok (.iload 10, 2) := by decide +kernel
theorem dX8_joinNext_202 : decode cX8_joinNext 202 = .ok (.aload_n 0, 1) := by decide +kernel
theorem dX8_joinNext_203 : decode cX8_joinNext 203 = .ok (.getfield 64, 3) := by decide +kernel
theorem dX8_joinNext_206 : decode cX8_joinNext 206 = .ok (.iload 10, 2) := by decide +kernel
theorem dX8_joinNext_208 : decode cX8_joinNext 208 = .ok (.iaload, 1) := by decide +kernel
theorem dX8_joinNext_209 : decode cX8_joinNext 209 = .ok (.iload_n 3, 1) := by decide +kernel
theorem dX8_joinNext_210 : decode cX8_joinNext 210 = .ok (.if_icmp .ne 7, 3) := by decide +kernel
theorem dX8_joinNext_213 : decode cX8_joinNext 213 = .ok (.iload_n 2, 1) := by decide +kernel
theorem dX8_joinNext_214 : decode cX8_joinNext 214 = .ok (.goto 10, 3) := by decide +kernel
theorem dX8_joinNext_217 : decode cX8_joinNext 217 = .ok (.aload_n 0, 1) := by decide +kernel
theorem dX8_joinNext_218 : decode cX8_joinNext 218 = .ok (.getfield 64, 3) := by decide +kernel
theorem dX8_joinNext_221 : decode cX8_joinNext 221 = .ok (.iload 10, 2) := by decide +kernel
theorem dX8_joinNext_223 : decode cX8_joinNext 223 = .ok (.iaload, 1) := by decide +kernel
theorem dX8_joinNext_224 : decode cX8_joinNext 224 = .ok (.iastore, 1) := by decide +kernel
theorem dX8_joinNext_225 : decode cX8_joinNext 225 = .ok (.iinc 10 1, 3) := by decide +kernel
theorem dX8_joinNext_228 : decode cX8_joinNext 228 = .ok (.goto (-41), 3) := by decide +kernel
theorem dX8_joinNext_231 : decode cX8_joinNext 231 = .ok (.aload_n 0, 1) := by decide +kernel
theorem dX8_joinNext_232 : decode cX8_joinNext 232 = .ok (.getfield 36, 3) := by decide +kernel
theorem dX8_joinNext_235 : decode cX8_joinNext 235 = .ok (.aload_n 0, 1) := by decide +kernel
theorem dX8_joinNext_236 : decode cX8_joinNext 236 = .ok (.getfield 102, 3) := by decide +kernel
theorem dX8_joinNext_239 : decode cX8_joinNext 239 = .ok (.aload_n 0, 1) := by decide +kernel
theorem dX8_joinNext_240 : decode cX8_joinNext 240 = .ok (.getfield 67, 3) := by decide +kernel
theorem dX8_joinNext_243 : decode cX8_joinNext 243 = .ok (.iload_n 2, 1) := by decide +kernel
theorem dX8_joinNext_244 : decode cX8_joinNext 244 = .ok (.laload, 1) := by decide +kernel
theorem dX8_joinNext_245 : decode cX8_joinNext 245 = .ok (.aload_n 0, 1) := by decide +kernel
theorem dX8_joinNext_246 : decode cX8_joinNext 246 = .ok (.getfield 67, 3) := by decide +kernel
theorem dX8_joinNext_249 : decode cX8_joinNext 249 = .ok (.iload_n 3, 1) := by decide +kernel
theorem dX8_joinNext_250 : decode cX8_joinNext 250 = .ok (.laload, 1) := by decide +kernel
theorem dX8_joinNext_251 : decode cX8_joinNext 251 = .ok (.ladd, 1) := by decide +kernel
theorem dX8_joinNext_252 : decode cX8_joinNext 252 = .ok (.l2i, 1) := by decide +kernel
theorem dX8_joinNext_253 : decode cX8_joinNext 253 = .ok (.iastore, 1) := by decide +kernel
theorem dX8_joinNext_254 : decode cX8_joinNext 254 = .ok (.aload_n 0, 1) := by decide +kernel
theorem dX8_joinNext_255 : decode cX8_joinNext 255 = .ok (.dup, 1) := by decide +kernel
theorem dX8_joinNext_256 : decode cX8_joinNext 256 = .ok (.getfield 102, 3) := by decide +kernel
theorem dX8_joinNext_259 : decode cX8_joinNext 259 = .ok (.iconst 1, 1) := by decide +kernel
theorem dX8_joinNext_260 : decode cX8_joinNext 260 = .ok (.iadd, 1) := by decide +kernel
theorem dX8_joinNext_261 : decode cX8_joinNext 261 = .ok (.putfield 102, 3) := by decide +kernel
theorem dX8_joinNext_264 : decode cX8_joinNext 264 = .ok (.return_, 1) := by decide +kernel
theorem dX8_join_0 : decode cX8_join 0 = .ok (.iload_n 2, 1) := by decide +kernel
theorem dX8_join_1 : decode cX8_join 1 = .ok (.iconst 0, 1) := by decide +kernel
theorem dX8_join_2 : decode cX8_join 2 = .ok (.iconst 4, 1) := by decide +kernel
theorem dX8_join_3 : decode cX8_join 3 = .ok (.invokestatic 85, 3) := by decide +kernel
theorem dX8_join_6 : decode cX8_join 6 = .ok (.ifCond .ne 7, 3) := by decide +kernel
theorem dX8_join_9 : decode cX8_join 9 = .ok (.ldc2_w 178, 3) := by decide +kernel
theorem dX8_join_12 : decode cX8_join 12 = .ok (.lreturn, 1) := by decide +kernel
theorem dX8_join_13 : decode cX8_join 13 = .ok (.aload_n 0, 1) := by decide +kernel
theorem dX8_join_14 : decode cX8_join 14 = .ok (.getfield 92, 3) := by decide +kernel
theorem dX8_join_17 : decode cX8_join 17 = .ok (.ifCond .ne 7, 3) := by decide +kernel
theorem dX8_join_20 : decode cX8_join 20 = .ok (.ldc2_w 180, 3) := by decide +kernel
theorem dX8_join_23 : decode cX8_join 23 = .ok (.lreturn, 1) := by decide +kernel
theorem dX8_join_24 : decode cX8_join 24 = .ok (.iload_n 1, 1) := by decide +kernel
theorem dX8_join_25 : decode cX8_join 25 = .ok (.iconst 0, 1) := by decide +kernel
theorem dX8_join_26 : decode cX8_join 26 = .ok (.aload_n 0, 1) := by decide +kernel
theorem dX8_join_27 : decode cX8_join 27 = .ok (.getfield 102, 3) := by decide +kernel
theorem dX8_join_30 : decode cX8_join 30 = .ok (.iconst 1, 1) := by decide +kernel
theorem dX8_join_31 : decode cX8_join 31 = .ok (.isub, 1) := by decide +kernel
theorem dX8_join_32 : decode cX8_join 32 = .ok (.invokestatic 85, 3) := by decide +kernel
theorem dX8_join_35 : decode cX8_join 35 = .ok (.ifCond .ne 7, 3) := by decide +kernel
theorem dX8_join_38 : decode cX8_join 38 = .ok (.ldc2_w 156, 3) := by decide +kernel
theorem dX8_join_41 : decode cX8_join 41 = .ok (.lreturn, 1) := by decide +kernel
theorem dX8_join_42 : decode cX8_join 42 = .ok (.iload_n 2, 1) := by decide +kernel
theorem dX8_join_43 : decode cX8_join 43 = .ok (.tableswitch 60 0 3 #[29, 37, 45, 53], 29) := by decide +kernel
theorem dX8_join_72 : decode cX8_join 72 = .ok (.aload_n 0, 1) := by decide +kernel
theorem dX8_join_73 : decode cX8_join 73 = .ok (.getfield 30, 3) := by decide +kernel
theorem dX8_join_76 : decode cX8_join 76 = .ok (.iload_n 1, 1) := by decide +kernel
theorem dX8_join_77 : decode cX8_join 77 = .ok (.iaload, 1) := by decide +kernel
theorem dX8_join_78 : decode cX8_join 78 = .ok (.i2l, 1) := by decide +kernel
theorem dX8_join_79 : decode cX8_join 79 = .ok (.lreturn, 1) := by decide +kernel
theorem dX8_join_80 : decode cX8_join 80 = .ok (.aload_n 0, 1) := by decide +kernel
theorem dX8_join_81 : decode cX8_join 81 = .ok (.getfield 33, 3) := by decide +kernel
theorem dX8_join_84 : decode cX8_join 84 = .ok (.iload_n 1, 1) := by decide +kernel
theorem dX8_join_85 : decode cX8_join 85 = .ok (.iaload, 1) := by decide +kernel
theorem dX8_join_86 : decode cX8_join 86 = .ok (.i2l, 1) := by decide +kernel
theorem dX8_join_87 : decode cX8_join 87 = .ok (.lreturn, 1) := by decide +kernel
theorem dX8_join_88 : decode cX8_join 88 = .ok (.aload_n 0, 1) := by decide +kernel
theorem dX8_join_89 : decode cX8_join 89 = .ok (.getfield 36, 3) := by decide +kernel
theorem dX8_join_92 : decode cX8_join 92 = .ok (.iload_n 1, 1) := by decide +kernel
theorem dX8_join_93 : decode cX8_join 93 = .ok (.iaload, 1) := by decide +kernel
theorem dX8_join_94 : decode cX8_join 94 = .ok (.i2l, 1) := by decide +kernel
theorem dX8_join_95 : decode cX8_join 95 = .ok (.lreturn, 1) := by decide +kernel
theorem dX8_join_96 : decode cX8_join 96 = .ok (.aload_n 0, 1) := by decide +kernel
theorem dX8_join_97 : decode cX8_join 97 = .ok (.getfield 39, 3) := by decide +kernel
theorem dX8_join_100 : decode cX8_join 100 = .ok (.iload_n 1, 1) := by decide +kernel
theorem dX8_join_101 : decode cX8_join 101 = .ok (.laload, 1) := by decide +kernel
theorem dX8_join_102 : decode cX8_join 102 = .ok (.lreturn, 1) := by decide +kernel
theorem dX8_join_103 : decode cX8_join 103 = .ok (.aload_n 0, 1) := by decide +kernel
theorem dX8_join_104 : decode cX8_join 104 = .ok (.getfield 43, 3) := by decide +kernel
theorem dX8_join_107 : decode cX8_join 107 = .ok (.iload_n 1, 1) := by decide +kernel
theorem dX8_join_108 : decode cX8_join 108 = .ok (.laload, 1) := by decide +kernel
theorem dX8_join_109 : decode cX8_join 109 = .ok (.lreturn, 1) := by decide +kernel
theorem dX8_cut_0 : decode cX8_cut 0 = .ok (.iload_n 1, 1) := by decide +kernel
theorem dX8_cut_1 : decode cX8_cut 1 = .ok (.iconst 0, 1) := by decide +kernel
theorem dX8_cut_2 : decode cX8_cut 2 = .ok (.iconst 1, 1) := by decide +kernel
theorem dX8_cut_3 : decode cX8_cut 3 = .ok (.invokestatic 85, 3) := by decide +kernel
theorem dX8_cut_6 : decode cX8_cut 6 = .ok (.ifCond .eq 13, 3) := by decide +kernel
theorem dX8_cut_9 : decode cX8_cut 9 = .ok (.iload_n 2, 1) := by decide +kernel
theorem dX8_cut_10 : decode cX8_cut 10 = .ok (.iconst 1, 1) := by decide +kernel
theorem dX8_cut_11 : decode cX8_cut 11 = .ok (.bipush 30, 2) := by decide +kernel
theorem dX8_cut_13 : decode cX8_cut 13 = .ok (.invokestatic 85, 3) := by decide +kernel
theorem dX8_cut_16 : decode cX8_cut 16 = .ok (.ifCond .ne 6, 3) := by decide +kernel
theorem dX8_cut_19 : decode cX8_cut 19 = .ok (.ldc 96, 2) := by decide +kernel
theorem dX8_cut_21 : decode cX8_cut 21 = .ok (.ireturn, 1) := by decide +kernel
theorem dX8_cut_22 : decode cX8_cut 22 = .ok (.aload_n 0, 1) := by decide +kernel
theorem dX8_cut_23 : decode cX8_cut 23 = .ok (.getfield 92, 3) := by decide +kernel
theorem dX8_cut_26 : decode cX8_cut 26 = .ok (.ifCond .eq 11, 3) := by decide +kernel
theorem dX8_cut_29 : decode cX8_cut 29 = .ok (.aload_n 0, 1) := by decide +kernel
theorem dX8_cut_30 : decode cX8_cut 30 = .ok (.getfield 82, 3) := by decide +kernel
theorem dX8_cut_33 : decode cX8_cut 33 = .ok (.iload_n 2, 1) := by decide +kernel
theorem dX8_cut_34 : decode cX8_cut 34 = .ok (.if_icmp .ge 6, 3) := by decide +kernel
theorem dX8_cut_37 : decode cX8_cut 37 = .ok (.ldc 97, 2) := by decide +kernel
theorem dX8_cut_39 : decode cX8_cut 39 = .ok (.ireturn, 1) := by decide +kernel
theorem dX8_cut_40 : decode cX8_cut 40 = .ok (.iconst 0, 1) := by decide +kernel
theorem dX8_cut_41 : decode cX8_cut 41 = .ok (.istore_n 3, 1) := by decide +kernel
theorem dX8_cut_42 : decode cX8_cut 42 = .ok (.iload_n 3, 1) := by decide +kernel
theorem dX8_cut_43 : decode cX8_cut 43 = .ok (.aload_n 0, 1) := by decide +kernel
theorem dX8_cut_44 : decode cX8_cut 44 = .ok (.getfield 82, 3) := by decide +kernel
theorem dX8_cut_47 : decode cX8_cut 47 = .ok (.if_icmp .ge 16, 3) := by decide +kernel
theorem dX8_cut_50 : decode cX8_cut 50 = .ok (.aload_n 0, 1) := by decide +kernel
theorem dX8_cut_51 : decode cX8_cut 51 = .ok (.getfield 64, 3) := by decide +kernel
theorem dX8_cut_54 : decode cX8_cut 54 = .ok (.iload_n 3, 1) := by decide +kernel
theorem dX8_cut_55 : decode cX8_cut 55 = .ok (.iload_n 3, 1) := by decide +kernel
theorem dX8_cut_56 : decode cX8_cut 56 = .ok (.iastore, 1) := by decide +kernel
theorem dX8_cut_57 : decode cX8_cut 57 = .ok (.iinc 3 1, 3) := by decide +kernel
theorem dX8_cut_60 : decode cX8_cut 60 = .ok (.goto (-18), 3) := by decide +kernel
theorem dX8_cut_63 : decode cX8_cut 63 = .ok (.iconst 0, 1) := by decide +kernel
theorem dX8_cut_64 : decode cX8_cut 64 = .ok (.istore_n 3, 1) := by decide +kernel
theorem dX8_cut_65 : decode cX8_cut 65 = .ok (.iload_n 3, 1) := by decide +kernel
theorem dX8_cut_66 : decode cX8_cut 66 = .ok (.aload_n 0, 1) := by decide +kernel
theorem dX8_cut_67 : decode cX8_cut 67 = .ok (.getfield 82, 3) := by decide +kernel
theorem dX8_cut_70 : decode cX8_cut 70 = .ok (.iload_n 2, 1) := by decide +kernel
theorem dX8_cut_71 : decode cX8_cut 71 = .ok (.isub, 1) := by decide +kernel
theorem dX8_cut_72 : decode cX8_cut 72 = .ok (.if_icmp .ge 66, 3) := by decide +kernel
theorem dX8_cut_75 : decode cX8_cut 75 = .ok (.iconst 0, 1) := by decide +kernel
theorem dX8_cut_76 : decode cX8_cut 76 = .ok (.istore 4, 2) := by decide +kernel
theorem dX8_cut_78 : decode cX8_cut 78 = .ok (.iload 4, 2) := by decide +kernel
theorem dX8_cut_80 : decode cX8_cut 80 = .ok (.aload_n 0, 1) := by decide +kernel
theorem dX8_cut_81 : decode cX8_cut 81 = .ok (.getfield 82, 3) := by decide +kernel
theorem dX8_cut_84 : decode cX8_cut 84 = .ok (.if_icmp .ge 48, 3) := by decide +kernel
theorem dX8_cut_87 : decode cX8_cut 87 = .ok (.aload_n 0, 1) := by decide +kernel
theorem dX8_cut_88 : decode cX8_cut 88 = .ok (.getfield 64, 3) := by decide +kernel
theorem dX8_cut_91 : decode cX8_cut 91 = .ok (.iload 4, 2) := by decide +kernel
theorem dX8_cut_93 : decode cX8_cut 93 = .ok (.aload_n 0, 1) := by decide +kernel
theorem dX8_cut_94 : decode cX8_cut 94 = .ok (.getfield 64, 3) := by decide +kernel
theorem dX8_cut_97 : decode cX8_cut 97 = .ok (.iload 4, 2) := by decide +kernel
theorem dX8_cut_99 : decode cX8_cut 99 = .ok (.iaload, 1) := by decide +kernel
theorem dX8_cut_100 : decode cX8_cut 100 = .ok (.aload_n 0, 1) := by decide +kernel
theorem dX8_cut_101 : decode cX8_cut 101 = .ok (.getfield 33, 3) := by decide +kernel
theorem dX8_cut_104 : decode cX8_cut 104 = .ok (.iload_n 3, 1) := by decide +kernel
theorem dX8_cut_105 : decode cX8_cut 105 = .ok (.iaload, 1) := by decide +kernel
theorem dX8_cut_106 : decode cX8_cut 106 = .ok (.if_icmp .ne 12, 3) := by decide +kernel
theorem dX8_cut_109 : decode cX8_cut 109 = .ok (.aload_n 0, 1) := by decide +kernel
theorem dX8_cut_110 : decode cX8_cut 110 = .ok (.getfield 30, 3) := by decide +kernel
theorem dX8_cut_113 : decode cX8_cut 113 = .ok (.iload_n 3, 1) := by decide +kernel
theorem dX8_cut_114 : decode cX8_cut 114 = .ok (.iaload, 1) := by decide +kernel
theorem dX8_cut_115 : decode cX8_cut 115 = .ok (.goto 10, 3) := by decide +kernel
theorem dX8_cut_118 : decode cX8_cut 118 = .ok (.aload_n 0, 1) := by decide +kernel
theorem dX8_cut_119 : decode cX8_cut 119 = .ok (.getfield 64, 3) := by decide +kernel
theorem dX8_cut_122 : decode cX8_cut 122 = .ok (.iload 4, 2) := by decide +kernel
theorem dX8_cut_124 : decode cX8_cut 124 = .ok (.iaload, 1) := by decide +kernel
theorem dX8_cut_125 : decode cX8_cut 125 = .ok (.iastore, 1) := by decide +kernel
theorem dX8_cut_126 : decode cX8_cut 126 = .ok (.iinc 4 1, 3) := by decide +kernel
theorem dX8_cut_129 : decode cX8_cut 129 = .ok (.goto (-51), 3) := by decide +kernel
theorem dX8_cut_132 : decode cX8_cut 132 = .ok (.iinc 3 1, 3) := by decide +kernel
theorem dX8_cut_135 : decode cX8_cut 135 = .ok (.goto (-70), 3) := by decide +kernel
theorem dX8_cut_138 : decode cX8_cut 138 = .ok (.iconst 0, 1) := by decide +kernel
theorem dX8_cut_139 : decode cX8_cut 139 = .ok (.istore_n 3, 1) := by decide +kernel
theorem dX8_cut_140 : decode cX8_cut 140 = .ok (.iconst 0, 1) := by decide +kernel
theorem dX8_cut_141 : decode cX8_cut 141 = .ok (.istore 4, 2) := by decide +kernel
theorem dX8_cut_143 : decode cX8_cut 143 = .ok (.iload 4, 2) := by decide +kernel
theorem dX8_cut_145 : decode cX8_cut 145 = .ok (.aload_n 0, 1) := by decide +kernel
theorem dX8_cut_146 : decode cX8_cut 146 = .ok (.getfield 82, 3) := by decide +kernel
theorem dX8_cut_149 : decode cX8_cut 149 = .ok (.if_icmp .ge 56, 3) := by decide +kernel
theorem dX8_cut_152 : decode cX8_cut 152 = .ok (.aload_n 0, 1) := by decide +kernel
theorem dX8_cut_153 : decode cX8_cut 153 = .ok (.getfield 64, 3) := by decide +kernel
theorem dX8_cut_156 : decode cX8_cut 156 = .ok (.iload 4, 2) := by decide +kernel
theorem dX8_cut_158 : decode cX8_cut 158 = .ok (.iaload, 1) := by decide +kernel
theorem dX8_cut_159 : decode cX8_cut 159 = .ok (.iload 4, 2) := by decide +kernel
theorem dX8_cut_161 : decode cX8_cut 161 = .ok (.if_icmp .ne 14, 3) := by decide +kernel
theorem dX8_cut_164 : decode cX8_cut 164 = .ok (.aload_n 0, 1) := by decide +kernel
theorem dX8_cut_165 : decode cX8_cut 165 = .ok (.getfield 55, 3) := by decide +kernel
theorem dX8_cut_168 : decode cX8_cut 168 = .ok (.iload 4, 2) := by decide +kernel
theorem dX8_cut_170 : decode cX8_cut 170 = .ok (.iload_n 3, 1) := by decide +kernel
theorem dX8_cut_171 : decode cX8_cut 171 = .ok (.iastore, 1) := by decide +kernel
theorem dX8_cut_172 : decode cX8_cut 172 = .ok (.iinc 3 1, 3) := by decide +kernel
theorem dX8_cut_175 : decode cX8_cut 175 = .ok (.aload_n 0, 1) := by decide +kernel
theorem dX8_cut_176 : decode cX8_cut 176 = .ok (.getfield 24, 3) := by decide +kernel
theorem dX8_cut_179 : decode cX8_cut 179 = .ok (.bipush 30, 2) := by decide +kernel
theorem dX8_cut_181 : decode cX8_cut 181 = .ok (.iload_n 1, 1) := by decide +kernel
theorem dX8_cut_182 : decode cX8_cut 182 = .ok (.imul, 1) := by decide +kernel
theorem dX8_cut_183 : decode cX8_cut 183 = .ok (.iload 4, 2) := by decide +kernel
theorem dX8_cut_185 : decode cX8_cut 185 = .ok (.iadd, 1) := by decide +kernel
theorem dX8_cut_186 : decode cX8_cut 186 = .ok (.aload_n 0, 1) := by decide +kernel
theorem dX8_cut_187 : decode cX8_cut 187 = .ok (.getfield 55, 3) := by decide +kernel
theorem dX8_cut_190 : decode cX8_cut 190 = .ok (.aload_n 0, 1) := by decide +kernel
theorem dX8_cut_191 : decode cX8_cut 191 = .ok (.getfield 64, 3) := by decide +kernel
theorem dX8_cut_194 : decode cX8_cut 194 = .ok (.iload 4, 2) := by decide +kernel
theorem dX8_cut_196 : decode cX8_cut 196 = .ok (.iaload, 1) := by decide +kernel
theorem dX8_cut_197 : decode cX8_cut 197 = .ok (.iaload, 1) := by decide +kernel
theorem dX8_cut_198 : decode cX8_cut 198 = .ok (.iastore, 1) := by decide +kernel
theorem dX8_cut_199 : decode cX8_cut 199 = .ok (.iinc 4 1, 3) := by decide +kernel
theorem dX8_cut_202 : decode cX8_cut 202 = .ok (.goto (-59), 3) := by decide +kernel
theorem dX8_cut_205 : decode cX8_cut 205 = .ok (.aload_n 0, 1) := by decide +kernel
theorem dX8_cut_206 : decode cX8_cut 206 = .ok (.getfield 21, 3) := by decide +kernel
theorem dX8_cut_209 : decode cX8_cut 209 = .ok (.iload_n 1, 1) := by decide +kernel
theorem dX8_cut_210 : decode cX8_cut 210 = .ok (.iload_n 2, 1) := by decide +kernel
theorem dX8_cut_211 : decode cX8_cut 211 = .ok (.iastore, 1) := by decide +kernel
theorem dX8_cut_212 : decode cX8_cut 212 = .ok (.aload_n 0, 1) := by decide +kernel
theorem dX8_cut_213 : decode cX8_cut 213 = .ok (.getfield 17, 3) := by decide +kernel
theorem dX8_cut_216 : decode cX8_cut 216 = .ok (.iload_n 1, 1) := by decide +kernel
theorem dX8_cut_217 : decode cX8_cut 217 = .ok (.iconst 1, 1) := by decide +kernel
theorem dX8_cut_218 : decode cX8_cut 218 = .ok (.bastore, 1) := by decide +kernel
theorem dX8_cut_219 : decode cX8_cut 219 = .ok (.iconst 1, 1) := by decide +kernel
theorem dX8_cut_220 : decode cX8_cut 220 = .ok (.ireturn, 1) := by decide +kernel
theorem dX8_of0_0 : decode cX8_of0 0 = .ok (.aload_n 0, 1) := by decide +kernel
theorem dX8_of0_1 : decode cX8_of0 1 = .ok (.getfield 24, 3) := by decide +kernel
theorem dX8_of0_4 : decode cX8_of0 4 = .ok (.bipush 30, 2) := by decide +kernel
theorem dX8_of0_6 : decode cX8_of0 6 = .ok (.iload_n 1, 1) := by decide +kernel
theorem dX8_of0_7 : decode cX8_of0 7 = .ok (.imul, 1) := by decide +kernel
theorem dX8_of0_8 : decode cX8_of0 8 = .ok (.iload_n 2, 1) := by decide +kernel
theorem dX8_of0_9 : decode cX8_of0 9 = .ok (.iadd, 1) := by decide +kernel
theorem dX8_of0_10 : decode cX8_of0 10 = .ok (.iaload, 1) := by decide +kernel
theorem dX8_of0_11 : decode cX8_of0 11 = .ok (.ireturn, 1) := by decide +kernel
theorem dX8_of_0 : decode cX8_of 0 = .ok (.aload_n 0, 1) := by decide +kernel
theorem dX8_of_1 : decode cX8_of 1 = .ok (.iload_n 2, 1) := by decide +kernel
theorem dX8_of_2 : decode cX8_of 2 = .ok (.invokevirtual 109, 3) := by decide +kernel
theorem dX8_of_5 : decode cX8_of 5 = .ok (.ifCond .ne 6, 3) := by decide +kernel
theorem dX8_of_8 : decode cX8_of 8 = .ok (.ldc 113, 2) := by decide +kernel
theorem dX8_of_10 : decode cX8_of 10 = .ok (.ireturn, 1) := by decide +kernel
theorem dX8_of_11 : decode cX8_of 11 = .ok (.iload_n 1, 1) := by decide +kernel
theorem dX8_of_12 : decode cX8_of 12 = .ok (.iconst 0, 1) := by decide +kernel
theorem dX8_of_13 : decode cX8_of 13 = .ok (.iconst 1, 1) := by decide +kernel
theorem dX8_of_14 : decode cX8_of 14 = .ok (.invokestatic 85, 3) := by decide +kernel
theorem dX8_of_17 : decode cX8_of 17 = .ok (.ifCond .ne 6, 3) := by decide +kernel
theorem dX8_of_20 : decode cX8_of 20 = .ok (.ldc 96, 2) := by decide +kernel
theorem dX8_of_22 : decode cX8_of 22 = .ok (.ireturn, 1) := by decide +kernel
theorem dX8_of_23 : decode cX8_of 23 = .ok (.aload_n 0, 1) := by decide +kernel
theorem dX8_of_24 : decode cX8_of 24 = .ok (.getfield 17, 3) := by decide +kernel
theorem dX8_of_27 : decode cX8_of 27 = .ok (.iload_n 1, 1) := by decide +kernel
theorem dX8_of_28 : decode cX8_of 28 = .ok (.baload, 1) := by decide +kernel
theorem dX8_of_29 : decode cX8_of 29 = .ok (.ifCond .eq 12, 3) := by decide +kernel
theorem dX8_of_32 : decode cX8_of 32 = .ok (.aload_n 0, 1) := by decide +kernel
theorem dX8_of_33 : decode cX8_of 33 = .ok (.iload_n 1, 1) := by decide +kernel
theorem dX8_of_34 : decode cX8_of 34 = .ok (.iload_n 2, 1) := by decide +kernel
theorem dX8_of_35 : decode cX8_of 35 = .ok (.invokevirtual 182, 3) := by decide +kernel
theorem dX8_of_38 : decode cX8_of 38 = .ok (.goto 5, 3) := by decide +kernel
theorem dX8_of_41 : decode cX8_of 41 = .ok (.ldc 97, 2) := by decide +kernel
theorem dX8_of_43 : decode cX8_of 43 = .ok (.ireturn, 1) := by decide +kernel
theorem dX8_sizeIn_0 : decode cX8_sizeIn 0 = .ok (.iconst 0, 1) := by decide +kernel
theorem dX8_sizeIn_1 : decode cX8_sizeIn 1 = .ok (.istore_n 3, 1) := by decide +kernel
theorem dX8_sizeIn_2 : decode cX8_sizeIn 2 = .ok (.iconst 0, 1) := by decide +kernel
theorem dX8_sizeIn_3 : decode cX8_sizeIn 3 = .ok (.istore 4, 2) := by decide +kernel
theorem dX8_sizeIn_5 : decode cX8_sizeIn 5 = .ok (.iload 4, 2) := by decide +kernel
theorem dX8_sizeIn_7 : decode cX8_sizeIn 7 = .ok (.aload_n 0, 1) := by decide +kernel
theorem dX8_sizeIn_8 : decode cX8_sizeIn 8 = .ok (.getfield 82, 3) := by decide +kernel
theorem dX8_sizeIn_11 : decode cX8_sizeIn 11 = .ok (.if_icmp .ge 28, 3) := by decide +kernel
theorem dX8_sizeIn_14 : decode cX8_sizeIn 14 = .ok (.iload_n 3, 1) := by decide +kernel
theorem dX8_sizeIn_15 : decode cX8_sizeIn 15 = .ok (.aload_n 0, 1) := by decide +kernel
theorem dX8_sizeIn_16 : decode cX8_sizeIn 16 = .ok (.iload_n 1, 1) := by decide +kernel
theorem dX8_sizeIn_17 : decode cX8_sizeIn 17 = .ok (.iload 4, 2) := by decide +kernel
theorem dX8_sizeIn_19 : decode cX8_sizeIn 19 = .ok (.invokevirtual 182, 3) := by decide +kernel
theorem dX8_sizeIn_22 : decode cX8_sizeIn 22 = .ok (.iload_n 2, 1) := by decide +kernel
theorem dX8_sizeIn_23 : decode cX8_sizeIn 23 = .ok (.if_icmp .ne 7, 3) := by decide +kernel
theorem dX8_sizeIn_26 : decode cX8_sizeIn 26 = .ok (.iconst 1, 1) := by decide +kernel
theorem dX8_sizeIn_27 : decode cX8_sizeIn 27 = .ok (.goto 4, 3) := by decide +kernel
theorem dX8_sizeIn_30 : decode cX8_sizeIn 30 = .ok (.iconst 0, 1) := by decide +kernel
theorem dX8_sizeIn_31 : decode cX8_sizeIn 31 = .ok (.iadd, 1) := by decide +kernel
theorem dX8_sizeIn_32 : decode cX8_sizeIn 32 = .ok (.istore_n 3, 1) := by decide +kernel
theorem dX8_sizeIn_33 : decode cX8_sizeIn 33 = .ok (.iinc 4 1, 3) := by decide +kernel
theorem dX8_sizeIn_36 : decode cX8_sizeIn 36 = .ok (.goto (-31), 3) := by decide +kernel
theorem dX8_sizeIn_39 : decode cX8_sizeIn 39 = .ok (.iload_n 3, 1) := by decide +kernel
theorem dX8_sizeIn_40 : decode cX8_sizeIn 40 = .ok (.ireturn, 1) := by decide +kernel
theorem dX8_refused_0 : decode cX8_refused 0 = .ok (.iload_n 1, 1) := by decide +kernel
theorem dX8_refused_1 : decode cX8_refused 1 = .ok (.iconst 0, 1) := by decide +kernel
theorem dX8_refused_2 : decode cX8_refused 2 = .ok (.iconst 1, 1) := by decide +kernel
theorem dX8_refused_3 : decode cX8_refused 3 = .ok (.invokestatic 85, 3) := by decide +kernel
theorem dX8_refused_6 : decode cX8_refused 6 = .ok (.ifCond .ne 6, 3) := by decide +kernel
theorem dX8_refused_9 : decode cX8_refused 9 = .ok (.ldc 96, 2) := by decide +kernel
theorem dX8_refused_11 : decode cX8_refused 11 = .ok (.ireturn, 1) := by decide +kernel
theorem dX8_refused_12 : decode cX8_refused 12 = .ok (.aload_n 0, 1) := by decide +kernel
theorem dX8_refused_13 : decode cX8_refused 13 = .ok (.getfield 17, 3) := by decide +kernel
theorem dX8_refused_16 : decode cX8_refused 16 = .ok (.iload_n 1, 1) := by decide +kernel
theorem dX8_refused_17 : decode cX8_refused 17 = .ok (.baload, 1) := by decide +kernel
theorem dX8_refused_18 : decode cX8_refused 18 = .ok (.ifCond .ne 6, 3) := by decide +kernel
theorem dX8_refused_21 : decode cX8_refused 21 = .ok (.ldc 97, 2) := by decide +kernel
theorem dX8_refused_23 : decode cX8_refused 23 = .ok (.ireturn, 1) := by decide +kernel
theorem dX8_refused_24 : decode cX8_refused 24 = .ok (.iload_n 2, 1) := by decide +kernel
theorem dX8_refused_25 : decode cX8_refused 25 = .ok (.iconst 0, 1) := by decide +kernel
theorem dX8_refused_26 : decode cX8_refused 26 = .ok (.aload_n 0, 1) := by decide +kernel
theorem dX8_refused_27 : decode cX8_refused 27 = .ok (.getfield 21, 3) := by decide +kernel
theorem dX8_refused_30 : decode cX8_refused 30 = .ok (.iload_n 1, 1) := by decide +kernel
theorem dX8_refused_31 : decode cX8_refused 31 = .ok (.iaload, 1) := by decide +kernel
theorem dX8_refused_32 : decode cX8_refused 32 = .ok (.iconst 1, 1) := by decide +kernel
theorem dX8_refused_33 : decode cX8_refused 33 = .ok (.isub, 1) := by decide +kernel
theorem dX8_refused_34 : decode cX8_refused 34 = .ok (.invokestatic 85, 3) := by decide +kernel
theorem dX8_refused_37 : decode cX8_refused 37 = .ok (.ifCond .eq 7, 3) := by decide +kernel
theorem dX8_refused_40 : decode cX8_refused 40 = .ok (.iconst 0, 1) := by decide +kernel
theorem dX8_refused_41 : decode cX8_refused 41 = .ok (.goto 5, 3) := by decide +kernel
theorem dX8_refused_44 : decode cX8_refused 44 = .ok (.ldc 113, 2) := by decide +kernel
theorem dX8_refused_46 : decode cX8_refused 46 = .ok (.ireturn, 1) := by decide +kernel
theorem dX8_size_0 : decode cX8_size 0 = .ok (.aload_n 0, 1) := by decide +kernel
theorem dX8_size_1 : decode cX8_size 1 = .ok (.iload_n 1, 1) := by decide +kernel
theorem dX8_size_2 : decode cX8_size 2 = .ok (.iload_n 2, 1) := by decide +kernel
theorem dX8_size_3 : decode cX8_size 3 = .ok (.invokevirtual 186, 3) := by decide +kernel
theorem dX8_size_6 : decode cX8_size 6 = .ok (.istore_n 3, 1) := by decide +kernel
theorem dX8_size_7 : decode cX8_size 7 = .ok (.iload_n 3, 1) := by decide +kernel
theorem dX8_size_8 : decode cX8_size 8 = .ok (.ifCond .eq 7, 3) := by decide +kernel
theorem dX8_size_11 : decode cX8_size 11 = .ok (.iload_n 3, 1) := by decide +kernel
theorem dX8_size_12 : decode cX8_size 12 = .ok (.goto 9, 3) := by decide +kernel
theorem dX8_size_15 : decode cX8_size 15 = .ok (.aload_n 0, 1) := by decide +kernel
theorem dX8_size_16 : decode cX8_size 16 = .ok (.iload_n 1, 1) := by decide +kernel
theorem dX8_size_17 : decode cX8_size 17 = .ok (.iload_n 2, 1) := by decide +kernel
theorem dX8_size_18 : decode cX8_size 18 = .ok (.invokevirtual 189, 3) := by decide +kernel
theorem dX8_size_21 : decode cX8_size 21 = .ok (.ireturn, 1) := by decide +kernel
theorem dX8_sumIn_0 : decode cX8_sumIn 0 = .ok (.lconst 0, 1) := by decide +kernel
theorem dX8_sumIn_1 : decode cX8_sumIn 1 = .ok (.lstore 4, 2) := by decide +kernel
theorem dX8_sumIn_3 : decode cX8_sumIn 3 = .ok (.iconst 0, 1) := by decide +kernel
theorem dX8_sumIn_4 : decode cX8_sumIn 4 = .ok (.istore 6, 2) := by decide +kernel
theorem dX8_sumIn_6 : decode cX8_sumIn 6 = .ok (.iload 6, 2) := by decide +kernel
theorem dX8_sumIn_8 : decode cX8_sumIn 8 = .ok (.aload_n 0, 1) := by decide +kernel
theorem dX8_sumIn_9 : decode cX8_sumIn 9 = .ok (.getfield 82, 3) := by decide +kernel
theorem dX8_sumIn_12 : decode cX8_sumIn 12 = .ok (.if_icmp .ge 41, 3) := by decide +kernel
theorem dX8_sumIn_15 : decode cX8_sumIn 15 = .ok (.lload 4, 2) := by decide +kernel
theorem dX8_sumIn_17 : decode cX8_sumIn 17 = .ok (.aload_n 0, 1) := by decide +kernel
theorem dX8_sumIn_18 : decode cX8_sumIn 18 = .ok (.iload_n 1, 1) := by decide +kernel
theorem dX8_sumIn_19 : decode cX8_sumIn 19 = .ok (.iload 6, 2) := by decide +kernel
theorem dX8_sumIn_21 : decode cX8_sumIn 21 = .ok (.invokevirtual 182, 3) := by decide +kernel
theorem dX8_sumIn_24 : decode cX8_sumIn 24 = .ok (.iload_n 2, 1) := by decide +kernel
theorem dX8_sumIn_25 : decode cX8_sumIn 25 = .ok (.if_icmp .ne 18, 3) := by decide +kernel
theorem dX8_sumIn_28 : decode cX8_sumIn 28 = .ok (.aload_n 0, 1) := by decide +kernel
theorem dX8_sumIn_29 : decode cX8_sumIn 29 = .ok (.getfield 13, 3) := by decide +kernel
theorem dX8_sumIn_32 : decode cX8_sumIn 32 = .ok (.iconst 4, 1) := by decide +kernel
theorem dX8_sumIn_33 : decode cX8_sumIn 33 = .ok (.iload 6, 2) := by decide +kernel
theorem dX8_sumIn_35 : decode cX8_sumIn 35 = .ok (.imul, 1) := by decide +kernel
theorem dX8_sumIn_36 : decode cX8_sumIn 36 = .ok (.iload_n 3, 1) := by decide +kernel
theorem dX8_sumIn_37 : decode cX8_sumIn 37 = .ok (.iadd, 1) := by decide +kernel
theorem dX8_sumIn_38 : decode cX8_sumIn 38 = .ok (.iaload, 1) := by decide +kernel
theorem dX8_sumIn_39 : decode cX8_sumIn 39 = .ok (.i2l, 1) := by decide +kernel
theorem dX8_sumIn_40 : decode cX8_sumIn 40 = .ok (.goto 4, 3) := by decide +kernel
theorem dX8_sumIn_43 : decode cX8_sumIn 43 = .ok (.lconst 0, 1) := by decide +kernel
theorem dX8_sumIn_44 : decode cX8_sumIn 44 = .ok (.ladd, 1) := by decide +kernel
theorem dX8_sumIn_45 : decode cX8_sumIn 45 = .ok (.lstore 4, 2) := by decide +kernel
theorem dX8_sumIn_47 : decode cX8_sumIn 47 = .ok (.iinc 6 1, 3) := by decide +kernel
theorem dX8_sumIn_50 : decode cX8_sumIn 50 = .ok (.goto (-44), 3) := by decide +kernel
theorem dX8_sumIn_53 : decode cX8_sumIn 53 = .ok (.lload 4, 2) := by decide +kernel
theorem dX8_sumIn_55 : decode cX8_sumIn 55 = .ok (.lreturn, 1) := by decide +kernel
theorem dX8_mean_0 : decode cX8_mean 0 = .ok (.aload_n 0, 1) := by decide +kernel
theorem dX8_mean_1 : decode cX8_mean 1 = .ok (.iload_n 1, 1) := by decide +kernel
theorem dX8_mean_2 : decode cX8_mean 2 = .ok (.iload_n 2, 1) := by decide +kernel
theorem dX8_mean_3 : decode cX8_mean 3 = .ok (.invokevirtual 186, 3) := by decide +kernel
theorem dX8_mean_6 : decode cX8_mean 6 = .ok (.istore 5, 2) := by decide +kernel
theorem dX8_mean_8 : decode cX8_mean 8 = .ok (.iload 5, 2) := by decide +kernel
theorem dX8_mean_10 : decode cX8_mean 10 = .ok (.ifCond .eq 6, 3) := by decide +kernel
theorem dX8_mean_13 : decode cX8_mean 13 = .ok (.iload 5, 2) := by decide +kernel
theorem dX8_mean_15 : decode cX8_mean 15 = .ok (.ireturn, 1) := by decide +kernel
theorem dX8_mean_16 : decode cX8_mean 16 = .ok (.iload_n 3, 1) := by decide +kernel
theorem dX8_mean_17 : decode cX8_mean 17 = .ok (.iconst 0, 1) := by decide +kernel
theorem dX8_mean_18 : decode cX8_mean 18 = .ok (.aload_n 0, 1) := by decide +kernel
theorem dX8_mean_19 : decode cX8_mean 19 = .ok (.getfield 7, 3) := by decide +kernel
theorem dX8_mean_22 : decode cX8_mean 22 = .ok (.iconst 1, 1) := by decide +kernel
theorem dX8_mean_23 : decode cX8_mean 23 = .ok (.isub, 1) := by decide +kernel
theorem dX8_mean_24 : decode cX8_mean 24 = .ok (.invokestatic 85, 3) := by decide +kernel
theorem dX8_mean_27 : decode cX8_mean 27 = .ok (.ifCond .eq 13, 3) := by decide +kernel
theorem dX8_mean_30 : decode cX8_mean 30 = .ok (.iload 4, 2) := by decide +kernel
theorem dX8_mean_32 : decode cX8_mean 32 = .ok (.iconst 0, 1) := by decide +kernel
theorem dX8_mean_33 : decode cX8_mean 33 = .ok (.iconst 1, 1) := by decide +kernel
theorem dX8_mean_34 : decode cX8_mean 34 = .ok (.invokestatic 85, 3) := by decide +kernel
theorem dX8_mean_37 : decode cX8_mean 37 = .ok (.ifCond .ne 6, 3) := by decide +kernel
theorem dX8_mean_40 : decode cX8_mean 40 = .ok (.ldc 96, 2) := by decide +kernel
theorem dX8_mean_42 : decode cX8_mean 42 = .ok (.ireturn, 1) := by decide +kernel
theorem dX8_mean_43 : decode cX8_mean 43 = .ok (.aload_n 0, 1) := by decide +kernel
theorem dX8_mean_44 : decode cX8_mean 44 = .ok (.iload_n 1, 1) := by decide +kernel
theorem dX8_mean_45 : decode cX8_mean 45 = .ok (.iload_n 2, 1) := by decide +kernel
theorem dX8_mean_46 : decode cX8_mean 46 = .ok (.invokevirtual 189, 3) := by decide +kernel
theorem dX8_mean_49 : decode cX8_mean 49 = .ok (.i2l, 1) := by decide +kernel
theorem dX8_mean_50 : decode cX8_mean 50 = .ok (.lstore 6, 2) := by decide +kernel
theorem dX8_mean_52 : decode cX8_mean 52 = .ok (.lload 6, 2) := by decide +kernel
theorem dX8_mean_54 : decode cX8_mean 54 = .ok (.lconst 0, 1) := by decide +kernel
theorem dX8_mean_55 : decode cX8_mean 55 = .ok (.lcmp, 1) := by decide +kernel
theorem dX8_mean_56 : decode cX8_mean 56 = .ok (.ifCond .ne 6, 3) := by decide +kernel
theorem dX8_mean_59 : decode cX8_mean 59 = .ok (.iload 4, 2) := by decide +kernel
theorem dX8_mean_61 : decode cX8_mean 61 = .ok (.ireturn, 1) := by decide +kernel
theorem dX8_mean_62 : decode cX8_mean 62 = .ok (.aload_n 0, 1) := by decide +kernel
theorem dX8_mean_63 : decode cX8_mean 63 = .ok (.iload_n 1, 1) := by decide +kernel
theorem dX8_mean_64 : decode cX8_mean 64 = .ok (.iload_n 2, 1) := by decide +kernel
theorem dX8_mean_65 : decode cX8_mean 65 = .ok (.iload_n 3, 1) := by decide +kernel
theorem dX8_mean_66 : decode cX8_mean 66 = .ok (.invokevirtual 192, 3) := by decide +kernel
theorem dX8_mean_69 : decode cX8_mean 69 = .ok (.lstore 8, 2) := by decide +kernel
theorem dX8_mean_71 : decode cX8_mean 71 = .ok (.lload 8, 2) := by decide +kernel
theorem dX8_mean_73 : decode cX8_mean 73 = .ok (.lload 6, 2) := by decide +kernel
theorem dX8_mean_75 : decode cX8_mean 75 = .ok (.invokestatic 174, 3) := by decide +kernel
theorem dX8_mean_78 : decode cX8_mean 78 = .ok (.lstore 10, 2) := by decide +kernel
theorem dX8_mean_80 : decode cX8_mean 80 = .ok (.iload 4, 2) := by decide +kernel
theorem dX8_mean_82 : decode cX8_mean 82 = .ok (.ifCond .ne 11, 3) := by decide +kernel
theorem dX8_mean_85 : decode cX8_mean 85 = .ok (.lload 8, 2) := by decide +kernel
theorem dX8_mean_87 : decode cX8_mean 87 = .ok (.lload 10, 2) := by decide +kernel
theorem dX8_mean_89 : decode cX8_mean 89 = .ok (.ldiv, 1) := by decide +kernel
theorem dX8_mean_90 : decode cX8_mean 90 = .ok (.goto 8, 3) := by decide +kernel
theorem dX8_mean_93 : decode cX8_mean 93 = .ok (.lload 6, 2) := by decide +kernel
theorem dX8_mean_95 : decode cX8_mean 95 = .ok (.lload 10, 2) := by decide +kernel
theorem dX8_mean_97 : decode cX8_mean 97 = .ok (.ldiv, 1) := by decide +kernel
theorem dX8_mean_98 : decode cX8_mean 98 = .ok (.l2i, 1) := by decide +kernel
theorem dX8_mean_99 : decode cX8_mean 99 = .ok (.ireturn, 1) := by decide +kernel
theorem dX8_sum_0 : decode cX8_sum 0 = .ok (.iload_n 1, 1) := by decide +kernel
theorem dX8_sum_1 : decode cX8_sum 1 = .ok (.iconst 0, 1) := by decide +kernel
theorem dX8_sum_2 : decode cX8_sum 2 = .ok (.iconst 1, 1) := by decide +kernel
theorem dX8_sum_3 : decode cX8_sum 3 = .ok (.invokestatic 85, 3) := by decide +kernel
theorem dX8_sum_6 : decode cX8_sum 6 = .ok (.ifCond .eq 12, 3) := by decide +kernel
theorem dX8_sum_9 : decode cX8_sum 9 = .ok (.iload_n 2, 1) := by decide +kernel
theorem dX8_sum_10 : decode cX8_sum 10 = .ok (.iconst 0, 1) := by decide +kernel
theorem dX8_sum_11 : decode cX8_sum 11 = .ok (.iconst 1, 1) := by decide +kernel
theorem dX8_sum_12 : decode cX8_sum 12 = .ok (.invokestatic 85, 3) := by decide +kernel
theorem dX8_sum_15 : decode cX8_sum 15 = .ok (.ifCond .ne 7, 3) := by decide +kernel
theorem dX8_sum_18 : decode cX8_sum 18 = .ok (.ldc2_w 178, 3) := by decide +kernel
theorem dX8_sum_21 : decode cX8_sum 21 = .ok (.lreturn, 1) := by decide +kernel
theorem dX8_sum_22 : decode cX8_sum 22 = .ok (.aload_n 0, 1) := by decide +kernel
theorem dX8_sum_23 : decode cX8_sum 23 = .ok (.getfield 17, 3) := by decide +kernel
theorem dX8_sum_26 : decode cX8_sum 26 = .ok (.iload_n 1, 1) := by decide +kernel
theorem dX8_sum_27 : decode cX8_sum 27 = .ok (.baload, 1) := by decide +kernel
theorem dX8_sum_28 : decode cX8_sum 28 = .ok (.ifCond .ne 7, 3) := by decide +kernel
theorem dX8_sum_31 : decode cX8_sum 31 = .ok (.ldc2_w 180, 3) := by decide +kernel
theorem dX8_sum_34 : decode cX8_sum 34 = .ok (.lreturn, 1) := by decide +kernel
theorem dX8_sum_35 : decode cX8_sum 35 = .ok (.lconst 0, 1) := by decide +kernel
theorem dX8_sum_36 : decode cX8_sum 36 = .ok (.lstore_n 3, 1) := by decide +kernel
theorem dX8_sum_37 : decode cX8_sum 37 = .ok (.lconst 1, 1) := by decide +kernel
theorem dX8_sum_38 : decode cX8_sum 38 = .ok (.lstore 5, 2) := by decide +kernel
theorem dX8_sum_40 : decode cX8_sum 40 = .ok (.iconst 0, 1) := by decide +kernel
theorem dX8_sum_41 : decode cX8_sum 41 = .ok (.istore 7, 2) := by decide +kernel
theorem dX8_sum_43 : decode cX8_sum 43 = .ok (.iload 7, 2) := by decide +kernel
theorem dX8_sum_45 : decode cX8_sum 45 = .ok (.aload_n 0, 1) := by decide +kernel
theorem dX8_sum_46 : decode cX8_sum 46 = .ok (.getfield 21, 3) := by decide +kernel
theorem dX8_sum_49 : decode cX8_sum 49 = .ok (.iload_n 1, 1) := by decide +kernel
theorem dX8_sum_50 : decode cX8_sum 50 = .ok (.iaload, 1) := by decide +kernel
theorem dX8_sum_51 : decode cX8_sum 51 = .ok (.if_icmp .ge 174, 3) := by decide +kernel
theorem dX8_sum_54 : decode cX8_sum 54 = .ok (.aload_n 0, 1) := by decide +kernel
theorem dX8_sum_55 : decode cX8_sum 55 = .ok (.iload_n 1, 1) := by decide +kernel
theorem dX8_sum_56 : decode cX8_sum 56 = .ok (.iload 7, 2) := by decide +kernel
theorem dX8_sum_58 : decode cX8_sum 58 = .ok (.invokevirtual 189, 3) := by decide +kernel
theorem dX8_sum_61 : decode cX8_sum 61 = .ok (.i2l, 1) := by decide +kernel
theorem dX8_sum_62 : decode cX8_sum 62 = .ok (.lstore 8, 2) := by decide +kernel
theorem dX8_sum_64 : decode cX8_sum 64 = .ok (.lconst 0, 1) := by decide +kernel
theorem dX8_sum_65 : decode cX8_sum 65 = .ok (.lstore 10, 2) := by decide +kernel
theorem dX8_sum_67 : decode cX8_sum 67 = .ok (.iconst 0, 1) := by decide +kernel
theorem dX8_sum_68 : decode cX8_sum 68 = .ok (.istore 12, 2) := by decide +kernel
theorem dX8_sum_70 : decode cX8_sum 70 = .ok (.iload 12, 2) := by decide +kernel
theorem dX8_sum_72 : decode cX8_sum 72 = .ok (.aload_n 0, 1) := by decide +kernel
theorem dX8_sum_73 : decode cX8_sum 73 = .ok (.getfield 7, 3) := by decide +kernel
theorem dX8_sum_76 : decode cX8_sum 76 = .ok (.if_icmp .ge 98, 3) := by decide +kernel
theorem dX8_sum_79 : decode cX8_sum 79 = .ok (.aload_n 0, 1) := by decide +kernel
theorem dX8_sum_80 : decode cX8_sum 80 = .ok (.iload_n 1, 1) := by decide +kernel
theorem dX8_sum_81 : decode cX8_sum 81 = .ok (.iload 7, 2) := by decide +kernel
theorem dX8_sum_83 : decode cX8_sum 83 = .ok (.iload 12, 2) := by decide +kernel
theorem dX8_sum_85 : decode cX8_sum 85 = .ok (.invokevirtual 192, 3) := by decide +kernel
theorem dX8_sum_88 : decode cX8_sum 88 = .ok (.lstore 13, 2) := by decide +kernel
theorem dX8_sum_90 : decode cX8_sum 90 = .ok (.lconst 0, 1) := by decide +kernel
theorem dX8_sum_91 : decode cX8_sum 91 = .ok (.lstore 15, 2) := by decide +kernel
theorem dX8_sum_93 : decode cX8_sum 93 = .ok (.iconst 0, 1) := by decide +kernel
theorem dX8_sum_94 : decode cX8_sum 94 = .ok (.istore 17, 2) := by decide +kernel
theorem dX8_sum_96 : decode cX8_sum 96 = .ok (.iload 17, 2) := by decide +kernel
theorem dX8_sum_98 : decode cX8_sum 98 = .ok (.aload_n 0, 1) := by decide +kernel
theorem dX8_sum_99 : decode cX8_sum 99 = .ok (.getfield 82, 3) := by decide +kernel
theorem dX8_sum_102 : decode cX8_sum 102 = .ok (.if_icmp .ge 50, 3) := by decide +kernel
theorem dX8_sum_105 : decode cX8_sum 105 = .ok (.aload_n 0, 1) := by decide +kernel
theorem dX8_sum_106 : decode cX8_sum 106 = .ok (.iload_n 1, 1) := by decide +kernel
theorem dX8_sum_107 : decode cX8_sum 107 = .ok (.iload 17, 2) := by decide +kernel
theorem dX8_sum_109 : decode cX8_sum 109 = .ok (.invokevirtual 182, 3) := by decide +kernel
theorem dX8_sum_112 : decode cX8_sum 112 = .ok (.iload 7, 2) := by decide +kernel
theorem dX8_sum_114 : decode cX8_sum 114 = .ok (.if_icmp .ne 19, 3) := by decide +kernel
theorem dX8_sum_117 : decode cX8_sum 117 = .ok (.aload_n 0, 1) := by decide +kernel
theorem dX8_sum_118 : decode cX8_sum 118 = .ok (.getfield 13, 3) := by decide +kernel
theorem dX8_sum_121 : decode cX8_sum 121 = .ok (.iconst 4, 1) := by decide +kernel
theorem dX8_sum_122 : decode cX8_sum 122 = .ok (.iload 17, 2) := by decide +kernel
theorem dX8_sum_124 : decode cX8_sum 124 = .ok (.imul, 1) := by decide +kernel
theorem dX8_sum_125 : decode cX8_sum 125 = .ok (.iload 12, 2) := by decide +kernel
theorem dX8_sum_127 : decode cX8_sum 127 = .ok (.iadd, 1) := by decide +kernel
theorem dX8_sum_128 : decode cX8_sum 128 = .ok (.iaload, 1) := by decide +kernel
theorem dX8_sum_129 : decode cX8_sum 129 = .ok (.i2l, 1) := by decide +kernel
theorem dX8_sum_130 : decode cX8_sum 130 = .ok (.goto 4, 3) := by decide +kernel
theorem dX8_sum_133 : decode cX8_sum 133 = .ok (.lconst 0, 1) := by decide +kernel
theorem dX8_sum_134 : decode cX8_sum 134 = .ok (.lstore 18, 2) := by decide +kernel
theorem dX8_sum_136 : decode cX8_sum 136 = .ok (.lload 15, 2) := by decide +kernel
theorem dX8_sum_138 : decode cX8_sum 138 = .ok (.lload 18, 2) := by decide +kernel
theorem dX8_sum_140 : decode cX8_sum 140 = .ok (.lload 18, 2) := by decide +kernel
theorem dX8_sum_142 : decode cX8_sum 142 = .ok (.lmul, 1) := by decide +kernel
theorem dX8_sum_143 : decode cX8_sum 143 = .ok (.ladd, 1) := by decide +kernel
theorem dX8_sum_144 : decode cX8_sum 144 = .ok (.lstore 15, 2) := by decide +kernel
theorem dX8_sum_146 : decode cX8_sum 146 = .ok (.iinc 17 1, 3) := by decide +kernel
theorem dX8_sum_149 : decode cX8_sum 149 = .ok (.goto (-53), 3) := by decide +kernel
theorem dX8_sum_152 : decode cX8_sum 152 = .ok (.lload 10, 2) := by decide +kernel
theorem dX8_sum_154 : decode cX8_sum 154 = .ok (.lload 8, 2) := by decide +kernel
theorem dX8_sum_156 : decode cX8_sum 156 = .ok (.lload 15, 2) := by decide +kernel
theorem dX8_sum_158 : decode cX8_sum 158 = .ok (.lmul, 1) := by decide +kernel
theorem dX8_sum_159 : decode cX8_sum 159 = .ok (.lload 13, 2) := by decide +kernel
theorem dX8_sum_161 : decode cX8_sum 161 = .ok (.lload 13, 2) := by decide +kernel
theorem dX8_sum_163 : decode cX8_sum 163 = .ok (.lmul, 1) := by decide +kernel
theorem dX8_sum_164 : decode cX8_sum 164 = .ok (.lsub, 1) := by decide +kernel
theorem dX8_sum_165 : decode cX8_sum 165 = .ok (.ladd, 1) := by decide +kernel
theorem dX8_sum_166 : decode cX8_sum 166 = .ok (.lstore 10, 2) := by decide +kernel
theorem dX8_sum_168 : decode cX8_sum 168 = .ok (.iinc 12 1, 3) := by decide +kernel
theorem dX8_sum_171 : decode cX8_sum 171 = .ok (.goto (-101), 3) := by decide +kernel
theorem dX8_sum_174 : decode cX8_sum 174 = .ok (.lload 8, 2) := by decide +kernel
theorem dX8_sum_176 : decode cX8_sum 176 = .ok (.lconst 0, 1) := by decide +kernel
theorem dX8_sum_177 : decode cX8_sum 177 = .ok (.lcmp, 1) := by decide +kernel
theorem dX8_sum_178 : decode cX8_sum 178 = .ok (.ifCond .le 41, 3) := by decide +kernel
theorem dX8_sum_181 : decode cX8_sum 181 = .ok (.lload_n 3, 1) := by decide +kernel
theorem dX8_sum_182 : decode cX8_sum 182 = .ok (.lload 8, 2) := by decide +kernel
theorem dX8_sum_184 : decode cX8_sum 184 = .ok (.lmul, 1) := by decide +kernel
theorem dX8_sum_185 : decode cX8_sum 185 = .ok (.lload 10, 2) := by decide +kernel
theorem dX8_sum_187 : decode cX8_sum 187 = .ok (.lload 5, 2) := by decide +kernel
theorem dX8_sum_189 : decode cX8_sum 189 = .ok (.lmul, 1) := by decide +kernel
theorem dX8_sum_190 : decode cX8_sum 190 = .ok (.ladd, 1) := by decide +kernel
theorem dX8_sum_191 : decode cX8_sum 191 = .ok (.lstore_n 3, 1) := by decide +kernel
theorem dX8_sum_192 : decode cX8_sum 192 = .ok (.lload 5, 2) := by decide +kernel
theorem dX8_sum_194 : decode cX8_sum 194 = .ok (.lload 8, 2) := by decide +kernel
theorem dX8_sum_196 : decode cX8_sum 196 = .ok (.lmul, 1) := by decide +kernel
theorem dX8_sum_197 : decode cX8_sum 197 = .ok (.lstore 5, 2) := by decide +kernel
theorem dX8_sum_199 : decode cX8_sum 199 = .ok (.lload_n 3, 1) := by decide +kernel
theorem dX8_sum_200 : decode cX8_sum 200 = .ok (.lload 5, 2) := by decide +kernel
theorem dX8_sum_202 : decode cX8_sum 202 = .ok (.invokestatic 174, 3) := by decide +kernel
theorem dX8_sum_205 : decode cX8_sum 205 = .ok (.lstore 12, 2) := by decide +kernel
theorem dX8_sum_207 : decode cX8_sum 207 = .ok (.lload_n 3, 1) := by decide +kernel
theorem dX8_sum_208 : decode cX8_sum 208 = .ok (.lload 12, 2) := by decide +kernel
theorem dX8_sum_210 : decode cX8_sum 210 = .ok (.ldiv, 1) := by decide +kernel
theorem dX8_sum_211 : decode cX8_sum 211 = .ok (.lstore_n 3, 1) := by decide +kernel
theorem dX8_sum_212 : decode cX8_sum 212 = .ok (.lload 5, 2) := by decide +kernel
theorem dX8_sum_214 : decode cX8_sum 214 = .ok (.lload 12, 2) := by decide +kernel
theorem dX8_sum_216 : decode cX8_sum 216 = .ok (.ldiv, 1) := by decide +kernel
theorem dX8_sum_217 : decode cX8_sum 217 = .ok (.lstore 5, 2) := by decide +kernel
theorem dX8_sum_219 : decode cX8_sum 219 = .ok (.iinc 7 1, 3) := by decide +kernel
theorem dX8_sum_222 : decode cX8_sum 222 = .ok (.goto (-179), 3) := by decide +kernel
theorem dX8_sum_225 : decode cX8_sum 225 = .ok (.iload_n 2, 1) := by decide +kernel
theorem dX8_sum_226 : decode cX8_sum 226 = .ok (.ifCond .ne 7, 3) := by decide +kernel
theorem dX8_sum_229 : decode cX8_sum 229 = .ok (.lload_n 3, 1) := by decide +kernel
theorem dX8_sum_230 : decode cX8_sum 230 = .ok (.goto 5, 3) := by decide +kernel
theorem dX8_sum_233 : decode cX8_sum 233 = .ok (.lload 5, 2) := by decide +kernel
theorem dX8_sum_235 : decode cX8_sum 235 = .ok (.lreturn, 1) := by decide +kernel
theorem dX8_farFrom_0 : decode cX8_farFrom 0 = .ok (.lconst 0, 1) := by decide +kernel
theorem dX8_farFrom_1 : decode cX8_farFrom 1 = .ok (.lstore 5, 2) := by decide +kernel
theorem dX8_farFrom_3 : decode cX8_farFrom 3 = .ok (.iconst 0, 1) := by decide +kernel
theorem dX8_farFrom_4 : decode cX8_farFrom 4 = .ok (.istore 7, 2) := by decide +kernel
theorem dX8_farFrom_6 : decode cX8_farFrom 6 = .ok (.iload 7, 2) := by decide +kernel
theorem dX8_farFrom_8 : decode cX8_farFrom 8 = .ok (.aload_n 0, 1) := by decide +kernel
theorem dX8_farFrom_9 : decode cX8_farFrom 9 = .ok (.getfield 82, 3) := by decide +kernel
theorem dX8_farFrom_12 : decode cX8_farFrom 12 = .ok (.if_icmp .ge 39, 3) := by decide +kernel
theorem dX8_farFrom_15 : decode cX8_farFrom 15 = .ok (.lload 5, 2) := by decide +kernel
theorem dX8_farFrom_17 : decode cX8_farFrom 17 = .ok (.aload_n 0, 1) := by decide +kernel
theorem dX8_farFrom_18 : decode cX8_farFrom 18 = .ok (.iload_n 1, 1) := by decide +kernel
theorem dX8_farFrom_19 : decode cX8_farFrom 19 = .ok (.iload 7, 2) := by decide +kernel
theorem dX8_farFrom_21 : decode cX8_farFrom 21 = .ok (.invokevirtual 182, 3) := by decide +kernel
theorem dX8_farFrom_24 : decode cX8_farFrom 24 = .ok (.iload 4, 2) := by decide +kernel
theorem dX8_farFrom_26 : decode cX8_farFrom 26 = .ok (.if_icmp .ne 15, 3) := by decide +kernel
theorem dX8_farFrom_29 : decode cX8_farFrom 29 = .ok (.aload_n 0, 1) := by decide +kernel
theorem dX8_farFrom_30 : decode cX8_farFrom 30 = .ok (.iload_n 2, 1) := by decide +kernel
theorem dX8_farFrom_31 : decode cX8_farFrom 31 = .ok (.iload_n 3, 1) := by decide +kernel
theorem dX8_farFrom_32 : decode cX8_farFrom 32 = .ok (.iload 7, 2) := by decide +kernel
theorem dX8_farFrom_34 : decode cX8_farFrom 34 = .ok (.invokevirtual 105, 3) := by decide +kernel
theorem dX8_farFrom_37 : decode cX8_farFrom 37 = .ok (.i2l, 1) := by decide +kernel
theorem dX8_farFrom_38 : decode cX8_farFrom 38 = .ok (.goto 4, 3) := by decide +kernel
theorem dX8_farFrom_41 : decode cX8_farFrom 41 = .ok (.lconst 0, 1) := by decide +kernel
theorem dX8_farFrom_42 : decode cX8_farFrom 42 = .ok (.ladd, 1) := by decide +kernel
theorem dX8_farFrom_43 : decode cX8_farFrom 43 = .ok (.lstore 5, 2) := by decide +kernel
theorem dX8_farFrom_45 : decode cX8_farFrom 45 = .ok (.iinc 7 1, 3) := by decide +kernel
theorem dX8_farFrom_48 : decode cX8_farFrom 48 = .ok (.goto (-42), 3) := by decide +kernel
theorem dX8_farFrom_51 : decode cX8_farFrom 51 = .ok (.lload 5, 2) := by decide +kernel
theorem dX8_farFrom_53 : decode cX8_farFrom 53 = .ok (.lreturn, 1) := by decide +kernel
theorem dX8_well_0 : decode cX8_well 0 = .ok (.aload_n 0, 1) := by decide +kernel
theorem dX8_well_1 : decode cX8_well 1 = .ok (.iload_n 3, 1) := by decide +kernel
theorem dX8_well_2 : decode cX8_well 2 = .ok (.invokevirtual 109, 3) := by decide +kernel
theorem dX8_well_5 : decode cX8_well 5 = .ok (.ifCond .ne 7, 3) := by decide +kernel
theorem dX8_well_8 : decode cX8_well 8 = .ok (.ldc2_w 196, 3) := by decide +kernel
theorem dX8_well_11 : decode cX8_well 11 = .ok (.lreturn, 1) := by decide +kernel
theorem dX8_well_12 : decode cX8_well 12 = .ok (.iload_n 1, 1) := by decide +kernel
theorem dX8_well_13 : decode cX8_well 13 = .ok (.iconst 0, 1) := by decide +kernel
theorem dX8_well_14 : decode cX8_well 14 = .ok (.iconst 1, 1) := by decide +kernel
theorem dX8_well_15 : decode cX8_well 15 = .ok (.invokestatic 85, 3) := by decide +kernel
theorem dX8_well_18 : decode cX8_well 18 = .ok (.ifCond .eq 22, 3) := by decide +kernel
theorem dX8_well_21 : decode cX8_well 21 = .ok (.iload_n 2, 1) := by decide +kernel
theorem dX8_well_22 : decode cX8_well 22 = .ok (.iconst 0, 1) := by decide +kernel
theorem dX8_well_23 : decode cX8_well 23 = .ok (.iconst 2, 1) := by decide +kernel
theorem dX8_well_24 : decode cX8_well 24 = .ok (.invokestatic 85, 3) := by decide +kernel
theorem dX8_well_27 : decode cX8_well 27 = .ok (.ifCond .eq 13, 3) := by decide +kernel
theorem dX8_well_30 : decode cX8_well 30 = .ok (.iload 4, 2) := by decide +kernel
theorem dX8_well_32 : decode cX8_well 32 = .ok (.iconst 0, 1) := by decide +kernel
theorem dX8_well_33 : decode cX8_well 33 = .ok (.iconst 1, 1) := by decide +kernel
theorem dX8_well_34 : decode cX8_well 34 = .ok (.invokestatic 85, 3) := by decide +kernel
theorem dX8_well_37 : decode cX8_well 37 = .ok (.ifCond .ne 7, 3) := by decide +kernel
theorem dX8_well_40 : decode cX8_well 40 = .ok (.ldc2_w 178, 3) := by decide +kernel
theorem dX8_well_43 : decode cX8_well 43 = .ok (.lreturn, 1) := by decide +kernel
theorem dX8_well_44 : decode cX8_well 44 = .ok (.aload_n 0, 1) := by decide +kernel
theorem dX8_well_45 : decode cX8_well 45 = .ok (.getfield 17, 3) := by decide +kernel
theorem dX8_well_48 : decode cX8_well 48 = .ok (.iload_n 1, 1) := by decide +kernel
theorem dX8_well_49 : decode cX8_well 49 = .ok (.baload, 1) := by decide +kernel
theorem dX8_well_50 : decode cX8_well 50 = .ok (.ifCond .eq 13, 3) := by decide +kernel
theorem dX8_well_53 : decode cX8_well 53 = .ok (.aload_n 0, 1) := by decide +kernel
theorem dX8_well_54 : decode cX8_well 54 = .ok (.iload_n 1, 1) := by decide +kernel
theorem dX8_well_55 : decode cX8_well 55 = .ok (.iload_n 3, 1) := by decide +kernel
theorem dX8_well_56 : decode cX8_well 56 = .ok (.invokevirtual 182, 3) := by decide +kernel
theorem dX8_well_59 : decode cX8_well 59 = .ok (.iconst (-1), 1) := by decide +kernel
theorem dX8_well_60 : decode cX8_well 60 = .ok (.if_icmp .ne 7, 3) := by decide +kernel
theorem dX8_well_63 : decode cX8_well 63 = .ok (.ldc2_w 180, 3) := by decide +kernel
theorem dX8_well_66 : decode cX8_well 66 = .ok (.lreturn, 1) := by decide +kernel
theorem dX8_well_67 : decode cX8_well 67 = .ok (.aload_n 0, 1) := by decide +kernel
theorem dX8_well_68 : decode cX8_well 68 = .ok (.iload_n 1, 1) := by decide +kernel
theorem dX8_well_69 : decode cX8_well 69 = .ok (.iload_n 3, 1) := by decide +kernel
theorem dX8_well_70 : decode cX8_well 70 = .ok (.invokevirtual 182, 3) := by decide +kernel
theorem dX8_well_73 : decode cX8_well 73 = .ok (.istore 5, 2) := by decide +kernel
theorem dX8_well_75 : decode cX8_well 75 = .ok (.aload_n 0, 1) := by decide +kernel
theorem dX8_well_76 : decode cX8_well 76 = .ok (.iload_n 1, 1) := by decide +kernel
theorem dX8_well_77 : decode cX8_well 77 = .ok (.iload 5, 2) := by decide +kernel
theorem dX8_well_79 : decode cX8_well 79 = .ok (.invokevirtual 189, 3) := by decide +kernel
theorem dX8_well_82 : decode cX8_well 82 = .ok (.i2l, 1) := by decide +kernel
theorem dX8_well_83 : decode cX8_well 83 = .ok (.lconst 1, 1) := by decide +kernel
theorem dX8_well_84 : decode cX8_well 84 = .ok (.lsub, 1) := by decide +kernel
theorem dX8_well_85 : decode cX8_well 85 = .ok (.lstore 6, 2) := by decide +kernel
theorem dX8_well_87 : decode cX8_well 87 = .ok (.aload_n 0, 1) := by decide +kernel
theorem dX8_well_88 : decode cX8_well 88 = .ok (.iload_n 1, 1) := by decide +kernel
theorem dX8_well_89 : decode cX8_well 89 = .ok (.iload_n 2, 1) := by decide +kernel
theorem dX8_well_90 : decode cX8_well 90 = .ok (.iload_n 3, 1) := by decide +kernel
theorem dX8_well_91 : decode cX8_well 91 = .ok (.iload 5, 2) := by decide +kernel
theorem dX8_well_93 : decode cX8_well 93 = .ok (.invokevirtual 198, 3) := by decide +kernel
theorem dX8_well_96 : decode cX8_well 96 = .ok (.lstore 8, 2) := by decide +kernel
theorem dX8_well_98 : decode cX8_well 98 = .ok (.ldc2_w 156, 3) := by decide +kernel
theorem dX8_well_101 : decode cX8_well 101 = .ok (.lstore 10, 2) := by decide +kernel
theorem dX8_well_103 : decode cX8_well 103 = .ok (.lconst 1, 1) := by decide +kernel
theorem dX8_well_104 : decode cX8_well 104 = .ok (.lstore 12, 2) := by decide +kernel
theorem dX8_well_106 : decode cX8_well 106 = .ok (.iconst 0, 1) := by decide +kernel
theorem dX8_well_107 : decode cX8_well 107 = .ok (.istore 14, 2) := by decide +kernel
theorem dX8_well_109 : decode cX8_well 109 = .ok (.iload 14, 2) := by decide +kernel
theorem dX8_well_111 : decode cX8_well 111 = .ok (.aload_n 0, 1) := by decide +kernel
theorem dX8_well_112 : decode cX8_well 112 = .ok (.getfield 21, 3) := by decide +kernel
theorem dX8_well_115 : decode cX8_well 115 = .ok (.iload_n 1, 1) := by decide +kernel
theorem dX8_well_116 : decode cX8_well 116 = .ok (.iaload, 1) := by decide +kernel
theorem dX8_well_117 : decode cX8_well 117 = .ok (.if_icmp .ge 75, 3) := by decide +kernel
theorem dX8_well_120 : decode cX8_well 120 = .ok (.aload_n 0, 1) := by decide +kernel
theorem dX8_well_121 : decode cX8_well 121 = .ok (.iload_n 1, 1) := by decide +kernel
theorem dX8_well_122 : decode cX8_well 122 = .ok (.iload 14, 2) := by decide +kernel
theorem dX8_well_124 : decode cX8_well 124 = .ok (.invokevirtual 189, 3) := by decide +kernel
theorem dX8_well_127 : decode cX8_well 127 = .ok (.i2l, 1) := by decide +kernel
theorem dX8_well_128 : decode cX8_well 128 = .ok (.lstore 15, 2) := by decide +kernel
theorem dX8_well_130 : decode cX8_well 130 = .ok (.iload 14, 2) := by decide +kernel
theorem dX8_well_132 : decode cX8_well 132 = .ok (.iload 5, 2) := by decide +kernel
theorem dX8_well_134 : decode cX8_well 134 = .ok (.if_icmp .eq 52, 3) := by decide +kernel
theorem dX8_well_137 : decode cX8_well 137 = .ok (.lload 15, 2) := by decide +kernel
theorem dX8_well_139 : decode cX8_well 139 = .ok (.lconst 0, 1) := by decide +kernel
theorem dX8_well_140 : decode cX8_well 140 = .ok (.lcmp, 1) := by decide +kernel
theorem dX8_well_141 : decode cX8_well 141 = .ok (.ifCond .le 45, 3) := by decide +kernel
theorem dX8_well_144 : decode cX8_well 144 = .ok (.aload_n 0, 1) := by decide +kernel
theorem dX8_well_145 : decode cX8_well 145 = .ok (.iload_n 1, 1) := by decide +kernel
theorem dX8_well_146 : decode cX8_well 146 = .ok (.iload_n 2, 1) := by decide +kernel
theorem dX8_well_147 : decode cX8_well 147 = .ok (.iload_n 3, 1) := by decide +kernel
theorem dX8_well_148 : decode cX8_well 148 = .ok (.iload 14, 2) := by decide +kernel
theorem dX8_well_150 : decode cX8_well 150 = .ok (.invokevirtual 198, 3) := by decide +kernel
theorem dX8_well_153 : decode cX8_well 153 = .ok (.lstore 17, 2) := by decide +kernel
theorem dX8_well_155 : decode cX8_well 155 = .ok (.lload 10, 2) := by decide +kernel
theorem dX8_well_157 : decode cX8_well 157 = .ok (.ldc2_w 156, 3) := by decide +kernel
theorem dX8_well_160 : decode cX8_well 160 = .ok (.lcmp, 1) := by decide +kernel
theorem dX8_well_161 : decode cX8_well 161 = .ok (.ifCond .eq 17, 3) := by decide +kernel
theorem dX8_well_164 : decode cX8_well 164 = .ok (.lload 17, 2) := by decide +kernel
theorem dX8_well_166 : decode cX8_well 166 = .ok (.lload 12, 2) := by decide +kernel
theorem dX8_well_168 : decode cX8_well 168 = .ok (.lmul, 1) := by decide +kernel
theorem dX8_well_169 : decode cX8_well 169 = .ok (.lload 10, 2) := by decide +kernel
theorem dX8_well_171 : decode cX8_well 171 = .ok (.lload 15, 2) := by decide +kernel
theorem dX8_well_173 : decode cX8_well 173 = .ok (.lmul, 1) := by decide +kernel
theorem dX8_well_174 : decode cX8_well 174 = .ok (.lcmp, 1) := by decide +kernel
theorem dX8_well_175 : decode cX8_well 175 = .ok (.ifCond .ge 11, 3) := by decide +kernel
theorem dX8_well_178 : decode cX8_well 178 = .ok (.lload 17, 2) := by decide +kernel
theorem dX8_well_180 : decode cX8_well 180 = .ok (.lstore 10, 2) := by decide +kernel
theorem dX8_well_182 : decode cX8_well 182 = .ok (.lload 15, 2) := by decide +kernel
theorem dX8_well_184 : decode cX8_well 184 = .ok (.lstore 12, 2) := by decide +kernel
theorem dX8_well_186 : decode cX8_well 186 = .ok (.iinc 14 1, 3) := by decide +kernel
theorem dX8_well_189 : decode cX8_well 189 = .ok (.goto (-80), 3) := by decide +kernel
theorem dX8_well_192 : decode cX8_well 192 = .ok (.lload 6, 2) := by decide +kernel
theorem dX8_well_194 : decode cX8_well 194 = .ok (.lconst 0, 1) := by decide +kernel
theorem dX8_well_195 : decode cX8_well 195 = .ok (.lcmp, 1) := by decide +kernel
theorem dX8_well_196 : decode cX8_well 196 = .ok (.ifCond .eq 26, 3) := by decide +kernel
theorem dX8_well_199 : decode cX8_well 199 = .ok (.lload 10, 2) := by decide +kernel
theorem dX8_well_201 : decode cX8_well 201 = .ok (.ldc2_w 156, 3) := by decide +kernel
theorem dX8_well_204 : decode cX8_well 204 = .ok (.lcmp, 1) := by decide +kernel
theorem dX8_well_205 : decode cX8_well 205 = .ok (.ifCond .eq 17, 3) := by decide +kernel
theorem dX8_well_208 : decode cX8_well 208 = .ok (.lload 8, 2) := by decide +kernel
theorem dX8_well_210 : decode cX8_well 210 = .ok (.lconst 0, 1) := by decide +kernel
theorem dX8_well_211 : decode cX8_well 211 = .ok (.lcmp, 1) := by decide +kernel
theorem dX8_well_212 : decode cX8_well 212 = .ok (.ifCond .ne 14, 3) := by decide +kernel
theorem dX8_well_215 : decode cX8_well 215 = .ok (.lload 10, 2) := by decide +kernel
theorem dX8_well_217 : decode cX8_well 217 = .ok (.lconst 0, 1) := by decide +kernel
theorem dX8_well_218 : decode cX8_well 218 = .ok (.lcmp, 1) := by decide +kernel
theorem dX8_well_219 : decode cX8_well 219 = .ok (.ifCond .ne 7, 3) := by decide +kernel
theorem dX8_well_222 : decode cX8_well 222 = .ok (.iload 4, 2) := by decide +kernel
theorem dX8_well_224 : decode cX8_well 224 = .ok (.i2l, 1) := by decide +kernel
theorem dX8_well_225 : decode cX8_well 225 = .ok (.lreturn, 1) := by decide +kernel
theorem dX8_well_226 : decode cX8_well 226 = .ok (.lload 10, 2) := by decide +kernel
theorem dX8_well_228 : decode cX8_well 228 = .ok (.lload 6, 2) := by decide +kernel
theorem dX8_well_230 : decode cX8_well 230 = .ok (.lmul, 1) := by decide +kernel
theorem dX8_well_231 : decode cX8_well 231 = .ok (.lload 8, 2) := by decide +kernel
theorem dX8_well_233 : decode cX8_well 233 = .ok (.lload 12, 2) := by decide +kernel
theorem dX8_well_235 : decode cX8_well 235 = .ok (.lmul, 1) := by decide +kernel
theorem dX8_well_236 : decode cX8_well 236 = .ok (.lsub, 1) := by decide +kernel
theorem dX8_well_237 : decode cX8_well 237 = .ok (.lstore 14, 2) := by decide +kernel
theorem dX8_well_239 : decode cX8_well 239 = .ok (.lload 10, 2) := by decide +kernel
theorem dX8_well_241 : decode cX8_well 241 = .ok (.lload 6, 2) := by decide +kernel
theorem dX8_well_243 : decode cX8_well 243 = .ok (.lmul, 1) := by decide +kernel
theorem dX8_well_244 : decode cX8_well 244 = .ok (.lload 8, 2) := by decide +kernel
theorem dX8_well_246 : decode cX8_well 246 = .ok (.lload 12, 2) := by decide +kernel
theorem dX8_well_248 : decode cX8_well 248 = .ok (.lmul, 1) := by decide +kernel
theorem dX8_well_249 : decode cX8_well 249 = .ok (.lcmp, 1) := by decide +kernel
theorem dX8_well_250 : decode cX8_well 250 = .ok (.ifCond .le 11, 3) := by decide +kernel
theorem dX8_well_253 : decode cX8_well 253 = .ok (.lload 10, 2) := by decide +kernel
theorem dX8_well_255 : decode cX8_well 255 = .ok (.lload 6, 2) := by decide +kernel
theorem dX8_well_257 : decode cX8_well 257 = .ok (.lmul, 1) := by decide +kernel
theorem dX8_well_258 : decode cX8_well 258 = .ok (.goto 8, 3) := by decide +kernel
theorem dX8_well_261 : decode cX8_well 261 = .ok (.lload 8, 2) := by decide +kernel
theorem dX8_well_263 : decode cX8_well 263 = .ok (.lload 12, 2) := by decide +kernel
theorem dX8_well_265 : decode cX8_well 265 = .ok (.lmul, 1) := by decide +kernel
theorem dX8_well_266 : decode cX8_well 266 = .ok (.lstore 16, 2) := by decide +kernel
theorem dX8_well_268 : decode cX8_well 268 = .ok (.lload 14, 2) := by decide +kernel
theorem dX8_well_270 : decode cX8_well 270 = .ok (.lload 16, 2) := by decide +kernel
theorem dX8_well_272 : decode cX8_well 272 = .ok (.invokestatic 174, 3) := by decide +kernel
theorem dX8_well_275 : decode cX8_well 275 = .ok (.lstore 18, 2) := by decide +kernel
theorem dX8_well_277 : decode cX8_well 277 = .ok (.iload 4, 2) := by decide +kernel
theorem dX8_well_279 : decode cX8_well 279 = .ok (.ifCond .ne 11, 3) := by decide +kernel
theorem dX8_well_282 : decode cX8_well 282 = .ok (.lload 14, 2) := by decide +kernel
theorem dX8_well_284 : decode cX8_well 284 = .ok (.lload 18, 2) := by decide +kernel
theorem dX8_well_286 : decode cX8_well 286 = .ok (.ldiv, 1) := by decide +kernel
theorem dX8_well_287 : decode cX8_well 287 = .ok (.goto 8, 3) := by decide +kernel
theorem dX8_well_290 : decode cX8_well 290 = .ok (.lload 16, 2) := by decide +kernel
theorem dX8_well_292 : decode cX8_well 292 = .ok (.lload 18, 2) := by decide +kernel
theorem dX8_well_294 : decode cX8_well 294 = .ok (.ldiv, 1) := by decide +kernel
theorem dX8_well_295 : decode cX8_well 295 = .ok (.lreturn, 1) := by decide +kernel
theorem dX8_agree_0 : decode cX8_agree 0 = .ok (.iload_n 1, 1) := by decide +kernel
theorem dX8_agree_1 : decode cX8_agree 1 = .ok (.iconst 0, 1) := by decide +kernel
theorem dX8_agree_2 : decode cX8_agree 2 = .ok (.iconst 3, 1) := by decide +kernel
theorem dX8_agree_3 : decode cX8_agree 3 = .ok (.invokestatic 85, 3) := by decide +kernel
theorem dX8_agree_6 : decode cX8_agree 6 = .ok (.ifCond .ne 6, 3) := by decide +kernel
theorem dX8_agree_9 : decode cX8_agree 9 = .ok (.ldc 96, 2) := by decide +kernel
theorem dX8_agree_11 : decode cX8_agree 11 = .ok (.ireturn, 1) := by decide +kernel
theorem dX8_agree_12 : decode cX8_agree 12 = .ok (.aload_n 0, 1) := by decide +kernel
theorem dX8_agree_13 : decode cX8_agree 13 = .ok (.getfield 17, 3) := by decide +kernel
theorem dX8_agree_16 : decode cX8_agree 16 = .ok (.iconst 0, 1) := by decide +kernel
theorem dX8_agree_17 : decode cX8_agree 17 = .ok (.baload, 1) := by decide +kernel
theorem dX8_agree_18 : decode cX8_agree 18 = .ok (.ifCond .eq 12, 3) := by decide +kernel
theorem dX8_agree_21 : decode cX8_agree 21 = .ok (.aload_n 0, 1) := by decide +kernel
theorem dX8_agree_22 : decode cX8_agree 22 = .ok (.getfield 17, 3) := by decide +kernel
theorem dX8_agree_25 : decode cX8_agree 25 = .ok (.iconst 1, 1) := by decide +kernel
theorem dX8_agree_26 : decode cX8_agree 26 = .ok (.baload, 1) := by decide +kernel
theorem dX8_agree_27 : decode cX8_agree 27 = .ok (.ifCond .ne 6, 3) := by decide +kernel
theorem dX8_agree_30 : decode cX8_agree 30 = .ok (.ldc 97, 2) := by decide +kernel
theorem dX8_agree_32 : decode cX8_agree 32 = .ok (.ireturn, 1) := by decide +kernel
theorem dX8_agree_33 : decode cX8_agree 33 = .ok (.iconst 0, 1) := by decide +kernel
theorem dX8_agree_34 : decode cX8_agree 34 = .ok (.istore_n 2, 1) := by decide +kernel
theorem dX8_agree_35 : decode cX8_agree 35 = .ok (.iconst 0, 1) := by decide +kernel
theorem dX8_agree_36 : decode cX8_agree 36 = .ok (.istore_n 3, 1) := by decide +kernel
theorem dX8_agree_37 : decode cX8_agree 37 = .ok (.iload_n 3, 1) := by decide +kernel
theorem dX8_agree_38 : decode cX8_agree 38 = .ok (.aload_n 0, 1) := by decide +kernel
theorem dX8_agree_39 : decode cX8_agree 39 = .ok (.getfield 82, 3) := by decide +kernel
theorem dX8_agree_42 : decode cX8_agree 42 = .ok (.if_icmp .ge 146, 3) := by decide +kernel
theorem dX8_agree_45 : decode cX8_agree 45 = .ok (.iload_n 3, 1) := by decide +kernel
theorem dX8_agree_46 : decode cX8_agree 46 = .ok (.iconst 1, 1) := by decide +kernel
theorem dX8_agree_47 : decode cX8_agree 47 = .ok (.iadd, 1) := by decide +kernel
theorem dX8_agree_48 : decode cX8_agree 48 = .ok (.istore 4, 2) := by decide +kernel
theorem dX8_agree_50 : decode cX8_agree 50 = .ok (.iload 4, 2) := by decide +kernel
theorem dX8_agree_52 : decode cX8_agree 52 = .ok (.aload_n 0, 1) := by decide +kernel
theorem dX8_agree_53 : decode cX8_agree 53 = .ok (.getfield 82, 3) := by decide +kernel
theorem dX8_agree_56 : decode cX8_agree 56 = .ok (.if_icmp .ge 126, 3) := by decide +kernel
theorem dX8_agree_59 : decode cX8_agree 59 = .ok (.aload_n 0, 1) := by decide +kernel
theorem dX8_agree_60 : decode cX8_agree 60 = .ok (.iconst 0, 1) := by decide +kernel
theorem dX8_agree_61 : decode cX8_agree 61 = .ok (.iload_n 3, 1) := by decide +kernel
theorem dX8_agree_62 : decode cX8_agree 62 = .ok (.invokevirtual 182, 3) := by decide +kernel
theorem dX8_agree_65 : decode cX8_agree 65 = .ok (.iconst (-1), 1) := by decide +kernel
theorem dX8_agree_66 : decode cX8_agree 66 = .ok (.if_icmp .eq 39, 3) := by decide +kernel
theorem dX8_agree_69 : decode cX8_agree 69 = .ok (.aload_n 0, 1) := by decide +kernel
theorem dX8_agree_70 : decode cX8_agree 70 = .ok (.iconst 0, 1) := by decide +kernel
theorem dX8_agree_71 : decode cX8_agree 71 = .ok (.iload 4, 2) := by decide +kernel
theorem dX8_agree_73 : decode cX8_agree 73 = .ok (.invokevirtual 182, 3) := by decide +kernel
theorem dX8_agree_76 : decode cX8_agree 76 = .ok (.iconst (-1), 1) := by decide +kernel
theorem dX8_agree_77 : decode cX8_agree 77 = .ok (.if_icmp .eq 28, 3) := by decide +kernel
theorem dX8_agree_80 : decode cX8_agree 80 = .ok (.aload_n 0, 1) := by decide +kernel
theorem dX8_agree_81 : decode cX8_agree 81 = .ok (.iconst 1, 1) := by decide +kernel
theorem dX8_agree_82 : decode cX8_agree 82 = .ok (.iload_n 3, 1) := by decide +kernel
theorem dX8_agree_83 : decode cX8_agree 83 = .ok (.invokevirtual 182, 3) := by decide +kernel
theorem dX8_agree_86 : decode cX8_agree 86 = .ok (.iconst (-1), 1) := by decide +kernel
theorem dX8_agree_87 : decode cX8_agree 87 = .ok (.if_icmp .eq 18, 3) := by decide +kernel
theorem dX8_agree_90 : decode cX8_agree 90 = .ok (.aload_n 0, 1) := by decide +kernel
theorem dX8_agree_91 : decode cX8_agree 91 = .ok (.iconst 1, 1) := by decide +kernel
theorem dX8_agree_92 : decode cX8_agree 92 = .ok (.iload 4, 2) := by decide +kernel
theorem dX8_agree_94 : decode cX8_agree 94 = .ok (.invokevirtual 182, 3) := by decide +kernel
theorem dX8_agree_97 : decode cX8_agree 97 = .ok (.iconst (-1), 1) := by decide +kernel
theorem dX8_agree_98 : decode cX8_agree 98 = .ok (.if_icmp .eq 7, 3) := by decide +kernel
theorem dX8_agree_101 : decode cX8_agree 101 = .ok (.iconst 1, 1) := by decide +kernel
theorem dX8_agree_102 : decode cX8_agree 102 = .ok (.goto 4, 3) := by decide +kernel
theorem dX8_agree_105 : decode cX8_agree 105 = .ok (.iconst 0, 1) := by decide +kernel
theorem dX8_agree_106 : decode cX8_agree 106 = .ok (.istore 5, 2) := by decide +kernel
theorem dX8_agree_108 : decode cX8_agree 108 = .ok (.aload_n 0, 1) := by decide +kernel
theorem dX8_agree_109 : decode cX8_agree 109 = .ok (.iconst 0, 1) := by decide +kernel
theorem dX8_agree_110 : decode cX8_agree 110 = .ok (.iload_n 3, 1) := by decide +kernel
theorem dX8_agree_111 : decode cX8_agree 111 = .ok (.invokevirtual 182, 3) := by decide +kernel
theorem dX8_agree_114 : decode cX8_agree 114 = .ok (.aload_n 0, 1) := by decide +kernel
theorem dX8_agree_115 : decode cX8_agree 115 = .ok (.iconst 0, 1) := by decide +kernel
theorem dX8_agree_116 : decode cX8_agree 116 = .ok (.iload 4, 2) := by decide +kernel
theorem dX8_agree_118 : decode cX8_agree 118 = .ok (.invokevirtual 182, 3) := by decide +kernel
theorem dX8_agree_121 : decode cX8_agree 121 = .ok (.if_icmp .ne 7, 3) := by decide +kernel
theorem dX8_agree_124 : decode cX8_agree 124 = .ok (.iconst 0, 1) := by decide +kernel
theorem dX8_agree_125 : decode cX8_agree 125 = .ok (.goto 4, 3) := by decide +kernel
theorem dX8_agree_128 : decode cX8_agree 128 = .ok (.iconst 2, 1) := by decide +kernel
theorem dX8_agree_129 : decode cX8_agree 129 = .ok (.istore 6, 2) := by decide +kernel
theorem dX8_agree_131 : decode cX8_agree 131 = .ok (.aload_n 0, 1) := by decide +kernel
theorem dX8_agree_132 : decode cX8_agree 132 = .ok (.iconst 1, 1) := by decide +kernel
theorem dX8_agree_133 : decode cX8_agree 133 = .ok (.iload_n 3, 1) := by decide +kernel
theorem dX8_agree_134 : decode cX8_agree 134 = .ok (.invokevirtual 182, 3) := by decide +kernel
theorem dX8_agree_137 : decode cX8_agree 137 = .ok (.aload_n 0, 1) := by decide +kernel
theorem dX8_agree_138 : decode cX8_agree 138 = .ok (.iconst 1, 1) := by decide +kernel
theorem dX8_agree_139 : decode cX8_agree 139 = .ok (.iload 4, 2) := by decide +kernel
theorem dX8_agree_141 : decode cX8_agree 141 = .ok (.invokevirtual 182, 3) := by decide +kernel
theorem dX8_agree_144 : decode cX8_agree 144 = .ok (.if_icmp .ne 7, 3) := by decide +kernel
theorem dX8_agree_147 : decode cX8_agree 147 = .ok (.iconst 0, 1) := by decide +kernel
theorem dX8_agree_148 : decode cX8_agree 148 = .ok (.goto 4, 3) := by decide +kernel
theorem dX8_agree_151 : decode cX8_agree 151 = .ok (.iconst 1, 1) := by decide +kernel
theorem dX8_agree_152 : decode cX8_agree 152 = .ok (.istore 7, 2) := by decide +kernel
theorem dX8_agree_154 : decode cX8_agree 154 = .ok (.iload_n 2, 1) := by decide +kernel
theorem dX8_agree_155 : decode cX8_agree 155 = .ok (.iload 5, 2) := by decide +kernel
theorem dX8_agree_157 : decode cX8_agree 157 = .ok (.ifCond .eq 16, 3) := by decide +kernel
theorem dX8_agree_160 : decode cX8_agree 160 = .ok (.iload 6, 2) := by decide +kernel
theorem dX8_agree_162 : decode cX8_agree 162 = .ok (.iload 7, 2) := by decide +kernel
theorem dX8_agree_164 : decode cX8_agree 164 = .ok (.iadd, 1) := by decide +kernel
theorem dX8_agree_165 : decode cX8_agree 165 = .ok (.iload_n 1, 1) := by decide +kernel
theorem dX8_agree_166 : decode cX8_agree 166 = .ok (.if_icmp .ne 7, 3) := by decide +kernel
theorem dX8_agree_169 : decode cX8_agree 169 = .ok (.iconst 1, 1) := by decide +kernel
theorem dX8_agree_170 : decode cX8_agree 170 = .ok (.goto 4, 3) := by decide +kernel
theorem dX8_agree_173 : decode cX8_agree 173 = .ok (.iconst 0, 1) := by decide +kernel
theorem dX8_agree_174 : decode cX8_agree 174 = .ok (.iadd, 1) := by decide +kernel
theorem dX8_agree_175 : decode cX8_agree 175 = .ok (.istore_n 2, 1) := by decide +kernel
theorem dX8_agree_176 : decode cX8_agree 176 = .ok (.iinc 4 1, 3) := by decide +kernel
theorem dX8_agree_179 : decode cX8_agree 179 = .ok (.goto (-129), 3) := by decide +kernel
theorem dX8_agree_182 : decode cX8_agree 182 = .ok (.iinc 3 1, 3) := by decide +kernel
theorem dX8_agree_185 : decode cX8_agree 185 = .ok (.goto (-148), 3) := by decide +kernel
theorem dX8_agree_188 : decode cX8_agree 188 = .ok (.iload_n 2, 1) := by decide +kernel
theorem dX8_agree_189 : decode cX8_agree 189 = .ok (.ireturn, 1) := by decide +kernel
theorem dL_law_0 : decode cL_law 0 = .ok (.new 7, 3) := by decide +kernel
theorem dL_law_3 : decode cL_law 3 = .ok (.dup, 1) := by decide +kernel
theorem dL_law_4 : decode cL_law 4 = .ok (.invokespecial 9, 3) := by decide +kernel
theorem dL_law_7 : decode cL_law 7 = .ok (.astore_n 1, 1) := by decide +kernel
theorem dL_law_8 : decode cL_law 8 = .ok (.new 10, 3) := by decide +kernel
theorem dL_law_11 : decode cL_law 11 = .ok (.dup, 1) := by decide +kernel
theorem dL_law_12 : decode cL_law 12 = .ok (.invokespecial 12, 3) := by decide +kernel
theorem dL_law_15 : decode cL_law 15 = .ok (.astore_n 2, 1) := by decide +kernel
theorem dL_law_16 : decode cL_law 16 = .ok (.iconst 0, 1) := by decide +kernel
theorem dL_law_17 : decode cL_law 17 = .ok (.istore_n 3, 1) := by decide +kernel
theorem dL_law_18 : decode cL_law 18 = .ok (.iload_n 3, 1) := by decide +kernel
theorem dL_law_19 : decode cL_law 19 = .ok (.aload_n 0, 1) := by decide +kernel
theorem dL_law_20 : decode cL_law 20 = .ok (.arraylength, 1) := by decide +kernel
theorem dL_law_21 : decode cL_law 21 = .ok (.iconst 5, 1) := by decide +kernel
theorem dL_law_22 : decode cL_law 22 = .ok (.isub, 1) := by decide +kernel
theorem dL_law_23 : decode cL_law 23 = .ok (.if_icmp .gt 787, 3) := by decide +kernel
theorem dL_law_26 : decode cL_law 26 = .ok (.aload_n 0, 1) := by decide +kernel
theorem dL_law_27 : decode cL_law 27 = .ok (.iload_n 3, 1) := by decide +kernel
theorem dL_law_28 : decode cL_law 28 = .ok (.iaload, 1) := by decide +kernel
theorem dL_law_29 : decode cL_law 29 = .ok (.bipush 31, 2) := by decide +kernel
theorem dL_law_31 : decode cL_law 31 = .ok (.iand, 1) := by decide +kernel
theorem dL_law_32 : decode cL_law 32 = .ok (.tableswitch 772 0 18 #[92, 115, 168, 181, 204, 247, 290, 323, 366, 389, 442, 475, 509, 542, 575, 608, 661, 695, 749], 92) := by decide +kernel
theorem dL_law_124 : decode cL_law 124 = .ok (.aload_n 1, 1) := by decide +kernel
theorem dL_law_125 : decode cL_law 125 = .ok (.aload_n 0, 1) := by decide +kernel
theorem dL_law_126 : decode cL_law 126 = .ok (.iload_n 3, 1) := by decide +kernel
theorem dL_law_127 : decode cL_law 127 = .ok (.iconst 1, 1) := by decide +kernel
theorem dL_law_128 : decode cL_law 128 = .ok (.iadd, 1) := by decide +kernel
theorem dL_law_129 : decode cL_law 129 = .ok (.iaload, 1) := by decide +kernel
theorem dL_law_130 : decode cL_law 130 = .ok (.invokevirtual 13, 3) := by decide +kernel
theorem dL_law_133 : decode cL_law 133 = .ok (.aload_n 2, 1) := by decide +kernel
theorem dL_law_134 : decode cL_law 134 = .ok (.aload_n 0, 1) := by decide +kernel
theorem dL_law_135 : decode cL_law 135 = .ok (.iload_n 3, 1) := by decide +kernel
theorem dL_law_136 : decode cL_law 136 = .ok (.iconst 1, 1) := by decide +kernel
theorem dL_law_137 : decode cL_law 137 = .ok (.iadd, 1) := by decide +kernel
theorem dL_law_138 : decode cL_law 138 = .ok (.iaload, 1) := by decide +kernel
theorem dL_law_139 : decode cL_law 139 = .ok (.invokevirtual 17, 3) := by decide +kernel
theorem dL_law_142 : decode cL_law 142 = .ok (.if_icmp .eq 662, 3) := by decide +kernel
theorem dL_law_145 : decode cL_law 145 = .ok (.iconst 0, 1) := by decide +kernel
theorem dL_law_146 : decode cL_law 146 = .ok (.ireturn, 1) := by decide +kernel
theorem dL_law_147 : decode cL_law 147 = .ok (.aload_n 1, 1) := by decide +kernel
theorem dL_law_148 : decode cL_law 148 = .ok (.aload_n 0, 1) := by decide +kernel
theorem dL_law_149 : decode cL_law 149 = .ok (.iload_n 3, 1) := by decide +kernel
theorem dL_law_150 : decode cL_law 150 = .ok (.iconst 1, 1) := by decide +kernel
theorem dL_law_151 : decode cL_law 151 = .ok (.iadd, 1) := by decide +kernel
theorem dL_law_152 : decode cL_law 152 = .ok (.iaload, 1) := by decide +kernel
theorem dL_law_153 : decode cL_law 153 = .ok (.aload_n 0, 1) := by decide +kernel
theorem dL_law_154 : decode cL_law 154 = .ok (.iload_n 3, 1) := by decide +kernel
theorem dL_law_155 : decode cL_law 155 = .ok (.iconst 2, 1) := by decide +kernel
theorem dL_law_156 : decode cL_law 156 = .ok (.iadd, 1) := by decide +kernel
theorem dL_law_157 : decode cL_law 157 = .ok (.iaload, 1) := by decide +kernel
theorem dL_law_158 : decode cL_law 158 = .ok (.aload_n 0, 1) := by decide +kernel
theorem dL_law_159 : decode cL_law 159 = .ok (.iload_n 3, 1) := by decide +kernel
theorem dL_law_160 : decode cL_law 160 = .ok (.iconst 3, 1) := by decide +kernel
theorem dL_law_161 : decode cL_law 161 = .ok (.iadd, 1) := by decide +kernel
theorem dL_law_162 : decode cL_law 162 = .ok (.iaload, 1) := by decide +kernel
theorem dL_law_163 : decode cL_law 163 = .ok (.aload_n 0, 1) := by decide +kernel
theorem dL_law_164 : decode cL_law 164 = .ok (.iload_n 3, 1) := by decide +kernel
theorem dL_law_165 : decode cL_law 165 = .ok (.iconst 4, 1) := by decide +kernel
theorem dL_law_166 : decode cL_law 166 = .ok (.iadd, 1) := by decide +kernel
theorem dL_law_167 : decode cL_law 167 = .ok (.iaload, 1) := by decide +kernel
theorem dL_law_168 : decode cL_law 168 = .ok (.invokevirtual 18, 3) := by decide +kernel
theorem dL_law_171 : decode cL_law 171 = .ok (.aload_n 2, 1) := by decide +kernel
theorem dL_law_172 : decode cL_law 172 = .ok (.aload_n 0, 1) := by decide +kernel
theorem dL_law_173 : decode cL_law 173 = .ok (.iload_n 3, 1) := by decide +kernel
theorem dL_law_174 : decode cL_law 174 = .ok (.iconst 1, 1) := by decide +kernel
theorem dL_law_175 : decode cL_law 175 = .ok (.iadd, 1) := by decide +kernel
theorem dL_law_176 : decode cL_law 176 = .ok (.iaload, 1) := by decide +kernel
theorem dL_law_177 : decode cL_law 177 = .ok (.aload_n 0, 1) := by decide +kernel
theorem dL_law_178 : decode cL_law 178 = .ok (.iload_n 3, 1) := by decide +kernel
theorem dL_law_179 : decode cL_law 179 = .ok (.iconst 2, 1) := by decide +kernel
theorem dL_law_180 : decode cL_law 180 = .ok (.iadd, 1) := by decide +kernel
theorem dL_law_181 : decode cL_law 181 = .ok (.iaload, 1) := by decide +kernel
theorem dL_law_182 : decode cL_law 182 = .ok (.aload_n 0, 1) := by decide +kernel
theorem dL_law_183 : decode cL_law 183 = .ok (.iload_n 3, 1) := by decide +kernel
theorem dL_law_184 : decode cL_law 184 = .ok (.iconst 3, 1) := by decide +kernel
theorem dL_law_185 : decode cL_law 185 = .ok (.iadd, 1) := by decide +kernel
theorem dL_law_186 : decode cL_law 186 = .ok (.iaload, 1) := by decide +kernel
theorem dL_law_187 : decode cL_law 187 = .ok (.aload_n 0, 1) := by decide +kernel
theorem dL_law_188 : decode cL_law 188 = .ok (.iload_n 3, 1) := by decide +kernel
theorem dL_law_189 : decode cL_law 189 = .ok (.iconst 4, 1) := by decide +kernel
theorem dL_law_190 : decode cL_law 190 = .ok (.iadd, 1) := by decide +kernel
theorem dL_law_191 : decode cL_law 191 = .ok (.iaload, 1) := by decide +kernel
theorem dL_law_192 : decode cL_law 192 = .ok (.invokevirtual 22, 3) := by decide +kernel
theorem dL_law_195 : decode cL_law 195 = .ok (.if_icmp .eq 609, 3) := by decide +kernel
theorem dL_law_198 : decode cL_law 198 = .ok (.iconst 0, 1) := by decide +kernel
theorem dL_law_199 : decode cL_law 199 = .ok (.ireturn, 1) := by decide +kernel
theorem dL_law_200 : decode cL_law 200 = .ok (.aload_n 1, 1) := by decide +kernel
theorem dL_law_201 : decode cL_law 201 = .ok (.invokevirtual 23, 3) := by decide +kernel
theorem dL_law_204 : decode cL_law 204 = .ok (.aload_n 2, 1) := by decide +kernel
theorem dL_law_205 : decode cL_law 205 = .ok (.invokevirtual 27, 3) := by decide +kernel
theorem dL_law_208 : decode cL_law 208 = .ok (.if_icmp .eq 596, 3) := by decide +kernel
theorem dL_law_211 : decode cL_law 211 = .ok (.iconst 0, 1) := by decide +kernel
theorem dL_law_212 : decode cL_law 212 = .ok (.ireturn, 1) := by decide +kernel
theorem dL_law_213 : decode cL_law 213 = .ok (.aload_n 1, 1) := by decide +kernel
theorem dL_law_214 : decode cL_law 214 = .ok (.aload_n 0, 1) := by decide +kernel
theorem dL_law_215 : decode cL_law 215 = .ok (.iload_n 3, 1) := by decide +kernel
theorem dL_law_216 : decode cL_law 216 = .ok (.iconst 1, 1) := by decide +kernel
theorem dL_law_217 : decode cL_law 217 = .ok (.iadd, 1) := by decide +kernel
theorem dL_law_218 : decode cL_law 218 = .ok (.iaload, 1) := by decide +kernel
theorem dL_law_219 : decode cL_law 219 = .ok (.invokevirtual 28, 3) := by decide +kernel
theorem dL_law_222 : decode cL_law 222 = .ok (.aload_n 2, 1) := by decide +kernel
theorem dL_law_223 : decode cL_law 223 = .ok (.aload_n 0, 1) := by decide +kernel
theorem dL_law_224 : decode cL_law 224 = .ok (.iload_n 3, 1) := by decide +kernel
theorem dL_law_225 : decode cL_law 225 = .ok (.iconst 1, 1) := by decide +kernel
theorem dL_law_226 : decode cL_law 226 = .ok (.iadd, 1) := by decide +kernel
theorem dL_law_227 : decode cL_law 227 = .ok (.iaload, 1) := by decide +kernel
theorem dL_law_228 : decode cL_law 228 = .ok (.invokevirtual 31, 3) := by decide +kernel
theorem dL_law_231 : decode cL_law 231 = .ok (.if_icmp .eq 573, 3) := by decide +kernel
theorem dL_law_234 : decode cL_law 234 = .ok (.iconst 0, 1) := by decide +kernel
theorem dL_law_235 : decode cL_law 235 = .ok (.ireturn, 1) := by decide +kernel
theorem dL_law_236 : decode cL_law 236 = .ok (.aload_n 1, 1) := by decide +kernel
theorem dL_law_237 : decode cL_law 237 = .ok (.aload_n 0, 1) := by decide +kernel
theorem dL_law_238 : decode cL_law 238 = .ok (.iload_n 3, 1) := by decide +kernel
theorem dL_law_239 : decode cL_law 239 = .ok (.iconst 1, 1) := by decide +kernel
theorem dL_law_240 : decode cL_law 240 = .ok (.iadd, 1) := by decide +kernel
theorem dL_law_241 : decode cL_law 241 = .ok (.iaload, 1) := by decide +kernel
theorem dL_law_242 : decode cL_law 242 = .ok (.aload_n 0, 1) := by decide +kernel
theorem dL_law_243 : decode cL_law 243 = .ok (.iload_n 3, 1) := by decide +kernel
theorem dL_law_244 : decode cL_law 244 = .ok (.iconst 2, 1) := by decide +kernel
theorem dL_law_245 : decode cL_law 245 = .ok (.iadd, 1) := by decide +kernel
theorem dL_law_246 : decode cL_law 246 = .ok (.iaload, 1) := by decide +kernel
theorem dL_law_247 : decode cL_law 247 = .ok (.aload_n 0, 1) := by decide +kernel
theorem dL_law_248 : decode cL_law 248 = .ok (.iload_n 3, 1) := by decide +kernel
theorem dL_law_249 : decode cL_law 249 = .ok (.iconst 3, 1) := by decide +kernel
theorem dL_law_250 : decode cL_law 250 = .ok (.iadd, 1) := by decide +kernel
theorem dL_law_251 : decode cL_law 251 = .ok (.iaload, 1) := by decide +kernel
theorem dL_law_252 : decode cL_law 252 = .ok (.invokevirtual 32, 3) := by decide +kernel
theorem dL_law_255 : decode cL_law 255 = .ok (.aload_n 2, 1) := by decide +kernel
theorem dL_law_256 : decode cL_law 256 = .ok (.aload_n 0, 1) := by decide +kernel
theorem dL_law_257 : decode cL_law 257 = .ok (.iload_n 3, 1) := by decide +kernel
theorem dL_law_258 : decode cL_law 258 = .ok (.iconst 1, 1) := by decide +kernel
theorem dL_law_259 : decode cL_law 259 = .ok (.iadd, 1) := by decide +kernel
theorem dL_law_260 : decode cL_law 260 = .ok (.iaload, 1) := by decide +kernel
theorem dL_law_261 : decode cL_law 261 = .ok (.aload_n 0, 1) := by decide +kernel
theorem dL_law_262 : decode cL_law 262 = .ok (.iload_n 3, 1) := by decide +kernel
theorem dL_law_263 : decode cL_law 263 = .ok (.iconst 2, 1) := by decide +kernel
theorem dL_law_264 : decode cL_law 264 = .ok (.iadd, 1) := by decide +kernel
theorem dL_law_265 : decode cL_law 265 = .ok (.iaload, 1) := by decide +kernel
theorem dL_law_266 : decode cL_law 266 = .ok (.aload_n 0, 1) := by decide +kernel
theorem dL_law_267 : decode cL_law 267 = .ok (.iload_n 3, 1) := by decide +kernel
theorem dL_law_268 : decode cL_law 268 = .ok (.iconst 3, 1) := by decide +kernel
theorem dL_law_269 : decode cL_law 269 = .ok (.iadd, 1) := by decide +kernel
theorem dL_law_270 : decode cL_law 270 = .ok (.iaload, 1) := by decide +kernel
theorem dL_law_271 : decode cL_law 271 = .ok (.invokevirtual 36, 3) := by decide +kernel
theorem dL_law_274 : decode cL_law 274 = .ok (.if_icmp .eq 530, 3) := by decide +kernel
theorem dL_law_277 : decode cL_law 277 = .ok (.iconst 0, 1) := by decide +kernel
theorem dL_law_278 : decode cL_law 278 = .ok (.ireturn, 1) := by decide +kernel
theorem dL_law_279 : decode cL_law 279 = .ok (.aload_n 1, 1) := by decide +kernel
theorem dL_law_280 : decode cL_law 280 = .ok (.aload_n 0, 1) := by decide +kernel
theorem dL_law_281 : decode cL_law 281 = .ok (.iload_n 3, 1) := by decide +kernel
theorem dL_law_282 : decode cL_law 282 = .ok (.iconst 1, 1) := by decide +kernel
theorem dL_law_283 : decode cL_law 283 = .ok (.iadd, 1) := by decide +kernel
theorem dL_law_284 : decode cL_law 284 = .ok (.iaload, 1) := by decide +kernel
theorem dL_law_285 : decode cL_law 285 = .ok (.aload_n 0, 1) := by decide +kernel
theorem dL_law_286 : decode cL_law 286 = .ok (.iload_n 3, 1) := by decide +kernel
theorem dL_law_287 : decode cL_law 287 = .ok (.iconst 2, 1) := by decide +kernel
theorem dL_law_288 : decode cL_law 288 = .ok (.iadd, 1) := by decide +kernel
theorem dL_law_289 : decode cL_law 289 = .ok (.iaload, 1) := by decide +kernel
theorem dL_law_290 : decode cL_law 290 = .ok (.aload_n 0, 1) := by decide +kernel
theorem dL_law_291 : decode cL_law 291 = .ok (.iload_n 3, 1) := by decide +kernel
theorem dL_law_292 : decode cL_law 292 = .ok (.iconst 3, 1) := by decide +kernel
theorem dL_law_293 : decode cL_law 293 = .ok (.iadd, 1) := by decide +kernel
theorem dL_law_294 : decode cL_law 294 = .ok (.iaload, 1) := by decide +kernel
theorem dL_law_295 : decode cL_law 295 = .ok (.invokevirtual 37, 3) := by decide +kernel
theorem dL_law_298 : decode cL_law 298 = .ok (.aload_n 2, 1) := by decide +kernel
theorem dL_law_299 : decode cL_law 299 = .ok (.aload_n 0, 1) := by decide +kernel
theorem dL_law_300 : decode cL_law 300 = .ok (.iload_n 3, 1) := by decide +kernel
theorem dL_law_301 : decode cL_law 301 = .ok (.iconst 1, 1) := by decide +kernel
theorem dL_law_302 : decode cL_law 302 = .ok (.iadd, 1) := by decide +kernel
theorem dL_law_303 : decode cL_law 303 = .ok (.iaload, 1) := by decide +kernel
theorem dL_law_304 : decode cL_law 304 = .ok (.aload_n 0, 1) := by decide +kernel
theorem dL_law_305 : decode cL_law 305 = .ok (.iload_n 3, 1) := by decide +kernel
theorem dL_law_306 : decode cL_law 306 = .ok (.iconst 2, 1) := by decide +kernel
theorem dL_law_307 : decode cL_law 307 = .ok (.iadd, 1) := by decide +kernel
theorem dL_law_308 : decode cL_law 308 = .ok (.iaload, 1) := by decide +kernel
theorem dL_law_309 : decode cL_law 309 = .ok (.aload_n 0, 1) := by decide +kernel
theorem dL_law_310 : decode cL_law 310 = .ok (.iload_n 3, 1) := by decide +kernel
theorem dL_law_311 : decode cL_law 311 = .ok (.iconst 3, 1) := by decide +kernel
theorem dL_law_312 : decode cL_law 312 = .ok (.iadd, 1) := by decide +kernel
theorem dL_law_313 : decode cL_law 313 = .ok (.iaload, 1) := by decide +kernel
theorem dL_law_314 : decode cL_law 314 = .ok (.invokevirtual 40, 3) := by decide +kernel
theorem dL_law_317 : decode cL_law 317 = .ok (.if_icmp .eq 487, 3) := by decide +kernel
theorem dL_law_320 : decode cL_law 320 = .ok (.iconst 0, 1) := by decide +kernel
theorem dL_law_321 : decode cL_law 321 = .ok (.ireturn, 1) := by decide +kernel
theorem dL_law_322 : decode cL_law 322 = .ok (.aload_n 1, 1) := by decide +kernel
theorem dL_law_323 : decode cL_law 323 = .ok (.aload_n 0, 1) := by decide +kernel
theorem dL_law_324 : decode cL_law 324 = .ok (.iload_n 3, 1) := by decide +kernel
theorem dL_law_325 : decode cL_law 325 = .ok (.iconst 1, 1) := by decide +kernel
theorem dL_law_326 : decode cL_law 326 = .ok (.iadd, 1) := by decide +kernel
theorem dL_law_327 : decode cL_law 327 = .ok (.iaload, 1) := by decide +kernel
theorem dL_law_328 : decode cL_law 328 = .ok (.aload_n 0, 1) := by decide +kernel
theorem dL_law_329 : decode cL_law 329 = .ok (.iload_n 3, 1) := by decide +kernel
theorem dL_law_330 : decode cL_law 330 = .ok (.iconst 2, 1) := by decide +kernel
theorem dL_law_331 : decode cL_law 331 = .ok (.iadd, 1) := by decide +kernel
theorem dL_law_332 : decode cL_law 332 = .ok (.iaload, 1) := by decide +kernel
theorem dL_law_333 : decode cL_law 333 = .ok (.invokevirtual 41, 3) := by decide +kernel
theorem dL_law_336 : decode cL_law 336 = .ok (.aload_n 2, 1) := by decide +kernel
theorem dL_law_337 : decode cL_law 337 = .ok (.aload_n 0, 1) := by decide +kernel
theorem dL_law_338 : decode cL_law 338 = .ok (.iload_n 3, 1) := by decide +kernel
theorem dL_law_339 : decode cL_law 339 = .ok (.iconst 1, 1) := by decide +kernel
theorem dL_law_340 : decode cL_law 340 = .ok (.iadd, 1) := by decide +kernel
theorem dL_law_341 : decode cL_law 341 = .ok (.iaload, 1) := by decide +kernel
theorem dL_law_342 : decode cL_law 342 = .ok (.aload_n 0, 1) := by decide +kernel
theorem dL_law_343 : decode cL_law 343 = .ok (.iload_n 3, 1) := by decide +kernel
theorem dL_law_344 : decode cL_law 344 = .ok (.iconst 2, 1) := by decide +kernel
theorem dL_law_345 : decode cL_law 345 = .ok (.iadd, 1) := by decide +kernel
theorem dL_law_346 : decode cL_law 346 = .ok (.iaload, 1) := by decide +kernel
theorem dL_law_347 : decode cL_law 347 = .ok (.invokevirtual 45, 3) := by decide +kernel
theorem dL_law_350 : decode cL_law 350 = .ok (.if_icmp .eq 454, 3) := by decide +kernel
theorem dL_law_353 : decode cL_law 353 = .ok (.iconst 0, 1) := by decide +kernel
theorem dL_law_354 : decode cL_law 354 = .ok (.ireturn, 1) := by decide +kernel
theorem dL_law_355 : decode cL_law 355 = .ok (.aload_n 1, 1) := by decide +kernel
theorem dL_law_356 : decode cL_law 356 = .ok (.aload_n 0, 1) := by decide +kernel
theorem dL_law_357 : decode cL_law 357 = .ok (.iload_n 3, 1) := by decide +kernel
theorem dL_law_358 : decode cL_law 358 = .ok (.iconst 1, 1) := by decide +kernel
theorem dL_law_359 : decode cL_law 359 = .ok (.iadd, 1) := by decide +kernel
theorem dL_law_360 : decode cL_law 360 = .ok (.iaload, 1) := by decide +kernel
theorem dL_law_361 : decode cL_law 361 = .ok (.aload_n 0, 1) := by decide +kernel
theorem dL_law_362 : decode cL_law 362 = .ok (.iload_n 3, 1) := by decide +kernel
theorem dL_law_363 : decode cL_law 363 = .ok (.iconst 2, 1) := by decide +kernel
theorem dL_law_364 : decode cL_law 364 = .ok (.iadd, 1) := by decide +kernel
theorem dL_law_365 : decode cL_law 365 = .ok (.iaload, 1) := by decide +kernel
theorem dL_law_366 : decode cL_law 366 = .ok (.aload_n 0, 1) := by decide +kernel
theorem dL_law_367 : decode cL_law 367 = .ok (.iload_n 3, 1) := by decide +kernel
theorem dL_law_368 : decode cL_law 368 = .ok (.iconst 3, 1) := by decide +kernel
theorem dL_law_369 : decode cL_law 369 = .ok (.iadd, 1) := by decide +kernel
theorem dL_law_370 : decode cL_law 370 = .ok (.iaload, 1) := by decide +kernel
theorem dL_law_371 : decode cL_law 371 = .ok (.invokevirtual 46, 3) := by decide +kernel
theorem dL_law_374 : decode cL_law 374 = .ok (.aload_n 2, 1) := by decide +kernel
theorem dL_law_375 : decode cL_law 375 = .ok (.aload_n 0, 1) := by decide +kernel
theorem dL_law_376 : decode cL_law 376 = .ok (.iload_n 3, 1) := by decide +kernel
theorem dL_law_377 : decode cL_law 377 = .ok (.iconst 1, 1) := by decide +kernel
theorem dL_law_378 : decode cL_law 378 = .ok (.iadd, 1) := by decide +kernel
theorem dL_law_379 : decode cL_law 379 = .ok (.iaload, 1) := by decide +kernel
theorem dL_law_380 : decode cL_law 380 = .ok (.aload_n 0, 1) := by decide +kernel
theorem dL_law_381 : decode cL_law 381 = .ok (.iload_n 3, 1) := by decide +kernel
theorem dL_law_382 : decode cL_law 382 = .ok (.iconst 2, 1) := by decide +kernel
theorem dL_law_383 : decode cL_law 383 = .ok (.iadd, 1) := by decide +kernel
theorem dL_law_384 : decode cL_law 384 = .ok (.iaload, 1) := by decide +kernel
theorem dL_law_385 : decode cL_law 385 = .ok (.aload_n 0, 1) := by decide +kernel
theorem dL_law_386 : decode cL_law 386 = .ok (.iload_n 3, 1) := by decide +kernel
theorem dL_law_387 : decode cL_law 387 = .ok (.iconst 3, 1) := by decide +kernel
theorem dL_law_388 : decode cL_law 388 = .ok (.iadd, 1) := by decide +kernel
theorem dL_law_389 : decode cL_law 389 = .ok (.iaload, 1) := by decide +kernel
theorem dL_law_390 : decode cL_law 390 = .ok (.invokevirtual 49, 3) := by decide +kernel
theorem dL_law_393 : decode cL_law 393 = .ok (.if_icmp .eq 411, 3) := by decide +kernel
theorem dL_law_396 : decode cL_law 396 = .ok (.iconst 0, 1) := by decide +kernel
theorem dL_law_397 : decode cL_law 397 = .ok (.ireturn, 1) := by decide +kernel
theorem dL_law_398 : decode cL_law 398 = .ok (.aload_n 1, 1) := by decide +kernel
theorem dL_law_399 : decode cL_law 399 = .ok (.aload_n 0, 1) := by decide +kernel
theorem dL_law_400 : decode cL_law 400 = .ok (.iload_n 3, 1) := by decide +kernel
theorem dL_law_401 : decode cL_law 401 = .ok (.iconst 1, 1) := by decide +kernel
theorem dL_law_402 : decode cL_law 402 = .ok (.iadd, 1) := by decide +kernel
theorem dL_law_403 : decode cL_law 403 = .ok (.iaload, 1) := by decide +kernel
theorem dL_law_404 : decode cL_law 404 = .ok (.invokevirtual 50, 3) := by decide +kernel
theorem dL_law_407 : decode cL_law 407 = .ok (.aload_n 2, 1) := by decide +kernel
theorem dL_law_408 : decode cL_law 408 = .ok (.aload_n 0, 1) := by decide +kernel
theorem dL_law_409 : decode cL_law 409 = .ok (.iload_n 3, 1) := by decide +kernel
theorem dL_law_410 : decode cL_law 410 = .ok (.iconst 1, 1) := by decide +kernel
theorem dL_law_411 : decode cL_law 411 = .ok (.iadd, 1) := by decide +kernel
theorem dL_law_412 : decode cL_law 412 = .ok (.iaload, 1) := by decide +kernel
theorem dL_law_413 : decode cL_law 413 = .ok (.invokevirtual 53, 3) := by decide +kernel
theorem dL_law_416 : decode cL_law 416 = .ok (.if_icmp .eq 388, 3) := by decide +kernel
theorem dL_law_419 : decode cL_law 419 = .ok (.iconst 0, 1) := by decide +kernel
theorem dL_law_420 : decode cL_law 420 = .ok (.ireturn, 1) := by decide +kernel
theorem dL_law_421 : decode cL_law 421 = .ok (.aload_n 1, 1) := by decide +kernel
theorem dL_law_422 : decode cL_law 422 = .ok (.aload_n 0, 1) := by decide +kernel
theorem dL_law_423 : decode cL_law 423 = .ok (.iload_n 3, 1) := by decide +kernel
theorem dL_law_424 : decode cL_law 424 = .ok (.iconst 1, 1) := by decide +kernel
theorem dL_law_425 : decode cL_law 425 = .ok (.iadd, 1) := by decide +kernel
theorem dL_law_426 : decode cL_law 426 = .ok (.iaload, 1) := by decide +kernel
theorem dL_law_427 : decode cL_law 427 = .ok (.aload_n 0, 1) := by decide +kernel
theorem dL_law_428 : decode cL_law 428 = .ok (.iload_n 3, 1) := by decide +kernel
theorem dL_law_429 : decode cL_law 429 = .ok (.iconst 2, 1) := by decide +kernel
theorem dL_law_430 : decode cL_law 430 = .ok (.iadd, 1) := by decide +kernel
theorem dL_law_431 : decode cL_law 431 = .ok (.iaload, 1) := by decide +kernel
theorem dL_law_432 : decode cL_law 432 = .ok (.aload_n 0, 1) := by decide +kernel
theorem dL_law_433 : decode cL_law 433 = .ok (.iload_n 3, 1) := by decide +kernel
theorem dL_law_434 : decode cL_law 434 = .ok (.iconst 3, 1) := by decide +kernel
theorem dL_law_435 : decode cL_law 435 = .ok (.iadd, 1) := by decide +kernel
theorem dL_law_436 : decode cL_law 436 = .ok (.iaload, 1) := by decide +kernel
theorem dL_law_437 : decode cL_law 437 = .ok (.aload_n 0, 1) := by decide +kernel
theorem dL_law_438 : decode cL_law 438 = .ok (.iload_n 3, 1) := by decide +kernel
theorem dL_law_439 : decode cL_law 439 = .ok (.iconst 4, 1) := by decide +kernel
theorem dL_law_440 : decode cL_law 440 = .ok (.iadd, 1) := by decide +kernel
theorem dL_law_441 : decode cL_law 441 = .ok (.iaload, 1) := by decide +kernel
theorem dL_law_442 : decode cL_law 442 = .ok (.invokevirtual 54, 3) := by decide +kernel
theorem dL_law_445 : decode cL_law 445 = .ok (.aload_n 2, 1) := by decide +kernel
theorem dL_law_446 : decode cL_law 446 = .ok (.aload_n 0, 1) := by decide +kernel
theorem dL_law_447 : decode cL_law 447 = .ok (.iload_n 3, 1) := by decide +kernel
theorem dL_law_448 : decode cL_law 448 = .ok (.iconst 1, 1) := by decide +kernel
theorem dL_law_449 : decode cL_law 449 = .ok (.iadd, 1) := by decide +kernel
theorem dL_law_450 : decode cL_law 450 = .ok (.iaload, 1) := by decide +kernel
theorem dL_law_451 : decode cL_law 451 = .ok (.aload_n 0, 1) := by decide +kernel
theorem dL_law_452 : decode cL_law 452 = .ok (.iload_n 3, 1) := by decide +kernel
theorem dL_law_453 : decode cL_law 453 = .ok (.iconst 2, 1) := by decide +kernel
theorem dL_law_454 : decode cL_law 454 = .ok (.iadd, 1) := by decide +kernel
theorem dL_law_455 : decode cL_law 455 = .ok (.iaload, 1) := by decide +kernel
theorem dL_law_456 : decode cL_law 456 = .ok (.aload_n 0, 1) := by decide +kernel
theorem dL_law_457 : decode cL_law 457 = .ok (.iload_n 3, 1) := by decide +kernel
theorem dL_law_458 : decode cL_law 458 = .ok (.iconst 3, 1) := by decide +kernel
theorem dL_law_459 : decode cL_law 459 = .ok (.iadd, 1) := by decide +kernel
theorem dL_law_460 : decode cL_law 460 = .ok (.iaload, 1) := by decide +kernel
theorem dL_law_461 : decode cL_law 461 = .ok (.aload_n 0, 1) := by decide +kernel
theorem dL_law_462 : decode cL_law 462 = .ok (.iload_n 3, 1) := by decide +kernel
theorem dL_law_463 : decode cL_law 463 = .ok (.iconst 4, 1) := by decide +kernel
theorem dL_law_464 : decode cL_law 464 = .ok (.iadd, 1) := by decide +kernel
theorem dL_law_465 : decode cL_law 465 = .ok (.iaload, 1) := by decide +kernel
theorem dL_law_466 : decode cL_law 466 = .ok (.invokevirtual 57, 3) := by decide +kernel
theorem dL_law_469 : decode cL_law 469 = .ok (.if_icmp .eq 335, 3) := by decide +kernel
theorem dL_law_472 : decode cL_law 472 = .ok (.iconst 0, 1) := by decide +kernel
theorem dL_law_473 : decode cL_law 473 = .ok (.ireturn, 1) := by decide +kernel
theorem dL_law_474 : decode cL_law 474 = .ok (.aload_n 1, 1) := by decide +kernel
theorem dL_law_475 : decode cL_law 475 = .ok (.aload_n 0, 1) := by decide +kernel
theorem dL_law_476 : decode cL_law 476 = .ok (.iload_n 3, 1) := by decide +kernel
theorem dL_law_477 : decode cL_law 477 = .ok (.iconst 1, 1) := by decide +kernel
theorem dL_law_478 : decode cL_law 478 = .ok (.iadd, 1) := by decide +kernel
theorem dL_law_479 : decode cL_law 479 = .ok (.iaload, 1) := by decide +kernel
theorem dL_law_480 : decode cL_law 480 = .ok (.aload_n 0, 1) := by decide +kernel
theorem dL_law_481 : decode cL_law 481 = .ok (.iload_n 3, 1) := by decide +kernel
theorem dL_law_482 : decode cL_law 482 = .ok (.iconst 2, 1) := by decide +kernel
theorem dL_law_483 : decode cL_law 483 = .ok (.iadd, 1) := by decide +kernel
theorem dL_law_484 : decode cL_law 484 = .ok (.iaload, 1) := by decide +kernel
theorem dL_law_485 : decode cL_law 485 = .ok (.invokevirtual 58, 3) := by decide +kernel
theorem dL_law_488 : decode cL_law 488 = .ok (.aload_n 2, 1) := by decide +kernel
theorem dL_law_489 : decode cL_law 489 = .ok (.aload_n 0, 1) := by decide +kernel
theorem dL_law_490 : decode cL_law 490 = .ok (.iload_n 3, 1) := by decide +kernel
theorem dL_law_491 : decode cL_law 491 = .ok (.iconst 1, 1) := by decide +kernel
theorem dL_law_492 : decode cL_law 492 = .ok (.iadd, 1) := by decide +kernel
theorem dL_law_493 : decode cL_law 493 = .ok (.iaload, 1) := by decide +kernel
theorem dL_law_494 : decode cL_law 494 = .ok (.aload_n 0, 1) := by decide +kernel
theorem dL_law_495 : decode cL_law 495 = .ok (.iload_n 3, 1) := by decide +kernel
theorem dL_law_496 : decode cL_law 496 = .ok (.iconst 2, 1) := by decide +kernel
theorem dL_law_497 : decode cL_law 497 = .ok (.iadd, 1) := by decide +kernel
theorem dL_law_498 : decode cL_law 498 = .ok (.iaload, 1) := by decide +kernel
theorem dL_law_499 : decode cL_law 499 = .ok (.invokevirtual 61, 3) := by decide +kernel
theorem dL_law_502 : decode cL_law 502 = .ok (.if_icmp .eq 302, 3) := by decide +kernel
theorem dL_law_505 : decode cL_law 505 = .ok (.iconst 0, 1) := by decide +kernel
theorem dL_law_506 : decode cL_law 506 = .ok (.ireturn, 1) := by decide +kernel
theorem dL_law_507 : decode cL_law 507 = .ok (.aload_n 1, 1) := by decide +kernel
theorem dL_law_508 : decode cL_law 508 = .ok (.aload_n 0, 1) := by decide +kernel
theorem dL_law_509 : decode cL_law 509 = .ok (.iload_n 3, 1) := by decide +kernel
theorem dL_law_510 : decode cL_law 510 = .ok (.iconst 1, 1) := by decide +kernel
theorem dL_law_511 : decode cL_law 511 = .ok (.iadd, 1) := by decide +kernel
theorem dL_law_512 : decode cL_law 512 = .ok (.iaload, 1) := by decide +kernel
theorem dL_law_513 : decode cL_law 513 = .ok (.aload_n 0, 1) := by decide +kernel
theorem dL_law_514 : decode cL_law 514 = .ok (.iload_n 3, 1) := by decide +kernel
theorem dL_law_515 : decode cL_law 515 = .ok (.iconst 2, 1) := by decide +kernel
theorem dL_law_516 : decode cL_law 516 = .ok (.iadd, 1) := by decide +kernel
theorem dL_law_517 : decode cL_law 517 = .ok (.iaload, 1) := by decide +kernel
theorem dL_law_518 : decode cL_law 518 = .ok (.invokevirtual 62, 3) := by decide +kernel
theorem dL_law_521 : decode cL_law 521 = .ok (.aload_n 2, 1) := by decide +kernel
theorem dL_law_522 : decode cL_law 522 = .ok (.aload_n 0, 1) := by decide +kernel
theorem dL_law_523 : decode cL_law 523 = .ok (.iload_n 3, 1) := by decide +kernel
theorem dL_law_524 : decode cL_law 524 = .ok (.iconst 1, 1) := by decide +kernel
theorem dL_law_525 : decode cL_law 525 = .ok (.iadd, 1) := by decide +kernel
theorem dL_law_526 : decode cL_law 526 = .ok (.iaload, 1) := by decide +kernel
theorem dL_law_527 : decode cL_law 527 = .ok (.aload_n 0, 1) := by decide +kernel
theorem dL_law_528 : decode cL_law 528 = .ok (.iload_n 3, 1) := by decide +kernel
theorem dL_law_529 : decode cL_law 529 = .ok (.iconst 2, 1) := by decide +kernel
theorem dL_law_530 : decode cL_law 530 = .ok (.iadd, 1) := by decide +kernel
theorem dL_law_531 : decode cL_law 531 = .ok (.iaload, 1) := by decide +kernel
theorem dL_law_532 : decode cL_law 532 = .ok (.invokevirtual 66, 3) := by decide +kernel
theorem dL_law_535 : decode cL_law 535 = .ok (.lcmp, 1) := by decide +kernel
theorem dL_law_536 : decode cL_law 536 = .ok (.ifCond .eq 268, 3) := by decide +kernel
theorem dL_law_539 : decode cL_law 539 = .ok (.iconst 0, 1) := by decide +kernel
theorem dL_law_540 : decode cL_law 540 = .ok (.ireturn, 1) := by decide +kernel
theorem dL_law_541 : decode cL_law 541 = .ok (.aload_n 1, 1) := by decide +kernel
theorem dL_law_542 : decode cL_law 542 = .ok (.aload_n 0, 1) := by decide +kernel
theorem dL_law_543 : decode cL_law 543 = .ok (.iload_n 3, 1) := by decide +kernel
theorem dL_law_544 : decode cL_law 544 = .ok (.iconst 1, 1) := by decide +kernel
theorem dL_law_545 : decode cL_law 545 = .ok (.iadd, 1) := by decide +kernel
theorem dL_law_546 : decode cL_law 546 = .ok (.iaload, 1) := by decide +kernel
theorem dL_law_547 : decode cL_law 547 = .ok (.aload_n 0, 1) := by decide +kernel
theorem dL_law_548 : decode cL_law 548 = .ok (.iload_n 3, 1) := by decide +kernel
theorem dL_law_549 : decode cL_law 549 = .ok (.iconst 2, 1) := by decide +kernel
theorem dL_law_550 : decode cL_law 550 = .ok (.iadd, 1) := by decide +kernel
theorem dL_law_551 : decode cL_law 551 = .ok (.iaload, 1) := by decide +kernel
theorem dL_law_552 : decode cL_law 552 = .ok (.invokevirtual 67, 3) := by decide +kernel
theorem dL_law_555 : decode cL_law 555 = .ok (.aload_n 2, 1) := by decide +kernel
theorem dL_law_556 : decode cL_law 556 = .ok (.aload_n 0, 1) := by decide +kernel
theorem dL_law_557 : decode cL_law 557 = .ok (.iload_n 3, 1) := by decide +kernel
theorem dL_law_558 : decode cL_law 558 = .ok (.iconst 1, 1) := by decide +kernel
theorem dL_law_559 : decode cL_law 559 = .ok (.iadd, 1) := by decide +kernel
theorem dL_law_560 : decode cL_law 560 = .ok (.iaload, 1) := by decide +kernel
theorem dL_law_561 : decode cL_law 561 = .ok (.aload_n 0, 1) := by decide +kernel
theorem dL_law_562 : decode cL_law 562 = .ok (.iload_n 3, 1) := by decide +kernel
theorem dL_law_563 : decode cL_law 563 = .ok (.iconst 2, 1) := by decide +kernel
theorem dL_law_564 : decode cL_law 564 = .ok (.iadd, 1) := by decide +kernel
theorem dL_law_565 : decode cL_law 565 = .ok (.iaload, 1) := by decide +kernel
theorem dL_law_566 : decode cL_law 566 = .ok (.invokevirtual 70, 3) := by decide +kernel
theorem dL_law_569 : decode cL_law 569 = .ok (.if_icmp .eq 235, 3) := by decide +kernel
theorem dL_law_572 : decode cL_law 572 = .ok (.iconst 0, 1) := by decide +kernel
theorem dL_law_573 : decode cL_law 573 = .ok (.ireturn, 1) := by decide +kernel
theorem dL_law_574 : decode cL_law 574 = .ok (.aload_n 1, 1) := by decide +kernel
theorem dL_law_575 : decode cL_law 575 = .ok (.aload_n 0, 1) := by decide +kernel
theorem dL_law_576 : decode cL_law 576 = .ok (.iload_n 3, 1) := by decide +kernel
theorem dL_law_577 : decode cL_law 577 = .ok (.iconst 1, 1) := by decide +kernel
theorem dL_law_578 : decode cL_law 578 = .ok (.iadd, 1) := by decide +kernel
theorem dL_law_579 : decode cL_law 579 = .ok (.iaload, 1) := by decide +kernel
theorem dL_law_580 : decode cL_law 580 = .ok (.aload_n 0, 1) := by decide +kernel
theorem dL_law_581 : decode cL_law 581 = .ok (.iload_n 3, 1) := by decide +kernel
theorem dL_law_582 : decode cL_law 582 = .ok (.iconst 2, 1) := by decide +kernel
theorem dL_law_583 : decode cL_law 583 = .ok (.iadd, 1) := by decide +kernel
theorem dL_law_584 : decode cL_law 584 = .ok (.iaload, 1) := by decide +kernel
theorem dL_law_585 : decode cL_law 585 = .ok (.invokevirtual 71, 3) := by decide +kernel
theorem dL_law_588 : decode cL_law 588 = .ok (.aload_n 2, 1) := by decide +kernel
theorem dL_law_589 : decode cL_law 589 = .ok (.aload_n 0, 1) := by decide +kernel
theorem dL_law_590 : decode cL_law 590 = .ok (.iload_n 3, 1) := by decide +kernel
theorem dL_law_591 : decode cL_law 591 = .ok (.iconst 1, 1) := by decide +kernel
theorem dL_law_592 : decode cL_law 592 = .ok (.iadd, 1) := by decide +kernel
theorem dL_law_593 : decode cL_law 593 = .ok (.iaload, 1) := by decide +kernel
theorem dL_law_594 : decode cL_law 594 = .ok (.aload_n 0, 1) := by decide +kernel
theorem dL_law_595 : decode cL_law 595 = .ok (.iload_n 3, 1) := by decide +kernel
theorem dL_law_596 : decode cL_law 596 = .ok (.iconst 2, 1) := by decide +kernel
theorem dL_law_597 : decode cL_law 597 = .ok (.iadd, 1) := by decide +kernel
theorem dL_law_598 : decode cL_law 598 = .ok (.iaload, 1) := by decide +kernel
theorem dL_law_599 : decode cL_law 599 = .ok (.invokevirtual 74, 3) := by decide +kernel
theorem dL_law_602 : decode cL_law 602 = .ok (.if_icmp .eq 202, 3) := by decide +kernel
theorem dL_law_605 : decode cL_law 605 = .ok (.iconst 0, 1) := by decide +kernel
theorem dL_law_606 : decode cL_law 606 = .ok (.ireturn, 1) := by decide +kernel
theorem dL_law_607 : decode cL_law 607 = .ok (.aload_n 1, 1) := by decide +kernel
theorem dL_law_608 : decode cL_law 608 = .ok (.aload_n 0, 1) := by decide +kernel
theorem dL_law_609 : decode cL_law 609 = .ok (.iload_n 3, 1) := by decide +kernel
theorem dL_law_610 : decode cL_law 610 = .ok (.iconst 1, 1) := by decide +kernel
theorem dL_law_611 : decode cL_law 611 = .ok (.iadd, 1) := by decide +kernel
theorem dL_law_612 : decode cL_law 612 = .ok (.iaload, 1) := by decide +kernel
theorem dL_law_613 : decode cL_law 613 = .ok (.aload_n 0, 1) := by decide +kernel
theorem dL_law_614 : decode cL_law 614 = .ok (.iload_n 3, 1) := by decide +kernel
theorem dL_law_615 : decode cL_law 615 = .ok (.iconst 2, 1) := by decide +kernel
theorem dL_law_616 : decode cL_law 616 = .ok (.iadd, 1) := by decide +kernel
theorem dL_law_617 : decode cL_law 617 = .ok (.iaload, 1) := by decide +kernel
theorem dL_law_618 : decode cL_law 618 = .ok (.invokevirtual 75, 3) := by decide +kernel
theorem dL_law_621 : decode cL_law 621 = .ok (.aload_n 2, 1) := by decide +kernel
theorem dL_law_622 : decode cL_law 622 = .ok (.aload_n 0, 1) := by decide +kernel
theorem dL_law_623 : decode cL_law 623 = .ok (.iload_n 3, 1) := by decide +kernel
theorem dL_law_624 : decode cL_law 624 = .ok (.iconst 1, 1) := by decide +kernel
theorem dL_law_625 : decode cL_law 625 = .ok (.iadd, 1) := by decide +kernel
theorem dL_law_626 : decode cL_law 626 = .ok (.iaload, 1) := by decide +kernel
theorem dL_law_627 : decode cL_law 627 = .ok (.aload_n 0, 1) := by decide +kernel
theorem dL_law_628 : decode cL_law 628 = .ok (.iload_n 3, 1) := by decide +kernel
theorem dL_law_629 : decode cL_law 629 = .ok (.iconst 2, 1) := by decide +kernel
theorem dL_law_630 : decode cL_law 630 = .ok (.iadd, 1) := by decide +kernel
theorem dL_law_631 : decode cL_law 631 = .ok (.iaload, 1) := by decide +kernel
theorem dL_law_632 : decode cL_law 632 = .ok (.invokevirtual 78, 3) := by decide +kernel
theorem dL_law_635 : decode cL_law 635 = .ok (.if_icmp .eq 169, 3) := by decide +kernel
theorem dL_law_638 : decode cL_law 638 = .ok (.iconst 0, 1) := by decide +kernel
theorem dL_law_639 : decode cL_law 639 = .ok (.ireturn, 1) := by decide +kernel
theorem dL_law_640 : decode cL_law 640 = .ok (.aload_n 1, 1) := by decide +kernel
theorem dL_law_641 : decode cL_law 641 = .ok (.aload_n 0, 1) := by decide +kernel
theorem dL_law_642 : decode cL_law 642 = .ok (.iload_n 3, 1) := by decide +kernel
theorem dL_law_643 : decode cL_law 643 = .ok (.iconst 1, 1) := by decide +kernel
theorem dL_law_644 : decode cL_law 644 = .ok (.iadd, 1) := by decide +kernel
theorem dL_law_645 : decode cL_law 645 = .ok (.iaload, 1) := by decide +kernel
theorem dL_law_646 : decode cL_law 646 = .ok (.aload_n 0, 1) := by decide +kernel
theorem dL_law_647 : decode cL_law 647 = .ok (.iload_n 3, 1) := by decide +kernel
theorem dL_law_648 : decode cL_law 648 = .ok (.iconst 2, 1) := by decide +kernel
theorem dL_law_649 : decode cL_law 649 = .ok (.iadd, 1) := by decide +kernel
theorem dL_law_650 : decode cL_law 650 = .ok (.iaload, 1) := by decide +kernel
theorem dL_law_651 : decode cL_law 651 = .ok (.aload_n 0, 1) := by decide +kernel
theorem dL_law_652 : decode cL_law 652 = .ok (.iload_n 3, 1) := by decide +kernel
theorem dL_law_653 : decode cL_law 653 = .ok (.iconst 3, 1) := by decide +kernel
theorem dL_law_654 : decode cL_law 654 = .ok (.iadd, 1) := by decide +kernel
theorem dL_law_655 : decode cL_law 655 = .ok (.iaload, 1) := by decide +kernel
theorem dL_law_656 : decode cL_law 656 = .ok (.aload_n 0, 1) := by decide +kernel
theorem dL_law_657 : decode cL_law 657 = .ok (.iload_n 3, 1) := by decide +kernel
theorem dL_law_658 : decode cL_law 658 = .ok (.iconst 4, 1) := by decide +kernel
theorem dL_law_659 : decode cL_law 659 = .ok (.iadd, 1) := by decide +kernel
theorem dL_law_660 : decode cL_law 660 = .ok (.iaload, 1) := by decide +kernel
theorem dL_law_661 : decode cL_law 661 = .ok (.invokevirtual 79, 3) := by decide +kernel
theorem dL_law_664 : decode cL_law 664 = .ok (.aload_n 2, 1) := by decide +kernel
theorem dL_law_665 : decode cL_law 665 = .ok (.aload_n 0, 1) := by decide +kernel
theorem dL_law_666 : decode cL_law 666 = .ok (.iload_n 3, 1) := by decide +kernel
theorem dL_law_667 : decode cL_law 667 = .ok (.iconst 1, 1) := by decide +kernel
theorem dL_law_668 : decode cL_law 668 = .ok (.iadd, 1) := by decide +kernel
theorem dL_law_669 : decode cL_law 669 = .ok (.iaload, 1) := by decide +kernel
theorem dL_law_670 : decode cL_law 670 = .ok (.aload_n 0, 1) := by decide +kernel
theorem dL_law_671 : decode cL_law 671 = .ok (.iload_n 3, 1) := by decide +kernel
theorem dL_law_672 : decode cL_law 672 = .ok (.iconst 2, 1) := by decide +kernel
theorem dL_law_673 : decode cL_law 673 = .ok (.iadd, 1) := by decide +kernel
theorem dL_law_674 : decode cL_law 674 = .ok (.iaload, 1) := by decide +kernel
theorem dL_law_675 : decode cL_law 675 = .ok (.aload_n 0, 1) := by decide +kernel
theorem dL_law_676 : decode cL_law 676 = .ok (.iload_n 3, 1) := by decide +kernel
theorem dL_law_677 : decode cL_law 677 = .ok (.iconst 3, 1) := by decide +kernel
theorem dL_law_678 : decode cL_law 678 = .ok (.iadd, 1) := by decide +kernel
theorem dL_law_679 : decode cL_law 679 = .ok (.iaload, 1) := by decide +kernel
theorem dL_law_680 : decode cL_law 680 = .ok (.aload_n 0, 1) := by decide +kernel
theorem dL_law_681 : decode cL_law 681 = .ok (.iload_n 3, 1) := by decide +kernel
theorem dL_law_682 : decode cL_law 682 = .ok (.iconst 4, 1) := by decide +kernel
theorem dL_law_683 : decode cL_law 683 = .ok (.iadd, 1) := by decide +kernel
theorem dL_law_684 : decode cL_law 684 = .ok (.iaload, 1) := by decide +kernel
theorem dL_law_685 : decode cL_law 685 = .ok (.invokevirtual 82, 3) := by decide +kernel
theorem dL_law_688 : decode cL_law 688 = .ok (.if_icmp .eq 116, 3) := by decide +kernel
theorem dL_law_691 : decode cL_law 691 = .ok (.iconst 0, 1) := by decide +kernel
theorem dL_law_692 : decode cL_law 692 = .ok (.ireturn, 1) := by decide +kernel
theorem dL_law_693 : decode cL_law 693 = .ok (.aload_n 1, 1) := by decide +kernel
theorem dL_law_694 : decode cL_law 694 = .ok (.aload_n 0, 1) := by decide +kernel
theorem dL_law_695 : decode cL_law 695 = .ok (.iload_n 3, 1) := by decide +kernel
theorem dL_law_696 : decode cL_law 696 = .ok (.iconst 1, 1) := by decide +kernel
theorem dL_law_697 : decode cL_law 697 = .ok (.iadd, 1) := by decide +kernel
theorem dL_law_698 : decode cL_law 698 = .ok (.iaload, 1) := by decide +kernel
theorem dL_law_699 : decode cL_law 699 = .ok (.aload_n 0, 1) := by decide +kernel
theorem dL_law_700 : decode cL_law 700 = .ok (.iload_n 3, 1) := by decide +kernel
theorem dL_law_701 : decode cL_law 701 = .ok (.iconst 2, 1) := by decide +kernel
theorem dL_law_702 : decode cL_law 702 = .ok (.iadd, 1) := by decide +kernel
theorem dL_law_703 : decode cL_law 703 = .ok (.iaload, 1) := by decide +kernel
theorem dL_law_704 : decode cL_law 704 = .ok (.invokevirtual 83, 3) := by decide +kernel
theorem dL_law_707 : decode cL_law 707 = .ok (.aload_n 2, 1) := by decide +kernel
theorem dL_law_708 : decode cL_law 708 = .ok (.aload_n 0, 1) := by decide +kernel
theorem dL_law_709 : decode cL_law 709 = .ok (.iload_n 3, 1) := by decide +kernel
theorem dL_law_710 : decode cL_law 710 = .ok (.iconst 1, 1) := by decide +kernel
theorem dL_law_711 : decode cL_law 711 = .ok (.iadd, 1) := by decide +kernel
theorem dL_law_712 : decode cL_law 712 = .ok (.iaload, 1) := by decide +kernel
theorem dL_law_713 : decode cL_law 713 = .ok (.aload_n 0, 1) := by decide +kernel
theorem dL_law_714 : decode cL_law 714 = .ok (.iload_n 3, 1) := by decide +kernel
theorem dL_law_715 : decode cL_law 715 = .ok (.iconst 2, 1) := by decide +kernel
theorem dL_law_716 : decode cL_law 716 = .ok (.iadd, 1) := by decide +kernel
theorem dL_law_717 : decode cL_law 717 = .ok (.iaload, 1) := by decide +kernel
theorem dL_law_718 : decode cL_law 718 = .ok (.invokevirtual 86, 3) := by decide +kernel
theorem dL_law_721 : decode cL_law 721 = .ok (.lcmp, 1) := by decide +kernel
theorem dL_law_722 : decode cL_law 722 = .ok (.ifCond .eq 82, 3) := by decide +kernel
theorem dL_law_725 : decode cL_law 725 = .ok (.iconst 0, 1) := by decide +kernel
theorem dL_law_726 : decode cL_law 726 = .ok (.ireturn, 1) := by decide +kernel
theorem dL_law_727 : decode cL_law 727 = .ok (.aload_n 1, 1) := by decide +kernel
theorem dL_law_728 : decode cL_law 728 = .ok (.aload_n 0, 1) := by decide +kernel
theorem dL_law_729 : decode cL_law 729 = .ok (.iload_n 3, 1) := by decide +kernel
theorem dL_law_730 : decode cL_law 730 = .ok (.iconst 1, 1) := by decide +kernel
theorem dL_law_731 : decode cL_law 731 = .ok (.iadd, 1) := by decide +kernel
theorem dL_law_732 : decode cL_law 732 = .ok (.iaload, 1) := by decide +kernel
theorem dL_law_733 : decode cL_law 733 = .ok (.aload_n 0, 1) := by decide +kernel
theorem dL_law_734 : decode cL_law 734 = .ok (.iload_n 3, 1) := by decide +kernel
theorem dL_law_735 : decode cL_law 735 = .ok (.iconst 2, 1) := by decide +kernel
theorem dL_law_736 : decode cL_law 736 = .ok (.iadd, 1) := by decide +kernel
theorem dL_law_737 : decode cL_law 737 = .ok (.iaload, 1) := by decide +kernel
theorem dL_law_738 : decode cL_law 738 = .ok (.aload_n 0, 1) := by decide +kernel
theorem dL_law_739 : decode cL_law 739 = .ok (.iload_n 3, 1) := by decide +kernel
theorem dL_law_740 : decode cL_law 740 = .ok (.iconst 3, 1) := by decide +kernel
theorem dL_law_741 : decode cL_law 741 = .ok (.iadd, 1) := by decide +kernel
theorem dL_law_742 : decode cL_law 742 = .ok (.iaload, 1) := by decide +kernel
theorem dL_law_743 : decode cL_law 743 = .ok (.aload_n 0, 1) := by decide +kernel
theorem dL_law_744 : decode cL_law 744 = .ok (.iload_n 3, 1) := by decide +kernel
theorem dL_law_745 : decode cL_law 745 = .ok (.iconst 4, 1) := by decide +kernel
theorem dL_law_746 : decode cL_law 746 = .ok (.iadd, 1) := by decide +kernel
theorem dL_law_747 : decode cL_law 747 = .ok (.iaload, 1) := by decide +kernel
theorem dL_law_748 : decode cL_law 748 = .ok (.invokevirtual 87, 3) := by decide +kernel
theorem dL_law_751 : decode cL_law 751 = .ok (.aload_n 2, 1) := by decide +kernel
theorem dL_law_752 : decode cL_law 752 = .ok (.aload_n 0, 1) := by decide +kernel
theorem dL_law_753 : decode cL_law 753 = .ok (.iload_n 3, 1) := by decide +kernel
theorem dL_law_754 : decode cL_law 754 = .ok (.iconst 1, 1) := by decide +kernel
theorem dL_law_755 : decode cL_law 755 = .ok (.iadd, 1) := by decide +kernel
theorem dL_law_756 : decode cL_law 756 = .ok (.iaload, 1) := by decide +kernel
theorem dL_law_757 : decode cL_law 757 = .ok (.aload_n 0, 1) := by decide +kernel
theorem dL_law_758 : decode cL_law 758 = .ok (.iload_n 3, 1) := by decide +kernel
theorem dL_law_759 : decode cL_law 759 = .ok (.iconst 2, 1) := by decide +kernel
theorem dL_law_760 : decode cL_law 760 = .ok (.iadd, 1) := by decide +kernel
theorem dL_law_761 : decode cL_law 761 = .ok (.iaload, 1) := by decide +kernel
theorem dL_law_762 : decode cL_law 762 = .ok (.aload_n 0, 1) := by decide +kernel
theorem dL_law_763 : decode cL_law 763 = .ok (.iload_n 3, 1) := by decide +kernel
theorem dL_law_764 : decode cL_law 764 = .ok (.iconst 3, 1) := by decide +kernel
theorem dL_law_765 : decode cL_law 765 = .ok (.iadd, 1) := by decide +kernel
theorem dL_law_766 : decode cL_law 766 = .ok (.iaload, 1) := by decide +kernel
theorem dL_law_767 : decode cL_law 767 = .ok (.aload_n 0, 1) := by decide +kernel
theorem dL_law_768 : decode cL_law 768 = .ok (.iload_n 3, 1) := by decide +kernel
theorem dL_law_769 : decode cL_law 769 = .ok (.iconst 4, 1) := by decide +kernel
theorem dL_law_770 : decode cL_law 770 = .ok (.iadd, 1) := by decide +kernel
theorem dL_law_771 : decode cL_law 771 = .ok (.iaload, 1) := by decide +kernel
theorem dL_law_772 : decode cL_law 772 = .ok (.invokevirtual 91, 3) := by decide +kernel
theorem dL_law_775 : decode cL_law 775 = .ok (.lcmp, 1) := by decide +kernel
theorem dL_law_776 : decode cL_law 776 = .ok (.ifCond .eq 28, 3) := by decide +kernel
theorem dL_law_779 : decode cL_law 779 = .ok (.iconst 0, 1) := by decide +kernel
theorem dL_law_780 : decode cL_law 780 = .ok (.ireturn, 1) := by decide +kernel
theorem dL_law_781 : decode cL_law 781 = .ok (.aload_n 1, 1) := by decide +kernel
theorem dL_law_782 : decode cL_law 782 = .ok (.aload_n 0, 1) := by decide +kernel
theorem dL_law_783 : decode cL_law 783 = .ok (.iload_n 3, 1) := by decide +kernel
theorem dL_law_784 : decode cL_law 784 = .ok (.iconst 1, 1) := by decide +kernel
theorem dL_law_785 : decode cL_law 785 = .ok (.iadd, 1) := by decide +kernel
theorem dL_law_786 : decode cL_law 786 = .ok (.iaload, 1) := by decide +kernel
theorem dL_law_787 : decode cL_law 787 = .ok (.invokevirtual 92, 3) := by decide +kernel
theorem dL_law_790 : decode cL_law 790 = .ok (.aload_n 2, 1) := by decide +kernel
theorem dL_law_791 : decode cL_law 791 = .ok (.aload_n 0, 1) := by decide +kernel
theorem dL_law_792 : decode cL_law 792 = .ok (.iload_n 3, 1) := by decide +kernel
theorem dL_law_793 : decode cL_law 793 = .ok (.iconst 1, 1) := by decide +kernel
theorem dL_law_794 : decode cL_law 794 = .ok (.iadd, 1) := by decide +kernel
theorem dL_law_795 : decode cL_law 795 = .ok (.iaload, 1) := by decide +kernel
theorem dL_law_796 : decode cL_law 796 = .ok (.invokevirtual 95, 3) := by decide +kernel
theorem dL_law_799 : decode cL_law 799 = .ok (.if_icmp .eq 5, 3) := by decide +kernel
theorem dL_law_802 : decode cL_law 802 = .ok (.iconst 0, 1) := by decide +kernel
theorem dL_law_803 : decode cL_law 803 = .ok (.ireturn, 1) := by decide +kernel
theorem dL_law_804 : decode cL_law 804 = .ok (.iinc 3 5, 3) := by decide +kernel
theorem dL_law_807 : decode cL_law 807 = .ok (.goto (-789), 3) := by decide +kernel
theorem dL_law_810 : decode cL_law 810 = .ok (.iconst 1, 1) := by decide +kernel
theorem dL_law_811 : decode cL_law 811 = .ok (.ireturn, 1) := by decide +kernel
end
section
theorem qa_I : Cond.arrayClass .int ∈ qALL := q_mem 48 (by decide +kernel) (by decide +kernel)
theorem qa_J : Cond.arrayClass .long ∈ qALL := q_mem 168 (by decide +kernel) (by decide +kernel)
theorem qa_Z : Cond.arrayClass .boolean ∈ qALL := q_mem 146 (by decide +kernel) (by decide +kernel)
theorem qa_O : Cond.arrayOver (.object qgr) ∈ qNZ := q_memN 50 (by decide +kernel) (by decide +kernel)
theorem quL_at (L : Nat → qL) (k : Nat) (e : qL) : quL L k e k = e := if_pos rfl
theorem quL_ne {L : Nat → qL} {k a : Nat} {e : qL} (h : a ≠ k) : quL L k e a = L a := if_neg h
theorem quL_id {L : Nat → qL} {k : Nat} {e : qL} (h : L k = e) : quL L k e = L := by
  funext a
  by_cases h1 : a = k
  · subst h1; rw [quL_at, h]
  · rw [quL_ne h1]
section QB
variable {Y : qY} {pc : Nat} {lo : List (Option qV)} {st : List qV} {c : qC} {L : Nat → qL} {n n' k k' z z' : Nat}
theorem q_sp {B : Nat} {H0 H H1 : Heap} {locs : List Loc} {h : Nat} (hS : va_S (fun q : Nat => B ≤ q) H0 H locs) (hh : H.size = h) (z1 : H1.size = h + 1) (o1 : ∀ q, q < h → H1[q]? = H[q]?) : va_S (fun q : Nat => B ≤ q) H0 H1 locs := by
  subst hh
  exact ⟨Nat.le_trans hS.1 (by omega), fun x h1 h2 => (o1 x (Nat.lt_of_lt_of_le h1 hS.1)).trans (hS.2.1 x h1 h2), hS.2.2⟩
theorem g_newI {i : Int} {N : Nat} (hd : decode Y.1.2.1 pc = .ok (.newarray .int, 2)) (hL : L n = .inl (0, N)) (hi : i = (N : Int)) (hN : Nat.ble N 3000 = true) (hc : ∀ j, c n j = 0) (hn' : n' = n + 1) (hk : k' = k + 1) (hz : z' = z + N) (hkr : Nat.ble k' Y.2.1.2.1 = true) (hzr : Nat.ble z' Y.2.1.2.2 = true) (h : qG Y (L, n', k', z') (pc + 2) lo (qP n :: st) c) : qG Y (L, n, k, z) pc lo (qI i :: st) c := by
  subst hi; subst hk; subst hz; subst hn'
  have hN := Nat.le_of_ble_eq_true hN
  have hkr := Nat.le_of_ble_eq_true hkr
  have hzr := Nat.le_of_ble_eq_true hzr
  intro p l e R s m args below meth cd D cs B H locs ls C hE hH hS hl hn
  have C' := C
  obtain ⟨hx, hb, -, -, hown, hts, -, hK, -, -, hB, -, -, hce, hso⟩ := C
  have hsz : H.size = B + n := hH.1
  refine va_newaK (atype := .int) (N := N) hx hb (hts _ qa_I) rfl hd rfl ?_ (by rw [q_cl (by omega) (by omega)]; exact Int.toNat_natCast N) (Nat.le_trans (Nat.mul_le_mul_left N (show componentBytes _ ≤ 8 by decide)) (by omega)) (Nat.le_trans hkr hce) (Nat.le_trans hzr hso) hsz fun H1 cA e1 z1 o1 hAr hNm => ?_
  · rw [q_i0, q_ilt (by omega) (by omega)]; omega
  · have hcA : cA = cs.1 := Option.some.inj (hNm.symm.trans (hK.2 0 _ rfl).2)
    subst hcA
    refine h p l e R s m args below meth cd D cs B H1 locs ls C' hE (hH.push (by rw [z1, hsz]) (fun q hq => o1 q (by rw [← hsz]; exact hq)) ?_ (fun _ _ => ⟨rfl, rfl⟩)) (q_sp hS hsz z1 o1) hl hn
    show va_at D qcl (B + n, qE B cs (c n) (L n)) H1
    rw [hL]
    show H1[B + n]? = some (vp_cell cs.1 (N, .inl fun j => Int32.ofInt (c n j)))
    rw [vp_cell_i, e1]
    congr 2
    funext j
    rw [hc]
    rfl
theorem g_newJ {i : Int} {N : Nat} (hd : decode Y.1.2.1 pc = .ok (.newarray .long, 2)) (hL : L n = .inl (1, N)) (hi : i = (N : Int)) (hN : Nat.ble N 3000 = true) (hc : ∀ j, c n j = 0) (hn' : n' = n + 1) (hk : k' = k + 1) (hz : z' = z + N) (hkr : Nat.ble k' Y.2.1.2.1 = true) (hzr : Nat.ble z' Y.2.1.2.2 = true) (h : qG Y (L, n', k', z') (pc + 2) lo (qP n :: st) c) : qG Y (L, n, k, z) pc lo (qI i :: st) c := by
  subst hi; subst hk; subst hz; subst hn'
  have hN := Nat.le_of_ble_eq_true hN
  have hkr := Nat.le_of_ble_eq_true hkr
  have hzr := Nat.le_of_ble_eq_true hzr
  intro p l e R s m args below meth cd D cs B H locs ls C hE hH hS hl hn
  have C' := C
  obtain ⟨hx, hb, -, -, hown, hts, -, hK, -, -, hB, -, -, hce, hso⟩ := C
  have hsz : H.size = B + n := hH.1
  refine va_newaK (atype := .long) (N := N) hx hb (hts _ qa_J) rfl hd rfl ?_ (by rw [q_cl (by omega) (by omega)]; exact Int.toNat_natCast N) (Nat.le_trans (Nat.mul_le_mul_left N (show componentBytes _ ≤ 8 by decide)) (by omega)) (Nat.le_trans hkr hce) (Nat.le_trans hzr hso) hsz fun H1 cA e1 z1 o1 hAr hNm => ?_
  · rw [q_i0, q_ilt (by omega) (by omega)]; omega
  · have hcA : cA = cs.2.1 := Option.some.inj (hNm.symm.trans (hK.2 1 _ rfl).2)
    subst hcA
    refine h p l e R s m args below meth cd D cs B H1 locs ls C' hE (hH.push (by rw [z1, hsz]) (fun q hq => o1 q (by rw [← hsz]; exact hq)) ?_ (fun _ _ => ⟨rfl, rfl⟩)) (q_sp hS hsz z1 o1) hl hn
    show va_at D qcl (B + n, qE B cs (c n) (L n)) H1
    rw [hL]
    show H1[B + n]? = some (vp_cell cs.2.1 (N, .inr (.inl fun j => Int64.ofInt (c n j))))
    rw [vp_cell_l, e1]
    congr 2
    funext j
    rw [hc]
    rfl
theorem g_newZ {i : Int} {N : Nat} (hd : decode Y.1.2.1 pc = .ok (.newarray .boolean, 2)) (hL : L n = .inl (2, N)) (hi : i = (N : Int)) (hN : Nat.ble N 3000 = true) (hc : ∀ j, c n j = 0) (hn' : n' = n + 1) (hk : k' = k + 1) (hz : z' = z + N) (hkr : Nat.ble k' Y.2.1.2.1 = true) (hzr : Nat.ble z' Y.2.1.2.2 = true) (h : qG Y (L, n', k', z') (pc + 2) lo (qP n :: st) c) : qG Y (L, n, k, z) pc lo (qI i :: st) c := by
  subst hi; subst hk; subst hz; subst hn'
  have hN := Nat.le_of_ble_eq_true hN
  have hkr := Nat.le_of_ble_eq_true hkr
  have hzr := Nat.le_of_ble_eq_true hzr
  intro p l e R s m args below meth cd D cs B H locs ls C hE hH hS hl hn
  have C' := C
  obtain ⟨hx, hb, -, -, hown, hts, -, hK, -, -, hB, -, -, hce, hso⟩ := C
  have hsz : H.size = B + n := hH.1
  refine va_newaK (atype := .boolean) (N := N) hx hb (hts _ qa_Z) rfl hd rfl ?_ (by rw [q_cl (by omega) (by omega)]; exact Int.toNat_natCast N) (Nat.le_trans (Nat.mul_le_mul_left N (show componentBytes _ ≤ 8 by decide)) (by omega)) (Nat.le_trans hkr hce) (Nat.le_trans hzr hso) hsz fun H1 cA e1 z1 o1 hAr hNm => ?_
  · rw [q_i0, q_ilt (by omega) (by omega)]; omega
  · have hcA : cA = cs.2.2.1 := Option.some.inj (hNm.symm.trans (hK.2 2 _ rfl).2)
    subst hcA
    refine h p l e R s m args below meth cd D cs B H1 locs ls C' hE (hH.push (by rw [z1, hsz]) (fun q hq => o1 q (by rw [← hsz]; exact hq)) ?_ (fun _ _ => ⟨rfl, rfl⟩)) (q_sp hS hsz z1 o1) hl hn
    show va_at D qcl (B + n, qE B cs (c n) (L n)) H1
    rw [hL]
    show H1[B + n]? = some (vp_cell cs.2.2.1 (N, .inl fun j => Int32.ofInt (c n j)))
    rw [vp_cell_i, e1]
    congr 2
    funext j
    rw [hc]
    rfl
/-- the words by which an object is made -/
def qNw (own : String) (idx ci : Nat) (fs : List qF) : Prop := ∃ (C : String) (T : u_T) (N : Nat) (ty : Nat → FieldType), qcl[ci]? = some (C, T, N) ∧ (∀ w ∈ u_ws C T N, w ∈ qALL) ∧ (∀ k, k < N → parseFieldDescriptor (T k).2.2.1 = some (ty k)) ∧ Cond.classLink own idx C ∈ qALL ∧ Cond.instantiable C N ∈ qALL ∧ Cond.initialized C ∈ qALL ∧ fs.length = N ∧ ∀ (B j : Nat), j < N → defaultValue (ty j) = vp_V (qfs B (fun _ => 0) 0 fs) j
theorem g_new {idx ci N : Nat} {fs : List qF} (hd : decode Y.1.2.1 pc = .ok (.new idx, 3)) (hw : qNw Y.1.1.cls idx ci fs) (hN : fs.length = N) (hc : ∀ j, c n j = 0) (hn' : n' = n + 1) (hk : k' = k + 1) (hz : z' = z + N) (hkr : Nat.ble k' Y.2.1.2.1 = true) (hzr : Nat.ble z' Y.2.1.2.2 = true) (h : qG Y (quL L n (.inr (.inr (ci, fs))), n', k', z') (pc + 3) lo (qP n :: st) c) : qG Y (L, n, k, z) pc lo st c := by
  subst hk; subst hz; subst hn'
  have hkr := Nat.le_of_ble_eq_true hkr
  have hzr := Nat.le_of_ble_eq_true hzr
  obtain ⟨C0, T, N0, ty, w1, w2, w3, w4, w5, w6, w7, w8⟩ := hw
  have e0 : N0 = N := w7.symm.trans hN
  subst e0
  intro p l e R s m args below meth cd D cs B H locs ls C hE hH hS hl hn
  have C' := C
  obtain ⟨hx, hb, -, -, hown, hts, -, hK, -, -, hB, -, -, hce, hso⟩ := C
  have hsz : H.size = B + n := hH.1
  have hKn := hK.1 ci _ w1
  refine W.newcK hx hb hown (hts _ w4) (hts _ w5) (hts _ w6) rfl hd (Nat.le_trans hkr hce) (Nat.le_trans hzr hso) hKn.2.1 hsz fun H1 kC hkC e1 z1 o1 => ?_
  refine h p l e R s m args below meth cd D cs B H1 locs ls C' hE (hH.push (by rw [z1, hsz]) (fun q hq => o1 q (by rw [← hsz]; exact hq)) ?_ (fun j hj => ⟨rfl, quL_ne hj⟩)) (q_sp hS hsz z1 o1) hl hn
  show va_at D qcl (B + n, qE B cs (c n) (quL L n (.inr (.inr (ci, fs))) n)) H1
  rw [quL_at, show c n = (fun _ => 0) from funext hc]
  exact ⟨_, w1, (u_born ty hts w2 hKn hkC e1 w3).to (w8 B)⟩
def qOb (own : String) (idx : Nat) : Prop := Cond.methodLink own idx Lib.objectInit ∈ qALL ∧ Cond.instanceMethod Lib.objectInit ∈ qALL ∧ Cond.code Lib.objectInit ⟨#[0xb1]⟩ 1 none ∈ qALL
theorem g_oinit {a idx : Nat} {w : qW} (hd : decode Y.1.2.1 pc = .ok (.invokespecial idx, 3)) (hw : qOb Y.1.1.cls idx) (hr : Nat.ble 1 Y.2.1.1 = true) (hcs : Nat.ble (qcs st) 30 = true) (h : qG Y w (pc + 3) lo st c) : qG Y w pc lo (qP a :: st) c := by
  have hr := Nat.le_of_ble_eq_true hr
  have hcs := Nat.le_of_ble_eq_true hcs
  intro p l e R s m args below meth cd D cs B H locs ls C hE hH hS hl hn
  have C' := C
  obtain ⟨hx, hb, -, hml, hown, hts, -, hK, -, -, hB, hfr, hlc, hce, hso⟩ := C
  refine W.objInit hx hb hown (hts _ hw.1) (hts _ hw.2.1) (hts _ hw.2.2) rfl (by rw [hml]; exact hn) rfl hd (by omega) ?_ (h p l e R s m args below meth cd D cs B H locs ls C' hE hH hS hl hn)
  show 2 * 0 + ((st.map (qv B)).map fun v => v.category).sum + 12 ≤ R.locals
  rw [q_cs]
  omega
/-- a field of one's own by its link -/
def qFd (own : String) (idx ci j : Nat) : Prop := ∃ (C : String) (T : u_T) (N : Nat), qcl[ci]? = some (C, T, N) ∧ j < N ∧ own = C ∧ (∀ w ∈ u_ws C T N, w ∈ qALL) ∧ Cond.fieldLink own idx (T j).1 (T j).2.1 (T j).2.2.1 ∈ qALL
theorem g_putP {a ci j idx b : Nat} {L' : Nat → qL} {fs fs' : List qF} {ty : FieldType} (hd : decode Y.1.2.1 pc = .ok (.putfield idx, 3)) (hf : qFd Y.1.1.cls idx ci j) (hw : qFw ci j ty true) (hnm : Y.1.1.name = "<init>") (hty : ∀ x : Nat, narrow ty (.ref x) = .ref x ∧ fits ty (.ref x) = true) (hL : L a = .inr (.inr (ci, fs))) (ha : a < n) (hjl : j < fs.length) (hfs : fs' = fs.set j (.inl (some b))) (hL' : L' a = .inr (.inr (ci, fs'))) (ho : ∀ q, q ≠ a → L' q = L q) (h : qG Y (L', n, k, z) (pc + 3) lo st c) : qG Y (L, n, k, z) pc lo (qP b :: qP a :: st) c := by
  intro p l e R s m args below meth cd D cs B H locs ls C hE hH hS hl hn
  have C' := C
  obtain ⟨C0, T, N, h1, h2, h2c, h3, h4⟩ := hf
  obtain ⟨C1, T1, N1, ty0, g1, g2, g3, g4, g5, g6⟩ := hw
  cases h1.symm.trans g1
  obtain ⟨hx, hb, -, -, hown, hts, hNZ, hK, -, hname, -⟩ := C
  have hap := va_apart (own := Y.1.1.cls) hts h3 ty0 g2 g3 hK h1
  have hat := hH.2 a ha
  rw [show (L, n, k, z).1 a = _ from hL] at hat
  obtain ⟨r0, q0, cell, q1, q2, q3, q4⟩ := hat
  cases q0.symm.trans h1
  obtain ⟨hSl, hfc, kC, hkC, hkind⟩ := hK.1 ci _ h1
  obtain ⟨cf, kf, fi, f, hi, hsl⟩ := hSl j h2
  have hst := (u_facts hfc hkC (u_lays hts h3 h2) hi).1
  have hlen : j < (qfs B (c a) 0 fs).length := by rw [q_fsl]; exact hjl
  have hlay := hts _ (h3 _ (u_in_lay h2))
  unfold u_lay at hlay
  rw [if_pos g4] at hlay
  have hcf : m.cls = cf := by
    obtain ⟨_, _, c', _, _, _, -, -, hf', -, -, -, hown2, -⟩ := Cond.laysFinal_spec hlay
    have e1 : c' = cf := by have := hi.symm.trans hf'; simp at this; exact this.1.symm
    rw [g6, ← h2c] at hown2
    rw [← e1]; exact Option.some.inj (hown.symm.trans hown2)
  have h6 := u_fits hfc hkC hkind (Or.inr hlay) hi g5 (hty (B + b)).1 (hty (B + b)).2
  refine W.putFinK hx hb hown (hts _ h4) hi hst hcf (hname.trans hnm) (by rw [q2]; exact h6) q1 q3 (by rw [hsl]; exact k2_hasslot (q4 j h2)) rfl rfl hd ?_
  intro H' e1 e2 e3
  rw [hsl] at e1
  refine h p l e R s m args below meth cd D cs B H' (locs ++ [⟨B + a, f.slot⟩]) ls C' hE (hH.set (k := a) e2 e3 ?_ (fun i hi => ⟨rfl, ho i hi⟩)) (hS.put e2 e3 (by show B ≤ B + a; omega)) hl hn
  show va_at D qcl (B + a, qE B cs (c a) (L' a)) H'
  rw [hL']
  have e4 := q_fset (B := B) (g := c a) (g' := c a) (fs := fs) (fs' := fs') (j := j) (f := .inl (some b)) (v := .ref (B + b)) (by rw [hfs, List.length_set]) (by rw [hfs, List.getElem?_set_self hjl]) rfl (fun i hi => ⟨by rw [hfs, List.getElem?_set_ne (Ne.symm hi)], rfl⟩)
  show va_at D qcl (B + a, .inr (ci, qfs B (c a) 0 fs')) H'
  rw [← e4]
  exact ⟨_, h1, t_OB.to (V := updV (vp_V (qfs B (c a) 0 fs)) j (.ref (B + b))) ⟨_, e1, q2, q3, t_set q4 hap h2 (.ref (B + b))⟩ (fun i _ => vp_updV_set hlen (.ref (B + b)) i)⟩
theorem g_anew {idx : Nat} (hd : decode Y.1.2.1 pc = .ok (.anewarray idx, 3)) (h4 : Cond.classLink Y.1.1.cls idx qgr ∈ qALL) (hn' : n' = n + 1) (hk : k' = k + 1) (hz : z' = z + 2) (hkr : Nat.ble k' Y.2.1.2.1 = true) (hzr : Nat.ble z' Y.2.1.2.2 = true) (h : qG Y (quL L n (.inr (.inl (2, fun _ => none))), n', k', z') (pc + 3) lo (qP n :: st) c) : qG Y (L, n, k, z) pc lo (qI 2 :: st) c := by
  subst hk; subst hz; subst hn'
  have hkr := Nat.le_of_ble_eq_true hkr
  have hzr := Nat.le_of_ble_eq_true hzr
  intro p l e R s m args below meth cd D cs B H locs ls C hE hH hS hl hn
  have C' := C
  obtain ⟨hx, hb, -, -, hown, hts, hNZ, hK, -, -, hB, -, -, hce, hso⟩ := C
  have hsz : H.size = B + n := hH.1
  have h2 : (Int32.ofInt 2).toNatClampNeg = 2 := by decide
  refine W.anew (n := Int32.ofInt 2) hx hb hown (hts _ h4) (va_AO.use (hNZ _ qa_O)) rfl hd rfl (by decide) (by rw [h2]; decide) (Nat.le_trans hkr hce) (by rw [h2]; exact Nat.le_trans hzr hso) fun cA kA comp f1 f2 f3 f4 => ?_
  rw [h2]
  obtain ⟨kA', comp', r1, r2, r3, r4⟩ := (hK.2 3 _ rfl).2
  have hcA : cA = cs.2.2.2 := Option.some.inj (f1.symm.trans r4)
  subst hcA
  generalize hH1 : H.push ({ cls := cs.2.2.2, slots := Array.replicate 2 .null, vm := .none } : Cell) = H1
  have z1 : H1.size = B + n + 1 := by rw [← hH1, Array.size_push, hsz]
  have e1 : H1[B + n]? = some (arrV cs.2.2.2 2 (fun _ => .null)) := by rw [← hH1, ← hsz, Array.getElem?_push_size, ← arrV_new]
  have o1 : ∀ q : Nat, q < B + n → H1[q]? = H[q]? := fun q hq => by rw [← hH1, Array.getElem?_push, if_neg (by omega)]
  rw [hsz]
  refine h p l e R s m args below meth cd D cs B H1 locs ls C' hE (hH.push (by rw [z1, hsz]) (fun q hq => o1 q (by rw [← hsz]; exact hq)) ?_ (fun j hj => ⟨rfl, quL_ne hj⟩)) (q_sp hS hsz z1 o1) hl hn
  show va_at D qcl (B + n, qE B cs (c n) (quL L n (.inr (.inl (2, fun _ => none))) n)) H1
  rw [quL_at]
  show H1[B + n]? = some (vp_cell _ _)
  rw [vp_cell_q, e1]
  rfl
theorem g_aast {a b N : Nat} {i : Int} {f f' : Nat → Option Nat} {fs : List qF} {L' : Nat → qL} (hd : decode Y.1.2.1 pc = .ok (.aastore, 1)) (hL : L a = .inr (.inl (N, f))) (ha : a < n) (hLb : L b = .inr (.inr (3, fs))) (hbn : b < n) (i0 : 0 ≤ i) (i1 : i < (N : Int)) (hN : N < 2147483648) (hL' : L' a = .inr (.inl (N, f'))) (hf : ∀ j, f' j = if j = i.toNat then some b else f j) (ho : ∀ q, q ≠ a → L' q = L q) (h : qG Y (L', n, k, z) (pc + 1) lo st c) : qG Y (L, n, k, z) pc lo (qP b :: qI i :: qP a :: st) c := by
  intro p l e R s m args below meth cd D cs B H locs ls C hE hH hS hl hn
  have C' := C
  obtain ⟨hx, hb, -, -, hown, hts, -, hK, -, -, hB, -, -, hce, hso⟩ := C
  have hin := q_in i0 i1 hN
  have hcl := q_cl i0 (by omega)
  have hlt : (Int32.ofInt i).toNatClampNeg < N := Nat.not_le.mp fun q => hin (Or.inr q)
  have h0 : ¬ Int32.ofInt i < 0 := fun q => hin (Or.inl q)
  have hata := hH.2 a ha
  rw [show (L, n, k, z).1 a = _ from hL] at hata
  have hatb := hH.2 b hbn
  rw [show (L, n, k, z).1 b = _ from hLb] at hatb
  obtain ⟨r', hr', cellV, g1, g2, g3, -⟩ := hatb
  have hcls := (hK.1 3 _ hr').2
  obtain ⟨kA, comp, k1, k2, k3, -⟩ := (hK.2 3 _ rfl).2
  have er : r'.1 = qgr := by cases hr'; rfl
  rw [er] at hcls
  have hcomp : comp = D.1 3 := Option.some.inj (k3.symm.trans hcls.1)
  subst hcomp
  obtain ⟨kC, hkC, -⟩ := hcls.2
  refine W.aast hx hb hata (fun q h => by cases h) (fun h => by cases h) k1 k2 rfl hkC ⟨h0, by show _ < (arrV _ _ _).slots.size; rw [arrV_size]; exact hlt⟩ g1 (fun q h => by rw [g3] at h; cases h) (by rw [g2]; exact hkC) (by rw [g2]; exact va_assign hcls) rfl rfl hd fun H1 e1 z1 oq => ?_
  refine h p l e R s m args below meth cd D cs B H1 _ ls C' hE (hH.set (k := a) z1 oq ?_ (fun j hj => ⟨rfl, ho j hj⟩)) (hS.put z1 oq (by show B ≤ B + a; omega)) hl hn
  show va_at D qcl (B + a, qE B cs (c a) (L' a)) H1
  rw [hL']
  show H1[B + a]? = some (vp_cell _ _)
  rw [e1]
  show some ((vp_cell cs.2.2.2 (N, .inr (.inr (.inr (.inr fun j => (f j).map (B + ·)))))).setSlot _ _) = _
  rw [vp_cell_q, vp_cell_q, arrV_store, hcl]
  congr 2
  funext q
  by_cases hq : q = i.toNat
  · subst hq
    simp [updV, va_rf, hf]
  · simp [updV, hq, hf]
/-- the words of a call of a constructor -/
def qLd (own : String) (idx np : Nat) (X : qM) : Prop := Cond.code X.1 X.2.1 X.2.2.1 X.2.2.2 ∈ qALL ∧ Cond.initialized X.1.cls ∈ qALL ∧ (X.1.cls ≠ "java/lang/invoke/MethodHandle" ∧ X.1.cls ≠ "java/lang/invoke/VarHandle" ∧ (parseMethodDescriptor X.1.desc).map (fun d => d.parameters.length) = some np) ∧ X.2.2.1 ≤ 29 ∧ Cond.methodLink own idx X.1 ∈ qALL
theorem g_callD {w : qW} {X : qM} {r : Nat × Nat × Nat} {As rest st0 : List qV} {a idx np : Nat} {post : Option qV → (Nat → qL) → Nat → qC → Prop} (hM : qK X r (qP a :: As) w.1 w.2.1 c post) (hd : decode Y.1.2.1 pc = .ok (.invokespecial idx, 3)) (hk : qLd Y.1.1.cls idx np X) (hi : Cond.instanceMethod X.1 ∈ qALL) (hy : X.1.name = "<init>") (hv : X.2.2.2 = none) (hn : As.length = np) (hst : st0 = As.reverse ++ qP a :: rest) (hcs : Nat.ble (qcs rest) 8 = true) (hr : Nat.ble (r.1 + 1) Y.2.1.1 = true) (hmc : w.2.2.1 + r.2.1 = k') (hms : w.2.2.2 + r.2.2 = z') (hkr : Nat.ble k' Y.2.1.2.1 = true) (hzr : Nat.ble z' Y.2.1.2.2 = true)
    (kk : ∀ (v : Option qV) (L : Nat → qL) (n : Nat) (c' : qC), post v L n c' → qG Y (L, n, k', z') (pc + 3) lo (v.toList ++ rest) c') : qG Y w pc lo st0 c := by
  subst hmc; subst hms
  have hr := Nat.le_of_ble_eq_true hr
  have hkr := Nat.le_of_ble_eq_true hkr
  have hzr := Nat.le_of_ble_eq_true hzr
  intro p l e R s m args below meth cd D cs B H locs ls C hE hH hS hl hnl
  have C' := C
  obtain ⟨hx, hb, -, hml, hown, hts, hNZ, hK, -, hname, hB, hfr, hlc, hce, hso⟩ := C
  obtain ⟨k1, k2, k3, k4, k5⟩ := hk
  have hR : (qrm r).frames + 1 ≤ R.frames ∧ 8 + (X.2.2.1 + 11) + (qrm r).locals ≤ R.locals := ⟨by show r.1 + 1 ≤ _; omega, by show 8 + (X.2.2.1 + 11) + 48 * r.1 ≤ _; omega⟩
  have hsz : ls.size = Y.1.2.2.1 := hnl
  have hpre : PreS s H (va_Pc ((qP a :: As).map (qv B)) (qU D cs B w.1 w.2.1 c)) (.ref (B + a) :: As.map (qv B)) := ⟨q_blind _ _ _ _ _ _ _, fun U hU hW => ⟨rfl, q_pre C' hH hS U hU hW⟩⟩
  have hW0 : 2 * (F0 m pc ls (st0.map (qv B))).monitorRoom + ((rest.map (qv B)).map fun v => v.category).sum ≤ 8 := by
    rw [q_cs]; show 2 * 0 + _ ≤ 8; have := Nat.le_of_ble_eq_true hcs; omega
  have hMl := hM l D cs B
  rw [hv] at hMl k1
  have hg := q_good (X := (X.1, X.2.1, X.2.2.1, none)) k1
  refine q_after (va_runI (As := As.map (qv B)) (rest := rest.map (qv B)) (b := B + a) (n := np) ⟨hx, hb, hml, hown, hts⟩ hMl ⟨callB_of np hts hg rfl rfl rfl (hts _ k2) (hts _ k5) k3 hR, hy, hts _ hi⟩ hpre rfl (by rw [List.length_map]; exact hn) hsz (q_stk hst) hW0 hd ⟨by show _ + r.2.1 ≤ _; omega, by show _ + r.2.2 ≤ _; omega⟩) hS (fun v L n c' H1 locs1 hp hH1 hS1 => ?_)
  rw [q_ret]
  exact kk v L n c' hp p l e R s m args below meth cd D cs B H1 locs1 ls C' hE hH1 hS1 hl hnl
theorem g_retV {X : qM} {r : Nat × Nat × Nat} {post : Option qV → (Nat → qL) → Nat → qC → Prop} (hd : decode X.2.1 pc = .ok (.return_, 1)) (hr : X.2.2.2 = none) (hk : Nat.ble k r.2.1 = true) (hz : Nat.ble z r.2.2 = true) (hq : post none L n c) : qG (X, r, qE0, qZm post r.2.1 r.2.2) (L, n, k, z) pc lo [] c := g_vret hd hr (Nat.le_of_ble_eq_true hk) (Nat.le_of_ble_eq_true hz) hq
end QB
theorem q_tyA (t : FieldType) : ∀ x : Nat, narrow (.array t) (.ref x) = .ref x ∧ fits (.array t) (.ref x) = true := fun _ => ⟨rfl, rfl⟩
theorem q_tyO (t : String) : ∀ x : Nat, narrow (.object t) (.ref x) = .ref x ∧ fits (.object t) (.ref x) = true := fun _ => ⟨rfl, rfl⟩
end
section
theorem ob0 : qOb RX0 3 := ⟨q_mem 106 (by decide +kernel) (by decide +kernel), q_mem 17 (by decide +kernel) (by decide +kernel), q_mem 18 (by decide +kernel) (by decide +kernel)⟩
theorem fd0_9 : qFd RX0 9 0 0 := ⟨RX0, TX0, 6, rfl, by decide, rfl, fin0, q_mem 107 (by decide +kernel) (by decide +kernel)⟩
theorem fd0_15 : qFd RX0 15 0 1 := ⟨RX0, TX0, 6, rfl, by decide, rfl, fin0, q_mem 109 (by decide +kernel) (by decide +kernel)⟩
theorem fd0_18 : qFd RX0 18 0 2 := ⟨RX0, TX0, 6, rfl, by decide, rfl, fin0, q_mem 111 (by decide +kernel) (by decide +kernel)⟩
theorem fd0_21 : qFd RX0 21 0 3 := ⟨RX0, TX0, 6, rfl, by decide, rfl, fin0, q_mem 112 (by decide +kernel) (by decide +kernel)⟩
theorem ob1 : qOb RX1 3 := ⟨q_mem 134 (by decide +kernel) (by decide +kernel), q_mem 17 (by decide +kernel) (by decide +kernel), q_mem 18 (by decide +kernel) (by decide +kernel)⟩
theorem fd1_9 : qFd RX1 9 1 0 := ⟨RX1, TX1, 3, rfl, by decide, rfl, fin1, q_mem 135 (by decide +kernel) (by decide +kernel)⟩
theorem fd1_15 : qFd RX1 15 1 1 := ⟨RX1, TX1, 3, rfl, by decide, rfl, fin1, q_mem 137 (by decide +kernel) (by decide +kernel)⟩
theorem fd1_19 : qFd RX1 19 1 2 := ⟨RX1, TX1, 3, rfl, by decide, rfl, fin1, q_mem 138 (by decide +kernel) (by decide +kernel)⟩
theorem ob2 : qOb RX2 1 := ⟨q_mem 158 (by decide +kernel) (by decide +kernel), q_mem 17 (by decide +kernel) (by decide +kernel), q_mem 18 (by decide +kernel) (by decide +kernel)⟩
theorem ob3 : qOb RX3 3 := ⟨q_mem 55 (by decide +kernel) (by decide +kernel), q_mem 17 (by decide +kernel) (by decide +kernel), q_mem 18 (by decide +kernel) (by decide +kernel)⟩
theorem fd3_9 : qFd RX3 9 3 0 := ⟨RX3, TX3, 4, rfl, by decide, rfl, fin3, q_mem 56 (by decide +kernel) (by decide +kernel)⟩
theorem fd3_15 : qFd RX3 15 3 1 := ⟨RX3, TX3, 4, rfl, by decide, rfl, fin3, q_mem 58 (by decide +kernel) (by decide +kernel)⟩
theorem ob4 : qOb RX4 3 := ⟨q_mem 152 (by decide +kernel) (by decide +kernel), q_mem 17 (by decide +kernel) (by decide +kernel), q_mem 18 (by decide +kernel) (by decide +kernel)⟩
theorem fd4_9 : qFd RX4 9 4 0 := ⟨RX4, TX4, 12, rfl, by decide, rfl, fin4, q_mem 169 (by decide +kernel) (by decide +kernel)⟩
theorem fd4_15 : qFd RX4 15 4 1 := ⟨RX4, TX4, 12, rfl, by decide, rfl, fin4, q_mem 171 (by decide +kernel) (by decide +kernel)⟩
theorem fd4_18 : qFd RX4 18 4 2 := ⟨RX4, TX4, 12, rfl, by decide, rfl, fin4, q_mem 173 (by decide +kernel) (by decide +kernel)⟩
theorem fd4_21 : qFd RX4 21 4 3 := ⟨RX4, TX4, 12, rfl, by decide, rfl, fin4, q_mem 175 (by decide +kernel) (by decide +kernel)⟩
theorem fd4_25 : qFd RX4 25 4 4 := ⟨RX4, TX4, 12, rfl, by decide, rfl, fin4, q_mem 177 (by decide +kernel) (by decide +kernel)⟩
theorem fd4_28 : qFd RX4 28 4 5 := ⟨RX4, TX4, 12, rfl, by decide, rfl, fin4, q_mem 179 (by decide +kernel) (by decide +kernel)⟩
theorem fd4_31 : qFd RX4 31 4 6 := ⟨RX4, TX4, 12, rfl, by decide, rfl, fin4, q_mem 181 (by decide +kernel) (by decide +kernel)⟩
theorem fd4_34 : qFd RX4 34 4 7 := ⟨RX4, TX4, 12, rfl, by decide, rfl, fin4, q_mem 182 (by decide +kernel) (by decide +kernel)⟩
theorem fd4_37 : qFd RX4 37 4 8 := ⟨RX4, TX4, 12, rfl, by decide, rfl, fin4, q_mem 183 (by decide +kernel) (by decide +kernel)⟩
theorem nw4_40 : qNw RX4 40 2 [.inr 1, .inr 1] := ⟨RX2, TX2, 2, tyX2, rfl, fin2, tyX2_ok, q_mem 153 (by decide +kernel) (by decide +kernel), q_mem 154 (by decide +kernel) (by decide +kernel), q_mem 8 (by decide +kernel) (by decide +kernel), rfl, fun B j hj => match j, hj with | 0, _ => rfl | 1, _ => rfl | j + 2, h => absurd h (by omega)⟩
theorem ld4_42 : qLd RX4 42 0 X2_init := ⟨q_mem 157 (by decide +kernel) (by decide +kernel), q_mem 8 (by decide +kernel) (by decide +kernel), ⟨(by decide +kernel), (by decide +kernel), (by decide +kernel)⟩, by decide, q_mem 155 (by decide +kernel) (by decide +kernel)⟩
theorem fd4_43 : qFd RX4 43 4 9 := ⟨RX4, TX4, 12, rfl, by decide, rfl, fin4, q_mem 184 (by decide +kernel) (by decide +kernel)⟩
theorem ob5 : qOb RX5 3 := ⟨q_mem 77 (by decide +kernel) (by decide +kernel), q_mem 17 (by decide +kernel) (by decide +kernel), q_mem 18 (by decide +kernel) (by decide +kernel)⟩
theorem fd5_9 : qFd RX5 9 5 0 := ⟨RX5, TX5, 7, rfl, by decide, rfl, fin5, q_mem 78 (by decide +kernel) (by decide +kernel)⟩
theorem fd5_15 : qFd RX5 15 5 1 := ⟨RX5, TX5, 7, rfl, by decide, rfl, fin5, q_mem 80 (by decide +kernel) (by decide +kernel)⟩
theorem fd5_18 : qFd RX5 18 5 2 := ⟨RX5, TX5, 7, rfl, by decide, rfl, fin5, q_mem 81 (by decide +kernel) (by decide +kernel)⟩
theorem fd5_21 : qFd RX5 21 5 3 := ⟨RX5, TX5, 7, rfl, by decide, rfl, fin5, q_mem 82 (by decide +kernel) (by decide +kernel)⟩
theorem fd5_24 : qFd RX5 24 5 4 := ⟨RX5, TX5, 7, rfl, by decide, rfl, fin5, q_mem 83 (by decide +kernel) (by decide +kernel)⟩
theorem fd5_27 : qFd RX5 27 5 5 := ⟨RX5, TX5, 7, rfl, by decide, rfl, fin5, q_mem 84 (by decide +kernel) (by decide +kernel)⟩
theorem ob6 : qOb RX6 3 := ⟨q_mem 24 (by decide +kernel) (by decide +kernel), q_mem 17 (by decide +kernel) (by decide +kernel), q_mem 18 (by decide +kernel) (by decide +kernel)⟩
theorem fd6_9 : qFd RX6 9 6 0 := ⟨RX6, TX6, 4, rfl, by decide, rfl, fin6, q_mem 25 (by decide +kernel) (by decide +kernel)⟩
theorem fd6_15 : qFd RX6 15 6 1 := ⟨RX6, TX6, 4, rfl, by decide, rfl, fin6, q_mem 26 (by decide +kernel) (by decide +kernel)⟩
theorem ob7 : qOb RX7 1 := ⟨q_mem 16 (by decide +kernel) (by decide +kernel), q_mem 17 (by decide +kernel) (by decide +kernel), q_mem 18 (by decide +kernel) (by decide +kernel)⟩
theorem nw7_7 : qNw RX7 7 6 [.inl none, .inl none, .inr 0, .inr 0] := ⟨RX6, TX6, 4, tyX6, rfl, fin6, tyX6_ok, q_mem 19 (by decide +kernel) (by decide +kernel), q_mem 20 (by decide +kernel) (by decide +kernel), q_mem 2 (by decide +kernel) (by decide +kernel), rfl, fun B j hj => match j, hj with | 0, _ => rfl | 1, _ => rfl | 2, _ => rfl | 3, _ => rfl | j + 4, h => absurd h (by omega)⟩
theorem ld7_9 : qLd RX7 9 0 X6_init := ⟨q_mem 23 (by decide +kernel) (by decide +kernel), q_mem 2 (by decide +kernel) (by decide +kernel), ⟨(by decide +kernel), (by decide +kernel), (by decide +kernel)⟩, by decide, q_mem 21 (by decide +kernel) (by decide +kernel)⟩
theorem fd7_10 : qFd RX7 10 7 0 := ⟨RX7, TX7, 7, rfl, by decide, rfl, fin7, q_mem 215 (by decide +kernel) (by decide +kernel)⟩
theorem ca7_16 : Cond.classLink RX7 16 qgr ∈ qALL := q_mem 49 (by decide +kernel) (by decide +kernel)
theorem fd7_18 : qFd RX7 18 7 1 := ⟨RX7, TX7, 7, rfl, by decide, rfl, fin7, q_mem 216 (by decide +kernel) (by decide +kernel)⟩
theorem nw7_16 : qNw RX7 16 3 [.inl none, .inl none, .inr 0, .inr 0] := ⟨RX3, TX3, 4, tyX3, rfl, fin3, tyX3_ok, q_mem 49 (by decide +kernel) (by decide +kernel), q_mem 51 (by decide +kernel) (by decide +kernel), q_mem 3 (by decide +kernel) (by decide +kernel), rfl, fun B j hj => match j, hj with | 0, _ => rfl | 1, _ => rfl | 2, _ => rfl | 3, _ => rfl | j + 4, h => absurd h (by omega)⟩
theorem ld7_22 : qLd RX7 22 0 X3_init := ⟨q_mem 54 (by decide +kernel) (by decide +kernel), q_mem 3 (by decide +kernel) (by decide +kernel), ⟨(by decide +kernel), (by decide +kernel), (by decide +kernel)⟩, by decide, q_mem 52 (by decide +kernel) (by decide +kernel)⟩
theorem nw7_23 : qNw RX7 23 5 [.inl none, .inl none, .inl none, .inl none, .inl none, .inl none, .inr 0] := ⟨RX5, TX5, 7, tyX5, rfl, fin5, tyX5_ok, q_mem 72 (by decide +kernel) (by decide +kernel), q_mem 73 (by decide +kernel) (by decide +kernel), q_mem 4 (by decide +kernel) (by decide +kernel), rfl, fun B j hj => match j, hj with | 0, _ => rfl | 1, _ => rfl | 2, _ => rfl | 3, _ => rfl | 4, _ => rfl | 5, _ => rfl | 6, _ => rfl | j + 7, h => absurd h (by omega)⟩
theorem ld7_25 : qLd RX7 25 0 X5_init := ⟨q_mem 76 (by decide +kernel) (by decide +kernel), q_mem 4 (by decide +kernel) (by decide +kernel), ⟨(by decide +kernel), (by decide +kernel), (by decide +kernel)⟩, by decide, q_mem 74 (by decide +kernel) (by decide +kernel)⟩
theorem fd7_26 : qFd RX7 26 7 2 := ⟨RX7, TX7, 7, rfl, by decide, rfl, fin7, q_mem 217 (by decide +kernel) (by decide +kernel)⟩
theorem nw7_30 : qNw RX7 30 0 [.inl none, .inl none, .inl none, .inl none, .inr 0, .inr 0] := ⟨RX0, TX0, 6, tyX0, rfl, fin0, tyX0_ok, q_mem 101 (by decide +kernel) (by decide +kernel), q_mem 102 (by decide +kernel) (by decide +kernel), q_mem 5 (by decide +kernel) (by decide +kernel), rfl, fun B j hj => match j, hj with | 0, _ => rfl | 1, _ => rfl | 2, _ => rfl | 3, _ => rfl | 4, _ => rfl | 5, _ => rfl | j + 6, h => absurd h (by omega)⟩
theorem ld7_32 : qLd RX7 32 0 X0_init := ⟨q_mem 105 (by decide +kernel) (by decide +kernel), q_mem 5 (by decide +kernel) (by decide +kernel), ⟨(by decide +kernel), (by decide +kernel), (by decide +kernel)⟩, by decide, q_mem 103 (by decide +kernel) (by decide +kernel)⟩
theorem fd7_33 : qFd RX7 33 7 3 := ⟨RX7, TX7, 7, rfl, by decide, rfl, fin7, q_mem 218 (by decide +kernel) (by decide +kernel)⟩
theorem nw7_37 : qNw RX7 37 1 [.inl none, .inl none, .inl none] := ⟨RX1, TX1, 3, tyX1, rfl, fin1, tyX1_ok, q_mem 129 (by decide +kernel) (by decide +kernel), q_mem 130 (by decide +kernel) (by decide +kernel), q_mem 6 (by decide +kernel) (by decide +kernel), rfl, fun B j hj => match j, hj with | 0, _ => rfl | 1, _ => rfl | 2, _ => rfl | j + 3, h => absurd h (by omega)⟩
theorem ld7_39 : qLd RX7 39 0 X1_init := ⟨q_mem 133 (by decide +kernel) (by decide +kernel), q_mem 6 (by decide +kernel) (by decide +kernel), ⟨(by decide +kernel), (by decide +kernel), (by decide +kernel)⟩, by decide, q_mem 131 (by decide +kernel) (by decide +kernel)⟩
theorem fd7_40 : qFd RX7 40 7 4 := ⟨RX7, TX7, 7, rfl, by decide, rfl, fin7, q_mem 219 (by decide +kernel) (by decide +kernel)⟩
theorem nw7_44 : qNw RX7 44 4 [.inl none, .inl none, .inl none, .inl none, .inl none, .inl none, .inl none, .inl none, .inl none, .inl none, .inr 0, .inr 0] := ⟨RX4, TX4, 12, tyX4, rfl, fin4, tyX4_ok, q_mem 147 (by decide +kernel) (by decide +kernel), q_mem 148 (by decide +kernel) (by decide +kernel), q_mem 7 (by decide +kernel) (by decide +kernel), rfl, fun B j hj => match j, hj with | 0, _ => rfl | 1, _ => rfl | 2, _ => rfl | 3, _ => rfl | 4, _ => rfl | 5, _ => rfl | 6, _ => rfl | 7, _ => rfl | 8, _ => rfl | 9, _ => rfl | 10, _ => rfl | 11, _ => rfl | j + 12, h => absurd h (by omega)⟩
theorem ld7_46 : qLd RX7 46 0 X4_init := ⟨q_mem 151 (by decide +kernel) (by decide +kernel), q_mem 7 (by decide +kernel) (by decide +kernel), ⟨(by decide +kernel), (by decide +kernel), (by decide +kernel)⟩, by decide, q_mem 149 (by decide +kernel) (by decide +kernel)⟩
theorem fd7_47 : qFd RX7 47 7 5 := ⟨RX7, TX7, 7, rfl, by decide, rfl, fin7, q_mem 220 (by decide +kernel) (by decide +kernel)⟩
theorem nw7_51 : qNw RX7 51 2 [.inr 1, .inr 1] := ⟨RX2, TX2, 2, tyX2, rfl, fin2, tyX2_ok, q_mem 213 (by decide +kernel) (by decide +kernel), q_mem 154 (by decide +kernel) (by decide +kernel), q_mem 8 (by decide +kernel) (by decide +kernel), rfl, fun B j hj => match j, hj with | 0, _ => rfl | 1, _ => rfl | j + 2, h => absurd h (by omega)⟩
theorem ld7_53 : qLd RX7 53 0 X2_init := ⟨q_mem 157 (by decide +kernel) (by decide +kernel), q_mem 8 (by decide +kernel) (by decide +kernel), ⟨(by decide +kernel), (by decide +kernel), (by decide +kernel)⟩, by decide, q_mem 214 (by decide +kernel) (by decide +kernel)⟩
theorem fd7_54 : qFd RX7 54 7 6 := ⟨RX7, TX7, 7, rfl, by decide, rfl, fin7, q_mem 221 (by decide +kernel) (by decide +kernel)⟩
theorem ob8 : qOb RX8 1 := ⟨q_mem 599 (by decide +kernel) (by decide +kernel), q_mem 17 (by decide +kernel) (by decide +kernel), q_mem 18 (by decide +kernel) (by decide +kernel)⟩
theorem fd8_13 : qFd RX8 13 8 2 := ⟨RX8, TX8, 29, rfl, by decide, rfl, fin8, q_mem 602 (by decide +kernel) (by decide +kernel)⟩
theorem fd8_17 : qFd RX8 17 8 3 := ⟨RX8, TX8, 29, rfl, by decide, rfl, fin8, q_mem 603 (by decide +kernel) (by decide +kernel)⟩
theorem fd8_21 : qFd RX8 21 8 4 := ⟨RX8, TX8, 29, rfl, by decide, rfl, fin8, q_mem 604 (by decide +kernel) (by decide +kernel)⟩
theorem fd8_24 : qFd RX8 24 8 5 := ⟨RX8, TX8, 29, rfl, by decide, rfl, fin8, q_mem 605 (by decide +kernel) (by decide +kernel)⟩
theorem fd8_27 : qFd RX8 27 8 7 := ⟨RX8, TX8, 29, rfl, by decide, rfl, fin8, q_mem 607 (by decide +kernel) (by decide +kernel)⟩
theorem fd8_30 : qFd RX8 30 8 10 := ⟨RX8, TX8, 29, rfl, by decide, rfl, fin8, q_mem 610 (by decide +kernel) (by decide +kernel)⟩
theorem fd8_33 : qFd RX8 33 8 11 := ⟨RX8, TX8, 29, rfl, by decide, rfl, fin8, q_mem 611 (by decide +kernel) (by decide +kernel)⟩
theorem fd8_36 : qFd RX8 36 8 12 := ⟨RX8, TX8, 29, rfl, by decide, rfl, fin8, q_mem 612 (by decide +kernel) (by decide +kernel)⟩
theorem fd8_39 : qFd RX8 39 8 13 := ⟨RX8, TX8, 29, rfl, by decide, rfl, fin8, q_mem 613 (by decide +kernel) (by decide +kernel)⟩
theorem fd8_43 : qFd RX8 43 8 14 := ⟨RX8, TX8, 29, rfl, by decide, rfl, fin8, q_mem 614 (by decide +kernel) (by decide +kernel)⟩
theorem fd8_46 : qFd RX8 46 8 15 := ⟨RX8, TX8, 29, rfl, by decide, rfl, fin8, q_mem 615 (by decide +kernel) (by decide +kernel)⟩
theorem fd8_49 : qFd RX8 49 8 16 := ⟨RX8, TX8, 29, rfl, by decide, rfl, fin8, q_mem 616 (by decide +kernel) (by decide +kernel)⟩
theorem fd8_52 : qFd RX8 52 8 17 := ⟨RX8, TX8, 29, rfl, by decide, rfl, fin8, q_mem 617 (by decide +kernel) (by decide +kernel)⟩
theorem fd8_55 : qFd RX8 55 8 18 := ⟨RX8, TX8, 29, rfl, by decide, rfl, fin8, q_mem 618 (by decide +kernel) (by decide +kernel)⟩
theorem fd8_58 : qFd RX8 58 8 19 := ⟨RX8, TX8, 29, rfl, by decide, rfl, fin8, q_mem 619 (by decide +kernel) (by decide +kernel)⟩
theorem fd8_61 : qFd RX8 61 8 20 := ⟨RX8, TX8, 29, rfl, by decide, rfl, fin8, q_mem 620 (by decide +kernel) (by decide +kernel)⟩
theorem fd8_64 : qFd RX8 64 8 21 := ⟨RX8, TX8, 29, rfl, by decide, rfl, fin8, q_mem 621 (by decide +kernel) (by decide +kernel)⟩
theorem fd8_67 : qFd RX8 67 8 24 := ⟨RX8, TX8, 29, rfl, by decide, rfl, fin8, q_mem 624 (by decide +kernel) (by decide +kernel)⟩
theorem fd8_70 : qFd RX8 70 8 25 := ⟨RX8, TX8, 29, rfl, by decide, rfl, fin8, q_mem 625 (by decide +kernel) (by decide +kernel)⟩
theorem fd8_73 : qFd RX8 73 8 26 := ⟨RX8, TX8, 29, rfl, by decide, rfl, fin8, q_mem 626 (by decide +kernel) (by decide +kernel)⟩
theorem fd8_76 : qFd RX8 76 8 27 := ⟨RX8, TX8, 29, rfl, by decide, rfl, fin8, q_mem 627 (by decide +kernel) (by decide +kernel)⟩
theorem fd8_79 : qFd RX8 79 8 28 := ⟨RX8, TX8, 29, rfl, by decide, rfl, fin8, q_mem 628 (by decide +kernel) (by decide +kernel)⟩
theorem nwL_7 : qNw RL 7 7 [.inl none, .inl none, .inl none, .inl none, .inl none, .inl none, .inl none] := ⟨RX7, TX7, 7, tyX7, rfl, fin7, tyX7_ok, q_mem 11 (by decide +kernel) (by decide +kernel), q_mem 12 (by decide +kernel) (by decide +kernel), q_mem 1 (by decide +kernel) (by decide +kernel), rfl, fun B j hj => match j, hj with | 0, _ => rfl | 1, _ => rfl | 2, _ => rfl | 3, _ => rfl | 4, _ => rfl | 5, _ => rfl | 6, _ => rfl | j + 7, h => absurd h (by omega)⟩
theorem ldL_9 : qLd RL 9 0 X7_init := ⟨q_mem 15 (by decide +kernel) (by decide +kernel), q_mem 1 (by decide +kernel) (by decide +kernel), ⟨(by decide +kernel), (by decide +kernel), (by decide +kernel)⟩, by decide, q_mem 13 (by decide +kernel) (by decide +kernel)⟩
theorem nwL_10 : qNw RL 10 8 [.inr 0, .inr 0, .inl none, .inl none, .inl none, .inl none, .inr 0, .inl none, .inr 2, .inr 0, .inl none, .inl none, .inl none, .inl none, .inl none, .inl none, .inl none, .inl none, .inl none, .inl none, .inl none, .inl none, .inr 1, .inr 1, .inl none, .inl none, .inl none, .inl none, .inl none] := ⟨RX8, TX8, 29, tyX8, rfl, fin8, tyX8_ok, q_mem 594 (by decide +kernel) (by decide +kernel), q_mem 595 (by decide +kernel) (by decide +kernel), q_mem 9 (by decide +kernel) (by decide +kernel), rfl, fun B j hj => match j, hj with | 0, _ => rfl | 1, _ => rfl | 2, _ => rfl | 3, _ => rfl | 4, _ => rfl | 5, _ => rfl | 6, _ => rfl | 7, _ => rfl | 8, _ => rfl | 9, _ => rfl | 10, _ => rfl | 11, _ => rfl | 12, _ => rfl | 13, _ => rfl | 14, _ => rfl | 15, _ => rfl | 16, _ => rfl | 17, _ => rfl | 18, _ => rfl | 19, _ => rfl | 20, _ => rfl | 21, _ => rfl | 22, _ => rfl | 23, _ => rfl | 24, _ => rfl | 25, _ => rfl | 26, _ => rfl | 27, _ => rfl | 28, _ => rfl | j + 29, h => absurd h (by omega)⟩
theorem ldL_12 : qLd RL 12 0 X8_init := ⟨q_mem 598 (by decide +kernel) (by decide +kernel), q_mem 9 (by decide +kernel) (by decide +kernel), ⟨(by decide +kernel), (by decide +kernel), (by decide +kernel)⟩, by decide, q_mem 596 (by decide +kernel) (by decide +kernel)⟩
end
section
theorem z_mono {c : qC} {m m' : Nat} (h : ∀ q, m ≤ q → ∀ j, c q j = 0) (hm : m ≤ m') : ∀ q, m' ≤ q → ∀ j, c q j = 0 := fun q hq => h q (Nat.le_trans hm hq)
theorem qu_z {c : qC} {k m : Nat} {i x : Int} (h : ∀ q, m ≤ q → ∀ j, c q j = 0) (hk : k < m) : ∀ q, m ≤ q → ∀ j, qu c k i x q j = 0 := fun q hq j => by rw [qu_ne (by omega)]; exact h q hq j
def LAYs1 : Nat → Option Nat
  | 0 => some 5
  | _ => none
set_option maxHeartbeats 4000000 in
set_option maxRecDepth 100000 in
theorem b_X2_37 (c : qC) (Lb : Nat → qL) (h37 : Lb 37 = .inr (.inr (2, [.inr 1, .inr 1]))) (hc : ∀ q, 38 ≤ q → ∀ j, c q j = 0) : qK X2_init (1, 0, 0) [qP 37] (quL Lb 37 (.inr (.inr (2, [.inr 1, .inr 1])))) 38 c (fun v L n c' => v = none ∧ L = Lb ∧ n = 38 ∧ c' = (qu (qu c 37 0 (0)) 37 1 (1))) := by
  refine qK.of [some (qP 37)] (by decide) rfl (fun _ => rfl) (fun _ => Nat.le_of_ble_eq_true rfl) ?_
  refine g_aload_n (i := 0) dX2_init_0 rfl rfl ?_
  refine g_oinit dX2_init_1 ob2 rfl rfl ?_
  refine g_aload_n (i := 0) dX2_init_4 rfl rfl ?_
  refine g_lconst (z := 0) dX2_init_5 (by decide) ?_
  refine g_putJ 0 dX2_init_6 fl2_7 fw2_0 rfl (by show 37 < 38; decide) rfl rfl ?_
  refine g_aload_n (i := 0) dX2_init_9 rfl rfl ?_
  refine g_lconst (z := 1) dX2_init_10 (by decide) ?_
  refine g_putJ 1 dX2_init_11 fl2_13 fw2_1 rfl (by show 37 < 38; decide) rfl rfl ?_
  exact g_retV dX2_init_14 rfl rfl rfl ⟨rfl, (quL_id h37), rfl, rfl⟩
set_option maxHeartbeats 4000000 in
set_option maxRecDepth 100000 in
theorem b_X2_38 (c : qC) (Lb : Nat → qL) (h38 : Lb 38 = .inr (.inr (2, [.inr 1, .inr 1]))) (hc : ∀ q, 39 ≤ q → ∀ j, c q j = 0) : qK X2_init (1, 0, 0) [qP 38] (quL Lb 38 (.inr (.inr (2, [.inr 1, .inr 1])))) 39 c (fun v L n c' => v = none ∧ L = Lb ∧ n = 39 ∧ c' = (qu (qu c 38 0 (0)) 38 1 (1))) := by
  refine qK.of [some (qP 38)] (by decide) rfl (fun _ => rfl) (fun _ => Nat.le_of_ble_eq_true rfl) ?_
  refine g_aload_n (i := 0) dX2_init_0 rfl rfl ?_
  refine g_oinit dX2_init_1 ob2 rfl rfl ?_
  refine g_aload_n (i := 0) dX2_init_4 rfl rfl ?_
  refine g_lconst (z := 0) dX2_init_5 (by decide) ?_
  refine g_putJ 0 dX2_init_6 fl2_7 fw2_0 rfl (by show 38 < 39; decide) rfl rfl ?_
  refine g_aload_n (i := 0) dX2_init_9 rfl rfl ?_
  refine g_lconst (z := 1) dX2_init_10 (by decide) ?_
  refine g_putJ 1 dX2_init_11 fl2_13 fw2_1 rfl (by show 38 < 39; decide) rfl rfl ?_
  exact g_retV dX2_init_14 rfl rfl rfl ⟨rfl, (quL_id h38), rfl, rfl⟩
set_option maxHeartbeats 4000000 in
set_option maxRecDepth 100000 in
theorem b_X6 (c : qC) (Lb : Nat → qL) (h1 : Lb 1 = .inr (.inr (6, [.inl (some 2), .inl (some 3), .inr 0, .inr 0]))) (h2 : Lb 2 = .inl (0, 120)) (h3 : Lb 3 = .inl (0, 2700)) (hc : ∀ q, 2 ≤ q → ∀ j, c q j = 0) : qK X6_init (1, 2, 2820) [qP 1] (quL Lb 1 (.inr (.inr (6, [.inl none, .inl none, .inr 0, .inr 0])))) 2 c (fun v L n c' => v = none ∧ L = Lb ∧ n = 4 ∧ c' = (qu (qu c 1 2 (2)) 1 3 (0))) := by
  refine qK.of [some (qP 1)] (by decide) rfl (fun _ => rfl) (fun _ => Nat.le_of_ble_eq_true rfl) ?_
  refine g_aload_n (i := 0) dX6_init_0 rfl rfl ?_
  refine g_oinit dX6_init_1 ob6 rfl rfl ?_
  refine g_aload_n (i := 0) dX6_init_4 rfl rfl ?_
  refine g_bipush dX6_init_5 (by decide) ?_
  refine g_newI (N := 120) (n' := 3) (k' := 1) (z' := 120) dX6_init_7 h2 rfl rfl (fun j => hc 2 (by decide) j) rfl rfl rfl rfl rfl ?_
  refine g_putP (L' := (quL Lb 1 (.inr (.inr (6, [.inl (some 2), .inl none, .inr 0, .inr 0]))))) (fs' := [.inl (some 2), .inl none, .inr 0, .inr 0]) dX6_init_9 fd6_9 fw6_0 rfl (q_tyA _) rfl (by decide) (by decide) rfl rfl (fun q hq => by simp [quL, hq]) ?_
  refine g_aload_n (i := 0) dX6_init_12 rfl rfl ?_
  refine g_sipush dX6_init_13 (by decide) ?_
  refine g_newI (N := 2700) (n' := 4) (k' := 2) (z' := 2820) dX6_init_16 h3 rfl rfl (fun j => hc 3 (by decide) j) rfl rfl rfl rfl rfl ?_
  refine g_putP (L' := (quL Lb 1 (.inr (.inr (6, [.inl (some 2), .inl (some 3), .inr 0, .inr 0]))))) (fs' := [.inl (some 2), .inl (some 3), .inr 0, .inr 0]) dX6_init_18 fd6_15 fw6_1 rfl (q_tyA _) rfl (by decide) (by decide) rfl rfl (fun q hq => by simp [quL, hq]) ?_
  refine g_aload_n (i := 0) dX6_init_21 rfl rfl ?_
  refine g_iconst dX6_init_22 ?_
  refine g_putI 2 dX6_init_23 fl6_18 fw6_2 rfl (by show 1 < 4; decide) rfl (by decide) rfl ?_
  refine g_aload_n (i := 0) dX6_init_26 rfl rfl ?_
  refine g_iconst dX6_init_27 ?_
  refine g_putI 3 dX6_init_28 fl6_22 fw6_3 rfl (by show 1 < 4; decide) rfl (by decide) rfl ?_
  exact g_retV dX6_init_31 rfl rfl rfl ⟨rfl, (quL_id h1), rfl, rfl⟩
set_option maxHeartbeats 4000000 in
set_option maxRecDepth 100000 in
theorem b_X3_5 (c : qC) (Lb : Nat → qL) (h5 : Lb 5 = .inr (.inr (3, [.inl (some 6), .inl (some 7), .inr 0, .inr 0]))) (h6 : Lb 6 = .inl (0, 30)) (h7 : Lb 7 = .inl (0, 30)) (hc : ∀ q, 6 ≤ q → ∀ j, c q j = 0) : qK X3_init (1, 2, 60) [qP 5] (quL Lb 5 (.inr (.inr (3, [.inl none, .inl none, .inr 0, .inr 0])))) 6 c (fun v L n c' => v = none ∧ L = Lb ∧ n = 8 ∧ c' = (qu (qu c 5 2 (0)) 5 3 (-1))) := by
  refine qK.of [some (qP 5)] (by decide) rfl (fun _ => rfl) (fun _ => Nat.le_of_ble_eq_true rfl) ?_
  refine g_aload_n (i := 0) dX3_init_0 rfl rfl ?_
  refine g_oinit dX3_init_1 ob3 rfl rfl ?_
  refine g_aload_n (i := 0) dX3_init_4 rfl rfl ?_
  refine g_bipush dX3_init_5 (by decide) ?_
  refine g_newI (N := 30) (n' := 7) (k' := 1) (z' := 30) dX3_init_7 h6 rfl rfl (fun j => hc 6 (by decide) j) rfl rfl rfl rfl rfl ?_
  refine g_putP (L' := (quL Lb 5 (.inr (.inr (3, [.inl (some 6), .inl none, .inr 0, .inr 0]))))) (fs' := [.inl (some 6), .inl none, .inr 0, .inr 0]) dX3_init_9 fd3_9 fw3_0 rfl (q_tyA _) rfl (by decide) (by decide) rfl rfl (fun q hq => by simp [quL, hq]) ?_
  refine g_aload_n (i := 0) dX3_init_12 rfl rfl ?_
  refine g_bipush dX3_init_13 (by decide) ?_
  refine g_newI (N := 30) (n' := 8) (k' := 2) (z' := 60) dX3_init_15 h7 rfl rfl (fun j => hc 7 (by decide) j) rfl rfl rfl rfl rfl ?_
  refine g_putP (L' := (quL Lb 5 (.inr (.inr (3, [.inl (some 6), .inl (some 7), .inr 0, .inr 0]))))) (fs' := [.inl (some 6), .inl (some 7), .inr 0, .inr 0]) dX3_init_17 fd3_15 fw3_1 rfl (q_tyA _) rfl (by decide) (by decide) rfl rfl (fun q hq => by simp [quL, hq]) ?_
  refine g_aload_n (i := 0) dX3_init_20 rfl rfl ?_
  refine g_iconst dX3_init_21 ?_
  refine g_putI 2 dX3_init_22 fl3_18 fw3_2 rfl (by show 5 < 8; decide) rfl (by decide) rfl ?_
  refine g_aload_n (i := 0) dX3_init_25 rfl rfl ?_
  refine g_iconst dX3_init_26 ?_
  refine g_putI 3 dX3_init_27 fl3_22 fw3_3 rfl (by show 5 < 8; decide) rfl (by decide) rfl ?_
  exact g_retV dX3_init_30 rfl rfl rfl ⟨rfl, (quL_id h5), rfl, rfl⟩
set_option maxHeartbeats 4000000 in
set_option maxRecDepth 100000 in
theorem b_X3_8 (c : qC) (Lb : Nat → qL) (h8 : Lb 8 = .inr (.inr (3, [.inl (some 9), .inl (some 10), .inr 0, .inr 0]))) (h9 : Lb 9 = .inl (0, 30)) (h10 : Lb 10 = .inl (0, 30)) (hc : ∀ q, 9 ≤ q → ∀ j, c q j = 0) : qK X3_init (1, 2, 60) [qP 8] (quL Lb 8 (.inr (.inr (3, [.inl none, .inl none, .inr 0, .inr 0])))) 9 c (fun v L n c' => v = none ∧ L = Lb ∧ n = 11 ∧ c' = (qu (qu c 8 2 (0)) 8 3 (-1))) := by
  refine qK.of [some (qP 8)] (by decide) rfl (fun _ => rfl) (fun _ => Nat.le_of_ble_eq_true rfl) ?_
  refine g_aload_n (i := 0) dX3_init_0 rfl rfl ?_
  refine g_oinit dX3_init_1 ob3 rfl rfl ?_
  refine g_aload_n (i := 0) dX3_init_4 rfl rfl ?_
  refine g_bipush dX3_init_5 (by decide) ?_
  refine g_newI (N := 30) (n' := 10) (k' := 1) (z' := 30) dX3_init_7 h9 rfl rfl (fun j => hc 9 (by decide) j) rfl rfl rfl rfl rfl ?_
  refine g_putP (L' := (quL Lb 8 (.inr (.inr (3, [.inl (some 9), .inl none, .inr 0, .inr 0]))))) (fs' := [.inl (some 9), .inl none, .inr 0, .inr 0]) dX3_init_9 fd3_9 fw3_0 rfl (q_tyA _) rfl (by decide) (by decide) rfl rfl (fun q hq => by simp [quL, hq]) ?_
  refine g_aload_n (i := 0) dX3_init_12 rfl rfl ?_
  refine g_bipush dX3_init_13 (by decide) ?_
  refine g_newI (N := 30) (n' := 11) (k' := 2) (z' := 60) dX3_init_15 h10 rfl rfl (fun j => hc 10 (by decide) j) rfl rfl rfl rfl rfl ?_
  refine g_putP (L' := (quL Lb 8 (.inr (.inr (3, [.inl (some 9), .inl (some 10), .inr 0, .inr 0]))))) (fs' := [.inl (some 9), .inl (some 10), .inr 0, .inr 0]) dX3_init_17 fd3_15 fw3_1 rfl (q_tyA _) rfl (by decide) (by decide) rfl rfl (fun q hq => by simp [quL, hq]) ?_
  refine g_aload_n (i := 0) dX3_init_20 rfl rfl ?_
  refine g_iconst dX3_init_21 ?_
  refine g_putI 2 dX3_init_22 fl3_18 fw3_2 rfl (by show 8 < 11; decide) rfl (by decide) rfl ?_
  refine g_aload_n (i := 0) dX3_init_25 rfl rfl ?_
  refine g_iconst dX3_init_26 ?_
  refine g_putI 3 dX3_init_27 fl3_22 fw3_3 rfl (by show 8 < 11; decide) rfl (by decide) rfl ?_
  exact g_retV dX3_init_30 rfl rfl rfl ⟨rfl, (quL_id h8), rfl, rfl⟩
set_option maxHeartbeats 4000000 in
set_option maxRecDepth 100000 in
theorem b_X5 (c : qC) (Lb : Nat → qL) (h11 : Lb 11 = .inr (.inr (5, [.inl (some 12), .inl (some 13), .inl (some 14), .inl (some 15), .inl (some 16), .inl (some 17), .inr 0]))) (h12 : Lb 12 = .inl (0, 30)) (h13 : Lb 13 = .inl (0, 30)) (h14 : Lb 14 = .inl (0, 6)) (h15 : Lb 15 = .inl (0, 24)) (h16 : Lb 16 = .inl (0, 6)) (h17 : Lb 17 = .inl (0, 30)) (hc : ∀ q, 12 ≤ q → ∀ j, c q j = 0) : qK X5_init (1, 6, 126) [qP 11] (quL Lb 11 (.inr (.inr (5, [.inl none, .inl none, .inl none, .inl none, .inl none, .inl none, .inr 0])))) 12 c (fun v L n c' => v = none ∧ L = Lb ∧ n = 18 ∧ c' = (qu c 11 6 (0))) := by
  refine qK.of [some (qP 11)] (by decide) rfl (fun _ => rfl) (fun _ => Nat.le_of_ble_eq_true rfl) ?_
  refine g_aload_n (i := 0) dX5_init_0 rfl rfl ?_
  refine g_oinit dX5_init_1 ob5 rfl rfl ?_
  refine g_aload_n (i := 0) dX5_init_4 rfl rfl ?_
  refine g_bipush dX5_init_5 (by decide) ?_
  refine g_newI (N := 30) (n' := 13) (k' := 1) (z' := 30) dX5_init_7 h12 rfl rfl (fun j => hc 12 (by decide) j) rfl rfl rfl rfl rfl ?_
  refine g_putP (L' := (quL Lb 11 (.inr (.inr (5, [.inl (some 12), .inl none, .inl none, .inl none, .inl none, .inl none, .inr 0]))))) (fs' := [.inl (some 12), .inl none, .inl none, .inl none, .inl none, .inl none, .inr 0]) dX5_init_9 fd5_9 fw5_0 rfl (q_tyA _) rfl (by decide) (by decide) rfl rfl (fun q hq => by simp [quL, hq]) ?_
  refine g_aload_n (i := 0) dX5_init_12 rfl rfl ?_
  refine g_bipush dX5_init_13 (by decide) ?_
  refine g_newI (N := 30) (n' := 14) (k' := 2) (z' := 60) dX5_init_15 h13 rfl rfl (fun j => hc 13 (by decide) j) rfl rfl rfl rfl rfl ?_
  refine g_putP (L' := (quL Lb 11 (.inr (.inr (5, [.inl (some 12), .inl (some 13), .inl none, .inl none, .inl none, .inl none, .inr 0]))))) (fs' := [.inl (some 12), .inl (some 13), .inl none, .inl none, .inl none, .inl none, .inr 0]) dX5_init_17 fd5_15 fw5_1 rfl (q_tyA _) rfl (by decide) (by decide) rfl rfl (fun q hq => by simp [quL, hq]) ?_
  refine g_aload_n (i := 0) dX5_init_20 rfl rfl ?_
  refine g_bipush dX5_init_21 (by decide) ?_
  refine g_newI (N := 6) (n' := 15) (k' := 3) (z' := 66) dX5_init_23 h14 rfl rfl (fun j => hc 14 (by decide) j) rfl rfl rfl rfl rfl ?_
  refine g_putP (L' := (quL Lb 11 (.inr (.inr (5, [.inl (some 12), .inl (some 13), .inl (some 14), .inl none, .inl none, .inl none, .inr 0]))))) (fs' := [.inl (some 12), .inl (some 13), .inl (some 14), .inl none, .inl none, .inl none, .inr 0]) dX5_init_25 fd5_18 fw5_2 rfl (q_tyA _) rfl (by decide) (by decide) rfl rfl (fun q hq => by simp [quL, hq]) ?_
  refine g_aload_n (i := 0) dX5_init_28 rfl rfl ?_
  refine g_bipush dX5_init_29 (by decide) ?_
  refine g_newI (N := 24) (n' := 16) (k' := 4) (z' := 90) dX5_init_31 h15 rfl rfl (fun j => hc 15 (by decide) j) rfl rfl rfl rfl rfl ?_
  refine g_putP (L' := (quL Lb 11 (.inr (.inr (5, [.inl (some 12), .inl (some 13), .inl (some 14), .inl (some 15), .inl none, .inl none, .inr 0]))))) (fs' := [.inl (some 12), .inl (some 13), .inl (some 14), .inl (some 15), .inl none, .inl none, .inr 0]) dX5_init_33 fd5_21 fw5_3 rfl (q_tyA _) rfl (by decide) (by decide) rfl rfl (fun q hq => by simp [quL, hq]) ?_
  refine g_aload_n (i := 0) dX5_init_36 rfl rfl ?_
  refine g_bipush dX5_init_37 (by decide) ?_
  refine g_newI (N := 6) (n' := 17) (k' := 5) (z' := 96) dX5_init_39 h16 rfl rfl (fun j => hc 16 (by decide) j) rfl rfl rfl rfl rfl ?_
  refine g_putP (L' := (quL Lb 11 (.inr (.inr (5, [.inl (some 12), .inl (some 13), .inl (some 14), .inl (some 15), .inl (some 16), .inl none, .inr 0]))))) (fs' := [.inl (some 12), .inl (some 13), .inl (some 14), .inl (some 15), .inl (some 16), .inl none, .inr 0]) dX5_init_41 fd5_24 fw5_4 rfl (q_tyA _) rfl (by decide) (by decide) rfl rfl (fun q hq => by simp [quL, hq]) ?_
  refine g_aload_n (i := 0) dX5_init_44 rfl rfl ?_
  refine g_bipush dX5_init_45 (by decide) ?_
  refine g_newI (N := 30) (n' := 18) (k' := 6) (z' := 126) dX5_init_47 h17 rfl rfl (fun j => hc 17 (by decide) j) rfl rfl rfl rfl rfl ?_
  refine g_putP (L' := (quL Lb 11 (.inr (.inr (5, [.inl (some 12), .inl (some 13), .inl (some 14), .inl (some 15), .inl (some 16), .inl (some 17), .inr 0]))))) (fs' := [.inl (some 12), .inl (some 13), .inl (some 14), .inl (some 15), .inl (some 16), .inl (some 17), .inr 0]) dX5_init_49 fd5_27 fw5_5 rfl (q_tyA _) rfl (by decide) (by decide) rfl rfl (fun q hq => by simp [quL, hq]) ?_
  refine g_aload_n (i := 0) dX5_init_52 rfl rfl ?_
  refine g_iconst dX5_init_53 ?_
  refine g_putI 6 dX5_init_54 fl5_30 fw5_6 rfl (by show 11 < 18; decide) rfl (by decide) rfl ?_
  exact g_retV dX5_init_57 rfl rfl rfl ⟨rfl, (quL_id h11), rfl, rfl⟩
set_option maxHeartbeats 4000000 in
set_option maxRecDepth 100000 in
theorem b_X0 (c : qC) (Lb : Nat → qL) (h18 : Lb 18 = .inr (.inr (0, [.inl (some 19), .inl (some 20), .inl (some 21), .inl (some 22), .inr 0, .inr 0]))) (h19 : Lb 19 = .inl (0, 30)) (h20 : Lb 20 = .inl (0, 3)) (h21 : Lb 21 = .inl (0, 3)) (h22 : Lb 22 = .inl (0, 90)) (hc : ∀ q, 19 ≤ q → ∀ j, c q j = 0) : qK X0_init (1, 4, 126) [qP 18] (quL Lb 18 (.inr (.inr (0, [.inl none, .inl none, .inl none, .inl none, .inr 0, .inr 0])))) 19 c (fun v L n c' => v = none ∧ L = Lb ∧ n = 23 ∧ c' = (qu (qu c 18 4 (0)) 18 5 (0))) := by
  refine qK.of [some (qP 18)] (by decide) rfl (fun _ => rfl) (fun _ => Nat.le_of_ble_eq_true rfl) ?_
  refine g_aload_n (i := 0) dX0_init_0 rfl rfl ?_
  refine g_oinit dX0_init_1 ob0 rfl rfl ?_
  refine g_aload_n (i := 0) dX0_init_4 rfl rfl ?_
  refine g_bipush dX0_init_5 (by decide) ?_
  refine g_newI (N := 30) (n' := 20) (k' := 1) (z' := 30) dX0_init_7 h19 rfl rfl (fun j => hc 19 (by decide) j) rfl rfl rfl rfl rfl ?_
  refine g_putP (L' := (quL Lb 18 (.inr (.inr (0, [.inl (some 19), .inl none, .inl none, .inl none, .inr 0, .inr 0]))))) (fs' := [.inl (some 19), .inl none, .inl none, .inl none, .inr 0, .inr 0]) dX0_init_9 fd0_9 fw0_0 rfl (q_tyA _) rfl (by decide) (by decide) rfl rfl (fun q hq => by simp [quL, hq]) ?_
  refine g_aload_n (i := 0) dX0_init_12 rfl rfl ?_
  refine g_iconst dX0_init_13 ?_
  refine g_newI (N := 3) (n' := 21) (k' := 2) (z' := 33) dX0_init_14 h20 rfl rfl (fun j => hc 20 (by decide) j) rfl rfl rfl rfl rfl ?_
  refine g_putP (L' := (quL Lb 18 (.inr (.inr (0, [.inl (some 19), .inl (some 20), .inl none, .inl none, .inr 0, .inr 0]))))) (fs' := [.inl (some 19), .inl (some 20), .inl none, .inl none, .inr 0, .inr 0]) dX0_init_16 fd0_15 fw0_1 rfl (q_tyA _) rfl (by decide) (by decide) rfl rfl (fun q hq => by simp [quL, hq]) ?_
  refine g_aload_n (i := 0) dX0_init_19 rfl rfl ?_
  refine g_iconst dX0_init_20 ?_
  refine g_newI (N := 3) (n' := 22) (k' := 3) (z' := 36) dX0_init_21 h21 rfl rfl (fun j => hc 21 (by decide) j) rfl rfl rfl rfl rfl ?_
  refine g_putP (L' := (quL Lb 18 (.inr (.inr (0, [.inl (some 19), .inl (some 20), .inl (some 21), .inl none, .inr 0, .inr 0]))))) (fs' := [.inl (some 19), .inl (some 20), .inl (some 21), .inl none, .inr 0, .inr 0]) dX0_init_23 fd0_18 fw0_2 rfl (q_tyA _) rfl (by decide) (by decide) rfl rfl (fun q hq => by simp [quL, hq]) ?_
  refine g_aload_n (i := 0) dX0_init_26 rfl rfl ?_
  refine g_bipush dX0_init_27 (by decide) ?_
  refine g_newI (N := 90) (n' := 23) (k' := 4) (z' := 126) dX0_init_29 h22 rfl rfl (fun j => hc 22 (by decide) j) rfl rfl rfl rfl rfl ?_
  refine g_putP (L' := (quL Lb 18 (.inr (.inr (0, [.inl (some 19), .inl (some 20), .inl (some 21), .inl (some 22), .inr 0, .inr 0]))))) (fs' := [.inl (some 19), .inl (some 20), .inl (some 21), .inl (some 22), .inr 0, .inr 0]) dX0_init_31 fd0_21 fw0_3 rfl (q_tyA _) rfl (by decide) (by decide) rfl rfl (fun q hq => by simp [quL, hq]) ?_
  refine g_aload_n (i := 0) dX0_init_34 rfl rfl ?_
  refine g_iconst dX0_init_35 ?_
  refine g_putI 4 dX0_init_36 fl0_24 fw0_4 rfl (by show 18 < 23; decide) rfl (by decide) rfl ?_
  refine g_aload_n (i := 0) dX0_init_39 rfl rfl ?_
  refine g_iconst dX0_init_40 ?_
  refine g_putI 5 dX0_init_41 fl0_28 fw0_5 rfl (by show 18 < 23; decide) rfl (by decide) rfl ?_
  exact g_retV dX0_init_44 rfl rfl rfl ⟨rfl, (quL_id h18), rfl, rfl⟩
set_option maxHeartbeats 4000000 in
set_option maxRecDepth 100000 in
theorem b_X1 (c : qC) (Lb : Nat → qL) (h23 : Lb 23 = .inr (.inr (1, [.inl (some 24), .inl (some 25), .inl (some 26)]))) (h24 : Lb 24 = .inl (0, 30)) (h25 : Lb 25 = .inl (2, 30)) (h26 : Lb 26 = .inl (0, 30)) (hc : ∀ q, 24 ≤ q → ∀ j, c q j = 0) : qK X1_init (1, 3, 90) [qP 23] (quL Lb 23 (.inr (.inr (1, [.inl none, .inl none, .inl none])))) 24 c (fun v L n c' => v = none ∧ L = Lb ∧ n = 27 ∧ c' = c) := by
  refine qK.of [some (qP 23)] (by decide) rfl (fun _ => rfl) (fun _ => Nat.le_of_ble_eq_true rfl) ?_
  refine g_aload_n (i := 0) dX1_init_0 rfl rfl ?_
  refine g_oinit dX1_init_1 ob1 rfl rfl ?_
  refine g_aload_n (i := 0) dX1_init_4 rfl rfl ?_
  refine g_bipush dX1_init_5 (by decide) ?_
  refine g_newI (N := 30) (n' := 25) (k' := 1) (z' := 30) dX1_init_7 h24 rfl rfl (fun j => hc 24 (by decide) j) rfl rfl rfl rfl rfl ?_
  refine g_putP (L' := (quL Lb 23 (.inr (.inr (1, [.inl (some 24), .inl none, .inl none]))))) (fs' := [.inl (some 24), .inl none, .inl none]) dX1_init_9 fd1_9 fw1_0 rfl (q_tyA _) rfl (by decide) (by decide) rfl rfl (fun q hq => by simp [quL, hq]) ?_
  refine g_aload_n (i := 0) dX1_init_12 rfl rfl ?_
  refine g_bipush dX1_init_13 (by decide) ?_
  refine g_newZ (N := 30) (n' := 26) (k' := 2) (z' := 60) dX1_init_15 h25 rfl rfl (fun j => hc 25 (by decide) j) rfl rfl rfl rfl rfl ?_
  refine g_putP (L' := (quL Lb 23 (.inr (.inr (1, [.inl (some 24), .inl (some 25), .inl none]))))) (fs' := [.inl (some 24), .inl (some 25), .inl none]) dX1_init_17 fd1_15 fw1_1 rfl (q_tyA _) rfl (by decide) (by decide) rfl rfl (fun q hq => by simp [quL, hq]) ?_
  refine g_aload_n (i := 0) dX1_init_20 rfl rfl ?_
  refine g_bipush dX1_init_21 (by decide) ?_
  refine g_newI (N := 30) (n' := 27) (k' := 3) (z' := 90) dX1_init_23 h26 rfl rfl (fun j => hc 26 (by decide) j) rfl rfl rfl rfl rfl ?_
  refine g_putP (L' := (quL Lb 23 (.inr (.inr (1, [.inl (some 24), .inl (some 25), .inl (some 26)]))))) (fs' := [.inl (some 24), .inl (some 25), .inl (some 26)]) dX1_init_25 fd1_19 fw1_2 rfl (q_tyA _) rfl (by decide) (by decide) rfl rfl (fun q hq => by simp [quL, hq]) ?_
  exact g_retV dX1_init_28 rfl rfl rfl ⟨rfl, (quL_id h23), rfl, rfl⟩
set_option maxHeartbeats 4000000 in
set_option maxRecDepth 100000 in
theorem b_X4 (c : qC) (Lb : Nat → qL) (h27 : Lb 27 = .inr (.inr (4, [.inl (some 28), .inl (some 29), .inl (some 30), .inl (some 31), .inl (some 32), .inl (some 33), .inl (some 34), .inl (some 35), .inl (some 36), .inl (some 37), .inr 0, .inr 0]))) (h28 : Lb 28 = .inl (0, 30)) (h29 : Lb 29 = .inl (0, 30)) (h30 : Lb 30 = .inl (0, 30)) (h31 : Lb 31 = .inl (1, 30)) (h32 : Lb 32 = .inl (1, 30)) (h33 : Lb 33 = .inl (0, 30)) (h34 : Lb 34 = .inl (0, 30)) (h35 : Lb 35 = .inl (1, 120)) (h36 : Lb 36 = .inl (1, 900)) (h37 : Lb 37 = .inr (.inr (2, [.inr 1, .inr 1]))) (hc : ∀ q, 28 ≤ q → ∀ j, c q j = 0) : qK X4_init (2, 10, 1232) [qP 27] (quL Lb 27 (.inr (.inr (4, [.inl none, .inl none, .inl none, .inl none, .inl none, .inl none, .inl none, .inl none, .inl none, .inl none, .inr 0, .inr 0])))) 28 c (fun v L n c' => v = none ∧ L = Lb ∧ n = 38 ∧ c' = (qu (qu (qu (qu c 37 0 (0)) 37 1 (1)) 27 10 (0)) 27 11 (-1))) := by
  refine qK.of [some (qP 27)] (by decide) rfl (fun _ => rfl) (fun _ => Nat.le_of_ble_eq_true rfl) ?_
  refine g_aload_n (i := 0) dX4_init_0 rfl rfl ?_
  refine g_oinit dX4_init_1 ob4 rfl rfl ?_
  refine g_aload_n (i := 0) dX4_init_4 rfl rfl ?_
  refine g_bipush dX4_init_5 (by decide) ?_
  refine g_newI (N := 30) (n' := 29) (k' := 1) (z' := 30) dX4_init_7 h28 rfl rfl (fun j => hc 28 (by decide) j) rfl rfl rfl rfl rfl ?_
  refine g_putP (L' := (quL Lb 27 (.inr (.inr (4, [.inl (some 28), .inl none, .inl none, .inl none, .inl none, .inl none, .inl none, .inl none, .inl none, .inl none, .inr 0, .inr 0]))))) (fs' := [.inl (some 28), .inl none, .inl none, .inl none, .inl none, .inl none, .inl none, .inl none, .inl none, .inl none, .inr 0, .inr 0]) dX4_init_9 fd4_9 fw4_0 rfl (q_tyA _) rfl (by decide) (by decide) rfl rfl (fun q hq => by simp [quL, hq]) ?_
  refine g_aload_n (i := 0) dX4_init_12 rfl rfl ?_
  refine g_bipush dX4_init_13 (by decide) ?_
  refine g_newI (N := 30) (n' := 30) (k' := 2) (z' := 60) dX4_init_15 h29 rfl rfl (fun j => hc 29 (by decide) j) rfl rfl rfl rfl rfl ?_
  refine g_putP (L' := (quL Lb 27 (.inr (.inr (4, [.inl (some 28), .inl (some 29), .inl none, .inl none, .inl none, .inl none, .inl none, .inl none, .inl none, .inl none, .inr 0, .inr 0]))))) (fs' := [.inl (some 28), .inl (some 29), .inl none, .inl none, .inl none, .inl none, .inl none, .inl none, .inl none, .inl none, .inr 0, .inr 0]) dX4_init_17 fd4_15 fw4_1 rfl (q_tyA _) rfl (by decide) (by decide) rfl rfl (fun q hq => by simp [quL, hq]) ?_
  refine g_aload_n (i := 0) dX4_init_20 rfl rfl ?_
  refine g_bipush dX4_init_21 (by decide) ?_
  refine g_newI (N := 30) (n' := 31) (k' := 3) (z' := 90) dX4_init_23 h30 rfl rfl (fun j => hc 30 (by decide) j) rfl rfl rfl rfl rfl ?_
  refine g_putP (L' := (quL Lb 27 (.inr (.inr (4, [.inl (some 28), .inl (some 29), .inl (some 30), .inl none, .inl none, .inl none, .inl none, .inl none, .inl none, .inl none, .inr 0, .inr 0]))))) (fs' := [.inl (some 28), .inl (some 29), .inl (some 30), .inl none, .inl none, .inl none, .inl none, .inl none, .inl none, .inl none, .inr 0, .inr 0]) dX4_init_25 fd4_18 fw4_2 rfl (q_tyA _) rfl (by decide) (by decide) rfl rfl (fun q hq => by simp [quL, hq]) ?_
  refine g_aload_n (i := 0) dX4_init_28 rfl rfl ?_
  refine g_bipush dX4_init_29 (by decide) ?_
  refine g_newJ (N := 30) (n' := 32) (k' := 4) (z' := 120) dX4_init_31 h31 rfl rfl (fun j => hc 31 (by decide) j) rfl rfl rfl rfl rfl ?_
  refine g_putP (L' := (quL Lb 27 (.inr (.inr (4, [.inl (some 28), .inl (some 29), .inl (some 30), .inl (some 31), .inl none, .inl none, .inl none, .inl none, .inl none, .inl none, .inr 0, .inr 0]))))) (fs' := [.inl (some 28), .inl (some 29), .inl (some 30), .inl (some 31), .inl none, .inl none, .inl none, .inl none, .inl none, .inl none, .inr 0, .inr 0]) dX4_init_33 fd4_21 fw4_3 rfl (q_tyA _) rfl (by decide) (by decide) rfl rfl (fun q hq => by simp [quL, hq]) ?_
  refine g_aload_n (i := 0) dX4_init_36 rfl rfl ?_
  refine g_bipush dX4_init_37 (by decide) ?_
  refine g_newJ (N := 30) (n' := 33) (k' := 5) (z' := 150) dX4_init_39 h32 rfl rfl (fun j => hc 32 (by decide) j) rfl rfl rfl rfl rfl ?_
  refine g_putP (L' := (quL Lb 27 (.inr (.inr (4, [.inl (some 28), .inl (some 29), .inl (some 30), .inl (some 31), .inl (some 32), .inl none, .inl none, .inl none, .inl none, .inl none, .inr 0, .inr 0]))))) (fs' := [.inl (some 28), .inl (some 29), .inl (some 30), .inl (some 31), .inl (some 32), .inl none, .inl none, .inl none, .inl none, .inl none, .inr 0, .inr 0]) dX4_init_41 fd4_25 fw4_4 rfl (q_tyA _) rfl (by decide) (by decide) rfl rfl (fun q hq => by simp [quL, hq]) ?_
  refine g_aload_n (i := 0) dX4_init_44 rfl rfl ?_
  refine g_bipush dX4_init_45 (by decide) ?_
  refine g_newI (N := 30) (n' := 34) (k' := 6) (z' := 180) dX4_init_47 h33 rfl rfl (fun j => hc 33 (by decide) j) rfl rfl rfl rfl rfl ?_
  refine g_putP (L' := (quL Lb 27 (.inr (.inr (4, [.inl (some 28), .inl (some 29), .inl (some 30), .inl (some 31), .inl (some 32), .inl (some 33), .inl none, .inl none, .inl none, .inl none, .inr 0, .inr 0]))))) (fs' := [.inl (some 28), .inl (some 29), .inl (some 30), .inl (some 31), .inl (some 32), .inl (some 33), .inl none, .inl none, .inl none, .inl none, .inr 0, .inr 0]) dX4_init_49 fd4_28 fw4_5 rfl (q_tyA _) rfl (by decide) (by decide) rfl rfl (fun q hq => by simp [quL, hq]) ?_
  refine g_aload_n (i := 0) dX4_init_52 rfl rfl ?_
  refine g_bipush dX4_init_53 (by decide) ?_
  refine g_newI (N := 30) (n' := 35) (k' := 7) (z' := 210) dX4_init_55 h34 rfl rfl (fun j => hc 34 (by decide) j) rfl rfl rfl rfl rfl ?_
  refine g_putP (L' := (quL Lb 27 (.inr (.inr (4, [.inl (some 28), .inl (some 29), .inl (some 30), .inl (some 31), .inl (some 32), .inl (some 33), .inl (some 34), .inl none, .inl none, .inl none, .inr 0, .inr 0]))))) (fs' := [.inl (some 28), .inl (some 29), .inl (some 30), .inl (some 31), .inl (some 32), .inl (some 33), .inl (some 34), .inl none, .inl none, .inl none, .inr 0, .inr 0]) dX4_init_57 fd4_31 fw4_6 rfl (q_tyA _) rfl (by decide) (by decide) rfl rfl (fun q hq => by simp [quL, hq]) ?_
  refine g_aload_n (i := 0) dX4_init_60 rfl rfl ?_
  refine g_bipush dX4_init_61 (by decide) ?_
  refine g_newJ (N := 120) (n' := 36) (k' := 8) (z' := 330) dX4_init_63 h35 rfl rfl (fun j => hc 35 (by decide) j) rfl rfl rfl rfl rfl ?_
  refine g_putP (L' := (quL Lb 27 (.inr (.inr (4, [.inl (some 28), .inl (some 29), .inl (some 30), .inl (some 31), .inl (some 32), .inl (some 33), .inl (some 34), .inl (some 35), .inl none, .inl none, .inr 0, .inr 0]))))) (fs' := [.inl (some 28), .inl (some 29), .inl (some 30), .inl (some 31), .inl (some 32), .inl (some 33), .inl (some 34), .inl (some 35), .inl none, .inl none, .inr 0, .inr 0]) dX4_init_65 fd4_34 fw4_7 rfl (q_tyA _) rfl (by decide) (by decide) rfl rfl (fun q hq => by simp [quL, hq]) ?_
  refine g_aload_n (i := 0) dX4_init_68 rfl rfl ?_
  refine g_sipush dX4_init_69 (by decide) ?_
  refine g_newJ (N := 900) (n' := 37) (k' := 9) (z' := 1230) dX4_init_72 h36 rfl rfl (fun j => hc 36 (by decide) j) rfl rfl rfl rfl rfl ?_
  refine g_putP (L' := (quL Lb 27 (.inr (.inr (4, [.inl (some 28), .inl (some 29), .inl (some 30), .inl (some 31), .inl (some 32), .inl (some 33), .inl (some 34), .inl (some 35), .inl (some 36), .inl none, .inr 0, .inr 0]))))) (fs' := [.inl (some 28), .inl (some 29), .inl (some 30), .inl (some 31), .inl (some 32), .inl (some 33), .inl (some 34), .inl (some 35), .inl (some 36), .inl none, .inr 0, .inr 0]) dX4_init_74 fd4_37 fw4_8 rfl (q_tyA _) rfl (by decide) (by decide) rfl rfl (fun q hq => by simp [quL, hq]) ?_
  refine g_aload_n (i := 0) dX4_init_77 rfl rfl ?_
  refine g_new (N := 2) (n' := 38) (k' := 10) (z' := 1232) dX4_init_78 nw4_40 rfl (fun j => hc 37 (by decide) j) rfl rfl rfl rfl rfl ?_
  refine g_dup dX4_init_81 rfl ?_
  refine g_callD (r := (1, 0, 0)) (k' := 10) (z' := 1232) (b_X2_37 c (quL Lb 27 (.inr (.inr (4, [.inl (some 28), .inl (some 29), .inl (some 30), .inl (some 31), .inl (some 32), .inl (some 33), .inl (some 34), .inl (some 35), .inl (some 36), .inl none, .inr 0, .inr 0])))) h37 (z_mono hc (by decide))) dX4_init_82 ld4_42 ii_X2_init rfl rfl rfl rfl rfl rfl rfl rfl rfl rfl (fun v La na c' hq => ?_)
  obtain ⟨rfl, rfl, rfl, rfl⟩ := hq
  refine g_putP (L' := (quL Lb 27 (.inr (.inr (4, [.inl (some 28), .inl (some 29), .inl (some 30), .inl (some 31), .inl (some 32), .inl (some 33), .inl (some 34), .inl (some 35), .inl (some 36), .inl (some 37), .inr 0, .inr 0]))))) (fs' := [.inl (some 28), .inl (some 29), .inl (some 30), .inl (some 31), .inl (some 32), .inl (some 33), .inl (some 34), .inl (some 35), .inl (some 36), .inl (some 37), .inr 0, .inr 0]) dX4_init_85 fd4_43 fw4_9 rfl (q_tyO _) rfl (by decide) (by decide) rfl rfl (fun q hq => by simp [quL, hq]) ?_
  refine g_aload_n (i := 0) dX4_init_88 rfl rfl ?_
  refine g_iconst dX4_init_89 ?_
  refine g_putI 10 dX4_init_90 fl4_47 fw4_10 rfl (by show 27 < 38; decide) rfl (by decide) rfl ?_
  refine g_aload_n (i := 0) dX4_init_93 rfl rfl ?_
  refine g_iconst dX4_init_94 ?_
  refine g_putI 11 dX4_init_95 fl4_51 fw4_11 rfl (by show 27 < 38; decide) rfl (by decide) rfl ?_
  exact g_retV dX4_init_98 rfl rfl rfl ⟨rfl, (quL_id h27), rfl, rfl⟩
set_option maxHeartbeats 4000000 in
set_option maxRecDepth 100000 in
theorem b_X7 (c : qC) (Lb : Nat → qL) (h0 : Lb 0 = .inr (.inr (7, [.inl (some 1), .inl (some 4), .inl (some 11), .inl (some 18), .inl (some 23), .inl (some 27), .inl (some 38)]))) (h1 : Lb 1 = .inr (.inr (6, [.inl (some 2), .inl (some 3), .inr 0, .inr 0]))) (h2 : Lb 2 = .inl (0, 120)) (h3 : Lb 3 = .inl (0, 2700)) (h4 : Lb 4 = .inr (.inl (2, LAYs))) (h5 : Lb 5 = .inr (.inr (3, [.inl (some 6), .inl (some 7), .inr 0, .inr 0]))) (h6 : Lb 6 = .inl (0, 30)) (h7 : Lb 7 = .inl (0, 30)) (h8 : Lb 8 = .inr (.inr (3, [.inl (some 9), .inl (some 10), .inr 0, .inr 0]))) (h9 : Lb 9 = .inl (0, 30)) (h10 : Lb 10 = .inl (0, 30)) (h11 : Lb 11 = .inr (.inr (5, [.inl (some 12), .inl (some 13), .inl (some 14), .inl (some 15), .inl (some 16), .inl (some 17), .inr 0]))) (h12 : Lb 12 = .inl (0, 30)) (h13 : Lb 13 = .inl (0, 30)) (h14 : Lb 14 = .inl (0, 6)) (h15 : Lb 15 = .inl (0, 24)) (h16 : Lb 16 = .inl (0, 6)) (h17 : Lb 17 = .inl (0, 30)) (h18 : Lb 18 = .inr (.inr (0, [.inl (some 19), .inl (some 20), .inl (some 21), .inl (some 22), .inr 0, .inr 0]))) (h19 : Lb 19 = .inl (0, 30)) (h20 : Lb 20 = .inl (0, 3)) (h21 : Lb 21 = .inl (0, 3)) (h22 : Lb 22 = .inl (0, 90)) (h23 : Lb 23 = .inr (.inr (1, [.inl (some 24), .inl (some 25), .inl (some 26)]))) (h24 : Lb 24 = .inl (0, 30)) (h25 : Lb 25 = .inl (2, 30)) (h26 : Lb 26 = .inl (0, 30)) (h27 : Lb 27 = .inr (.inr (4, [.inl (some 28), .inl (some 29), .inl (some 30), .inl (some 31), .inl (some 32), .inl (some 33), .inl (some 34), .inl (some 35), .inl (some 36), .inl (some 37), .inr 0, .inr 0]))) (h28 : Lb 28 = .inl (0, 30)) (h29 : Lb 29 = .inl (0, 30)) (h30 : Lb 30 = .inl (0, 30)) (h31 : Lb 31 = .inl (1, 30)) (h32 : Lb 32 = .inl (1, 30)) (h33 : Lb 33 = .inl (0, 30)) (h34 : Lb 34 = .inl (0, 30)) (h35 : Lb 35 = .inl (1, 120)) (h36 : Lb 36 = .inl (1, 900)) (h37 : Lb 37 = .inr (.inr (2, [.inr 1, .inr 1]))) (h38 : Lb 38 = .inr (.inr (2, [.inr 1, .inr 1]))) (hc : ∀ q, 1 ≤ q → ∀ j, c q j = 0) : qK X7_init (3, 38, 4558) [qP 0] (quL Lb 0 (.inr (.inr (7, [.inl none, .inl none, .inl none, .inl none, .inl none, .inl none, .inl none])))) 1 c (fun v L n c' => v = none ∧ L = Lb ∧ n = 39 ∧ c' = (qu (qu (qu (qu (qu (qu (qu (qu (qu (qu (qu (qu (qu (qu (qu c 1 2 (2)) 1 3 (0)) 5 2 (0)) 5 3 (-1)) 8 2 (0)) 8 3 (-1)) 11 6 (0)) 18 4 (0)) 18 5 (0)) 37 0 (0)) 37 1 (1)) 27 10 (0)) 27 11 (-1)) 38 0 (0)) 38 1 (1))) := by
  refine qK.of [some (qP 0), none] (by decide) rfl (fun _ => rfl) (fun _ => Nat.le_of_ble_eq_true rfl) ?_
  refine g_aload_n (i := 0) dX7_init_0 rfl rfl ?_
  refine g_oinit dX7_init_1 ob7 rfl rfl ?_
  refine g_aload_n (i := 0) dX7_init_4 rfl rfl ?_
  refine g_new (N := 4) (n' := 2) (k' := 1) (z' := 4) dX7_init_5 nw7_7 rfl (fun j => hc 1 (by decide) j) rfl rfl rfl rfl rfl ?_
  refine g_dup dX7_init_8 rfl ?_
  refine g_callD (r := (1, 2, 2820)) (k' := 3) (z' := 2824) (b_X6 c (quL Lb 0 (.inr (.inr (7, [.inl none, .inl none, .inl none, .inl none, .inl none, .inl none, .inl none])))) h1 h2 h3 (z_mono hc (by decide))) dX7_init_9 ld7_9 ii_X6_init rfl rfl rfl rfl rfl rfl rfl rfl rfl rfl (fun v La na c' hq => ?_)
  obtain ⟨rfl, rfl, rfl, rfl⟩ := hq
  refine g_putP (L' := (quL Lb 0 (.inr (.inr (7, [.inl (some 1), .inl none, .inl none, .inl none, .inl none, .inl none, .inl none]))))) (fs' := [.inl (some 1), .inl none, .inl none, .inl none, .inl none, .inl none, .inl none]) dX7_init_12 fd7_10 fw7_0 rfl (q_tyO _) rfl (by decide) (by decide) rfl rfl (fun q hq => by simp [quL, hq]) ?_
  refine g_aload_n (i := 0) dX7_init_15 rfl rfl ?_
  refine g_iconst dX7_init_16 ?_
  refine g_anew (n' := 5) (k' := 4) (z' := 2826) dX7_init_17 ca7_16 rfl rfl rfl rfl rfl ?_
  refine g_putP (L' := (quL (quL Lb 0 (.inr (.inr (7, [.inl (some 1), .inl (some 4), .inl none, .inl none, .inl none, .inl none, .inl none])))) 4 (.inr (.inl (2, fun _ => none))))) (fs' := [.inl (some 1), .inl (some 4), .inl none, .inl none, .inl none, .inl none, .inl none]) dX7_init_20 fd7_18 fw7_1 rfl (q_tyA _) rfl (by decide) (by decide) rfl rfl (fun q hq => by simp [quL, hq]) ?_
  refine g_iconst dX7_init_23 ?_
  refine g_istore_n1 dX7_init_24 rfl ?_
  refine g_iload_n (i := 1) dX7_init_25 rfl rfl ?_
  refine g_iconst dX7_init_26 ?_
  refine g_icmp_ge 49 dX7_init_27 (by decide) (fun b => absurd b (by decide)) (fun _ => ?_)
  refine g_aload_n (i := 0) dX7_init_30 rfl rfl ?_
  refine g_getP (b := 4) dX7_init_31 fl7_18 (by rfl) (by show 0 < 5; decide) rfl ?_
  refine g_iload_n (i := 1) dX7_init_34 rfl rfl ?_
  refine g_new (N := 4) (n' := 6) (k' := 5) (z' := 2830) dX7_init_35 nw7_16 rfl (fun j => hc 5 (by decide) j) rfl rfl rfl rfl rfl ?_
  refine g_dup dX7_init_38 rfl ?_
  refine g_callD (r := (1, 2, 60)) (k' := 7) (z' := 2890) (b_X3_5 (qu (qu c 1 2 (2)) 1 3 (0)) (quL (quL Lb 0 (.inr (.inr (7, [.inl (some 1), .inl (some 4), .inl none, .inl none, .inl none, .inl none, .inl none])))) 4 (.inr (.inl (2, fun _ => none)))) h5 h6 h7 (qu_z (qu_z (z_mono hc (by decide)) (by decide)) (by decide))) dX7_init_39 ld7_22 ii_X3_init rfl rfl rfl rfl rfl rfl rfl rfl rfl rfl (fun v La na c' hq => ?_)
  obtain ⟨rfl, rfl, rfl, rfl⟩ := hq
  refine g_aast (f' := LAYs1) (L' := (quL (quL Lb 0 (.inr (.inr (7, [.inl (some 1), .inl (some 4), .inl none, .inl none, .inl none, .inl none, .inl none])))) 4 (.inr (.inl (2, LAYs1))))) dX7_init_42 rfl (by decide) h5 (by decide) (by decide) (by decide) (by decide) rfl (by intro j; match j with | 0 => rfl | 1 => rfl | j + 2 => rfl) (fun q hq => by simp [quL, hq]) ?_
  refine g_iinc1 dX7_init_43 rfl ?_
  refine g_goto 25 dX7_init_46 (by decide) ?_
  refine g_iload_n (i := 1) dX7_init_25 rfl rfl ?_
  refine g_iconst dX7_init_26 ?_
  refine g_icmp_ge 49 dX7_init_27 (by decide) (fun b => absurd b (by decide)) (fun _ => ?_)
  refine g_aload_n (i := 0) dX7_init_30 rfl rfl ?_
  refine g_getP (b := 4) dX7_init_31 fl7_18 (by rfl) (by show 0 < 8; decide) rfl ?_
  refine g_iload_n (i := 1) dX7_init_34 rfl rfl ?_
  refine g_new (N := 4) (n' := 9) (k' := 8) (z' := 2894) dX7_init_35 nw7_16 rfl (fun j => hc 8 (by decide) j) rfl rfl rfl rfl rfl ?_
  refine g_dup dX7_init_38 rfl ?_
  refine g_callD (r := (1, 2, 60)) (k' := 10) (z' := 2954) (b_X3_8 (qu (qu (qu (qu c 1 2 (2)) 1 3 (0)) 5 2 (0)) 5 3 (-1)) (quL (quL Lb 0 (.inr (.inr (7, [.inl (some 1), .inl (some 4), .inl none, .inl none, .inl none, .inl none, .inl none])))) 4 (.inr (.inl (2, LAYs1)))) h8 h9 h10 (qu_z (qu_z (qu_z (qu_z (z_mono hc (by decide)) (by decide)) (by decide)) (by decide)) (by decide))) dX7_init_39 ld7_22 ii_X3_init rfl rfl rfl rfl rfl rfl rfl rfl rfl rfl (fun v La na c' hq => ?_)
  obtain ⟨rfl, rfl, rfl, rfl⟩ := hq
  refine g_aast (f' := LAYs) (L' := (quL (quL Lb 0 (.inr (.inr (7, [.inl (some 1), .inl (some 4), .inl none, .inl none, .inl none, .inl none, .inl none])))) 4 (.inr (.inl (2, LAYs))))) dX7_init_42 rfl (by decide) h8 (by decide) (by decide) (by decide) (by decide) rfl (by intro j; match j with | 0 => rfl | 1 => rfl | j + 2 => rfl) (fun q hq => by simp [quL, hq]) ?_
  refine g_iinc1 dX7_init_43 rfl ?_
  refine g_goto 25 dX7_init_46 (by decide) ?_
  refine g_iload_n (i := 1) dX7_init_25 rfl rfl ?_
  refine g_iconst dX7_init_26 ?_
  refine g_icmp_ge 49 dX7_init_27 (by decide) (fun _ => ?_) (fun b => absurd b (by decide))
  refine g_aload_n (i := 0) dX7_init_49 rfl rfl ?_
  refine g_new (N := 7) (n' := 12) (k' := 11) (z' := 2961) dX7_init_50 nw7_23 rfl (fun j => hc 11 (by decide) j) rfl rfl rfl rfl rfl ?_
  refine g_dup dX7_init_53 rfl ?_
  refine g_callD (r := (1, 6, 126)) (k' := 17) (z' := 3087) (b_X5 (qu (qu (qu (qu (qu (qu c 1 2 (2)) 1 3 (0)) 5 2 (0)) 5 3 (-1)) 8 2 (0)) 8 3 (-1)) (quL (quL Lb 0 (.inr (.inr (7, [.inl (some 1), .inl (some 4), .inl none, .inl none, .inl none, .inl none, .inl none])))) 4 (.inr (.inl (2, LAYs)))) h11 h12 h13 h14 h15 h16 h17 (qu_z (qu_z (qu_z (qu_z (qu_z (qu_z (z_mono hc (by decide)) (by decide)) (by decide)) (by decide)) (by decide)) (by decide)) (by decide))) dX7_init_54 ld7_25 ii_X5_init rfl rfl rfl rfl rfl rfl rfl rfl rfl rfl (fun v La na c' hq => ?_)
  obtain ⟨rfl, rfl, rfl, rfl⟩ := hq
  refine g_putP (L' := (quL (quL Lb 0 (.inr (.inr (7, [.inl (some 1), .inl (some 4), .inl (some 11), .inl none, .inl none, .inl none, .inl none])))) 4 (.inr (.inl (2, LAYs))))) (fs' := [.inl (some 1), .inl (some 4), .inl (some 11), .inl none, .inl none, .inl none, .inl none]) dX7_init_57 fd7_26 fw7_2 rfl (q_tyO _) rfl (by decide) (by decide) rfl rfl (fun q hq => by simp [quL, hq]) ?_
  refine g_aload_n (i := 0) dX7_init_60 rfl rfl ?_
  refine g_new (N := 6) (n' := 19) (k' := 18) (z' := 3093) dX7_init_61 nw7_30 rfl (fun j => hc 18 (by decide) j) rfl rfl rfl rfl rfl ?_
  refine g_dup dX7_init_64 rfl ?_
  refine g_callD (r := (1, 4, 126)) (k' := 22) (z' := 3219) (b_X0 (qu (qu (qu (qu (qu (qu (qu c 1 2 (2)) 1 3 (0)) 5 2 (0)) 5 3 (-1)) 8 2 (0)) 8 3 (-1)) 11 6 (0)) (quL (quL Lb 0 (.inr (.inr (7, [.inl (some 1), .inl (some 4), .inl (some 11), .inl none, .inl none, .inl none, .inl none])))) 4 (.inr (.inl (2, LAYs)))) h18 h19 h20 h21 h22 (qu_z (qu_z (qu_z (qu_z (qu_z (qu_z (qu_z (z_mono hc (by decide)) (by decide)) (by decide)) (by decide)) (by decide)) (by decide)) (by decide)) (by decide))) dX7_init_65 ld7_32 ii_X0_init rfl rfl rfl rfl rfl rfl rfl rfl rfl rfl (fun v La na c' hq => ?_)
  obtain ⟨rfl, rfl, rfl, rfl⟩ := hq
  refine g_putP (L' := (quL (quL Lb 0 (.inr (.inr (7, [.inl (some 1), .inl (some 4), .inl (some 11), .inl (some 18), .inl none, .inl none, .inl none])))) 4 (.inr (.inl (2, LAYs))))) (fs' := [.inl (some 1), .inl (some 4), .inl (some 11), .inl (some 18), .inl none, .inl none, .inl none]) dX7_init_68 fd7_33 fw7_3 rfl (q_tyO _) rfl (by decide) (by decide) rfl rfl (fun q hq => by simp [quL, hq]) ?_
  refine g_aload_n (i := 0) dX7_init_71 rfl rfl ?_
  refine g_new (N := 3) (n' := 24) (k' := 23) (z' := 3222) dX7_init_72 nw7_37 rfl (fun j => hc 23 (by decide) j) rfl rfl rfl rfl rfl ?_
  refine g_dup dX7_init_75 rfl ?_
  refine g_callD (r := (1, 3, 90)) (k' := 26) (z' := 3312) (b_X1 (qu (qu (qu (qu (qu (qu (qu (qu (qu c 1 2 (2)) 1 3 (0)) 5 2 (0)) 5 3 (-1)) 8 2 (0)) 8 3 (-1)) 11 6 (0)) 18 4 (0)) 18 5 (0)) (quL (quL Lb 0 (.inr (.inr (7, [.inl (some 1), .inl (some 4), .inl (some 11), .inl (some 18), .inl none, .inl none, .inl none])))) 4 (.inr (.inl (2, LAYs)))) h23 h24 h25 h26 (qu_z (qu_z (qu_z (qu_z (qu_z (qu_z (qu_z (qu_z (qu_z (z_mono hc (by decide)) (by decide)) (by decide)) (by decide)) (by decide)) (by decide)) (by decide)) (by decide)) (by decide)) (by decide))) dX7_init_76 ld7_39 ii_X1_init rfl rfl rfl rfl rfl rfl rfl rfl rfl rfl (fun v La na c' hq => ?_)
  obtain ⟨rfl, rfl, rfl, rfl⟩ := hq
  refine g_putP (L' := (quL (quL Lb 0 (.inr (.inr (7, [.inl (some 1), .inl (some 4), .inl (some 11), .inl (some 18), .inl (some 23), .inl none, .inl none])))) 4 (.inr (.inl (2, LAYs))))) (fs' := [.inl (some 1), .inl (some 4), .inl (some 11), .inl (some 18), .inl (some 23), .inl none, .inl none]) dX7_init_79 fd7_40 fw7_4 rfl (q_tyO _) rfl (by decide) (by decide) rfl rfl (fun q hq => by simp [quL, hq]) ?_
  refine g_aload_n (i := 0) dX7_init_82 rfl rfl ?_
  refine g_new (N := 12) (n' := 28) (k' := 27) (z' := 3324) dX7_init_83 nw7_44 rfl (fun j => hc 27 (by decide) j) rfl rfl rfl rfl rfl ?_
  refine g_dup dX7_init_86 rfl ?_
  refine g_callD (r := (2, 10, 1232)) (k' := 37) (z' := 4556) (b_X4 (qu (qu (qu (qu (qu (qu (qu (qu (qu c 1 2 (2)) 1 3 (0)) 5 2 (0)) 5 3 (-1)) 8 2 (0)) 8 3 (-1)) 11 6 (0)) 18 4 (0)) 18 5 (0)) (quL (quL Lb 0 (.inr (.inr (7, [.inl (some 1), .inl (some 4), .inl (some 11), .inl (some 18), .inl (some 23), .inl none, .inl none])))) 4 (.inr (.inl (2, LAYs)))) h27 h28 h29 h30 h31 h32 h33 h34 h35 h36 h37 (qu_z (qu_z (qu_z (qu_z (qu_z (qu_z (qu_z (qu_z (qu_z (z_mono hc (by decide)) (by decide)) (by decide)) (by decide)) (by decide)) (by decide)) (by decide)) (by decide)) (by decide)) (by decide))) dX7_init_87 ld7_46 ii_X4_init rfl rfl rfl rfl rfl rfl rfl rfl rfl rfl (fun v La na c' hq => ?_)
  obtain ⟨rfl, rfl, rfl, rfl⟩ := hq
  refine g_putP (L' := (quL (quL Lb 0 (.inr (.inr (7, [.inl (some 1), .inl (some 4), .inl (some 11), .inl (some 18), .inl (some 23), .inl (some 27), .inl none])))) 4 (.inr (.inl (2, LAYs))))) (fs' := [.inl (some 1), .inl (some 4), .inl (some 11), .inl (some 18), .inl (some 23), .inl (some 27), .inl none]) dX7_init_90 fd7_47 fw7_5 rfl (q_tyO _) rfl (by decide) (by decide) rfl rfl (fun q hq => by simp [quL, hq]) ?_
  refine g_aload_n (i := 0) dX7_init_93 rfl rfl ?_
  refine g_new (N := 2) (n' := 39) (k' := 38) (z' := 4558) dX7_init_94 nw7_51 rfl (fun j => hc 38 (by decide) j) rfl rfl rfl rfl rfl ?_
  refine g_dup dX7_init_97 rfl ?_
  refine g_callD (r := (1, 0, 0)) (k' := 38) (z' := 4558) (b_X2_38 (qu (qu (qu (qu (qu (qu (qu (qu (qu (qu (qu (qu (qu c 1 2 (2)) 1 3 (0)) 5 2 (0)) 5 3 (-1)) 8 2 (0)) 8 3 (-1)) 11 6 (0)) 18 4 (0)) 18 5 (0)) 37 0 (0)) 37 1 (1)) 27 10 (0)) 27 11 (-1)) (quL (quL Lb 0 (.inr (.inr (7, [.inl (some 1), .inl (some 4), .inl (some 11), .inl (some 18), .inl (some 23), .inl (some 27), .inl none])))) 4 (.inr (.inl (2, LAYs)))) h38 (qu_z (qu_z (qu_z (qu_z (qu_z (qu_z (qu_z (qu_z (qu_z (qu_z (qu_z (qu_z (qu_z (z_mono hc (by decide)) (by decide)) (by decide)) (by decide)) (by decide)) (by decide)) (by decide)) (by decide)) (by decide)) (by decide)) (by decide)) (by decide)) (by decide)) (by decide))) dX7_init_98 ld7_53 ii_X2_init rfl rfl rfl rfl rfl rfl rfl rfl rfl rfl (fun v La na c' hq => ?_)
  obtain ⟨rfl, rfl, rfl, rfl⟩ := hq
  refine g_putP (L' := (quL (quL Lb 0 (.inr (.inr (7, [.inl (some 1), .inl (some 4), .inl (some 11), .inl (some 18), .inl (some 23), .inl (some 27), .inl (some 38)])))) 4 (.inr (.inl (2, LAYs))))) (fs' := [.inl (some 1), .inl (some 4), .inl (some 11), .inl (some 18), .inl (some 23), .inl (some 27), .inl (some 38)]) dX7_init_101 fd7_54 fw7_6 rfl (q_tyO _) rfl (by decide) (by decide) rfl rfl (fun q hq => by simp [quL, hq]) ?_
  exact g_retV dX7_init_104 rfl rfl rfl ⟨rfl, ((congrArg (fun u => quL u 4 _) (quL_id h0)).trans (quL_id h4)), rfl, rfl⟩
set_option maxHeartbeats 4000000 in
set_option maxRecDepth 100000 in
theorem b_X8 (c : qC) (Lb : Nat → qL) (h39 : Lb 39 = .inr (.inr (8, [.inr 0, .inr 0, .inl (some 40), .inl (some 41), .inl (some 42), .inl (some 43), .inr 0, .inl (some 44), .inr 2, .inr 0, .inl (some 45), .inl (some 46), .inl (some 47), .inl (some 48), .inl (some 49), .inl (some 50), .inl (some 51), .inl (some 52), .inl (some 53), .inl (some 54), .inl (some 55), .inl (some 56), .inr 1, .inr 1, .inl (some 57), .inl (some 58), .inl (some 59), .inl (some 60), .inl (some 61)]))) (h40 : Lb 40 = .inl (0, 120)) (h41 : Lb 41 = .inl (2, 2)) (h42 : Lb 42 = .inl (0, 2)) (h43 : Lb 43 = .inl (0, 60)) (h44 : Lb 44 = .inl (0, 3)) (h45 : Lb 45 = .inl (0, 29)) (h46 : Lb 46 = .inl (0, 29)) (h47 : Lb 47 = .inl (0, 29)) (h48 : Lb 48 = .inl (1, 29)) (h49 : Lb 49 = .inl (1, 29)) (h50 : Lb 50 = .inl (0, 900)) (h51 : Lb 51 = .inl (1, 24)) (h52 : Lb 52 = .inl (0, 6)) (h53 : Lb 53 = .inl (0, 30)) (h54 : Lb 54 = .inl (2, 30)) (h55 : Lb 55 = .inl (2, 30)) (h56 : Lb 56 = .inl (0, 30)) (h57 : Lb 57 = .inl (1, 30)) (h58 : Lb 58 = .inl (1, 120)) (h59 : Lb 59 = .inl (1, 900)) (h60 : Lb 60 = .inl (1, 900)) (h61 : Lb 61 = .inl (1, 900)) (hc : ∀ q, 40 ≤ q → ∀ j, c q j = 0) : qK X8_init (1, 22, 4232) [qP 39] (quL Lb 39 (.inr (.inr (8, [.inr 0, .inr 0, .inl none, .inl none, .inl none, .inl none, .inr 0, .inl none, .inr 2, .inr 0, .inl none, .inl none, .inl none, .inl none, .inl none, .inl none, .inl none, .inl none, .inl none, .inl none, .inl none, .inl none, .inr 1, .inr 1, .inl none, .inl none, .inl none, .inl none, .inl none])))) 40 c (fun v L n c' => v = none ∧ L = Lb ∧ n = 62 ∧ c' = (qu c 39 1 (2))) := by
  refine qK.of [some (qP 39)] (by decide) rfl (fun _ => rfl) (fun _ => Nat.le_of_ble_eq_true rfl) ?_
  refine g_aload_n (i := 0) dX8_init_0 rfl rfl ?_
  refine g_oinit dX8_init_1 ob8 rfl rfl ?_
  refine g_aload_n (i := 0) dX8_init_4 rfl rfl ?_
  refine g_iconst dX8_init_5 ?_
  refine g_putI 1 dX8_init_6 fl8_7 fw8_1 rfl (by show 39 < 40; decide) rfl (by decide) rfl ?_
  refine g_aload_n (i := 0) dX8_init_9 rfl rfl ?_
  refine g_bipush dX8_init_10 (by decide) ?_
  refine g_newI (N := 120) (n' := 41) (k' := 1) (z' := 120) dX8_init_12 h40 rfl rfl (fun j => hc 40 (by decide) j) rfl rfl rfl rfl rfl ?_
  refine g_putP (L' := (quL Lb 39 (.inr (.inr (8, [.inr 0, .inr 0, .inl (some 40), .inl none, .inl none, .inl none, .inr 0, .inl none, .inr 2, .inr 0, .inl none, .inl none, .inl none, .inl none, .inl none, .inl none, .inl none, .inl none, .inl none, .inl none, .inl none, .inl none, .inr 1, .inr 1, .inl none, .inl none, .inl none, .inl none, .inl none]))))) (fs' := [.inr 0, .inr 0, .inl (some 40), .inl none, .inl none, .inl none, .inr 0, .inl none, .inr 2, .inr 0, .inl none, .inl none, .inl none, .inl none, .inl none, .inl none, .inl none, .inl none, .inl none, .inl none, .inl none, .inl none, .inr 1, .inr 1, .inl none, .inl none, .inl none, .inl none, .inl none]) dX8_init_14 fd8_13 fw8_2 rfl (q_tyA _) rfl (by decide) (by decide) rfl rfl (fun q hq => by simp [quL, hq]) ?_
  refine g_aload_n (i := 0) dX8_init_17 rfl rfl ?_
  refine g_iconst dX8_init_18 ?_
  refine g_newZ (N := 2) (n' := 42) (k' := 2) (z' := 122) dX8_init_19 h41 rfl rfl (fun j => hc 41 (by decide) j) rfl rfl rfl rfl rfl ?_
  refine g_putP (L' := (quL Lb 39 (.inr (.inr (8, [.inr 0, .inr 0, .inl (some 40), .inl (some 41), .inl none, .inl none, .inr 0, .inl none, .inr 2, .inr 0, .inl none, .inl none, .inl none, .inl none, .inl none, .inl none, .inl none, .inl none, .inl none, .inl none, .inl none, .inl none, .inr 1, .inr 1, .inl none, .inl none, .inl none, .inl none, .inl none]))))) (fs' := [.inr 0, .inr 0, .inl (some 40), .inl (some 41), .inl none, .inl none, .inr 0, .inl none, .inr 2, .inr 0, .inl none, .inl none, .inl none, .inl none, .inl none, .inl none, .inl none, .inl none, .inl none, .inl none, .inl none, .inl none, .inr 1, .inr 1, .inl none, .inl none, .inl none, .inl none, .inl none]) dX8_init_21 fd8_17 fw8_3 rfl (q_tyA _) rfl (by decide) (by decide) rfl rfl (fun q hq => by simp [quL, hq]) ?_
  refine g_aload_n (i := 0) dX8_init_24 rfl rfl ?_
  refine g_iconst dX8_init_25 ?_
  refine g_newI (N := 2) (n' := 43) (k' := 3) (z' := 124) dX8_init_26 h42 rfl rfl (fun j => hc 42 (by decide) j) rfl rfl rfl rfl rfl ?_
  refine g_putP (L' := (quL Lb 39 (.inr (.inr (8, [.inr 0, .inr 0, .inl (some 40), .inl (some 41), .inl (some 42), .inl none, .inr 0, .inl none, .inr 2, .inr 0, .inl none, .inl none, .inl none, .inl none, .inl none, .inl none, .inl none, .inl none, .inl none, .inl none, .inl none, .inl none, .inr 1, .inr 1, .inl none, .inl none, .inl none, .inl none, .inl none]))))) (fs' := [.inr 0, .inr 0, .inl (some 40), .inl (some 41), .inl (some 42), .inl none, .inr 0, .inl none, .inr 2, .inr 0, .inl none, .inl none, .inl none, .inl none, .inl none, .inl none, .inl none, .inl none, .inl none, .inl none, .inl none, .inl none, .inr 1, .inr 1, .inl none, .inl none, .inl none, .inl none, .inl none]) dX8_init_28 fd8_21 fw8_4 rfl (q_tyA _) rfl (by decide) (by decide) rfl rfl (fun q hq => by simp [quL, hq]) ?_
  refine g_aload_n (i := 0) dX8_init_31 rfl rfl ?_
  refine g_bipush dX8_init_32 (by decide) ?_
  refine g_newI (N := 60) (n' := 44) (k' := 4) (z' := 184) dX8_init_34 h43 rfl rfl (fun j => hc 43 (by decide) j) rfl rfl rfl rfl rfl ?_
  refine g_putP (L' := (quL Lb 39 (.inr (.inr (8, [.inr 0, .inr 0, .inl (some 40), .inl (some 41), .inl (some 42), .inl (some 43), .inr 0, .inl none, .inr 2, .inr 0, .inl none, .inl none, .inl none, .inl none, .inl none, .inl none, .inl none, .inl none, .inl none, .inl none, .inl none, .inl none, .inr 1, .inr 1, .inl none, .inl none, .inl none, .inl none, .inl none]))))) (fs' := [.inr 0, .inr 0, .inl (some 40), .inl (some 41), .inl (some 42), .inl (some 43), .inr 0, .inl none, .inr 2, .inr 0, .inl none, .inl none, .inl none, .inl none, .inl none, .inl none, .inl none, .inl none, .inl none, .inl none, .inl none, .inl none, .inr 1, .inr 1, .inl none, .inl none, .inl none, .inl none, .inl none]) dX8_init_36 fd8_24 fw8_5 rfl (q_tyA _) rfl (by decide) (by decide) rfl rfl (fun q hq => by simp [quL, hq]) ?_
  refine g_aload_n (i := 0) dX8_init_39 rfl rfl ?_
  refine g_iconst dX8_init_40 ?_
  refine g_newI (N := 3) (n' := 45) (k' := 5) (z' := 187) dX8_init_41 h44 rfl rfl (fun j => hc 44 (by decide) j) rfl rfl rfl rfl rfl ?_
  refine g_putP (L' := (quL Lb 39 (.inr (.inr (8, [.inr 0, .inr 0, .inl (some 40), .inl (some 41), .inl (some 42), .inl (some 43), .inr 0, .inl (some 44), .inr 2, .inr 0, .inl none, .inl none, .inl none, .inl none, .inl none, .inl none, .inl none, .inl none, .inl none, .inl none, .inl none, .inl none, .inr 1, .inr 1, .inl none, .inl none, .inl none, .inl none, .inl none]))))) (fs' := [.inr 0, .inr 0, .inl (some 40), .inl (some 41), .inl (some 42), .inl (some 43), .inr 0, .inl (some 44), .inr 2, .inr 0, .inl none, .inl none, .inl none, .inl none, .inl none, .inl none, .inl none, .inl none, .inl none, .inl none, .inl none, .inl none, .inr 1, .inr 1, .inl none, .inl none, .inl none, .inl none, .inl none]) dX8_init_43 fd8_27 fw8_7 rfl (q_tyA _) rfl (by decide) (by decide) rfl rfl (fun q hq => by simp [quL, hq]) ?_
  refine g_aload_n (i := 0) dX8_init_46 rfl rfl ?_
  refine g_bipush dX8_init_47 (by decide) ?_
  refine g_newI (N := 29) (n' := 46) (k' := 6) (z' := 216) dX8_init_49 h45 rfl rfl (fun j => hc 45 (by decide) j) rfl rfl rfl rfl rfl ?_
  refine g_putP (L' := (quL Lb 39 (.inr (.inr (8, [.inr 0, .inr 0, .inl (some 40), .inl (some 41), .inl (some 42), .inl (some 43), .inr 0, .inl (some 44), .inr 2, .inr 0, .inl (some 45), .inl none, .inl none, .inl none, .inl none, .inl none, .inl none, .inl none, .inl none, .inl none, .inl none, .inl none, .inr 1, .inr 1, .inl none, .inl none, .inl none, .inl none, .inl none]))))) (fs' := [.inr 0, .inr 0, .inl (some 40), .inl (some 41), .inl (some 42), .inl (some 43), .inr 0, .inl (some 44), .inr 2, .inr 0, .inl (some 45), .inl none, .inl none, .inl none, .inl none, .inl none, .inl none, .inl none, .inl none, .inl none, .inl none, .inl none, .inr 1, .inr 1, .inl none, .inl none, .inl none, .inl none, .inl none]) dX8_init_51 fd8_30 fw8_10 rfl (q_tyA _) rfl (by decide) (by decide) rfl rfl (fun q hq => by simp [quL, hq]) ?_
  refine g_aload_n (i := 0) dX8_init_54 rfl rfl ?_
  refine g_bipush dX8_init_55 (by decide) ?_
  refine g_newI (N := 29) (n' := 47) (k' := 7) (z' := 245) dX8_init_57 h46 rfl rfl (fun j => hc 46 (by decide) j) rfl rfl rfl rfl rfl ?_
  refine g_putP (L' := (quL Lb 39 (.inr (.inr (8, [.inr 0, .inr 0, .inl (some 40), .inl (some 41), .inl (some 42), .inl (some 43), .inr 0, .inl (some 44), .inr 2, .inr 0, .inl (some 45), .inl (some 46), .inl none, .inl none, .inl none, .inl none, .inl none, .inl none, .inl none, .inl none, .inl none, .inl none, .inr 1, .inr 1, .inl none, .inl none, .inl none, .inl none, .inl none]))))) (fs' := [.inr 0, .inr 0, .inl (some 40), .inl (some 41), .inl (some 42), .inl (some 43), .inr 0, .inl (some 44), .inr 2, .inr 0, .inl (some 45), .inl (some 46), .inl none, .inl none, .inl none, .inl none, .inl none, .inl none, .inl none, .inl none, .inl none, .inl none, .inr 1, .inr 1, .inl none, .inl none, .inl none, .inl none, .inl none]) dX8_init_59 fd8_33 fw8_11 rfl (q_tyA _) rfl (by decide) (by decide) rfl rfl (fun q hq => by simp [quL, hq]) ?_
  refine g_aload_n (i := 0) dX8_init_62 rfl rfl ?_
  refine g_bipush dX8_init_63 (by decide) ?_
  refine g_newI (N := 29) (n' := 48) (k' := 8) (z' := 274) dX8_init_65 h47 rfl rfl (fun j => hc 47 (by decide) j) rfl rfl rfl rfl rfl ?_
  refine g_putP (L' := (quL Lb 39 (.inr (.inr (8, [.inr 0, .inr 0, .inl (some 40), .inl (some 41), .inl (some 42), .inl (some 43), .inr 0, .inl (some 44), .inr 2, .inr 0, .inl (some 45), .inl (some 46), .inl (some 47), .inl none, .inl none, .inl none, .inl none, .inl none, .inl none, .inl none, .inl none, .inl none, .inr 1, .inr 1, .inl none, .inl none, .inl none, .inl none, .inl none]))))) (fs' := [.inr 0, .inr 0, .inl (some 40), .inl (some 41), .inl (some 42), .inl (some 43), .inr 0, .inl (some 44), .inr 2, .inr 0, .inl (some 45), .inl (some 46), .inl (some 47), .inl none, .inl none, .inl none, .inl none, .inl none, .inl none, .inl none, .inl none, .inl none, .inr 1, .inr 1, .inl none, .inl none, .inl none, .inl none, .inl none]) dX8_init_67 fd8_36 fw8_12 rfl (q_tyA _) rfl (by decide) (by decide) rfl rfl (fun q hq => by simp [quL, hq]) ?_
  refine g_aload_n (i := 0) dX8_init_70 rfl rfl ?_
  refine g_bipush dX8_init_71 (by decide) ?_
  refine g_newJ (N := 29) (n' := 49) (k' := 9) (z' := 303) dX8_init_73 h48 rfl rfl (fun j => hc 48 (by decide) j) rfl rfl rfl rfl rfl ?_
  refine g_putP (L' := (quL Lb 39 (.inr (.inr (8, [.inr 0, .inr 0, .inl (some 40), .inl (some 41), .inl (some 42), .inl (some 43), .inr 0, .inl (some 44), .inr 2, .inr 0, .inl (some 45), .inl (some 46), .inl (some 47), .inl (some 48), .inl none, .inl none, .inl none, .inl none, .inl none, .inl none, .inl none, .inl none, .inr 1, .inr 1, .inl none, .inl none, .inl none, .inl none, .inl none]))))) (fs' := [.inr 0, .inr 0, .inl (some 40), .inl (some 41), .inl (some 42), .inl (some 43), .inr 0, .inl (some 44), .inr 2, .inr 0, .inl (some 45), .inl (some 46), .inl (some 47), .inl (some 48), .inl none, .inl none, .inl none, .inl none, .inl none, .inl none, .inl none, .inl none, .inr 1, .inr 1, .inl none, .inl none, .inl none, .inl none, .inl none]) dX8_init_75 fd8_39 fw8_13 rfl (q_tyA _) rfl (by decide) (by decide) rfl rfl (fun q hq => by simp [quL, hq]) ?_
  refine g_aload_n (i := 0) dX8_init_78 rfl rfl ?_
  refine g_bipush dX8_init_79 (by decide) ?_
  refine g_newJ (N := 29) (n' := 50) (k' := 10) (z' := 332) dX8_init_81 h49 rfl rfl (fun j => hc 49 (by decide) j) rfl rfl rfl rfl rfl ?_
  refine g_putP (L' := (quL Lb 39 (.inr (.inr (8, [.inr 0, .inr 0, .inl (some 40), .inl (some 41), .inl (some 42), .inl (some 43), .inr 0, .inl (some 44), .inr 2, .inr 0, .inl (some 45), .inl (some 46), .inl (some 47), .inl (some 48), .inl (some 49), .inl none, .inl none, .inl none, .inl none, .inl none, .inl none, .inl none, .inr 1, .inr 1, .inl none, .inl none, .inl none, .inl none, .inl none]))))) (fs' := [.inr 0, .inr 0, .inl (some 40), .inl (some 41), .inl (some 42), .inl (some 43), .inr 0, .inl (some 44), .inr 2, .inr 0, .inl (some 45), .inl (some 46), .inl (some 47), .inl (some 48), .inl (some 49), .inl none, .inl none, .inl none, .inl none, .inl none, .inl none, .inl none, .inr 1, .inr 1, .inl none, .inl none, .inl none, .inl none, .inl none]) dX8_init_83 fd8_43 fw8_14 rfl (q_tyA _) rfl (by decide) (by decide) rfl rfl (fun q hq => by simp [quL, hq]) ?_
  refine g_aload_n (i := 0) dX8_init_86 rfl rfl ?_
  refine g_sipush dX8_init_87 (by decide) ?_
  refine g_newI (N := 900) (n' := 51) (k' := 11) (z' := 1232) dX8_init_90 h50 rfl rfl (fun j => hc 50 (by decide) j) rfl rfl rfl rfl rfl ?_
  refine g_putP (L' := (quL Lb 39 (.inr (.inr (8, [.inr 0, .inr 0, .inl (some 40), .inl (some 41), .inl (some 42), .inl (some 43), .inr 0, .inl (some 44), .inr 2, .inr 0, .inl (some 45), .inl (some 46), .inl (some 47), .inl (some 48), .inl (some 49), .inl (some 50), .inl none, .inl none, .inl none, .inl none, .inl none, .inl none, .inr 1, .inr 1, .inl none, .inl none, .inl none, .inl none, .inl none]))))) (fs' := [.inr 0, .inr 0, .inl (some 40), .inl (some 41), .inl (some 42), .inl (some 43), .inr 0, .inl (some 44), .inr 2, .inr 0, .inl (some 45), .inl (some 46), .inl (some 47), .inl (some 48), .inl (some 49), .inl (some 50), .inl none, .inl none, .inl none, .inl none, .inl none, .inl none, .inr 1, .inr 1, .inl none, .inl none, .inl none, .inl none, .inl none]) dX8_init_92 fd8_46 fw8_15 rfl (q_tyA _) rfl (by decide) (by decide) rfl rfl (fun q hq => by simp [quL, hq]) ?_
  refine g_aload_n (i := 0) dX8_init_95 rfl rfl ?_
  refine g_bipush dX8_init_96 (by decide) ?_
  refine g_newJ (N := 24) (n' := 52) (k' := 12) (z' := 1256) dX8_init_98 h51 rfl rfl (fun j => hc 51 (by decide) j) rfl rfl rfl rfl rfl ?_
  refine g_putP (L' := (quL Lb 39 (.inr (.inr (8, [.inr 0, .inr 0, .inl (some 40), .inl (some 41), .inl (some 42), .inl (some 43), .inr 0, .inl (some 44), .inr 2, .inr 0, .inl (some 45), .inl (some 46), .inl (some 47), .inl (some 48), .inl (some 49), .inl (some 50), .inl (some 51), .inl none, .inl none, .inl none, .inl none, .inl none, .inr 1, .inr 1, .inl none, .inl none, .inl none, .inl none, .inl none]))))) (fs' := [.inr 0, .inr 0, .inl (some 40), .inl (some 41), .inl (some 42), .inl (some 43), .inr 0, .inl (some 44), .inr 2, .inr 0, .inl (some 45), .inl (some 46), .inl (some 47), .inl (some 48), .inl (some 49), .inl (some 50), .inl (some 51), .inl none, .inl none, .inl none, .inl none, .inl none, .inr 1, .inr 1, .inl none, .inl none, .inl none, .inl none, .inl none]) dX8_init_100 fd8_49 fw8_16 rfl (q_tyA _) rfl (by decide) (by decide) rfl rfl (fun q hq => by simp [quL, hq]) ?_
  refine g_aload_n (i := 0) dX8_init_103 rfl rfl ?_
  refine g_bipush dX8_init_104 (by decide) ?_
  refine g_newI (N := 6) (n' := 53) (k' := 13) (z' := 1262) dX8_init_106 h52 rfl rfl (fun j => hc 52 (by decide) j) rfl rfl rfl rfl rfl ?_
  refine g_putP (L' := (quL Lb 39 (.inr (.inr (8, [.inr 0, .inr 0, .inl (some 40), .inl (some 41), .inl (some 42), .inl (some 43), .inr 0, .inl (some 44), .inr 2, .inr 0, .inl (some 45), .inl (some 46), .inl (some 47), .inl (some 48), .inl (some 49), .inl (some 50), .inl (some 51), .inl (some 52), .inl none, .inl none, .inl none, .inl none, .inr 1, .inr 1, .inl none, .inl none, .inl none, .inl none, .inl none]))))) (fs' := [.inr 0, .inr 0, .inl (some 40), .inl (some 41), .inl (some 42), .inl (some 43), .inr 0, .inl (some 44), .inr 2, .inr 0, .inl (some 45), .inl (some 46), .inl (some 47), .inl (some 48), .inl (some 49), .inl (some 50), .inl (some 51), .inl (some 52), .inl none, .inl none, .inl none, .inl none, .inr 1, .inr 1, .inl none, .inl none, .inl none, .inl none, .inl none]) dX8_init_108 fd8_52 fw8_17 rfl (q_tyA _) rfl (by decide) (by decide) rfl rfl (fun q hq => by simp [quL, hq]) ?_
  refine g_aload_n (i := 0) dX8_init_111 rfl rfl ?_
  refine g_bipush dX8_init_112 (by decide) ?_
  refine g_newI (N := 30) (n' := 54) (k' := 14) (z' := 1292) dX8_init_114 h53 rfl rfl (fun j => hc 53 (by decide) j) rfl rfl rfl rfl rfl ?_
  refine g_putP (L' := (quL Lb 39 (.inr (.inr (8, [.inr 0, .inr 0, .inl (some 40), .inl (some 41), .inl (some 42), .inl (some 43), .inr 0, .inl (some 44), .inr 2, .inr 0, .inl (some 45), .inl (some 46), .inl (some 47), .inl (some 48), .inl (some 49), .inl (some 50), .inl (some 51), .inl (some 52), .inl (some 53), .inl none, .inl none, .inl none, .inr 1, .inr 1, .inl none, .inl none, .inl none, .inl none, .inl none]))))) (fs' := [.inr 0, .inr 0, .inl (some 40), .inl (some 41), .inl (some 42), .inl (some 43), .inr 0, .inl (some 44), .inr 2, .inr 0, .inl (some 45), .inl (some 46), .inl (some 47), .inl (some 48), .inl (some 49), .inl (some 50), .inl (some 51), .inl (some 52), .inl (some 53), .inl none, .inl none, .inl none, .inr 1, .inr 1, .inl none, .inl none, .inl none, .inl none, .inl none]) dX8_init_116 fd8_55 fw8_18 rfl (q_tyA _) rfl (by decide) (by decide) rfl rfl (fun q hq => by simp [quL, hq]) ?_
  refine g_aload_n (i := 0) dX8_init_119 rfl rfl ?_
  refine g_bipush dX8_init_120 (by decide) ?_
  refine g_newZ (N := 30) (n' := 55) (k' := 15) (z' := 1322) dX8_init_122 h54 rfl rfl (fun j => hc 54 (by decide) j) rfl rfl rfl rfl rfl ?_
  refine g_putP (L' := (quL Lb 39 (.inr (.inr (8, [.inr 0, .inr 0, .inl (some 40), .inl (some 41), .inl (some 42), .inl (some 43), .inr 0, .inl (some 44), .inr 2, .inr 0, .inl (some 45), .inl (some 46), .inl (some 47), .inl (some 48), .inl (some 49), .inl (some 50), .inl (some 51), .inl (some 52), .inl (some 53), .inl (some 54), .inl none, .inl none, .inr 1, .inr 1, .inl none, .inl none, .inl none, .inl none, .inl none]))))) (fs' := [.inr 0, .inr 0, .inl (some 40), .inl (some 41), .inl (some 42), .inl (some 43), .inr 0, .inl (some 44), .inr 2, .inr 0, .inl (some 45), .inl (some 46), .inl (some 47), .inl (some 48), .inl (some 49), .inl (some 50), .inl (some 51), .inl (some 52), .inl (some 53), .inl (some 54), .inl none, .inl none, .inr 1, .inr 1, .inl none, .inl none, .inl none, .inl none, .inl none]) dX8_init_124 fd8_58 fw8_19 rfl (q_tyA _) rfl (by decide) (by decide) rfl rfl (fun q hq => by simp [quL, hq]) ?_
  refine g_aload_n (i := 0) dX8_init_127 rfl rfl ?_
  refine g_bipush dX8_init_128 (by decide) ?_
  refine g_newZ (N := 30) (n' := 56) (k' := 16) (z' := 1352) dX8_init_130 h55 rfl rfl (fun j => hc 55 (by decide) j) rfl rfl rfl rfl rfl ?_
  refine g_putP (L' := (quL Lb 39 (.inr (.inr (8, [.inr 0, .inr 0, .inl (some 40), .inl (some 41), .inl (some 42), .inl (some 43), .inr 0, .inl (some 44), .inr 2, .inr 0, .inl (some 45), .inl (some 46), .inl (some 47), .inl (some 48), .inl (some 49), .inl (some 50), .inl (some 51), .inl (some 52), .inl (some 53), .inl (some 54), .inl (some 55), .inl none, .inr 1, .inr 1, .inl none, .inl none, .inl none, .inl none, .inl none]))))) (fs' := [.inr 0, .inr 0, .inl (some 40), .inl (some 41), .inl (some 42), .inl (some 43), .inr 0, .inl (some 44), .inr 2, .inr 0, .inl (some 45), .inl (some 46), .inl (some 47), .inl (some 48), .inl (some 49), .inl (some 50), .inl (some 51), .inl (some 52), .inl (some 53), .inl (some 54), .inl (some 55), .inl none, .inr 1, .inr 1, .inl none, .inl none, .inl none, .inl none, .inl none]) dX8_init_132 fd8_61 fw8_20 rfl (q_tyA _) rfl (by decide) (by decide) rfl rfl (fun q hq => by simp [quL, hq]) ?_
  refine g_aload_n (i := 0) dX8_init_135 rfl rfl ?_
  refine g_bipush dX8_init_136 (by decide) ?_
  refine g_newI (N := 30) (n' := 57) (k' := 17) (z' := 1382) dX8_init_138 h56 rfl rfl (fun j => hc 56 (by decide) j) rfl rfl rfl rfl rfl ?_
  refine g_putP (L' := (quL Lb 39 (.inr (.inr (8, [.inr 0, .inr 0, .inl (some 40), .inl (some 41), .inl (some 42), .inl (some 43), .inr 0, .inl (some 44), .inr 2, .inr 0, .inl (some 45), .inl (some 46), .inl (some 47), .inl (some 48), .inl (some 49), .inl (some 50), .inl (some 51), .inl (some 52), .inl (some 53), .inl (some 54), .inl (some 55), .inl (some 56), .inr 1, .inr 1, .inl none, .inl none, .inl none, .inl none, .inl none]))))) (fs' := [.inr 0, .inr 0, .inl (some 40), .inl (some 41), .inl (some 42), .inl (some 43), .inr 0, .inl (some 44), .inr 2, .inr 0, .inl (some 45), .inl (some 46), .inl (some 47), .inl (some 48), .inl (some 49), .inl (some 50), .inl (some 51), .inl (some 52), .inl (some 53), .inl (some 54), .inl (some 55), .inl (some 56), .inr 1, .inr 1, .inl none, .inl none, .inl none, .inl none, .inl none]) dX8_init_140 fd8_64 fw8_21 rfl (q_tyA _) rfl (by decide) (by decide) rfl rfl (fun q hq => by simp [quL, hq]) ?_
  refine g_aload_n (i := 0) dX8_init_143 rfl rfl ?_
  refine g_bipush dX8_init_144 (by decide) ?_
  refine g_newJ (N := 30) (n' := 58) (k' := 18) (z' := 1412) dX8_init_146 h57 rfl rfl (fun j => hc 57 (by decide) j) rfl rfl rfl rfl rfl ?_
  refine g_putP (L' := (quL Lb 39 (.inr (.inr (8, [.inr 0, .inr 0, .inl (some 40), .inl (some 41), .inl (some 42), .inl (some 43), .inr 0, .inl (some 44), .inr 2, .inr 0, .inl (some 45), .inl (some 46), .inl (some 47), .inl (some 48), .inl (some 49), .inl (some 50), .inl (some 51), .inl (some 52), .inl (some 53), .inl (some 54), .inl (some 55), .inl (some 56), .inr 1, .inr 1, .inl (some 57), .inl none, .inl none, .inl none, .inl none]))))) (fs' := [.inr 0, .inr 0, .inl (some 40), .inl (some 41), .inl (some 42), .inl (some 43), .inr 0, .inl (some 44), .inr 2, .inr 0, .inl (some 45), .inl (some 46), .inl (some 47), .inl (some 48), .inl (some 49), .inl (some 50), .inl (some 51), .inl (some 52), .inl (some 53), .inl (some 54), .inl (some 55), .inl (some 56), .inr 1, .inr 1, .inl (some 57), .inl none, .inl none, .inl none, .inl none]) dX8_init_148 fd8_67 fw8_24 rfl (q_tyA _) rfl (by decide) (by decide) rfl rfl (fun q hq => by simp [quL, hq]) ?_
  refine g_aload_n (i := 0) dX8_init_151 rfl rfl ?_
  refine g_bipush dX8_init_152 (by decide) ?_
  refine g_newJ (N := 120) (n' := 59) (k' := 19) (z' := 1532) dX8_init_154 h58 rfl rfl (fun j => hc 58 (by decide) j) rfl rfl rfl rfl rfl ?_
  refine g_putP (L' := (quL Lb 39 (.inr (.inr (8, [.inr 0, .inr 0, .inl (some 40), .inl (some 41), .inl (some 42), .inl (some 43), .inr 0, .inl (some 44), .inr 2, .inr 0, .inl (some 45), .inl (some 46), .inl (some 47), .inl (some 48), .inl (some 49), .inl (some 50), .inl (some 51), .inl (some 52), .inl (some 53), .inl (some 54), .inl (some 55), .inl (some 56), .inr 1, .inr 1, .inl (some 57), .inl (some 58), .inl none, .inl none, .inl none]))))) (fs' := [.inr 0, .inr 0, .inl (some 40), .inl (some 41), .inl (some 42), .inl (some 43), .inr 0, .inl (some 44), .inr 2, .inr 0, .inl (some 45), .inl (some 46), .inl (some 47), .inl (some 48), .inl (some 49), .inl (some 50), .inl (some 51), .inl (some 52), .inl (some 53), .inl (some 54), .inl (some 55), .inl (some 56), .inr 1, .inr 1, .inl (some 57), .inl (some 58), .inl none, .inl none, .inl none]) dX8_init_156 fd8_70 fw8_25 rfl (q_tyA _) rfl (by decide) (by decide) rfl rfl (fun q hq => by simp [quL, hq]) ?_
  refine g_aload_n (i := 0) dX8_init_159 rfl rfl ?_
  refine g_sipush dX8_init_160 (by decide) ?_
  refine g_newJ (N := 900) (n' := 60) (k' := 20) (z' := 2432) dX8_init_163 h59 rfl rfl (fun j => hc 59 (by decide) j) rfl rfl rfl rfl rfl ?_
  refine g_putP (L' := (quL Lb 39 (.inr (.inr (8, [.inr 0, .inr 0, .inl (some 40), .inl (some 41), .inl (some 42), .inl (some 43), .inr 0, .inl (some 44), .inr 2, .inr 0, .inl (some 45), .inl (some 46), .inl (some 47), .inl (some 48), .inl (some 49), .inl (some 50), .inl (some 51), .inl (some 52), .inl (some 53), .inl (some 54), .inl (some 55), .inl (some 56), .inr 1, .inr 1, .inl (some 57), .inl (some 58), .inl (some 59), .inl none, .inl none]))))) (fs' := [.inr 0, .inr 0, .inl (some 40), .inl (some 41), .inl (some 42), .inl (some 43), .inr 0, .inl (some 44), .inr 2, .inr 0, .inl (some 45), .inl (some 46), .inl (some 47), .inl (some 48), .inl (some 49), .inl (some 50), .inl (some 51), .inl (some 52), .inl (some 53), .inl (some 54), .inl (some 55), .inl (some 56), .inr 1, .inr 1, .inl (some 57), .inl (some 58), .inl (some 59), .inl none, .inl none]) dX8_init_165 fd8_73 fw8_26 rfl (q_tyA _) rfl (by decide) (by decide) rfl rfl (fun q hq => by simp [quL, hq]) ?_
  refine g_aload_n (i := 0) dX8_init_168 rfl rfl ?_
  refine g_sipush dX8_init_169 (by decide) ?_
  refine g_newJ (N := 900) (n' := 61) (k' := 21) (z' := 3332) dX8_init_172 h60 rfl rfl (fun j => hc 60 (by decide) j) rfl rfl rfl rfl rfl ?_
  refine g_putP (L' := (quL Lb 39 (.inr (.inr (8, [.inr 0, .inr 0, .inl (some 40), .inl (some 41), .inl (some 42), .inl (some 43), .inr 0, .inl (some 44), .inr 2, .inr 0, .inl (some 45), .inl (some 46), .inl (some 47), .inl (some 48), .inl (some 49), .inl (some 50), .inl (some 51), .inl (some 52), .inl (some 53), .inl (some 54), .inl (some 55), .inl (some 56), .inr 1, .inr 1, .inl (some 57), .inl (some 58), .inl (some 59), .inl (some 60), .inl none]))))) (fs' := [.inr 0, .inr 0, .inl (some 40), .inl (some 41), .inl (some 42), .inl (some 43), .inr 0, .inl (some 44), .inr 2, .inr 0, .inl (some 45), .inl (some 46), .inl (some 47), .inl (some 48), .inl (some 49), .inl (some 50), .inl (some 51), .inl (some 52), .inl (some 53), .inl (some 54), .inl (some 55), .inl (some 56), .inr 1, .inr 1, .inl (some 57), .inl (some 58), .inl (some 59), .inl (some 60), .inl none]) dX8_init_174 fd8_76 fw8_27 rfl (q_tyA _) rfl (by decide) (by decide) rfl rfl (fun q hq => by simp [quL, hq]) ?_
  refine g_aload_n (i := 0) dX8_init_177 rfl rfl ?_
  refine g_sipush dX8_init_178 (by decide) ?_
  refine g_newJ (N := 900) (n' := 62) (k' := 22) (z' := 4232) dX8_init_181 h61 rfl rfl (fun j => hc 61 (by decide) j) rfl rfl rfl rfl rfl ?_
  refine g_putP (L' := (quL Lb 39 (.inr (.inr (8, [.inr 0, .inr 0, .inl (some 40), .inl (some 41), .inl (some 42), .inl (some 43), .inr 0, .inl (some 44), .inr 2, .inr 0, .inl (some 45), .inl (some 46), .inl (some 47), .inl (some 48), .inl (some 49), .inl (some 50), .inl (some 51), .inl (some 52), .inl (some 53), .inl (some 54), .inl (some 55), .inl (some 56), .inr 1, .inr 1, .inl (some 57), .inl (some 58), .inl (some 59), .inl (some 60), .inl (some 61)]))))) (fs' := [.inr 0, .inr 0, .inl (some 40), .inl (some 41), .inl (some 42), .inl (some 43), .inr 0, .inl (some 44), .inr 2, .inr 0, .inl (some 45), .inl (some 46), .inl (some 47), .inl (some 48), .inl (some 49), .inl (some 50), .inl (some 51), .inl (some 52), .inl (some 53), .inl (some 54), .inl (some 55), .inl (some 56), .inr 1, .inr 1, .inl (some 57), .inl (some 58), .inl (some 59), .inl (some 60), .inl (some 61)]) dX8_init_183 fd8_79 fw8_28 rfl (q_tyA _) rfl (by decide) (by decide) rfl rfl (fun q hq => by simp [quL, hq]) ?_
  exact g_retV dX8_init_186 rfl rfl rfl ⟨rfl, (quL_id h39), rfl, rfl⟩
end
