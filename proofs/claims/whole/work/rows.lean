section
-- ===== PART A: goes FIRST, ahead of the names: the tables' words, and 'selects' of the private methods out of them =====
/-- a private method of a class that the tables say can be made, by its rows of tables_1 -/
def lw_okq (q : MethodName × Nat) : Prop := (q.1.cls ≠ "java/lang/invoke/MethodHandle" ∧ q.1.cls ≠ "java/lang/invoke/VarHandle") ∧ Cond.instantiable q.1.cls q.2 ∈ tables_1 ∧ Cond.privateMethod q.1 ∈ tables_1 ∧ Cond.instanceMethod q.1 ∈ tables_1
theorem lw_p0 : lw_okq (⟨"NearGroups", "forgetGroupings", "()V"⟩, 7) := ⟨⟨by decide +kernel, by decide +kernel⟩, List.mem_of_getElem? (i := 12) (by decide +kernel), List.mem_of_getElem? (i := 253) (by decide +kernel), List.mem_of_getElem? (i := 254) (by decide +kernel)⟩
theorem lw_p1 : lw_okq (⟨"NearGroups$Table", "measure", "(II)V"⟩, 4) := ⟨⟨by decide +kernel, by decide +kernel⟩, List.mem_of_getElem? (i := 20) (by decide +kernel), List.mem_of_getElem? (i := 261) (by decide +kernel), List.mem_of_getElem? (i := 262) (by decide +kernel)⟩
theorem lw_p2 : lw_okq (⟨"NearGroups$Table", "note", "(IIII)V"⟩, 4) := ⟨⟨by decide +kernel, by decide +kernel⟩, List.mem_of_getElem? (i := 20) (by decide +kernel), List.mem_of_getElem? (i := 275) (by decide +kernel), List.mem_of_getElem? (i := 276) (by decide +kernel)⟩
theorem lw_p3 : lw_okq (⟨"NearGroups", "isRow", "(I)Z"⟩, 7) := ⟨⟨by decide +kernel, by decide +kernel⟩, List.mem_of_getElem? (i := 12) (by decide +kernel), List.mem_of_getElem? (i := 295) (by decide +kernel), List.mem_of_getElem? (i := 296) (by decide +kernel)⟩
theorem lw_p4 : lw_okq (⟨"NearGroups$MeanRounds", "chooseFirstMeans", "(LNearGroups$Table;)V"⟩, 7) := ⟨⟨by decide +kernel, by decide +kernel⟩, List.mem_of_getElem? (i := 73) (by decide +kernel), List.mem_of_getElem? (i := 327) (by decide +kernel), List.mem_of_getElem? (i := 328) (by decide +kernel)⟩
theorem lw_p5 : lw_okq (⟨"NearGroups$MeanRounds", "putFirstMean", "(LNearGroups$Table;II)V"⟩, 7) := ⟨⟨by decide +kernel, by decide +kernel⟩, List.mem_of_getElem? (i := 73) (by decide +kernel), List.mem_of_getElem? (i := 332) (by decide +kernel), List.mem_of_getElem? (i := 333) (by decide +kernel)⟩
theorem lw_p6 : lw_okq (⟨"NearGroups$MeanRounds", "farthestFromChosen", "(LNearGroups$Table;I)I"⟩, 7) := ⟨⟨by decide +kernel, by decide +kernel⟩, List.mem_of_getElem? (i := 73) (by decide +kernel), List.mem_of_getElem? (i := 337) (by decide +kernel), List.mem_of_getElem? (i := 338) (by decide +kernel)⟩
theorem lw_p7 : lw_okq (⟨"NearGroups$MeanRounds", "moveRows", "(LNearGroups$Table;)Z"⟩, 7) := ⟨⟨by decide +kernel, by decide +kernel⟩, List.mem_of_getElem? (i := 73) (by decide +kernel), List.mem_of_getElem? (i := 345) (by decide +kernel), List.mem_of_getElem? (i := 346) (by decide +kernel)⟩
theorem lw_p8 : lw_okq (⟨"NearGroups$MeanRounds", "nearestMean", "(LNearGroups$Table;I)I"⟩, 7) := ⟨⟨by decide +kernel, by decide +kernel⟩, List.mem_of_getElem? (i := 73) (by decide +kernel), List.mem_of_getElem? (i := 349) (by decide +kernel), List.mem_of_getElem? (i := 350) (by decide +kernel)⟩
theorem lw_p9 : lw_okq (⟨"NearGroups$MeanRounds", "squaresAbove", "(LNearGroups$Table;II)J"⟩, 7) := ⟨⟨by decide +kernel, by decide +kernel⟩, List.mem_of_getElem? (i := 73) (by decide +kernel), List.mem_of_getElem? (i := 353) (by decide +kernel), List.mem_of_getElem? (i := 354) (by decide +kernel)⟩
theorem lw_p10 : lw_okq (⟨"NearGroups$MeanRounds", "squaresBelow", "(I)J"⟩, 7) := ⟨⟨by decide +kernel, by decide +kernel⟩, List.mem_of_getElem? (i := 73) (by decide +kernel), List.mem_of_getElem? (i := 357) (by decide +kernel), List.mem_of_getElem? (i := 358) (by decide +kernel)⟩
theorem lw_p11 : lw_okq (⟨"NearGroups$MeanRounds", "takeFarthest", "(LNearGroups$Table;I)V"⟩, 7) := ⟨⟨by decide +kernel, by decide +kernel⟩, List.mem_of_getElem? (i := 73) (by decide +kernel), List.mem_of_getElem? (i := 364) (by decide +kernel), List.mem_of_getElem? (i := 365) (by decide +kernel)⟩
theorem lw_p12 : lw_okq (⟨"NearGroups$MeanRounds", "noteMoves", "(I)Z"⟩, 7) := ⟨⟨by decide +kernel, by decide +kernel⟩, List.mem_of_getElem? (i := 73) (by decide +kernel), List.mem_of_getElem? (i := 368) (by decide +kernel), List.mem_of_getElem? (i := 369) (by decide +kernel)⟩
theorem lw_p13 : lw_okq (⟨"NearGroups$MeanRounds", "remakeMeans", "(LNearGroups$Table;)V"⟩, 7) := ⟨⟨by decide +kernel, by decide +kernel⟩, List.mem_of_getElem? (i := 73) (by decide +kernel), List.mem_of_getElem? (i := 372) (by decide +kernel), List.mem_of_getElem? (i := 373) (by decide +kernel)⟩
theorem lw_p14 : lw_okq (⟨"NearGroups$BestRows", "tryRows", "(LNearGroups$Table;III)V"⟩, 6) := ⟨⟨by decide +kernel, by decide +kernel⟩, List.mem_of_getElem? (i := 102) (by decide +kernel), List.mem_of_getElem? (i := 389) (by decide +kernel), List.mem_of_getElem? (i := 390) (by decide +kernel)⟩
theorem lw_p15 : lw_okq (⟨"NearGroups$BestRows", "lowerLeasts", "(LNearGroups$Table;III)V"⟩, 6) := ⟨⟨by decide +kernel, by decide +kernel⟩, List.mem_of_getElem? (i := 102) (by decide +kernel), List.mem_of_getElem? (i := 393) (by decide +kernel), List.mem_of_getElem? (i := 394) (by decide +kernel)⟩
def lw_privs_1 : List (MethodName × Nat) := [(⟨"NearGroups", "forgetGroupings", "()V"⟩, 7), (⟨"NearGroups$Table", "measure", "(II)V"⟩, 4), (⟨"NearGroups$Table", "note", "(IIII)V"⟩, 4), (⟨"NearGroups", "isRow", "(I)Z"⟩, 7), (⟨"NearGroups$MeanRounds", "chooseFirstMeans", "(LNearGroups$Table;)V"⟩, 7), (⟨"NearGroups$MeanRounds", "putFirstMean", "(LNearGroups$Table;II)V"⟩, 7), (⟨"NearGroups$MeanRounds", "farthestFromChosen", "(LNearGroups$Table;I)I"⟩, 7), (⟨"NearGroups$MeanRounds", "moveRows", "(LNearGroups$Table;)Z"⟩, 7), (⟨"NearGroups$MeanRounds", "nearestMean", "(LNearGroups$Table;I)I"⟩, 7), (⟨"NearGroups$MeanRounds", "squaresAbove", "(LNearGroups$Table;II)J"⟩, 7), (⟨"NearGroups$MeanRounds", "squaresBelow", "(I)J"⟩, 7), (⟨"NearGroups$MeanRounds", "takeFarthest", "(LNearGroups$Table;I)V"⟩, 7), (⟨"NearGroups$MeanRounds", "noteMoves", "(I)Z"⟩, 7), (⟨"NearGroups$MeanRounds", "remakeMeans", "(LNearGroups$Table;)V"⟩, 7), (⟨"NearGroups$BestRows", "tryRows", "(LNearGroups$Table;III)V"⟩, 6), (⟨"NearGroups$BestRows", "lowerLeasts", "(LNearGroups$Table;III)V"⟩, 6)]
theorem lw_r1 : ∀ q ∈ lw_privs_1, lw_okq q := List.forall_mem_cons.mpr ⟨lw_p0, List.forall_mem_cons.mpr ⟨lw_p1, List.forall_mem_cons.mpr ⟨lw_p2, List.forall_mem_cons.mpr ⟨lw_p3, List.forall_mem_cons.mpr ⟨lw_p4, List.forall_mem_cons.mpr ⟨lw_p5, List.forall_mem_cons.mpr ⟨lw_p6, List.forall_mem_cons.mpr ⟨lw_p7, List.forall_mem_cons.mpr ⟨lw_p8, List.forall_mem_cons.mpr ⟨lw_p9, List.forall_mem_cons.mpr ⟨lw_p10, List.forall_mem_cons.mpr ⟨lw_p11, List.forall_mem_cons.mpr ⟨lw_p12, List.forall_mem_cons.mpr ⟨lw_p13, List.forall_mem_cons.mpr ⟨lw_p14, List.forall_mem_cons.mpr ⟨lw_p15, fun _ h => absurd h List.not_mem_nil⟩⟩⟩⟩⟩⟩⟩⟩⟩⟩⟩⟩⟩⟩⟩⟩
theorem lw_p16 : lw_okq (⟨"NearGroups$BestRows", "weighTrial", "(LNearGroups$Table;III)V"⟩, 6) := ⟨⟨by decide +kernel, by decide +kernel⟩, List.mem_of_getElem? (i := 102) (by decide +kernel), List.mem_of_getElem? (i := 399) (by decide +kernel), List.mem_of_getElem? (i := 400) (by decide +kernel)⟩
theorem lw_p17 : lw_okq (⟨"NearGroups$BestRows", "nearestBest", "(LNearGroups$Table;II)I"⟩, 6) := ⟨⟨by decide +kernel, by decide +kernel⟩, List.mem_of_getElem? (i := 102) (by decide +kernel), List.mem_of_getElem? (i := 403) (by decide +kernel), List.mem_of_getElem? (i := 404) (by decide +kernel)⟩
theorem lw_p18 : lw_okq (⟨"NearGroups$DenseRows", "rowsWithin", "(LNearGroups$Table;III)I"⟩, 3) := ⟨⟨by decide +kernel, by decide +kernel⟩, List.mem_of_getElem? (i := 130) (by decide +kernel), List.mem_of_getElem? (i := 421) (by decide +kernel), List.mem_of_getElem? (i := 422) (by decide +kernel)⟩
theorem lw_p19 : lw_okq (⟨"NearGroups$DenseRows", "spreadFrom", "(LNearGroups$Table;IIII)V"⟩, 3) := ⟨⟨by decide +kernel, by decide +kernel⟩, List.mem_of_getElem? (i := 130) (by decide +kernel), List.mem_of_getElem? (i := 426) (by decide +kernel), List.mem_of_getElem? (i := 427) (by decide +kernel)⟩
theorem lw_p20 : lw_okq (⟨"NearGroups$DenseRows", "leastGroupWithin", "(LNearGroups$Table;III)I"⟩, 3) := ⟨⟨by decide +kernel, by decide +kernel⟩, List.mem_of_getElem? (i := 130) (by decide +kernel), List.mem_of_getElem? (i := 430) (by decide +kernel), List.mem_of_getElem? (i := 431) (by decide +kernel)⟩
theorem lw_p21 : lw_okq (⟨"NearGroups$Joins", "placeRows", "(LNearGroups$Table;I)V"⟩, 12) := ⟨⟨by decide +kernel, by decide +kernel⟩, List.mem_of_getElem? (i := 148) (by decide +kernel), List.mem_of_getElem? (i := 442) (by decide +kernel), List.mem_of_getElem? (i := 443) (by decide +kernel)⟩
theorem lw_p22 : lw_okq (⟨"NearGroups$Joins", "findNearest", "(LNearGroups$Table;)V"⟩, 12) := ⟨⟨by decide +kernel, by decide +kernel⟩, List.mem_of_getElem? (i := 148) (by decide +kernel), List.mem_of_getElem? (i := 448) (by decide +kernel), List.mem_of_getElem? (i := 449) (by decide +kernel)⟩
theorem lw_p23 : lw_okq (⟨"NearGroups$Joins", "gapAbove", "(LNearGroups$Table;II)J"⟩, 12) := ⟨⟨by decide +kernel, by decide +kernel⟩, List.mem_of_getElem? (i := 148) (by decide +kernel), List.mem_of_getElem? (i := 452) (by decide +kernel), List.mem_of_getElem? (i := 453) (by decide +kernel)⟩
theorem lw_p24 : lw_okq (⟨"NearGroups$Joins", "gapBelow", "(II)J"⟩, 12) := ⟨⟨by decide +kernel, by decide +kernel⟩, List.mem_of_getElem? (i := 148) (by decide +kernel), List.mem_of_getElem? (i := 456) (by decide +kernel), List.mem_of_getElem? (i := 457) (by decide +kernel)⟩
theorem lw_p25 : lw_okq (⟨"NearGroups$Joins", "merge", "(LNearGroups$Table;II)V"⟩, 12) := ⟨⟨by decide +kernel, by decide +kernel⟩, List.mem_of_getElem? (i := 148) (by decide +kernel), List.mem_of_getElem? (i := 471) (by decide +kernel), List.mem_of_getElem? (i := 472) (by decide +kernel)⟩
theorem lw_p26 : lw_okq (⟨"NearGroups$Joins", "gapToBoth", "(JJ)J"⟩, 12) := ⟨⟨by decide +kernel, by decide +kernel⟩, List.mem_of_getElem? (i := 148) (by decide +kernel), List.mem_of_getElem? (i := 475) (by decide +kernel), List.mem_of_getElem? (i := 476) (by decide +kernel)⟩
theorem lw_p27 : lw_okq (⟨"NearGroups$Joins", "numberByLeastRows", "(I)V"⟩, 12) := ⟨⟨by decide +kernel, by decide +kernel⟩, List.mem_of_getElem? (i := 148) (by decide +kernel), List.mem_of_getElem? (i := 500) (by decide +kernel), List.mem_of_getElem? (i := 501) (by decide +kernel)⟩
theorem lw_p28 : lw_okq (⟨"NearGroups", "refusalOfGroup", "(II)I"⟩, 7) := ⟨⟨by decide +kernel, by decide +kernel⟩, List.mem_of_getElem? (i := 12) (by decide +kernel), List.mem_of_getElem? (i := 516) (by decide +kernel), List.mem_of_getElem? (i := 517) (by decide +kernel)⟩
theorem lw_p29 : lw_okq (⟨"NearGroups", "reckonMean", "(LNearGroups$Grouping;II)V"⟩, 7) := ⟨⟨by decide +kernel, by decide +kernel⟩, List.mem_of_getElem? (i := 12) (by decide +kernel), List.mem_of_getElem? (i := 527) (by decide +kernel), List.mem_of_getElem? (i := 528) (by decide +kernel)⟩
theorem lw_p30 : lw_okq (⟨"NearGroups", "reckonSum", "(LNearGroups$Grouping;)V"⟩, 7) := ⟨⟨by decide +kernel, by decide +kernel⟩, List.mem_of_getElem? (i := 12) (by decide +kernel), List.mem_of_getElem? (i := 545) (by decide +kernel), List.mem_of_getElem? (i := 546) (by decide +kernel)⟩
theorem lw_p31 : lw_okq (⟨"NearGroups$Grouping", "totalOfSquares", "(LNearGroups$Table;II)J"⟩, 4) := ⟨⟨by decide +kernel, by decide +kernel⟩, List.mem_of_getElem? (i := 51) (by decide +kernel), List.mem_of_getElem? (i := 554) (by decide +kernel), List.mem_of_getElem? (i := 555) (by decide +kernel)⟩
def lw_privs_2 : List (MethodName × Nat) := [(⟨"NearGroups$BestRows", "weighTrial", "(LNearGroups$Table;III)V"⟩, 6), (⟨"NearGroups$BestRows", "nearestBest", "(LNearGroups$Table;II)I"⟩, 6), (⟨"NearGroups$DenseRows", "rowsWithin", "(LNearGroups$Table;III)I"⟩, 3), (⟨"NearGroups$DenseRows", "spreadFrom", "(LNearGroups$Table;IIII)V"⟩, 3), (⟨"NearGroups$DenseRows", "leastGroupWithin", "(LNearGroups$Table;III)I"⟩, 3), (⟨"NearGroups$Joins", "placeRows", "(LNearGroups$Table;I)V"⟩, 12), (⟨"NearGroups$Joins", "findNearest", "(LNearGroups$Table;)V"⟩, 12), (⟨"NearGroups$Joins", "gapAbove", "(LNearGroups$Table;II)J"⟩, 12), (⟨"NearGroups$Joins", "gapBelow", "(II)J"⟩, 12), (⟨"NearGroups$Joins", "merge", "(LNearGroups$Table;II)V"⟩, 12), (⟨"NearGroups$Joins", "gapToBoth", "(JJ)J"⟩, 12), (⟨"NearGroups$Joins", "numberByLeastRows", "(I)V"⟩, 12), (⟨"NearGroups", "refusalOfGroup", "(II)I"⟩, 7), (⟨"NearGroups", "reckonMean", "(LNearGroups$Grouping;II)V"⟩, 7), (⟨"NearGroups", "reckonSum", "(LNearGroups$Grouping;)V"⟩, 7), (⟨"NearGroups$Grouping", "totalOfSquares", "(LNearGroups$Table;II)J"⟩, 4)]
theorem lw_r2 : ∀ q ∈ lw_privs_2, lw_okq q := List.forall_mem_cons.mpr ⟨lw_p16, List.forall_mem_cons.mpr ⟨lw_p17, List.forall_mem_cons.mpr ⟨lw_p18, List.forall_mem_cons.mpr ⟨lw_p19, List.forall_mem_cons.mpr ⟨lw_p20, List.forall_mem_cons.mpr ⟨lw_p21, List.forall_mem_cons.mpr ⟨lw_p22, List.forall_mem_cons.mpr ⟨lw_p23, List.forall_mem_cons.mpr ⟨lw_p24, List.forall_mem_cons.mpr ⟨lw_p25, List.forall_mem_cons.mpr ⟨lw_p26, List.forall_mem_cons.mpr ⟨lw_p27, List.forall_mem_cons.mpr ⟨lw_p28, List.forall_mem_cons.mpr ⟨lw_p29, List.forall_mem_cons.mpr ⟨lw_p30, List.forall_mem_cons.mpr ⟨lw_p31, fun _ h => absurd h List.not_mem_nil⟩⟩⟩⟩⟩⟩⟩⟩⟩⟩⟩⟩⟩⟩⟩⟩
theorem lw_p32 : lw_okq (⟨"NearGroups", "reckonWell", "(LNearGroups$Grouping;II)V"⟩, 7) := ⟨⟨by decide +kernel, by decide +kernel⟩, List.mem_of_getElem? (i := 12) (by decide +kernel), List.mem_of_getElem? (i := 568) (by decide +kernel), List.mem_of_getElem? (i := 569) (by decide +kernel)⟩
theorem lw_p33 : lw_okq (⟨"NearGroups", "nearestOtherGroup", "(LNearGroups$Grouping;II)I"⟩, 7) := ⟨⟨by decide +kernel, by decide +kernel⟩, List.mem_of_getElem? (i := 12) (by decide +kernel), List.mem_of_getElem? (i := 572) (by decide +kernel), List.mem_of_getElem? (i := 573) (by decide +kernel)⟩
theorem lw_p34 : lw_okq (⟨"NearGroups", "agreementOf", "(II)I"⟩, 7) := ⟨⟨by decide +kernel, by decide +kernel⟩, List.mem_of_getElem? (i := 12) (by decide +kernel), List.mem_of_getElem? (i := 587) (by decide +kernel), List.mem_of_getElem? (i := 588) (by decide +kernel)⟩
theorem lw_p35 : lw_okq (⟨"NearGroupsModel", "forget", "()V"⟩, 29) := ⟨⟨by decide +kernel, by decide +kernel⟩, List.mem_of_getElem? (i := 595) (by decide +kernel), List.mem_of_getElem? (i := 703) (by decide +kernel), List.mem_of_getElem? (i := 704) (by decide +kernel)⟩
theorem lw_p36 : lw_okq (⟨"NearGroupsModel", "isRow", "(I)Z"⟩, 29) := ⟨⟨by decide +kernel, by decide +kernel⟩, List.mem_of_getElem? (i := 595) (by decide +kernel), List.mem_of_getElem? (i := 719) (by decide +kernel), List.mem_of_getElem? (i := 720) (by decide +kernel)⟩
theorem lw_p37 : lw_okq (⟨"NearGroupsModel", "apart", "(III)I"⟩, 29) := ⟨⟨by decide +kernel, by decide +kernel⟩, List.mem_of_getElem? (i := 595) (by decide +kernel), List.mem_of_getElem? (i := 724) (by decide +kernel), List.mem_of_getElem? (i := 725) (by decide +kernel)⟩
theorem lw_p38 : lw_okq (⟨"NearGroupsModel", "lay", "(I)V"⟩, 29) := ⟨⟨by decide +kernel, by decide +kernel⟩, List.mem_of_getElem? (i := 595) (by decide +kernel), List.mem_of_getElem? (i := 732) (by decide +kernel), List.mem_of_getElem? (i := 733) (by decide +kernel)⟩
theorem lw_p39 : lw_okq (⟨"NearGroupsModel", "chooseFirst", "(I)V"⟩, 29) := ⟨⟨by decide +kernel, by decide +kernel⟩, List.mem_of_getElem? (i := 595) (by decide +kernel), List.mem_of_getElem? (i := 740) (by decide +kernel), List.mem_of_getElem? (i := 741) (by decide +kernel)⟩
theorem lw_p40 : lw_okq (⟨"NearGroupsModel", "farthest", "()I"⟩, 29) := ⟨⟨by decide +kernel, by decide +kernel⟩, List.mem_of_getElem? (i := 595) (by decide +kernel), List.mem_of_getElem? (i := 744) (by decide +kernel), List.mem_of_getElem? (i := 745) (by decide +kernel)⟩
theorem lw_p41 : lw_okq (⟨"NearGroupsModel", "isNearer", "(IIII)Z"⟩, 29) := ⟨⟨by decide +kernel, by decide +kernel⟩, List.mem_of_getElem? (i := 595) (by decide +kernel), List.mem_of_getElem? (i := 748) (by decide +kernel), List.mem_of_getElem? (i := 749) (by decide +kernel)⟩
theorem lw_p42 : lw_okq (⟨"NearGroupsModel", "square", "(II)J"⟩, 29) := ⟨⟨by decide +kernel, by decide +kernel⟩, List.mem_of_getElem? (i := 595) (by decide +kernel), List.mem_of_getElem? (i := 752) (by decide +kernel), List.mem_of_getElem? (i := 753) (by decide +kernel)⟩
theorem lw_p43 : lw_okq (⟨"NearGroupsModel", "fill", "(I)V"⟩, 29) := ⟨⟨by decide +kernel, by decide +kernel⟩, List.mem_of_getElem? (i := 595) (by decide +kernel), List.mem_of_getElem? (i := 756) (by decide +kernel), List.mem_of_getElem? (i := 757) (by decide +kernel)⟩
theorem lw_p44 : lw_okq (⟨"NearGroupsModel", "sizeNow", "(I)I"⟩, 29) := ⟨⟨by decide +kernel, by decide +kernel⟩, List.mem_of_getElem? (i := 595) (by decide +kernel), List.mem_of_getElem? (i := 760) (by decide +kernel), List.mem_of_getElem? (i := 761) (by decide +kernel)⟩
theorem lw_p45 : lw_okq (⟨"NearGroupsModel", "takeMeans", "(I)V"⟩, 29) := ⟨⟨by decide +kernel, by decide +kernel⟩, List.mem_of_getElem? (i := 595) (by decide +kernel), List.mem_of_getElem? (i := 764) (by decide +kernel), List.mem_of_getElem? (i := 765) (by decide +kernel)⟩
theorem lw_p46 : lw_okq (⟨"NearGroupsModel", "sumOf", "(IIII)I"⟩, 29) := ⟨⟨by decide +kernel, by decide +kernel⟩, List.mem_of_getElem? (i := 595) (by decide +kernel), List.mem_of_getElem? (i := 772) (by decide +kernel), List.mem_of_getElem? (i := 773) (by decide +kernel)⟩
theorem lw_p47 : lw_okq (⟨"NearGroupsModel", "nearestOf", "(IIIII)I"⟩, 29) := ⟨⟨by decide +kernel, by decide +kernel⟩, List.mem_of_getElem? (i := 595) (by decide +kernel), List.mem_of_getElem? (i := 776) (by decide +kernel), List.mem_of_getElem? (i := 777) (by decide +kernel)⟩
def lw_privs_3 : List (MethodName × Nat) := [(⟨"NearGroups", "reckonWell", "(LNearGroups$Grouping;II)V"⟩, 7), (⟨"NearGroups", "nearestOtherGroup", "(LNearGroups$Grouping;II)I"⟩, 7), (⟨"NearGroups", "agreementOf", "(II)I"⟩, 7), (⟨"NearGroupsModel", "forget", "()V"⟩, 29), (⟨"NearGroupsModel", "isRow", "(I)Z"⟩, 29), (⟨"NearGroupsModel", "apart", "(III)I"⟩, 29), (⟨"NearGroupsModel", "lay", "(I)V"⟩, 29), (⟨"NearGroupsModel", "chooseFirst", "(I)V"⟩, 29), (⟨"NearGroupsModel", "farthest", "()I"⟩, 29), (⟨"NearGroupsModel", "isNearer", "(IIII)Z"⟩, 29), (⟨"NearGroupsModel", "square", "(II)J"⟩, 29), (⟨"NearGroupsModel", "fill", "(I)V"⟩, 29), (⟨"NearGroupsModel", "sizeNow", "(I)I"⟩, 29), (⟨"NearGroupsModel", "takeMeans", "(I)V"⟩, 29), (⟨"NearGroupsModel", "sumOf", "(IIII)I"⟩, 29), (⟨"NearGroupsModel", "nearestOf", "(IIIII)I"⟩, 29)]
theorem lw_r3 : ∀ q ∈ lw_privs_3, lw_okq q := List.forall_mem_cons.mpr ⟨lw_p32, List.forall_mem_cons.mpr ⟨lw_p33, List.forall_mem_cons.mpr ⟨lw_p34, List.forall_mem_cons.mpr ⟨lw_p35, List.forall_mem_cons.mpr ⟨lw_p36, List.forall_mem_cons.mpr ⟨lw_p37, List.forall_mem_cons.mpr ⟨lw_p38, List.forall_mem_cons.mpr ⟨lw_p39, List.forall_mem_cons.mpr ⟨lw_p40, List.forall_mem_cons.mpr ⟨lw_p41, List.forall_mem_cons.mpr ⟨lw_p42, List.forall_mem_cons.mpr ⟨lw_p43, List.forall_mem_cons.mpr ⟨lw_p44, List.forall_mem_cons.mpr ⟨lw_p45, List.forall_mem_cons.mpr ⟨lw_p46, List.forall_mem_cons.mpr ⟨lw_p47, fun _ h => absurd h List.not_mem_nil⟩⟩⟩⟩⟩⟩⟩⟩⟩⟩⟩⟩⟩⟩⟩⟩
theorem lw_p48 : lw_okq (⟨"NearGroupsModel", "spread", "(III)V"⟩, 29) := ⟨⟨by decide +kernel, by decide +kernel⟩, List.mem_of_getElem? (i := 595) (by decide +kernel), List.mem_of_getElem? (i := 789) (by decide +kernel), List.mem_of_getElem? (i := 790) (by decide +kernel)⟩
theorem lw_p49 : lw_okq (⟨"NearGroupsModel", "joinNext", "(I)V"⟩, 29) := ⟨⟨by decide +kernel, by decide +kernel⟩, List.mem_of_getElem? (i := 595) (by decide +kernel), List.mem_of_getElem? (i := 797) (by decide +kernel), List.mem_of_getElem? (i := 798) (by decide +kernel)⟩
theorem lw_p50 : lw_okq (⟨"NearGroupsModel", "gather", "()V"⟩, 29) := ⟨⟨by decide +kernel, by decide +kernel⟩, List.mem_of_getElem? (i := 595) (by decide +kernel), List.mem_of_getElem? (i := 801) (by decide +kernel), List.mem_of_getElem? (i := 802) (by decide +kernel)⟩
theorem lw_p51 : lw_okq (⟨"NearGroupsModel", "apartOf", "(III)V"⟩, 29) := ⟨⟨by decide +kernel, by decide +kernel⟩, List.mem_of_getElem? (i := 595) (by decide +kernel), List.mem_of_getElem? (i := 806) (by decide +kernel), List.mem_of_getElem? (i := 807) (by decide +kernel)⟩
theorem lw_p52 : lw_okq (⟨"NearGroupsModel", "of0", "(II)I"⟩, 29) := ⟨⟨by decide +kernel, by decide +kernel⟩, List.mem_of_getElem? (i := 595) (by decide +kernel), List.mem_of_getElem? (i := 827) (by decide +kernel), List.mem_of_getElem? (i := 828) (by decide +kernel)⟩
theorem lw_p53 : lw_okq (⟨"NearGroupsModel", "refused", "(II)I"⟩, 29) := ⟨⟨by decide +kernel, by decide +kernel⟩, List.mem_of_getElem? (i := 595) (by decide +kernel), List.mem_of_getElem? (i := 835) (by decide +kernel), List.mem_of_getElem? (i := 836) (by decide +kernel)⟩
theorem lw_p54 : lw_okq (⟨"NearGroupsModel", "sizeIn", "(II)I"⟩, 29) := ⟨⟨by decide +kernel, by decide +kernel⟩, List.mem_of_getElem? (i := 595) (by decide +kernel), List.mem_of_getElem? (i := 839) (by decide +kernel), List.mem_of_getElem? (i := 840) (by decide +kernel)⟩
theorem lw_p55 : lw_okq (⟨"NearGroupsModel", "sumIn", "(III)J"⟩, 29) := ⟨⟨by decide +kernel, by decide +kernel⟩, List.mem_of_getElem? (i := 595) (by decide +kernel), List.mem_of_getElem? (i := 847) (by decide +kernel), List.mem_of_getElem? (i := 848) (by decide +kernel)⟩
theorem lw_p56 : lw_okq (⟨"NearGroupsModel", "farFrom", "(IIII)J"⟩, 29) := ⟨⟨by decide +kernel, by decide +kernel⟩, List.mem_of_getElem? (i := 595) (by decide +kernel), List.mem_of_getElem? (i := 860) (by decide +kernel), List.mem_of_getElem? (i := 861) (by decide +kernel)⟩
def lw_privs_4 : List (MethodName × Nat) := [(⟨"NearGroupsModel", "spread", "(III)V"⟩, 29), (⟨"NearGroupsModel", "joinNext", "(I)V"⟩, 29), (⟨"NearGroupsModel", "gather", "()V"⟩, 29), (⟨"NearGroupsModel", "apartOf", "(III)V"⟩, 29), (⟨"NearGroupsModel", "of0", "(II)I"⟩, 29), (⟨"NearGroupsModel", "refused", "(II)I"⟩, 29), (⟨"NearGroupsModel", "sizeIn", "(II)I"⟩, 29), (⟨"NearGroupsModel", "sumIn", "(III)J"⟩, 29), (⟨"NearGroupsModel", "farFrom", "(IIII)J"⟩, 29)]
theorem lw_r4 : ∀ q ∈ lw_privs_4, lw_okq q := List.forall_mem_cons.mpr ⟨lw_p48, List.forall_mem_cons.mpr ⟨lw_p49, List.forall_mem_cons.mpr ⟨lw_p50, List.forall_mem_cons.mpr ⟨lw_p51, List.forall_mem_cons.mpr ⟨lw_p52, List.forall_mem_cons.mpr ⟨lw_p53, List.forall_mem_cons.mpr ⟨lw_p54, List.forall_mem_cons.mpr ⟨lw_p55, List.forall_mem_cons.mpr ⟨lw_p56, fun _ h => absurd h List.not_mem_nil⟩⟩⟩⟩⟩⟩⟩⟩⟩
def lw_privs : List (MethodName × Nat) := lw_privs_1 ++ (lw_privs_2 ++ (lw_privs_3 ++ (lw_privs_4)))
def lw_tbl : List Cond := k2_sels lw_privs ++ tables_1
theorem lw_privs_ok : ∀ q ∈ lw_privs, lw_okq q := by
  show ∀ q ∈ lw_privs_1 ++ (lw_privs_2 ++ (lw_privs_3 ++ (lw_privs_4))), lw_okq q
  exact List.forall_mem_append.mpr ⟨lw_r1, List.forall_mem_append.mpr ⟨lw_r2, List.forall_mem_append.mpr ⟨lw_r3, lw_r4⟩⟩⟩
end
section
def RX0 : String := "NearGroups$BestRows"
def TX0 : u_T := fun k => match k with
  | 0 => ("NearGroups$BestRows", "labels", "[I", true)
  | 1 => ("NearGroups$BestRows", "best", "[I", true)
  | 2 => ("NearGroups$BestRows", "trial", "[I", true)
  | 3 => ("NearGroups$BestRows", "leasts", "[I", true)
  | 4 => ("NearGroups$BestRows", "wanted", "I", false)
  | _ => ("NearGroups$BestRows", "bestTotal", "I", false)
def tyX0 : Nat → FieldType := fun k => match k with
  | 0 => .array .int
  | 1 => .array .int
  | 2 => .array .int
  | 3 => .array .int
  | 4 => .int
  | _ => .int
abbrev wsX00 : List Cond := u_ws RX0 TX0 6
theorem nmX0 : ∀ a, a < 6 → ∀ b, b < 6 → a ≠ b → (TX0 a).2.1 ≠ (TX0 b).2.1 := by decide +kernel
theorem tyX0_ok : ∀ k, k < 6 → parseFieldDescriptor (TX0 k).2.2.1 = some (tyX0 k) := by decide +kernel
abbrev cX0_init : ByteArray := prog_2_method_1_code
def yX0_init : MethodName := ⟨RX0, "<init>", "()V"⟩
abbrev cX0_search : ByteArray := prog_2_method_2_code
def yX0_search : MethodName := ⟨RX0, "search", "(LNearGroups$Table;II)I"⟩
abbrev cX0_tryRows : ByteArray := prog_2_method_3_code
def yX0_tryRows : MethodName := ⟨RX0, "tryRows", "(LNearGroups$Table;III)V"⟩
abbrev cX0_lowerLeasts : ByteArray := prog_2_method_4_code
def yX0_lowerLeasts : MethodName := ⟨RX0, "lowerLeasts", "(LNearGroups$Table;III)V"⟩
abbrev cX0_weighTrial : ByteArray := prog_2_method_5_code
def yX0_weighTrial : MethodName := ⟨RX0, "weighTrial", "(LNearGroups$Table;III)V"⟩
abbrev cX0_nearestBest : ByteArray := prog_2_method_6_code
def yX0_nearestBest : MethodName := ⟨RX0, "nearestBest", "(LNearGroups$Table;II)I"⟩
def RX1 : String := "NearGroups$DenseRows"
def TX1 : u_T := fun k => match k with
  | 0 => ("NearGroups$DenseRows", "labels", "[I", true)
  | 1 => ("NearGroups$DenseRows", "cores", "[Z", true)
  | _ => ("NearGroups$DenseRows", "waiting", "[I", true)
def tyX1 : Nat → FieldType := fun k => match k with
  | 0 => .array .int
  | 1 => .array .boolean
  | _ => .array .int
abbrev wsX10 : List Cond := u_ws RX1 TX1 3
theorem nmX1 : ∀ a, a < 3 → ∀ b, b < 3 → a ≠ b → (TX1 a).2.1 ≠ (TX1 b).2.1 := by decide +kernel
theorem tyX1_ok : ∀ k, k < 3 → parseFieldDescriptor (TX1 k).2.2.1 = some (tyX1 k) := by decide +kernel
abbrev cX1_init : ByteArray := prog_3_method_1_code
def yX1_init : MethodName := ⟨RX1, "<init>", "()V"⟩
abbrev cX1_spread : ByteArray := prog_3_method_2_code
def yX1_spread : MethodName := ⟨RX1, "spread", "(LNearGroups$Table;III)I"⟩
abbrev cX1_rowsWithin : ByteArray := prog_3_method_3_code
def yX1_rowsWithin : MethodName := ⟨RX1, "rowsWithin", "(LNearGroups$Table;III)I"⟩
abbrev cX1_spreadFrom : ByteArray := prog_3_method_4_code
def yX1_spreadFrom : MethodName := ⟨RX1, "spreadFrom", "(LNearGroups$Table;IIII)V"⟩
abbrev cX1_leastGroupWithin : ByteArray := prog_3_method_5_code
def yX1_leastGroupWithin : MethodName := ⟨RX1, "leastGroupWithin", "(LNearGroups$Table;III)I"⟩
def RX2 : String := "NearGroups$Fraction"
def TX2 : u_T := fun k => match k with
  | 0 => ("NearGroups$Fraction", "above", "J", false)
  | _ => ("NearGroups$Fraction", "below", "J", false)
def tyX2 : Nat → FieldType := fun k => match k with
  | 0 => .long
  | _ => .long
abbrev wsX20 : List Cond := u_ws RX2 TX2 2
theorem nmX2 : ∀ a, a < 2 → ∀ b, b < 2 → a ≠ b → (TX2 a).2.1 ≠ (TX2 b).2.1 := by decide +kernel
theorem tyX2_ok : ∀ k, k < 2 → parseFieldDescriptor (TX2 k).2.2.1 = some (tyX2 k) := by decide +kernel
abbrev cX2_init : ByteArray := prog_4_method_1_code
def yX2_init : MethodName := ⟨RX2, "<init>", "()V"⟩
abbrev cX2_put : ByteArray := prog_4_method_2_code
def yX2_put : MethodName := ⟨RX2, "put", "(JJ)V"⟩
abbrev cX2_add : ByteArray := prog_4_method_3_code
def yX2_add : MethodName := ⟨RX2, "add", "(JJ)V"⟩
abbrev cX2_part : ByteArray := prog_4_method_4_code
def yX2_part : MethodName := ⟨RX2, "part", "(I)J"⟩
abbrev cX2_commonDivisor : ByteArray := prog_4_method_5_code
def yX2_commonDivisor : MethodName := ⟨RX2, "commonDivisor", "(JJ)J"⟩
def RX3 : String := "NearGroups$Grouping"
def TX3 : u_T := fun k => match k with
  | 0 => ("NearGroups$Grouping", "groupOf", "[I", true)
  | 1 => ("NearGroups$Grouping", "sizes", "[I", true)
  | 2 => ("NearGroups$Grouping", "rows", "I", false)
  | _ => ("NearGroups$Grouping", "groups", "I", false)
def tyX3 : Nat → FieldType := fun k => match k with
  | 0 => .array .int
  | 1 => .array .int
  | 2 => .int
  | _ => .int
abbrev wsX30 : List Cond := u_ws RX3 TX3 4
theorem nmX3 : ∀ a, a < 4 → ∀ b, b < 4 → a ≠ b → (TX3 a).2.1 ≠ (TX3 b).2.1 := by decide +kernel
theorem tyX3_ok : ∀ k, k < 4 → parseFieldDescriptor (TX3 k).2.2.1 = some (tyX3 k) := by decide +kernel
abbrev cX3_init : ByteArray := prog_5_method_1_code
def yX3_init : MethodName := ⟨RX3, "<init>", "()V"⟩
abbrev cX3_isEmpty : ByteArray := prog_5_method_2_code
def yX3_isEmpty : MethodName := ⟨RX3, "isEmpty", "()Z"⟩
abbrev cX3_fill : ByteArray := prog_5_method_3_code
def yX3_fill : MethodName := ⟨RX3, "fill", "([III)V"⟩
abbrev cX3_holdsBoth : ByteArray := prog_5_method_4_code
def yX3_holdsBoth : MethodName := ⟨RX3, "holdsBoth", "(II)Z"⟩
abbrev cX3_total : ByteArray := prog_5_method_5_code
def yX3_total : MethodName := ⟨RX3, "total", "(LNearGroups$Table;II)J"⟩
abbrev cX3_squaresTimesSize : ByteArray := prog_5_method_6_code
def yX3_squaresTimesSize : MethodName := ⟨RX3, "squaresTimesSize", "(LNearGroups$Table;I)J"⟩
abbrev cX3_distancesTo : ByteArray := prog_5_method_7_code
def yX3_distancesTo : MethodName := ⟨RX3, "distancesTo", "(LNearGroups$Table;III)J"⟩
abbrev cX3_totalOfSquares : ByteArray := prog_5_method_8_code
def yX3_totalOfSquares : MethodName := ⟨RX3, "totalOfSquares", "(LNearGroups$Table;II)J"⟩
def RX4 : String := "NearGroups$Joins"
def TX4 : u_T := fun k => match k with
  | 0 => ("NearGroups$Joins", "firsts", "[I", true)
  | 1 => ("NearGroups$Joins", "seconds", "[I", true)
  | 2 => ("NearGroups$Joins", "together", "[I", true)
  | 3 => ("NearGroups$Joins", "aboves", "[J", true)
  | 4 => ("NearGroups$Joins", "belows", "[J", true)
  | 5 => ("NearGroups$Joins", "labels", "[I", true)
  | 6 => ("NearGroups$Joins", "sizes", "[I", true)
  | 7 => ("NearGroups$Joins", "totals", "[J", true)
  | 8 => ("NearGroups$Joins", "gaps", "[J", true)
  | 9 => ("NearGroups$Joins", "told", "LNearGroups$Fraction;", true)
  | 10 => ("NearGroups$Joins", "way", "I", false)
  | _ => ("NearGroups$Joins", "made", "I", false)
def tyX4 : Nat → FieldType := fun k => match k with
  | 0 => .array .int
  | 1 => .array .int
  | 2 => .array .int
  | 3 => .array .long
  | 4 => .array .long
  | 5 => .array .int
  | 6 => .array .int
  | 7 => .array .long
  | 8 => .array .long
  | 9 => .object "NearGroups$Fraction"
  | 10 => .int
  | _ => .int
abbrev wsX40 : List Cond := u_ws RX4 TX4 12
theorem nmX4 : ∀ a, a < 12 → ∀ b, b < 12 → a ≠ b → (TX4 a).2.1 ≠ (TX4 b).2.1 := by decide +kernel
theorem tyX4_ok : ∀ k, k < 12 → parseFieldDescriptor (TX4 k).2.2.1 = some (tyX4 k) := by decide +kernel
abbrev cX4_init : ByteArray := prog_6_method_1_code
def yX4_init : MethodName := ⟨RX4, "<init>", "()V"⟩
abbrev cX4_build : ByteArray := prog_6_method_2_code
def yX4_build : MethodName := ⟨RX4, "build", "(LNearGroups$Table;II)I"⟩
abbrev cX4_split : ByteArray := prog_6_method_3_code
def yX4_split : MethodName := ⟨RX4, "split", "(II)V"⟩
abbrev cX4_numberByLeastRows : ByteArray := prog_6_method_4_code
def yX4_numberByLeastRows : MethodName := ⟨RX4, "numberByLeastRows", "(I)V"⟩
abbrev cX4_placeRows : ByteArray := prog_6_method_5_code
def yX4_placeRows : MethodName := ⟨RX4, "placeRows", "(LNearGroups$Table;I)V"⟩
abbrev cX4_findNearest : ByteArray := prog_6_method_6_code
def yX4_findNearest : MethodName := ⟨RX4, "findNearest", "(LNearGroups$Table;)V"⟩
abbrev cX4_gapAbove : ByteArray := prog_6_method_7_code
def yX4_gapAbove : MethodName := ⟨RX4, "gapAbove", "(LNearGroups$Table;II)J"⟩
abbrev cX4_gapBelow : ByteArray := prog_6_method_8_code
def yX4_gapBelow : MethodName := ⟨RX4, "gapBelow", "(II)J"⟩
abbrev cX4_merge : ByteArray := prog_6_method_9_code
def yX4_merge : MethodName := ⟨RX4, "merge", "(LNearGroups$Table;II)V"⟩
abbrev cX4_gapToBoth : ByteArray := prog_6_method_10_code
def yX4_gapToBoth : MethodName := ⟨RX4, "gapToBoth", "(JJ)J"⟩
def RX5 : String := "NearGroups$MeanRounds"
def TX5 : u_T := fun k => match k with
  | 0 => ("NearGroups$MeanRounds", "labels", "[I", true)
  | 1 => ("NearGroups$MeanRounds", "before", "[I", true)
  | 2 => ("NearGroups$MeanRounds", "sizes", "[I", true)
  | 3 => ("NearGroups$MeanRounds", "totals", "[I", true)
  | 4 => ("NearGroups$MeanRounds", "divisors", "[I", true)
  | 5 => ("NearGroups$MeanRounds", "leasts", "[I", true)
  | _ => ("NearGroups$MeanRounds", "groups", "I", false)
def tyX5 : Nat → FieldType := fun k => match k with
  | 0 => .array .int
  | 1 => .array .int
  | 2 => .array .int
  | 3 => .array .int
  | 4 => .array .int
  | 5 => .array .int
  | _ => .int
abbrev wsX50 : List Cond := u_ws RX5 TX5 7
theorem nmX5 : ∀ a, a < 7 → ∀ b, b < 7 → a ≠ b → (TX5 a).2.1 ≠ (TX5 b).2.1 := by decide +kernel
theorem tyX5_ok : ∀ k, k < 7 → parseFieldDescriptor (TX5 k).2.2.1 = some (tyX5 k) := by decide +kernel
abbrev cX5_init : ByteArray := prog_7_method_1_code
def yX5_init : MethodName := ⟨RX5, "<init>", "()V"⟩
abbrev cX5_run : ByteArray := prog_7_method_2_code
def yX5_run : MethodName := ⟨RX5, "run", "(LNearGroups$Table;I)I"⟩
abbrev cX5_chooseFirstMeans : ByteArray := prog_7_method_3_code
def yX5_chooseFirstMeans : MethodName := ⟨RX5, "chooseFirstMeans", "(LNearGroups$Table;)V"⟩
abbrev cX5_putFirstMean : ByteArray := prog_7_method_4_code
def yX5_putFirstMean : MethodName := ⟨RX5, "putFirstMean", "(LNearGroups$Table;II)V"⟩
abbrev cX5_farthestFromChosen : ByteArray := prog_7_method_5_code
def yX5_farthestFromChosen : MethodName := ⟨RX5, "farthestFromChosen", "(LNearGroups$Table;I)I"⟩
abbrev cX5_moveRows : ByteArray := prog_7_method_6_code
def yX5_moveRows : MethodName := ⟨RX5, "moveRows", "(LNearGroups$Table;)Z"⟩
abbrev cX5_nearestMean : ByteArray := prog_7_method_7_code
def yX5_nearestMean : MethodName := ⟨RX5, "nearestMean", "(LNearGroups$Table;I)I"⟩
abbrev cX5_takeFarthest : ByteArray := prog_7_method_8_code
def yX5_takeFarthest : MethodName := ⟨RX5, "takeFarthest", "(LNearGroups$Table;I)V"⟩
abbrev cX5_noteMoves : ByteArray := prog_7_method_9_code
def yX5_noteMoves : MethodName := ⟨RX5, "noteMoves", "(I)Z"⟩
abbrev cX5_remakeMeans : ByteArray := prog_7_method_10_code
def yX5_remakeMeans : MethodName := ⟨RX5, "remakeMeans", "(LNearGroups$Table;)V"⟩
abbrev cX5_squaresAbove : ByteArray := prog_7_method_11_code
def yX5_squaresAbove : MethodName := ⟨RX5, "squaresAbove", "(LNearGroups$Table;II)J"⟩
abbrev cX5_squaresBelow : ByteArray := prog_7_method_12_code
def yX5_squaresBelow : MethodName := ⟨RX5, "squaresBelow", "(I)J"⟩
def RX6 : String := "NearGroups$Table"
def TX6 : u_T := fun k => match k with
  | 0 => ("NearGroups$Table", "cells", "[I", true)
  | 1 => ("NearGroups$Table", "distances", "[I", true)
  | 2 => ("NearGroups$Table", "width", "I", false)
  | _ => ("NearGroups$Table", "rows", "I", false)
def tyX6 : Nat → FieldType := fun k => match k with
  | 0 => .array .int
  | 1 => .array .int
  | 2 => .int
  | _ => .int
abbrev wsX60 : List Cond := u_ws RX6 TX6 4
theorem nmX6 : ∀ a, a < 4 → ∀ b, b < 4 → a ≠ b → (TX6 a).2.1 ≠ (TX6 b).2.1 := by decide +kernel
theorem tyX6_ok : ∀ k, k < 4 → parseFieldDescriptor (TX6 k).2.2.1 = some (tyX6 k) := by decide +kernel
abbrev cX6_init : ByteArray := prog_8_method_1_code
def yX6_init : MethodName := ⟨RX6, "<init>", "()V"⟩
abbrev cX6_takes : ByteArray := prog_8_method_2_code
def yX6_takes : MethodName := ⟨RX6, "takes", "(II)Z"⟩
abbrev cX6_append : ByteArray := prog_8_method_3_code
def yX6_append : MethodName := ⟨RX6, "append", "(IIII)I"⟩
abbrev cX6_cell : ByteArray := prog_8_method_4_code
def yX6_cell : MethodName := ⟨RX6, "cell", "(II)I"⟩
abbrev cX6_apart : ByteArray := prog_8_method_5_code
def yX6_apart : MethodName := ⟨RX6, "apart", "(III)I"⟩
abbrev cX6_placeOf : ByteArray := prog_8_method_6_code
def yX6_placeOf : MethodName := ⟨RX6, "placeOf", "(II)I"⟩
abbrev cX6_nearerThan : ByteArray := prog_8_method_7_code
def yX6_nearerThan : MethodName := ⟨RX6, "nearerThan", "(III)I"⟩
abbrev cX6_measure : ByteArray := prog_8_method_8_code
def yX6_measure : MethodName := ⟨RX6, "measure", "(II)V"⟩
abbrev cX6_note : ByteArray := prog_8_method_9_code
def yX6_note : MethodName := ⟨RX6, "note", "(IIII)V"⟩
def RX7 : String := "NearGroups"
def TX7 : u_T := fun k => match k with
  | 0 => ("NearGroups", "table", "LNearGroups$Table;", true)
  | 1 => ("NearGroups", "slots", "[LNearGroups$Grouping;", true)
  | 2 => ("NearGroups", "meanRounds", "LNearGroups$MeanRounds;", true)
  | 3 => ("NearGroups", "bestRows", "LNearGroups$BestRows;", true)
  | 4 => ("NearGroups", "denseRows", "LNearGroups$DenseRows;", true)
  | 5 => ("NearGroups", "joins", "LNearGroups$Joins;", true)
  | _ => ("NearGroups", "told", "LNearGroups$Fraction;", true)
def tyX7 : Nat → FieldType := fun k => match k with
  | 0 => .object "NearGroups$Table"
  | 1 => .array (.object "NearGroups$Grouping")
  | 2 => .object "NearGroups$MeanRounds"
  | 3 => .object "NearGroups$BestRows"
  | 4 => .object "NearGroups$DenseRows"
  | 5 => .object "NearGroups$Joins"
  | _ => .object "NearGroups$Fraction"
abbrev wsX70 : List Cond := u_ws RX7 TX7 7
theorem nmX7 : ∀ a, a < 7 → ∀ b, b < 7 → a ≠ b → (TX7 a).2.1 ≠ (TX7 b).2.1 := by decide +kernel
theorem tyX7_ok : ∀ k, k < 7 → parseFieldDescriptor (TX7 k).2.2.1 = some (tyX7 k) := by decide +kernel
abbrev cX7_init : ByteArray := prog_1_method_1_code
def yX7_init : MethodName := ⟨RX7, "<init>", "()V"⟩
abbrev cX7_columns : ByteArray := prog_1_method_2_code
def yX7_columns : MethodName := ⟨RX7, "columns", "(I)I"⟩
abbrev cX7_row : ByteArray := prog_1_method_3_code
def yX7_row : MethodName := ⟨RX7, "row", "(IIII)I"⟩
abbrev cX7_clear : ByteArray := prog_1_method_4_code
def yX7_clear : MethodName := ⟨RX7, "clear", "()I"⟩
abbrev cX7_count : ByteArray := prog_1_method_5_code
def yX7_count : MethodName := ⟨RX7, "count", "(I)I"⟩
abbrev cX7_distance : ByteArray := prog_1_method_6_code
def yX7_distance : MethodName := ⟨RX7, "distance", "(III)I"⟩
abbrev cX7_near : ByteArray := prog_1_method_7_code
def yX7_near : MethodName := ⟨RX7, "near", "(III)I"⟩
abbrev cX7_means : ByteArray := prog_1_method_8_code
def yX7_means : MethodName := ⟨RX7, "means", "(II)I"⟩
abbrev cX7_medoids : ByteArray := prog_1_method_9_code
def yX7_medoids : MethodName := ⟨RX7, "medoids", "(III)I"⟩
abbrev cX7_medoid : ByteArray := prog_1_method_10_code
def yX7_medoid : MethodName := ⟨RX7, "medoid", "(I)I"⟩
abbrev cX7_density : ByteArray := prog_1_method_11_code
def yX7_density : MethodName := ⟨RX7, "density", "(IIII)I"⟩
abbrev cX7_tree : ByteArray := prog_1_method_12_code
def yX7_tree : MethodName := ⟨RX7, "tree", "(II)I"⟩
abbrev cX7_join : ByteArray := prog_1_method_13_code
def yX7_join : MethodName := ⟨RX7, "join", "(II)J"⟩
abbrev cX7_cut : ByteArray := prog_1_method_14_code
def yX7_cut : MethodName := ⟨RX7, "cut", "(II)I"⟩
abbrev cX7_of : ByteArray := prog_1_method_15_code
def yX7_of : MethodName := ⟨RX7, "of", "(II)I"⟩
abbrev cX7_size : ByteArray := prog_1_method_16_code
def yX7_size : MethodName := ⟨RX7, "size", "(II)I"⟩
abbrev cX7_mean : ByteArray := prog_1_method_17_code
def yX7_mean : MethodName := ⟨RX7, "mean", "(IIII)I"⟩
abbrev cX7_sum : ByteArray := prog_1_method_18_code
def yX7_sum : MethodName := ⟨RX7, "sum", "(II)J"⟩
abbrev cX7_well : ByteArray := prog_1_method_19_code
def yX7_well : MethodName := ⟨RX7, "well", "(IIII)J"⟩
abbrev cX7_agree : ByteArray := prog_1_method_20_code
def yX7_agree : MethodName := ⟨RX7, "agree", "(I)I"⟩
abbrev cX7_forgetGroupings : ByteArray := prog_1_method_21_code
def yX7_forgetGroupings : MethodName := ⟨RX7, "forgetGroupings", "()V"⟩
abbrev cX7_isRow : ByteArray := prog_1_method_22_code
def yX7_isRow : MethodName := ⟨RX7, "isRow", "(I)Z"⟩
abbrev cX7_isKind : ByteArray := prog_1_method_23_code
def yX7_isKind : MethodName := ⟨RX7, "isKind", "(I)Z"⟩
abbrev cX7_isSlot : ByteArray := prog_1_method_24_code
def yX7_isSlot : MethodName := ⟨RX7, "isSlot", "(I)Z"⟩
abbrev cX7_isSide : ByteArray := prog_1_method_25_code
def yX7_isSide : MethodName := ⟨RX7, "isSide", "(I)Z"⟩
abbrev cX7_refusalOfGroup : ByteArray := prog_1_method_26_code
def yX7_refusalOfGroup : MethodName := ⟨RX7, "refusalOfGroup", "(II)I"⟩
abbrev cX7_reckonMean : ByteArray := prog_1_method_27_code
def yX7_reckonMean : MethodName := ⟨RX7, "reckonMean", "(LNearGroups$Grouping;II)V"⟩
abbrev cX7_reckonSum : ByteArray := prog_1_method_28_code
def yX7_reckonSum : MethodName := ⟨RX7, "reckonSum", "(LNearGroups$Grouping;)V"⟩
abbrev cX7_reckonWell : ByteArray := prog_1_method_29_code
def yX7_reckonWell : MethodName := ⟨RX7, "reckonWell", "(LNearGroups$Grouping;II)V"⟩
abbrev cX7_nearestOtherGroup : ByteArray := prog_1_method_30_code
def yX7_nearestOtherGroup : MethodName := ⟨RX7, "nearestOtherGroup", "(LNearGroups$Grouping;II)I"⟩
abbrev cX7_agreementOf : ByteArray := prog_1_method_31_code
def yX7_agreementOf : MethodName := ⟨RX7, "agreementOf", "(II)I"⟩
abbrev cX7_isLess : ByteArray := prog_1_method_32_code
def yX7_isLess : MethodName := ⟨RX7, "isLess", "(JJJJ)Z"⟩
def RX8 : String := "NearGroupsModel"
def TX8 : u_T := fun k => match k with
  | 0 => ("NearGroupsModel", "rows", "I", false)
  | 1 => ("NearGroupsModel", "columns", "I", false)
  | 2 => ("NearGroupsModel", "numbers", "[I", true)
  | 3 => ("NearGroupsModel", "isTold", "[Z", true)
  | 4 => ("NearGroupsModel", "groups", "[I", true)
  | 5 => ("NearGroupsModel", "groupOf", "[I", true)
  | 6 => ("NearGroupsModel", "medoidMany", "I", false)
  | 7 => ("NearGroupsModel", "medoids", "[I", true)
  | 8 => ("NearGroupsModel", "isTree", "Z", false)
  | 9 => ("NearGroupsModel", "joins", "I", false)
  | 10 => ("NearGroupsModel", "joinA", "[I", true)
  | 11 => ("NearGroupsModel", "joinB", "[I", true)
  | 12 => ("NearGroupsModel", "joinSize", "[I", true)
  | 13 => ("NearGroupsModel", "joinAbove", "[J", true)
  | 14 => ("NearGroupsModel", "joinBelow", "[J", true)
  | 15 => ("NearGroupsModel", "table", "[I", true)
  | 16 => ("NearGroupsModel", "sums", "[J", true)
  | 17 => ("NearGroupsModel", "many", "[I", true)
  | 18 => ("NearGroupsModel", "now", "[I", true)
  | 19 => ("NearGroupsModel", "chosen", "[Z", true)
  | 20 => ("NearGroupsModel", "isCore", "[Z", true)
  | 21 => ("NearGroupsModel", "cluster", "[I", true)
  | 22 => ("NearGroupsModel", "above", "J", false)
  | 23 => ("NearGroupsModel", "below", "J", false)
  | 24 => ("NearGroupsModel", "sizes", "[J", true)
  | 25 => ("NearGroupsModel", "columnSums", "[J", true)
  | 26 => ("NearGroupsModel", "least", "[J", true)
  | 27 => ("NearGroupsModel", "most", "[J", true)
  | _ => ("NearGroupsModel", "whole", "[J", true)
def tyX8 : Nat → FieldType := fun k => match k with
  | 0 => .int
  | 1 => .int
  | 2 => .array .int
  | 3 => .array .boolean
  | 4 => .array .int
  | 5 => .array .int
  | 6 => .int
  | 7 => .array .int
  | 8 => .boolean
  | 9 => .int
  | 10 => .array .int
  | 11 => .array .int
  | 12 => .array .int
  | 13 => .array .long
  | 14 => .array .long
  | 15 => .array .int
  | 16 => .array .long
  | 17 => .array .int
  | 18 => .array .int
  | 19 => .array .boolean
  | 20 => .array .boolean
  | 21 => .array .int
  | 22 => .long
  | 23 => .long
  | 24 => .array .long
  | 25 => .array .long
  | 26 => .array .long
  | 27 => .array .long
  | _ => .array .long
abbrev wsX80 : List Cond := u_ws RX8 TX8 29
theorem nmX8 : ∀ a, a < 29 → ∀ b, b < 29 → a ≠ b → (TX8 a).2.1 ≠ (TX8 b).2.1 := by decide +kernel
theorem tyX8_ok : ∀ k, k < 29 → parseFieldDescriptor (TX8 k).2.2.1 = some (tyX8 k) := by decide +kernel
abbrev cX8_init : ByteArray := prog_10_method_1_code
def yX8_init : MethodName := ⟨RX8, "<init>", "()V"⟩
abbrev cX8_within : ByteArray := prog_10_method_3_code
def yX8_within : MethodName := ⟨RX8, "within", "(III)Z"⟩
abbrev cX8_isRow : ByteArray := prog_10_method_4_code
def yX8_isRow : MethodName := ⟨RX8, "isRow", "(I)Z"⟩
abbrev cX8_common : ByteArray := prog_10_method_5_code
def yX8_common : MethodName := ⟨RX8, "common", "(JJ)J"⟩
abbrev cX8_forget : ByteArray := prog_10_method_6_code
def yX8_forget : MethodName := ⟨RX8, "forget", "()V"⟩
abbrev cX8_columns : ByteArray := prog_10_method_7_code
def yX8_columns : MethodName := ⟨RX8, "columns", "(I)I"⟩
abbrev cX8_row : ByteArray := prog_10_method_8_code
def yX8_row : MethodName := ⟨RX8, "row", "(IIII)I"⟩
abbrev cX8_clear : ByteArray := prog_10_method_9_code
def yX8_clear : MethodName := ⟨RX8, "clear", "()I"⟩
abbrev cX8_count : ByteArray := prog_10_method_10_code
def yX8_count : MethodName := ⟨RX8, "count", "(I)I"⟩
abbrev cX8_apart : ByteArray := prog_10_method_11_code
def yX8_apart : MethodName := ⟨RX8, "apart", "(III)I"⟩
abbrev cX8_lay : ByteArray := prog_10_method_12_code
def yX8_lay : MethodName := ⟨RX8, "lay", "(I)V"⟩
abbrev cX8_distance : ByteArray := prog_10_method_13_code
def yX8_distance : MethodName := ⟨RX8, "distance", "(III)I"⟩
abbrev cX8_near : ByteArray := prog_10_method_14_code
def yX8_near : MethodName := ⟨RX8, "near", "(III)I"⟩
abbrev cX8_chooseFirst : ByteArray := prog_10_method_15_code
def yX8_chooseFirst : MethodName := ⟨RX8, "chooseFirst", "(I)V"⟩
abbrev cX8_farthest : ByteArray := prog_10_method_16_code
def yX8_farthest : MethodName := ⟨RX8, "farthest", "()I"⟩
abbrev cX8_square : ByteArray := prog_10_method_17_code
def yX8_square : MethodName := ⟨RX8, "square", "(II)J"⟩
abbrev cX8_isNearer : ByteArray := prog_10_method_18_code
def yX8_isNearer : MethodName := ⟨RX8, "isNearer", "(IIII)Z"⟩
abbrev cX8_sizeNow : ByteArray := prog_10_method_19_code
def yX8_sizeNow : MethodName := ⟨RX8, "sizeNow", "(I)I"⟩
abbrev cX8_fill : ByteArray := prog_10_method_20_code
def yX8_fill : MethodName := ⟨RX8, "fill", "(I)V"⟩
abbrev cX8_takeMeans : ByteArray := prog_10_method_21_code
def yX8_takeMeans : MethodName := ⟨RX8, "takeMeans", "(I)V"⟩
abbrev cX8_means : ByteArray := prog_10_method_22_code
def yX8_means : MethodName := ⟨RX8, "means", "(II)I"⟩
abbrev cX8_nearestOf : ByteArray := prog_10_method_23_code
def yX8_nearestOf : MethodName := ⟨RX8, "nearestOf", "(IIIII)I"⟩
abbrev cX8_sumOf : ByteArray := prog_10_method_24_code
def yX8_sumOf : MethodName := ⟨RX8, "sumOf", "(IIII)I"⟩
abbrev cX8_medoids : ByteArray := prog_10_method_25_code
def yX8_medoids : MethodName := ⟨RX8, "medoids", "(III)I"⟩
abbrev cX8_medoid : ByteArray := prog_10_method_26_code
def yX8_medoid : MethodName := ⟨RX8, "medoid", "(I)I"⟩
abbrev cX8_density : ByteArray := prog_10_method_27_code
def yX8_density : MethodName := ⟨RX8, "density", "(IIII)I"⟩
abbrev cX8_spread : ByteArray := prog_10_method_28_code
def yX8_spread : MethodName := ⟨RX8, "spread", "(III)V"⟩
abbrev cX8_gather : ByteArray := prog_10_method_29_code
def yX8_gather : MethodName := ⟨RX8, "gather", "()V"⟩
abbrev cX8_apartOf : ByteArray := prog_10_method_30_code
def yX8_apartOf : MethodName := ⟨RX8, "apartOf", "(III)V"⟩
abbrev cX8_tree : ByteArray := prog_10_method_31_code
def yX8_tree : MethodName := ⟨RX8, "tree", "(II)I"⟩
abbrev cX8_joinNext : ByteArray := prog_10_method_32_code
def yX8_joinNext : MethodName := ⟨RX8, "joinNext", "(I)V"⟩
abbrev cX8_join : ByteArray := prog_10_method_33_code
def yX8_join : MethodName := ⟨RX8, "join", "(II)J"⟩
abbrev cX8_cut : ByteArray := prog_10_method_34_code
def yX8_cut : MethodName := ⟨RX8, "cut", "(II)I"⟩
abbrev cX8_of0 : ByteArray := prog_10_method_35_code
def yX8_of0 : MethodName := ⟨RX8, "of0", "(II)I"⟩
abbrev cX8_of : ByteArray := prog_10_method_36_code
def yX8_of : MethodName := ⟨RX8, "of", "(II)I"⟩
abbrev cX8_sizeIn : ByteArray := prog_10_method_37_code
def yX8_sizeIn : MethodName := ⟨RX8, "sizeIn", "(II)I"⟩
abbrev cX8_refused : ByteArray := prog_10_method_38_code
def yX8_refused : MethodName := ⟨RX8, "refused", "(II)I"⟩
abbrev cX8_size : ByteArray := prog_10_method_39_code
def yX8_size : MethodName := ⟨RX8, "size", "(II)I"⟩
abbrev cX8_sumIn : ByteArray := prog_10_method_40_code
def yX8_sumIn : MethodName := ⟨RX8, "sumIn", "(III)J"⟩
abbrev cX8_mean : ByteArray := prog_10_method_41_code
def yX8_mean : MethodName := ⟨RX8, "mean", "(IIII)I"⟩
abbrev cX8_sum : ByteArray := prog_10_method_42_code
def yX8_sum : MethodName := ⟨RX8, "sum", "(II)J"⟩
abbrev cX8_farFrom : ByteArray := prog_10_method_43_code
def yX8_farFrom : MethodName := ⟨RX8, "farFrom", "(IIII)J"⟩
abbrev cX8_well : ByteArray := prog_10_method_44_code
def yX8_well : MethodName := ⟨RX8, "well", "(IIII)J"⟩
abbrev cX8_agree : ByteArray := prog_10_method_45_code
def yX8_agree : MethodName := ⟨RX8, "agree", "(I)I"⟩
def RL : String := "NearGroupsLaw"
abbrev cL_law : ByteArray := code
def yL_law : MethodName := ⟨RL, "law", "([I)Z"⟩
abbrev vwCl : List vw_C := [(RX0, TX0, 6), (RX1, TX1, 3), (RX2, TX2, 2), (RX3, TX3, 4), (RX4, TX4, 12), (RX5, TX5, 7), (RX6, TX6, 4), (RX7, TX7, 7), (RX8, TX8, 29)]
end
section
-- the words of the tables that stand all through; those that only warm
abbrev qcl : List vw_C := vwCl
def qgr : String := "NearGroups$Grouping"
def qALL : List Cond := lw_tbl.filter goodWord
def qnest : Cond → Bool
  | .fieldLinkNest .. => true
  | .methodLinkNest .. => true
  | _ => false
def qNZ : List Cond := lw_tbl.filter qnest
theorem q_tab {w : Cond} (h : w ∈ qNZ) : w.onTables = true := by
  have h2 := (List.mem_filter.mp h).2
  cases w <;> first | rfl | (exact absurd h2 (by simp [qnest]))
/-! THE q LAYER: a machine over whole numbers. A state is: pc, locals, stack, and what the cells hold ('c k i': cell k, place i, a whole number); the cells lie at B, B + 1, .. and their kinds ('qL') stand apart from what they hold. 'qG' says: from such a state the machine comes to its end as Z says. -/
abbrev iR (z : Int) : Prop := -2147483648 ≤ z ∧ z ≤ 2147483647
abbrev lR (z : Int) : Prop := -9223372036854775808 ≤ z ∧ z ≤ 9223372036854775807
theorem q_it {z : Int} (h : iR z) : (Int32.ofInt z).toInt = z := Int32.toInt_ofInt_of_le (by omega) (by omega)
theorem q_lt {z : Int} (h : lR z) : (Int64.ofInt z).toInt = z := Int64.toInt_ofInt_of_le (by omega) (by omega)
theorem q_ofi (x : Int32) : iR x.toInt := ⟨by have := Int32.le_toInt x; omega, by have := Int32.toInt_lt x; omega⟩
theorem q_i0 : (0 : Int32) = Int32.ofInt 0 := by decide
theorem q_l0 : (0 : Int64) = Int64.ofInt 0 := by decide
theorem q_ilt {x y : Int} (hx : iR x) (hy : iR y) : Int32.ofInt x < Int32.ofInt y ↔ x < y := by rw [Int32.lt_iff_toInt_lt, q_it hx, q_it hy]
theorem q_ile {x y : Int} (hx : iR x) (hy : iR y) : Int32.ofInt x ≤ Int32.ofInt y ↔ x ≤ y := by rw [Int32.le_iff_toInt_le, q_it hx, q_it hy]
theorem q_ieq {x y : Int} (hx : iR x) (hy : iR y) : Int32.ofInt x = Int32.ofInt y ↔ x = y := by rw [← Int32.toInt_inj, q_it hx, q_it hy]
theorem q_llt {x y : Int} (hx : lR x) (hy : lR y) : Int64.ofInt x < Int64.ofInt y ↔ x < y := by rw [Int64.lt_iff_toInt_lt, q_lt hx, q_lt hy]
theorem q_leq {x y : Int} (hx : lR x) (hy : lR y) : Int64.ofInt x = Int64.ofInt y ↔ x = y := by rw [← Int64.toInt_inj, q_lt hx, q_lt hy]
theorem q_r0 : iR 0 := by omega
theorem q_i2l {z : Int} (h : iR z) : (Int32.ofInt z).toInt64 = Int64.ofInt z := Int32.toInt64_ofInt (by show (-2147483648 : Int) ≤ z; exact h.1) (by show z ≤ (2147483647 : Int); exact h.2)
theorem q_ldiv {a b : Int} (ha : lR a) (hb : lR b) : Int64.ofInt a / Int64.ofInt b = Int64.ofInt (a.tdiv b) := (Int64.ofInt_tdiv (by show (-9223372036854775808 : Int) ≤ a; exact ha.1) (by show a ≤ (9223372036854775807 : Int); exact ha.2) (by show (-9223372036854775808 : Int) ≤ b; exact hb.1) (by show b ≤ (9223372036854775807 : Int); exact hb.2)).symm
theorem q_lrem {a b : Int} (ha : lR a) (hb : lR b) : Int64.ofInt a - Int64.ofInt a / Int64.ofInt b * Int64.ofInt b = Int64.ofInt (a.tmod b) := by
  rw [q_ldiv ha hb, ← Int64.ofInt_mul, ← Int64.ofInt_sub]
  congr 1
  have := Int.tdiv_mul_add_tmod a b
  omega
theorem q_cl {z : Int} (h0 : 0 ≤ z) (h1 : z ≤ 2147483647) : (Int32.ofInt z).toNatClampNeg = z.toNat := Int32.toNatClampNeg_ofInt_of_le (by omega) (by omega)
theorem q_in {z : Int} {n : Nat} (h0 : 0 ≤ z) (h1 : z < n) (hn : n < 2147483648) : vp_in (Int32.ofInt z) n := by
  rw [vp_in_iff, q_it (by omega)]
  exact ⟨h0, h1⟩
theorem q_cmp {x y : Int} (hx : lR x) (hy : lR y) : lg_cmp (Int64.ofInt x) (Int64.ofInt y) = Int32.ofInt (if y < x then 1 else if x = y then 0 else -1) := by
  by_cases h1 : y < x
  · rw [if_pos h1]; simp [lg_cmp, (q_llt hy hx).mpr h1]; try decide
  · rw [if_neg h1]
    by_cases h2 : x = y
    · rw [if_pos h2]; subst h2; simp [lg_cmp]; try decide
    · rw [if_neg h2]
      have h3 : ¬ Int64.ofInt y < Int64.ofInt x := fun h => h1 ((q_llt hy hx).mp h)
      have h4 : ¬ Int64.ofInt x = Int64.ofInt y := fun h => h2 ((q_leq hx hy).mp h)
      simp [lg_cmp, h3, h4]; try decide
-- values, cells
abbrev qV : Type := Int ⊕ Int ⊕ Option Nat ⊕ Nat
def qI (z : Int) : qV := .inl z
def qJ (z : Int) : qV := .inr (.inl z)
def qP (k : Nat) : qV := .inr (.inr (.inl (some k)))
def qO (a : Nat) : qV := .inr (.inr (.inr a))
def qv (B : Nat) : qV → Value
  | .inl z => .int (Int32.ofInt z)
  | .inr (.inl z) => .long (Int64.ofInt z)
  | .inr (.inr (.inl none)) => .null
  | .inr (.inr (.inl (some k))) => .ref (B + k)
  | .inr (.inr (.inr a)) => .ref a
def qcat : qV → Nat
  | .inr (.inl _) => 2
  | _ => 1
theorem q_cat (B : Nat) (v : qV) : (qv B v).category = qcat v := by
  rcases v with z | z | (_ | k) | a <;> rfl
def qcs : List qV → Nat
  | [] => 0
  | v :: t => qcat v + qcs t
theorem q_cs (B : Nat) (st : List qV) : ((st.map (qv B)).map fun v => v.category).sum = qcs st := by
  induction st with
  | nil => rfl
  | cons v t ih => simp only [List.map_cons, List.sum_cons, ih, q_cat, qcs]
abbrev qF : Type := Option Nat ⊕ Nat
abbrev qL : Type := (Nat × Nat) ⊕ (Nat × (Nat → Option Nat)) ⊕ (Nat × List qF)
abbrev qS : Type := ClassId × ClassId × ClassId × ClassId
abbrev qC : Type := Nat → Int → Int
def qf (B : Nat) (z : Int) : qF → Value
  | .inl r => va_rf (r.map (B + ·))
  | .inr 1 => .long (Int64.ofInt z)
  | .inr _ => .int (Int32.ofInt z)
def qfs (B : Nat) (g : Int → Int) : Nat → List qF → List Value
  | _, [] => []
  | j, f :: t => qf B (g j) f :: qfs B g (j + 1) t
theorem q_fs (B : Nat) (g : Int → Int) (fs : List qF) : ∀ (j i : Nat), (qfs B g j fs)[i]? = (fs[i]?).map (qf B (g ((j + i : Nat) : Int))) := by
  induction fs with
  | nil => intro j i; simp [qfs]
  | cons f t ih =>
    intro j i
    cases i with
    | zero => simp [qfs]
    | succ i => simp only [qfs, List.getElem?_cons_succ, ih]; rw [show j + 1 + i = j + (i + 1) by omega]
theorem q_fsl (B : Nat) (g : Int → Int) (fs : List qF) : ∀ j : Nat, (qfs B g j fs).length = fs.length := by
  induction fs with
  | nil => intro j; rfl
  | cons f t ih => intro j; simp [qfs, ih]
def qE (B : Nat) (cs : qS) (g : Int → Int) : qL → va_E
  | .inl (0, n) => .inl (cs.1, n, .inl fun j => Int32.ofInt (g j))
  | .inl (1, n) => .inl (cs.2.1, n, .inr (.inl fun j => Int64.ofInt (g j)))
  | .inl (_, n) => .inl (cs.2.2.1, n, .inl fun j => Int32.ofInt (g j))
  | .inr (.inl (n, f)) => .inl (cs.2.2.2, n, .inr (.inr (.inr (.inr fun j => (f j).map (B + ·)))))
  | .inr (.inr (ci, fs)) => .inr (ci, qfs B g 0 fs)
def qu (c : qC) (k : Nat) (i x : Int) : qC := fun a => if a = k then (fun b => if b = i then x else c a b) else c a
theorem qu_ne {c : qC} {k a : Nat} {i x : Int} (h : a ≠ k) : qu c k i x a = c a := if_neg h
theorem qu_at (c : qC) (k : Nat) (i x j : Int) : qu c k i x k j = if j = i then x else c k j := by simp [qu]
theorem qu_eq (c : qC) (k : Nat) (i x : Int) : qu c k i x k i = x := by simp [qu]
theorem qu_off {c : qC} {k : Nat} {i x j : Int} (h : j ≠ i) : qu c k i x k j = c k j := by simp [qu, h]
def quL (L : Nat → qL) (k : Nat) (e : qL) : Nat → qL := fun a => if a = k then e else L a
def qtys (cs : qS) : List (ClassId × FieldType) := [(cs.1, .int), (cs.2.1, .long), (cs.2.2.1, .boolean), (cs.2.2.2, .object qgr)]
/-- the heap holds the cells -/
def qH (D : va_G) (cs : qS) (B : Nat) (L : Nat → qL) (n : Nat) (c : qC) (H : Heap) : Prop := H.size = B + n ∧ ∀ k, k < n → va_at D qcl (B + k, qE B cs (c k) (L k)) H
theorem qH.one {D : va_G} {cs : qS} {B : Nat} {L : Nat → qL} {n : Nat} {c : qC} {H : Heap} (h : qH D cs B L n c H) {k : Nat} (hk : k < n) {e : qL} (he : L k = e) : va_P D qcl [(B + k, qE B cs (c k) e)] H := by
  subst he
  intro j q hq
  cases j with
  | zero => cases hq; exact h.2 k hk
  | succ j => cases hq
theorem qH.set {D : va_G} {cs : qS} {B : Nat} {L L' : Nat → qL} {n : Nat} {c c' : qC} {H H1 : Heap} (h : qH D cs B L n c H) {k : Nat} (hz : H1.size = H.size) (ho : ∀ q, q ≠ B + k → H1[q]? = H[q]?) (ha : va_at D qcl (B + k, qE B cs (c' k) (L' k)) H1) (hc : ∀ j, j ≠ k → c' j = c j ∧ L' j = L j) : qH D cs B L' n c' H1 := by
  refine ⟨by rw [hz]; exact h.1, fun j hj => ?_⟩
  by_cases e : j = k
  · subst e; exact ha
  · rw [(hc j e).1, (hc j e).2]
    exact (h.2 j hj).kept (ho _ (by show B + j ≠ B + k; omega))
theorem qH.push {D : va_G} {cs : qS} {B : Nat} {L L' : Nat → qL} {n : Nat} {c c' : qC} {H H1 : Heap} (h : qH D cs B L n c H) (hz : H1.size = H.size + 1) (ho : ∀ q, q < H.size → H1[q]? = H[q]?) (ha : va_at D qcl (B + n, qE B cs (c' n) (L' n)) H1) (hc : ∀ j, j ≠ n → c' j = c j ∧ L' j = L j) : qH D cs B L' (n + 1) c' H1 := by
  refine ⟨by rw [hz, h.1]; omega, fun j hj => ?_⟩
  by_cases e : j = n
  · subst e; exact ha
  · rw [(hc j e).1, (hc j e).2]
    exact (h.2 j (by omega)).kept (ho _ (by show B + j < H.size; rw [h.1]; omega))
-- locals
def qLs (B : Nat) (ls : Array Slot) (lo : List (Option qV)) : Prop := ls.size = lo.length ∧ lv_wf ls ∧ ∀ (i : Nat) (v : qV), lo[i]? = some (some v) → ls[i]? = some (.val (qv B v))
def qlv (B : Nat) : Nat → List (Option qV) → List (Nat × Value)
  | _, [] => []
  | i, none :: t => qlv B (i + 1) t
  | i, some v :: t => (i, qv B v) :: qlv B (i + 1) t
theorem q_lvm (B : Nat) (lo : List (Option qV)) : ∀ (j i : Nat) (v : qV), lo[i]? = some (some v) → (j + i, qv B v) ∈ qlv B j lo := by
  induction lo with
  | nil => intro j i v h; cases h
  | cons a t ih =>
    intro j i v h
    cases i with
    | zero =>
      have e : a = some v := by simpa using h
      subst e
      exact List.mem_cons_self
    | succ i =>
      have h2 := ih (j + 1) i v (by simpa using h)
      rw [show j + 1 + i = j + (i + 1) by omega] at h2
      cases a with
      | none => exact h2
      | some u => exact List.mem_cons_of_mem _ h2
theorem q_lvo (B : Nat) (lo : List (Option qV)) : ∀ (j : Nat) (q : Nat × Value), q ∈ qlv B j lo → ∃ (i : Nat) (v : qV), lo[i]? = some (some v) ∧ q = (j + i, qv B v) := by
  induction lo with
  | nil => intro j q h; cases h
  | cons a t ih =>
    intro j q h
    cases a with
    | none =>
      obtain ⟨i, v, h1, h2⟩ := ih (j + 1) q h
      exact ⟨i + 1, v, by simpa using h1, by rw [h2, show j + 1 + i = j + (i + 1) by omega]⟩
    | some u =>
      rcases List.mem_cons.mp h with h | h
      · exact ⟨0, u, rfl, h⟩
      · obtain ⟨i, v, h1, h2⟩ := ih (j + 1) q h
        exact ⟨i + 1, v, by simpa using h1, by rw [h2, show j + 1 + i = j + (i + 1) by omega]⟩
theorem qLs.has {B : Nat} {ls : Array Slot} {lo : List (Option qV)} (h : qLs B ls lo) : lv_has ls lo.length (qlv B 0 lo) := by
  refine ⟨h.1, h.2.1, fun q hq => ?_⟩
  obtain ⟨i, v, h1, h2⟩ := q_lvo B lo 0 q hq
  subst h2
  have h3 := h.2.2 i v h1
  simpa using h3
theorem qLs.of {B : Nat} {ls : Array Slot} {lo : List (Option qV)} {l : List (Nat × Value)} (h : lv_has ls lo.length l) (hl : ∀ (i : Nat) (v : qV), lo[i]? = some (some v) → (i, qv B v) ∈ l) : qLs B ls lo :=
  ⟨h.1, h.2.1, fun i v hi => h.2.2 _ (hl i v hi)⟩
/-- is it a long? -/
def qlg : Option qV → Bool
  | some (.inr (.inl _)) => true
  | _ => false
/-- a value of one slot at place i -/
def qs1 (v : qV) : List (Option qV) → Nat → List (Option qV)
  | [], _ => []
  | _ :: t, 0 => some v :: t
  | a :: t, 1 => (if qlg a = true then none else a) :: qs1 v t 0
  | a :: t, i + 2 => a :: qs1 v t (i + 1)
/-- a value of two slots at place i -/
def qs2 (v : qV) : List (Option qV) → Nat → List (Option qV)
  | [], _ => []
  | _ :: [], 0 => [some v]
  | _ :: _ :: t, 0 => some v :: none :: t
  | a :: t, 1 => (if qlg a = true then none else a) :: qs2 v t 0
  | a :: t, i + 2 => a :: qs2 v t (i + 1)
theorem q_s1l (v : qV) : ∀ (lo : List (Option qV)) (i : Nat), (qs1 v lo i).length = lo.length
  | [], _ => rfl
  | _ :: _, 0 => rfl
  | a :: t, 1 => by simp [qs1, q_s1l v t 0]
  | a :: t, i + 2 => by simp [qs1, q_s1l v t (i + 1)]
theorem q_s2l (v : qV) : ∀ (lo : List (Option qV)) (i : Nat), (qs2 v lo i).length = lo.length
  | [], _ => rfl
  | _ :: [], 0 => rfl
  | _ :: _ :: _, 0 => rfl
  | a :: t, 1 => by simp [qs2, q_s2l v t 0]
  | a :: t, i + 2 => by simp [qs2, q_s2l v t (i + 1)]
theorem q_s1 (v : qV) : ∀ (lo : List (Option qV)) (i j : Nat) (u : qV), (qs1 v lo i)[j]? = some (some u) → (j = i ∧ u = v) ∨ (j ≠ i ∧ lo[j]? = some (some u) ∧ ¬ (j + 1 = i ∧ qcat u = 2))
  | [], i, j, u, h => by cases h
  | a :: t, 0, j, u, h => by
    cases j with
    | zero => left; refine ⟨rfl, ?_⟩; have : v = u := by simpa [qs1] using h
              exact this.symm
    | succ j => right; exact ⟨by omega, by simpa [qs1] using h, fun q => by omega⟩
  | a :: t, 1, j, u, h => by
    cases j with
    | zero =>
      right
      refine ⟨by omega, ?_, ?_⟩
      · by_cases ha : qlg a = true
        · simp [qs1, ha] at h
        · simpa [qs1, ha] using h
      · intro q
        by_cases ha : qlg a = true
        · simp [qs1, ha] at h
        · have e : a = some u := by simpa [qs1, ha] using h
          subst e
          rcases u with z | z | (_ | k) | b <;> simp [qcat, qlg] at q ha
    | succ j =>
      rcases q_s1 v t 0 j u (by simpa [qs1] using h) with ⟨h1, h2⟩ | ⟨h1, h2, h3⟩
      · left; exact ⟨by omega, h2⟩
      · right; exact ⟨by omega, by simpa using h2, fun q => by omega⟩
  | a :: t, i + 2, j, u, h => by
    cases j with
    | zero => right; exact ⟨by omega, by simpa [qs1] using h, fun q => by omega⟩
    | succ j =>
      rcases q_s1 v t (i + 1) j u (by simpa [qs1] using h) with ⟨h1, h2⟩ | ⟨h1, h2, h3⟩
      · left; exact ⟨by omega, h2⟩
      · right; exact ⟨by omega, by simpa using h2, fun q => h3 ⟨by omega, q.2⟩⟩
theorem q_s2 (v : qV) : ∀ (lo : List (Option qV)) (i j : Nat) (u : qV), (qs2 v lo i)[j]? = some (some u) → (j = i ∧ u = v) ∨ (j ≠ i ∧ j ≠ i + 1 ∧ lo[j]? = some (some u) ∧ ¬ (j + 1 = i ∧ qcat u = 2)) ∨ lo.length ≤ i + 1
  | [], i, j, u, h => by cases h
  | a :: [], 0, j, u, h => by right; right; simp
  | a :: b :: t, 0, j, u, h => by
    match j with
    | 0 => left; refine ⟨rfl, ?_⟩; have : v = u := by simpa [qs2] using h
           exact this.symm
    | 1 => simp [qs2] at h
    | j + 2 => right; left; exact ⟨by omega, by omega, by simpa [qs2] using h, fun q => by omega⟩
  | a :: t, 1, j, u, h => by
    cases j with
    | zero =>
      right; left
      refine ⟨by omega, by omega, ?_, ?_⟩
      · by_cases ha : qlg a = true
        · simp [qs2, ha] at h
        · simpa [qs2, ha] using h
      · intro q
        by_cases ha : qlg a = true
        · simp [qs2, ha] at h
        · have e : a = some u := by simpa [qs2, ha] using h
          subst e
          rcases u with z | z | (_ | k) | b <;> simp [qcat, qlg] at q ha
    | succ j =>
      rcases q_s2 v t 0 j u (by simpa [qs2] using h) with ⟨h1, h2⟩ | ⟨h1, h2, h3, h4⟩ | h1
      · left; exact ⟨by omega, h2⟩
      · right; left; exact ⟨by omega, by omega, by simpa using h3, fun q => by omega⟩
      · right; right; simp; omega
  | a :: t, i + 2, j, u, h => by
    cases j with
    | zero => right; left; exact ⟨by omega, by omega, by simpa [qs2] using h, fun q => by omega⟩
    | succ j =>
      rcases q_s2 v t (i + 1) j u (by simpa [qs2] using h) with ⟨h1, h2⟩ | ⟨h1, h2, h3, h4⟩ | h1
      · left; exact ⟨by omega, h2⟩
      · right; left; exact ⟨by omega, by omega, by simpa using h3, fun q => h4 ⟨by omega, q.2⟩⟩
      · right; right; simp; omega
theorem qLs.s1 {B : Nat} {ls : Array Slot} {lo : List (Option qV)} {i : Nat} {v : qV} (h : lv_has ls lo.length ((i, qv B v) :: (qlv B 0 lo).filter (fun q => !(q.1 == i) && !(q.1 + 1 == i && q.2.category == 2)))) : qLs B ls (qs1 v lo i) := by
  refine qLs.of (by rw [q_s1l]; exact h) (fun j u hj => ?_)
  rcases q_s1 v lo i j u hj with ⟨rfl, rfl⟩ | ⟨h1, h2, h3⟩
  · exact List.mem_cons_self
  · refine List.mem_cons_of_mem _ (List.mem_filter.mpr ⟨by have := q_lvm B lo 0 j u h2; simpa using this, ?_⟩)
    have h5 : ¬ (j + 1 = i ∧ (qv B u).category = 2) := by rw [q_cat]; exact h3
    simp only [Bool.and_eq_true, Bool.not_eq_true', beq_eq_false_iff_ne, Bool.and_eq_false_iff]
    refine ⟨h1, ?_⟩
    by_cases e : j + 1 = i
    · right; simpa using fun q => h5 ⟨e, q⟩
    · left; simpa using e
theorem qLs.s2 {B : Nat} {ls : Array Slot} {lo : List (Option qV)} {i : Nat} {v : qV} (hi : i + 1 < lo.length) (h : lv_has ls lo.length ((i, qv B v) :: (qlv B 0 lo).filter (fun q => !(q.1 == i) && (!(q.1 == i + 1) && !(q.1 + 1 == i && q.2.category == 2))))) : qLs B ls (qs2 v lo i) := by
  refine qLs.of (by rw [q_s2l]; exact h) (fun j u hj => ?_)
  rcases q_s2 v lo i j u hj with ⟨rfl, rfl⟩ | ⟨h1, h2, h3, h4⟩ | h1
  · exact List.mem_cons_self
  · refine List.mem_cons_of_mem _ (List.mem_filter.mpr ⟨by have := q_lvm B lo 0 j u h3; simpa using this, ?_⟩)
    have h5 : ¬ (j + 1 = i ∧ (qv B u).category = 2) := by rw [q_cat]; exact h4
    simp only [Bool.and_eq_true, Bool.not_eq_true', beq_eq_false_iff_ne, Bool.and_eq_false_iff]
    refine ⟨h1, h2, ?_⟩
    by_cases e : j + 1 = i
    · right; simpa using fun q => h5 ⟨e, q⟩
    · left; simpa using e
  · omega
end
section
/-! the judgement qG, the contract qK, a rule an instruction -/
abbrev qM : Type := MethodName × ByteArray × Nat × Option FieldType
abbrev qZt : Type := va_G → qS → Nat → State → Array Value → List Frame → State → Prop
abbrev qY : Type := qM × (Nat × Nat × Nat) × (State → Array Value → Nat → Prop) × qZt
abbrev qW : Type := (Nat → qL) × Nat × Nat × Nat
/-- what holds of the machine all through a method -/
def qCx (X : qM) (r : Nat × Nat × Nat) (p : Program) (R : Room) (s : State) (m : MethodId) (args : Array Value) (meth : Method) (cd : Code) (D : va_G) (cs : qS) (B : Nat) : Prop :=
  p.tables.exec = Jvm.exec ∧ cd.code = X.2.1 ∧ meth.sig.returnType = X.2.2.2 ∧ cd.maxLocals = X.2.2.1 ∧ s.vm.findClass X.1.cls = some m.cls ∧ (∀ w ∈ qALL, w.before args s = true) ∧ (∀ w ∈ qNZ, va_Nw w s) ∧ va_K D qcl (qtys cs) s ∧ meth.locks = false ∧ meth.name = X.1.name ∧ B ≤ s.heap.size ∧ r.1 ≤ R.frames ∧ 48 * r.1 ≤ R.locals ∧ r.2.1 ≤ R.cells ∧ r.2.2 ≤ R.slots
def qG (Y : qY) (w : qW) (pc : Nat) (lo : List (Option qV)) (st : List qV) (c : qC) : Prop :=
  ∀ (p : Program) (l : Launch) (e : Env) (R : Room) (s : State) (m : MethodId) (args : Array Value) (below : List Frame) (meth : Method) (cd : Code) (D : va_G) (cs : qS) (B : Nat) (H : Heap) (locs : List Loc) (ls : Array Slot),
    qCx Y.1 Y.2.1 p R s m args meth cd D cs B → Y.2.2.1 s args B → qH D cs B w.1 w.2.1 c H → va_S (fun q : Nat => B ≤ q) s.heap H locs → qLs B ls lo → ls.size = Y.1.2.2.1 →
    W p l e R s m args below meth cd H locs w.2.2.1 w.2.2.2 (Y.2.2.2 D cs B s args below) (F0 m pc ls (st.map (qv B)))
def qE0 : State → Array Value → Nat → Prop := fun _ _ _ => True
/-- a method's end -/
def qQ (post : Option qV → (Nat → qL) → Nat → qC → Prop) (D : va_G) (cs : qS) (B : Nat) : Array Value → State → Outcome → State → Prop := fun _ st oc t => (∃ (r : Option qV) (L : Nat → qL) (n : Nat) (c : qC), oc = .returned (r.map (qv B)) ∧ post r L n c ∧ qH D cs B L n c t.heap) ∧ va_F (fun q : Nat => B ≤ q) st t
def qZm (post : Option qV → (Nat → qL) → Nat → qC → Prop) (mc ms : Nat) : qZt := fun D cs B s args below => MQ below (qQ post D cs B) args s mc ms (fun q : Nat => B ≤ q)
def qrm (r : Nat × Nat × Nat) : Room := { frames := r.1, cells := r.2.1, slots := r.2.2, locals := 48 * r.1 }
/-- a state in which a method may be called -/
def qU (D : va_G) (cs : qS) (B : Nat) (L : Nat → qL) (n : Nat) (c : qC) (U : State) : Prop := B ≤ U.heap.size ∧ qH D cs B L n c U.heap ∧ va_K D qcl (qtys cs) U ∧ ∀ w ∈ qNZ, va_Nw w U
/-- THE CONTRACT: from these arguments and cells the method X returns, with 'post' of its answer and of the cells -/
def qK (X : qM) (r : Nat × Nat × Nat) (as : List qV) (L : Nat → qL) (n : Nat) (c : qC) (post : Option qV → (Nat → qL) → Nat → qC → Prop) : Prop :=
  ∀ (l : Launch) (D : va_G) (cs : qS) (B : Nat), Met l X.1 (Cond.code X.1 X.2.1 X.2.2.1 X.2.2.2 :: qALL) (qrm r) (va_Pc (as.map (qv B)) (qU D cs B L n c)) (qQ post D cs B) r.2.1 r.2.2 (fun q : Nat => B ≤ q)
theorem qK.of {X : qM} {r : Nat × Nat × Nat} {as : List qV} {L : Nat → qL} {n : Nat} {c : qC} {post : Option qV → (Nat → qL) → Nat → qC → Prop} (lo : List (Option qV)) (hp : plainName X.1.cls = true) (hlen : lo.length = X.2.2.1) (hlo : ∀ B : Nat, qlv B 0 lo = lv_args 0 (as.map (qv B))) (hsl : ∀ B : Nat, (lg_sl (as.map (qv B))).length ≤ X.2.2.1)
    (h : qG (X, r, qE0, qZm post r.2.1 r.2.2) (L, n, 0, 0) 0 lo [] c) : qK X r as L n c post := by
  intro l D cs B
  refine Met.ofW (cc := X.2.1) (maxL := X.2.2.1) (ret := X.2.2.2) hp rfl ?_
  intro p e s m args below meth cd s₁ Bd hml hv
  obtain ⟨rfl, hB, hH, hK, hN⟩ := hv
  have hts := atoms_spec (ws := Cond.code X.1 X.2.1 X.2.2.1 X.2.2.2 :: qALL) Bd.pre
  have hl := lv_entry (as.map (qv B)) (n := X.2.2.1) (hsl B)
  rw [lg_entry_eq]
  generalize (lg_sl (as.map (qv B)) ++ List.replicate (X.2.2.1 - (lg_sl (as.map (qv B))).length) Slot.unset).toArray = ls at hl ⊢
  refine h p l e _ s m _ below meth cd D cs B s.heap [] ls ⟨Bd.exec, Bd.bytes, Bd.returns, hml, findClass_of_methodNamed Bd.named, fun w hw => hts w (List.mem_cons_of_mem _ hw), hN, hK, Bd.notSynchronized, (name_of_methodNamed Bd.named Bd.method).1, hB, Nat.le_refl _, Nat.le_refl _, Nat.le_refl _, Nat.le_refl _⟩ trivial hH va_S.rf ?_ hl.1
  refine qLs.of (by rw [hlen]; exact hl) (fun i v hi => ?_)
  rw [← hlo B]
  have := q_lvm B lo 0 i v hi
  simpa using this
section QG
variable {Y : qY} {w : qW} {pc : Nat} {lo : List (Option qV)} {st : List qV} {c : qC}
theorem qG.name {x : Int} (h : ∀ y : Int, y = x → qG Y w pc lo (qI y :: st) c) : qG Y w pc lo (qI x :: st) c := h x rfl
theorem qG.nameJ {x : Int} (h : ∀ y : Int, y = x → qG Y w pc lo (qJ y :: st) c) : qG Y w pc lo (qJ x :: st) c := h x rfl
theorem qG.to {pc' : Nat} {lo' : List (Option qV)} {st' : List qV} {c' : qC} (h : qG Y w pc lo st c) (h1 : pc = pc') (h2 : lo = lo') (h3 : st = st') (h4 : c = c') : qG Y w pc' lo' st' c' := by
  subst h1; subst h2; subst h3; subst h4; exact h
/-- fewer locals are named -/
theorem qG.fewer {lo' : List (Option qV)} (h : qG Y w pc lo st c) (hl : lo.length = lo'.length) (h2 : ∀ (i : Nat) (v : qV), lo[i]? = some (some v) → lo'[i]? = some (some v)) : qG Y w pc lo' st c :=
  fun p l e R s m args below meth cd D cs B H locs ls C hE hH hS hl0 hn => h p l e R s m args below meth cd D cs B H locs ls C hE hH hS ⟨hl0.1.trans hl.symm, hl0.2.1, fun i v hi => hl0.2.2 i v (h2 i v hi)⟩ hn

theorem q_lr0 : lR 0 := by omega
theorem g_iconst {n : Int} (hd : decode Y.1.2.1 pc = .ok (.iconst n, 1)) (h : qG Y w (pc + 1) lo (qI n :: st) c) : qG Y w pc lo st c := by
  intro p l e R s m args below meth cd D cs B H locs ls C hE hH hS hl hn
  refine lv_iconst C.1 C.2.1 hd rfl ?_
  exact h p l e R s m args below meth cd D cs B H locs ls C hE hH hS hl hn
theorem g_bipush {n : Int} (hd : decode Y.1.2.1 pc = .ok (.bipush n, 2)) (hr : (Int8.ofInt n).toInt32 = Int32.ofInt n) (h : qG Y w (pc + 2) lo (qI n :: st) c) : qG Y w pc lo st c := by
  intro p l e R s m args below meth cd D cs B H locs ls C hE hH hS hl hn
  refine lv_bipush C.1 C.2.1 hd hr ?_
  exact h p l e R s m args below meth cd D cs B H locs ls C hE hH hS hl hn
theorem g_sipush {n : Int} (hd : decode Y.1.2.1 pc = .ok (.sipush n, 3)) (hr : (Int16.ofInt n).toInt32 = Int32.ofInt n) (h : qG Y w (pc + 3) lo (qI n :: st) c) : qG Y w pc lo st c := by
  intro p l e R s m args below meth cd D cs B H locs ls C hE hH hS hl hn
  refine lv_sipush C.1 C.2.1 hd hr ?_
  exact h p l e R s m args below meth cd D cs B H locs ls C hE hH hS hl hn
theorem g_lconst {n : Fin 2} {z : Int} (hd : decode Y.1.2.1 pc = .ok (.lconst n, 1)) (hz : Int64.ofNat (n : Nat) = Int64.ofInt z) (h : qG Y w (pc + 1) lo (qJ z :: st) c) : qG Y w pc lo st c := by
  intro p l e R s m args below meth cd D cs B H locs ls C hE hH hS hl hn
  refine lv_lconst C.1 C.2.1 hd hz ?_
  exact h p l e R s m args below meth cd D cs B H locs ls C hE hH hS hl hn
theorem g_ldc {i : Nat} {z : Int} (hd : decode Y.1.2.1 pc = .ok (.ldc i, 2)) (hw : Cond.constant Y.1.1.cls i (Int32.ofInt z) ∈ qALL) (h : qG Y w (pc + 2) lo (qI z :: st) c) : qG Y w pc lo st c := by
  intro p l e R s m args below meth cd D cs B H locs ls C hE hH hS hl hn
  refine lv_ldc C.1 C.2.1 C.2.2.2.2.1 (C.2.2.2.2.2.1 _ hw) hd ?_
  exact h p l e R s m args below meth cd D cs B H locs ls C hE hH hS hl hn
theorem g_ldc2 {i : Nat} {z : Int} (hd : decode Y.1.2.1 pc = .ok (.ldc2_w i, 3)) (hw : Cond.constantLong Y.1.1.cls i (Int64.ofInt z) ∈ qALL) (h : qG Y w (pc + 3) lo (qJ z :: st) c) : qG Y w pc lo st c := by
  intro p l e R s m args below meth cd D cs B H locs ls C hE hH hS hl hn
  refine lv_ldc2 C.1 C.2.1 C.2.2.2.2.1 (C.2.2.2.2.2.1 _ hw) hd ?_
  exact h p l e R s m args below meth cd D cs B H locs ls C hE hH hS hl hn
theorem g_iload {i : Nat} {z : Int} (hd : decode Y.1.2.1 pc = .ok (.iload i, 2)) (hi : lo[i]? = some (some (qI z))) (h : qG Y w (pc + 2) lo (qI z :: st) c) : qG Y w pc lo st c := by
  intro p l e R s m args below meth cd D cs B H locs ls C hE hH hS hl hn
  refine lv_iload C.1 C.2.1 hd (hl.2.2 i _ hi) ?_
  exact h p l e R s m args below meth cd D cs B H locs ls C hE hH hS hl hn
theorem g_iload_n {k : Fin 4} {i : Nat} {z : Int} (hd : decode Y.1.2.1 pc = .ok (.iload_n k, 1)) (hk : (k : Nat) = i) (hi : lo[i]? = some (some (qI z))) (h : qG Y w (pc + 1) lo (qI z :: st) c) : qG Y w pc lo st c := by
  intro p l e R s m args below meth cd D cs B H locs ls C hE hH hS hl hn
  refine lv_iload_n C.1 C.2.1 hd hk (hl.2.2 i _ hi) ?_
  exact h p l e R s m args below meth cd D cs B H locs ls C hE hH hS hl hn
theorem g_lload {i : Nat} {z : Int} (hd : decode Y.1.2.1 pc = .ok (.lload i, 2)) (hi : lo[i]? = some (some (qJ z))) (h : qG Y w (pc + 2) lo (qJ z :: st) c) : qG Y w pc lo st c := by
  intro p l e R s m args below meth cd D cs B H locs ls C hE hH hS hl hn
  refine lv_lload C.1 C.2.1 hd (hl.2.2 i _ hi) ?_
  exact h p l e R s m args below meth cd D cs B H locs ls C hE hH hS hl hn
theorem g_lload_n {k : Fin 4} {i : Nat} {z : Int} (hd : decode Y.1.2.1 pc = .ok (.lload_n k, 1)) (hk : (k : Nat) = i) (hi : lo[i]? = some (some (qJ z))) (h : qG Y w (pc + 1) lo (qJ z :: st) c) : qG Y w pc lo st c := by
  intro p l e R s m args below meth cd D cs B H locs ls C hE hH hS hl hn
  refine lv_lload_n C.1 C.2.1 hd hk (hl.2.2 i _ hi) ?_
  exact h p l e R s m args below meth cd D cs B H locs ls C hE hH hS hl hn
theorem g_aload {i : Nat} {z : Nat} (hd : decode Y.1.2.1 pc = .ok (.aload i, 2)) (hi : lo[i]? = some (some (qP z))) (h : qG Y w (pc + 2) lo (qP z :: st) c) : qG Y w pc lo st c := by
  intro p l e R s m args below meth cd D cs B H locs ls C hE hH hS hl hn
  refine lv_aload C.1 C.2.1 hd (hl.2.2 i _ hi) ?_
  exact h p l e R s m args below meth cd D cs B H locs ls C hE hH hS hl hn
theorem g_aload_n {k : Fin 4} {i : Nat} {z : Nat} (hd : decode Y.1.2.1 pc = .ok (.aload_n k, 1)) (hk : (k : Nat) = i) (hi : lo[i]? = some (some (qP z))) (h : qG Y w (pc + 1) lo (qP z :: st) c) : qG Y w pc lo st c := by
  intro p l e R s m args below meth cd D cs B H locs ls C hE hH hS hl hn
  refine lv_aload_n C.1 C.2.1 hd hk (hl.2.2 i _ hi) ?_
  exact h p l e R s m args below meth cd D cs B H locs ls C hE hH hS hl hn
theorem g_aloadO_n {k : Fin 4} {i z : Nat} (hd : decode Y.1.2.1 pc = .ok (.aload_n k, 1)) (hk : (k : Nat) = i) (hi : lo[i]? = some (some (qO z))) (h : qG Y w (pc + 1) lo (qO z :: st) c) : qG Y w pc lo st c := by
  intro p l e R s m args below meth cd D cs B H locs ls C hE hH hS hl hn
  refine lv_aload_n C.1 C.2.1 hd hk (hl.2.2 i _ hi) ?_
  exact h p l e R s m args below meth cd D cs B H locs ls C hE hH hS hl hn
theorem g_istore_g {i : Nat} {z : Int} {lo' : List (Option qV)} (hd : decode Y.1.2.1 pc = .ok (.istore i, 2)) (hb : i < lo.length) (hlo : qs1 (qI z) lo i = lo') (h : qG Y w (pc + 2) lo' st c) : qG Y w pc lo (qI z :: st) c := by
  subst hlo
  intro p l e R s m args below meth cd D cs B H locs ls C hE hH hS hl hn
  refine lv_istore C.1 C.2.1 hd hl.has hb rfl (fun ls2 hl2 => ?_)
  exact h p l e R s m args below meth cd D cs B H locs ls2 C hE hH hS (qLs.s1 hl2) (by rw [hl2.1, ← hl.1, hn])
theorem g_istore_ng {k : Fin 4} {i : Nat} {z : Int} {lo' : List (Option qV)} (hd : decode Y.1.2.1 pc = .ok (.istore_n k, 1)) (hk : (k : Nat) = i) (hb : i < lo.length) (hlo : qs1 (qI z) lo i = lo') (h : qG Y w (pc + 1) lo' st c) : qG Y w pc lo (qI z :: st) c := by
  subst hlo
  intro p l e R s m args below meth cd D cs B H locs ls C hE hH hS hl hn
  refine lv_istore_n C.1 C.2.1 hd hk hl.has hb rfl (fun ls2 hl2 => ?_)
  exact h p l e R s m args below meth cd D cs B H locs ls2 C hE hH hS (qLs.s1 hl2) (by rw [hl2.1, ← hl.1, hn])
theorem g_lstore_g {i : Nat} {z : Int} {lo' : List (Option qV)} (hd : decode Y.1.2.1 pc = .ok (.lstore i, 2)) (hb : i + 1 < lo.length) (hlo : qs2 (qJ z) lo i = lo') (h : qG Y w (pc + 2) lo' st c) : qG Y w pc lo (qJ z :: st) c := by
  subst hlo
  intro p l e R s m args below meth cd D cs B H locs ls C hE hH hS hl hn
  refine lv_lstore C.1 C.2.1 hd hl.has hb rfl (fun ls2 hl2 => ?_)
  exact h p l e R s m args below meth cd D cs B H locs ls2 C hE hH hS (qLs.s2 hb hl2) (by rw [hl2.1, ← hl.1, hn])
theorem g_lstore_ng {k : Fin 4} {i : Nat} {z : Int} {lo' : List (Option qV)} (hd : decode Y.1.2.1 pc = .ok (.lstore_n k, 1)) (hk : (k : Nat) = i) (hb : i + 1 < lo.length) (hlo : qs2 (qJ z) lo i = lo') (h : qG Y w (pc + 1) lo' st c) : qG Y w pc lo (qJ z :: st) c := by
  subst hlo
  intro p l e R s m args below meth cd D cs B H locs ls C hE hH hS hl hn
  refine lv_lstore_n C.1 C.2.1 hd hk hl.has hb rfl (fun ls2 hl2 => ?_)
  exact h p l e R s m args below meth cd D cs B H locs ls2 C hE hH hS (qLs.s2 hb hl2) (by rw [hl2.1, ← hl.1, hn])
theorem g_astore_g {i : Nat} {z : Nat} {lo' : List (Option qV)} (hd : decode Y.1.2.1 pc = .ok (.astore i, 2)) (hb : i < lo.length) (hlo : qs1 (qP z) lo i = lo') (h : qG Y w (pc + 2) lo' st c) : qG Y w pc lo (qP z :: st) c := by
  subst hlo
  intro p l e R s m args below meth cd D cs B H locs ls C hE hH hS hl hn
  refine lv_astore C.1 C.2.1 hd hl.has hb rfl (fun ls2 hl2 => ?_)
  exact h p l e R s m args below meth cd D cs B H locs ls2 C hE hH hS (qLs.s1 hl2) (by rw [hl2.1, ← hl.1, hn])
theorem g_astore_ng {k : Fin 4} {i : Nat} {z : Nat} {lo' : List (Option qV)} (hd : decode Y.1.2.1 pc = .ok (.astore_n k, 1)) (hk : (k : Nat) = i) (hb : i < lo.length) (hlo : qs1 (qP z) lo i = lo') (h : qG Y w (pc + 1) lo' st c) : qG Y w pc lo (qP z :: st) c := by
  subst hlo
  intro p l e R s m args below meth cd D cs B H locs ls C hE hH hS hl hn
  refine lv_astore_n C.1 C.2.1 hd hk hl.has hb rfl (fun ls2 hl2 => ?_)
  exact h p l e R s m args below meth cd D cs B H locs ls2 C hE hH hS (qLs.s1 hl2) (by rw [hl2.1, ← hl.1, hn])
theorem g_iinc_g {i : Nat} {n z : Int} {lo' : List (Option qV)} (hd : decode Y.1.2.1 pc = .ok (.iinc i n, 3)) (hi : lo[i]? = some (some (qI z))) (hlo : qs1 (qI (z + n)) lo i = lo') (h : qG Y w (pc + 3) lo' st c) : qG Y w pc lo st c := by
  subst hlo
  intro p l e R s m args below meth cd D cs B H locs ls C hE hH hS hl hn
  have hm := q_lvm B lo 0 i _ hi
  rw [Nat.zero_add] at hm
  obtain ⟨k, hk⟩ := List.getElem?_of_mem hm
  have hb : i < lo.length := (List.getElem?_eq_some_iff.mp hi).1
  refine lv_iinc (v := Int32.ofInt (z + n)) C.1 C.2.1 hd hl.has (k := k) hk (Int32.ofInt_add z n).symm hb rfl (fun ls2 hl2 => ?_)
  exact h p l e R s m args below meth cd D cs B H locs ls2 C hE hH hS (qLs.s1 (v := qI (z + n)) hl2) (by rw [hl2.1, ← hl.1, hn])
theorem g_iadd {x y : Int} (hd : decode Y.1.2.1 pc = .ok (.iadd, 1))
    (h : qG Y w (pc + 1) lo (qI (x + y) :: st) c) : qG Y w pc lo (qI y :: qI x :: st) c := by
  intro p l e R s m args below meth cd D cs B H locs ls C hE hH hS hl hn
  refine lv_iadd (x := Int32.ofInt x) (y := Int32.ofInt y) C.1 C.2.1 hd ?_
  rw [← Int32.ofInt_add]
  exact h p l e R s m args below meth cd D cs B H locs ls C hE hH hS hl hn
theorem g_isub {x y : Int} (hd : decode Y.1.2.1 pc = .ok (.isub, 1))
    (h : qG Y w (pc + 1) lo (qI (x - y) :: st) c) : qG Y w pc lo (qI y :: qI x :: st) c := by
  intro p l e R s m args below meth cd D cs B H locs ls C hE hH hS hl hn
  refine lv_isub (x := Int32.ofInt x) (y := Int32.ofInt y) C.1 C.2.1 hd ?_
  rw [← Int32.ofInt_sub]
  exact h p l e R s m args below meth cd D cs B H locs ls C hE hH hS hl hn
theorem g_imul {x y : Int} (hd : decode Y.1.2.1 pc = .ok (.imul, 1))
    (h : qG Y w (pc + 1) lo (qI (x * y) :: st) c) : qG Y w pc lo (qI y :: qI x :: st) c := by
  intro p l e R s m args below meth cd D cs B H locs ls C hE hH hS hl hn
  refine lv_imul (x := Int32.ofInt x) (y := Int32.ofInt y) C.1 C.2.1 hd ?_
  rw [← Int32.ofInt_mul]
  exact h p l e R s m args below meth cd D cs B H locs ls C hE hH hS hl hn
theorem g_ladd {x y : Int} (hd : decode Y.1.2.1 pc = .ok (.ladd, 1))
    (h : qG Y w (pc + 1) lo (qJ (x + y) :: st) c) : qG Y w pc lo (qJ y :: qJ x :: st) c := by
  intro p l e R s m args below meth cd D cs B H locs ls C hE hH hS hl hn
  refine lv_ladd (x := Int64.ofInt x) (y := Int64.ofInt y) C.1 C.2.1 hd ?_
  rw [← Int64.ofInt_add]
  exact h p l e R s m args below meth cd D cs B H locs ls C hE hH hS hl hn
theorem g_lsub {x y : Int} (hd : decode Y.1.2.1 pc = .ok (.lsub, 1))
    (h : qG Y w (pc + 1) lo (qJ (x - y) :: st) c) : qG Y w pc lo (qJ y :: qJ x :: st) c := by
  intro p l e R s m args below meth cd D cs B H locs ls C hE hH hS hl hn
  refine lv_lsub (x := Int64.ofInt x) (y := Int64.ofInt y) C.1 C.2.1 hd ?_
  rw [← Int64.ofInt_sub]
  exact h p l e R s m args below meth cd D cs B H locs ls C hE hH hS hl hn
theorem g_lmul {x y : Int} (hd : decode Y.1.2.1 pc = .ok (.lmul, 1))
    (h : qG Y w (pc + 1) lo (qJ (x * y) :: st) c) : qG Y w pc lo (qJ y :: qJ x :: st) c := by
  intro p l e R s m args below meth cd D cs B H locs ls C hE hH hS hl hn
  refine lv_lmul (x := Int64.ofInt x) (y := Int64.ofInt y) C.1 C.2.1 hd ?_
  rw [← Int64.ofInt_mul]
  exact h p l e R s m args below meth cd D cs B H locs ls C hE hH hS hl hn
theorem g_i2l {x : Int} (hd : decode Y.1.2.1 pc = .ok (.i2l, 1)) (hx : iR x := by omega)
    (h : qG Y w (pc + 1) lo (qJ x :: st) c) : qG Y w pc lo (qI x :: st) c := by
  intro p l e R s m args below meth cd D cs B H locs ls C hE hH hS hl hn
  refine lv_i2l C.1 C.2.1 hd (q_i2l hx) ?_
  exact h p l e R s m args below meth cd D cs B H locs ls C hE hH hS hl hn
theorem g_l2i {x : Int} (hd : decode Y.1.2.1 pc = .ok (.l2i, 1))
    (h : qG Y w (pc + 1) lo (qI x :: st) c) : qG Y w pc lo (qJ x :: st) c := by
  intro p l e R s m args below meth cd D cs B H locs ls C hE hH hS hl hn
  refine lv_l2i C.1 C.2.1 hd Int64.toInt32_ofInt ?_
  exact h p l e R s m args below meth cd D cs B H locs ls C hE hH hS hl hn
theorem g_ldiv {x y : Int} (hd : decode Y.1.2.1 pc = .ok (.ldiv, 1)) (hy0 : y ≠ 0) (hx : lR x) (hy : lR y)
    (h : qG Y w (pc + 1) lo (qJ (x.tdiv y) :: st) c) : qG Y w pc lo (qJ y :: qJ x :: st) c := by
  intro p l e R s m args below meth cd D cs B H locs ls C hE hH hS hl hn
  refine lv_ldiv (x := Int64.ofInt x) (y := Int64.ofInt y) C.1 C.2.1 hd (fun q => hy0 ((q_leq hy q_lr0).mp (q.trans q_l0))) ?_
  rw [q_ldiv hx hy]
  exact h p l e R s m args below meth cd D cs B H locs ls C hE hH hS hl hn
theorem g_lrem {x y : Int} (hd : decode Y.1.2.1 pc = .ok (.lrem, 1)) (hy0 : y ≠ 0) (hx : lR x) (hy : lR y)
    (h : qG Y w (pc + 1) lo (qJ (x.tmod y) :: st) c) : qG Y w pc lo (qJ y :: qJ x :: st) c := by
  intro p l e R s m args below meth cd D cs B H locs ls C hE hH hS hl hn
  refine lv_lrem (x := Int64.ofInt x) (y := Int64.ofInt y) C.1 C.2.1 hd (fun q => hy0 ((q_leq hy q_lr0).mp (q.trans q_l0))) ?_
  rw [q_lrem hx hy]
  exact h p l e R s m args below meth cd D cs B H locs ls C hE hH hS hl hn
theorem g_lcmp {x y : Int} (hd : decode Y.1.2.1 pc = .ok (.lcmp, 1)) (hx : lR x) (hy : lR y)
    (h : qG Y w (pc + 1) lo (qI (if y < x then 1 else if x = y then 0 else -1) :: st) c) : qG Y w pc lo (qJ y :: qJ x :: st) c := by
  intro p l e R s m args below meth cd D cs B H locs ls C hE hH hS hl hn
  refine W.lcmp (x := Int64.ofInt x) (y := Int64.ofInt y) C.1 C.2.1 hd ?_
  rw [q_cmp hx hy]
  exact h p l e R s m args below meth cd D cs B H locs ls C hE hH hS hl hn
theorem g_dup {v : qV} (hd : decode Y.1.2.1 pc = .ok (.dup, 1)) (hv : qcat v = 1)
    (h : qG Y w (pc + 1) lo (v :: v :: st) c) : qG Y w pc lo (v :: st) c := by
  intro p l e R s m args below meth cd D cs B H locs ls C hE hH hS hl hn
  refine lv_dup C.1 C.2.1 hd ((q_cat B v).trans hv) ?_
  exact h p l e R s m args below meth cd D cs B H locs ls C hE hH hS hl hn
theorem g_pop {v : qV} (hd : decode Y.1.2.1 pc = .ok (.pop, 1)) (hv : qcat v = 1)
    (h : qG Y w (pc + 1) lo st c) : qG Y w pc lo (v :: st) c := by
  intro p l e R s m args below meth cd D cs B H locs ls C hE hH hS hl hn
  refine lv_pop (va := qv B v) C.1 C.2.1 hd ((q_cat B v).trans hv) ?_
  exact h p l e R s m args below meth cd D cs B H locs ls C hE hH hS hl hn
theorem g_pop2 {v : qV} (hd : decode Y.1.2.1 pc = .ok (.pop2, 1)) (hv : qcat v = 2)
    (h : qG Y w (pc + 1) lo st c) : qG Y w pc lo (v :: st) c := by
  intro p l e R s m args below meth cd D cs B H locs ls C hE hH hS hl hn
  refine lv_pop2_2 (va := qv B v) C.1 C.2.1 hd ((q_cat B v).trans hv) ?_
  exact h p l e R s m args below meth cd D cs B H locs ls C hE hH hS hl hn
theorem g_dup_x1 {v u : qV} (hd : decode Y.1.2.1 pc = .ok (.dup_x1, 1)) (hv : qcat v = 1) (hu : qcat u = 1)
    (h : qG Y w (pc + 1) lo (v :: u :: v :: st) c) : qG Y w pc lo (v :: u :: st) c := by
  intro p l e R s m args below meth cd D cs B H locs ls C hE hH hS hl hn
  refine lv_dup_x1 C.1 C.2.1 hd ((q_cat B v).trans hv) ((q_cat B u).trans hu) ?_
  exact h p l e R s m args below meth cd D cs B H locs ls C hE hH hS hl hn
theorem g_dup_x2 {v u t : qV} (hd : decode Y.1.2.1 pc = .ok (.dup_x2, 1)) (hv : qcat v = 1) (hu : qcat u = 1) (ht : qcat t = 1)
    (h : qG Y w (pc + 1) lo (v :: u :: t :: v :: st) c) : qG Y w pc lo (v :: u :: t :: st) c := by
  intro p l e R s m args below meth cd D cs B H locs ls C hE hH hS hl hn
  refine lv_dup_x2 C.1 C.2.1 hd ((q_cat B v).trans hv) ((q_cat B u).trans hu) ((q_cat B t).trans ht) ?_
  exact h p l e R s m args below meth cd D cs B H locs ls C hE hH hS hl hn
theorem g_dup2 {v u : qV} (hd : decode Y.1.2.1 pc = .ok (.dup2, 1)) (hv : qcat v = 1) (hu : qcat u = 1)
    (h : qG Y w (pc + 1) lo (v :: u :: v :: u :: st) c) : qG Y w pc lo (v :: u :: st) c := by
  intro p l e R s m args below meth cd D cs B H locs ls C hE hH hS hl hn
  refine lv_dup2_11 C.1 C.2.1 hd ((q_cat B v).trans hv) ((q_cat B u).trans hu) ?_
  exact h p l e R s m args below meth cd D cs B H locs ls C hE hH hS hl hn
theorem g_dup2l {v : qV} (hd : decode Y.1.2.1 pc = .ok (.dup2, 1)) (hv : qcat v = 2)
    (h : qG Y w (pc + 1) lo (v :: v :: st) c) : qG Y w pc lo (v :: st) c := by
  intro p l e R s m args below meth cd D cs B H locs ls C hE hH hS hl hn
  refine lv_dup2_2 C.1 C.2.1 hd ((q_cat B v).trans hv) ?_
  exact h p l e R s m args below meth cd D cs B H locs ls C hE hH hS hl hn
theorem g_goto {off : Int} (tgt : Nat) (hd : decode Y.1.2.1 pc = .ok (.goto off, 3)) (ht : (pc : Int) + off = (tgt : Int)) (h : qG Y w tgt lo st c) : qG Y w pc lo st c := by
  intro p l e R s m args below meth cd D cs B H locs ls C hE hH hS hl hn
  refine lv_goto (tgt := tgt) C.1 C.2.1 hd ht ?_
  exact h p l e R s m args below meth cd D cs B H locs ls C hE hH hS hl hn
theorem g_icmp_eq {x y : Int} {off : Int} (tgt : Nat) (hd : decode Y.1.2.1 pc = .ok (.if_icmp .eq off, 3)) (ht : (pc : Int) + off = (tgt : Int)) (kt : x = y → qG Y w tgt lo st c) (kf : ¬ (x = y) → qG Y w (pc + 3) lo st c) (hx : iR x := by omega) (hy : iR y := by omega) : qG Y w pc lo (qI y :: qI x :: st) c := by
  intro p l e R s m args below meth cd D cs B H locs ls C hE hH hS hl hn
  refine lv_icmp_eq (x := Int32.ofInt x) (y := Int32.ofInt y) (tgt := tgt) C.1 C.2.1 hd ht (fun q => ?_) (fun q => ?_)
  · exact kt ((q_ieq hx hy).mp q) p l e R s m args below meth cd D cs B H locs ls C hE hH hS hl hn
  · exact kf (fun z => q ((q_ieq hx hy).mpr z)) p l e R s m args below meth cd D cs B H locs ls C hE hH hS hl hn
theorem g_if_eq {x : Int} {off : Int} (tgt : Nat) (hd : decode Y.1.2.1 pc = .ok (.ifCond .eq off, 3)) (ht : (pc : Int) + off = (tgt : Int)) (kt : x = 0 → qG Y w tgt lo st c) (kf : ¬ (x = 0) → qG Y w (pc + 3) lo st c) (hx : iR x := by omega) : qG Y w pc lo (qI x :: st) c := by
  intro p l e R s m args below meth cd D cs B H locs ls C hE hH hS hl hn
  refine lv_if_eq (x := Int32.ofInt x) (tgt := tgt) C.1 C.2.1 hd ht (fun q => ?_) (fun q => ?_)
  · exact kt ((q_ieq hx q_r0).mp (by rw [← q_i0]; exact q)) p l e R s m args below meth cd D cs B H locs ls C hE hH hS hl hn
  · exact kf (fun z => q (by rw [q_i0]; exact (q_ieq hx q_r0).mpr z)) p l e R s m args below meth cd D cs B H locs ls C hE hH hS hl hn
theorem g_icmp_ne {x y : Int} {off : Int} (tgt : Nat) (hd : decode Y.1.2.1 pc = .ok (.if_icmp .ne off, 3)) (ht : (pc : Int) + off = (tgt : Int)) (kt : ¬ x = y → qG Y w tgt lo st c) (kf : x = y → qG Y w (pc + 3) lo st c) (hx : iR x := by omega) (hy : iR y := by omega) : qG Y w pc lo (qI y :: qI x :: st) c := by
  intro p l e R s m args below meth cd D cs B H locs ls C hE hH hS hl hn
  refine lv_icmp_ne (x := Int32.ofInt x) (y := Int32.ofInt y) (tgt := tgt) C.1 C.2.1 hd ht (fun q => ?_) (fun q => ?_)
  · exact kt ((not_congr (q_ieq hx hy)).mp q) p l e R s m args below meth cd D cs B H locs ls C hE hH hS hl hn
  · exact kf ((q_ieq hx hy).mp q) p l e R s m args below meth cd D cs B H locs ls C hE hH hS hl hn
theorem g_if_ne {x : Int} {off : Int} (tgt : Nat) (hd : decode Y.1.2.1 pc = .ok (.ifCond .ne off, 3)) (ht : (pc : Int) + off = (tgt : Int)) (kt : ¬ x = 0 → qG Y w tgt lo st c) (kf : x = 0 → qG Y w (pc + 3) lo st c) (hx : iR x := by omega) : qG Y w pc lo (qI x :: st) c := by
  intro p l e R s m args below meth cd D cs B H locs ls C hE hH hS hl hn
  refine lv_if_ne (x := Int32.ofInt x) (tgt := tgt) C.1 C.2.1 hd ht (fun q => ?_) (fun q => ?_)
  · exact kt (fun z => q (((q_ieq hx q_r0).mpr z).trans q_i0.symm)) p l e R s m args below meth cd D cs B H locs ls C hE hH hS hl hn
  · exact kf ((q_ieq hx q_r0).mp (q.trans q_i0)) p l e R s m args below meth cd D cs B H locs ls C hE hH hS hl hn
theorem g_icmp_lt {x y : Int} {off : Int} (tgt : Nat) (hd : decode Y.1.2.1 pc = .ok (.if_icmp .lt off, 3)) (ht : (pc : Int) + off = (tgt : Int)) (kt : x < y → qG Y w tgt lo st c) (kf : ¬ (x < y) → qG Y w (pc + 3) lo st c) (hx : iR x := by omega) (hy : iR y := by omega) : qG Y w pc lo (qI y :: qI x :: st) c := by
  intro p l e R s m args below meth cd D cs B H locs ls C hE hH hS hl hn
  refine lv_icmp_lt (x := Int32.ofInt x) (y := Int32.ofInt y) (tgt := tgt) C.1 C.2.1 hd ht (fun q => ?_) (fun q => ?_)
  · exact kt ((q_ilt hx hy).mp q) p l e R s m args below meth cd D cs B H locs ls C hE hH hS hl hn
  · exact kf (fun z => q ((q_ilt hx hy).mpr z)) p l e R s m args below meth cd D cs B H locs ls C hE hH hS hl hn
theorem g_if_lt {x : Int} {off : Int} (tgt : Nat) (hd : decode Y.1.2.1 pc = .ok (.ifCond .lt off, 3)) (ht : (pc : Int) + off = (tgt : Int)) (kt : x < 0 → qG Y w tgt lo st c) (kf : ¬ (x < 0) → qG Y w (pc + 3) lo st c) (hx : iR x := by omega) : qG Y w pc lo (qI x :: st) c := by
  intro p l e R s m args below meth cd D cs B H locs ls C hE hH hS hl hn
  refine lv_if_lt (x := Int32.ofInt x) (tgt := tgt) C.1 C.2.1 hd ht (fun q => ?_) (fun q => ?_)
  · exact kt ((q_ilt hx q_r0).mp (by rw [← q_i0]; exact q)) p l e R s m args below meth cd D cs B H locs ls C hE hH hS hl hn
  · exact kf (fun z => q (by rw [q_i0]; exact (q_ilt hx q_r0).mpr z)) p l e R s m args below meth cd D cs B H locs ls C hE hH hS hl hn
theorem g_icmp_ge {x y : Int} {off : Int} (tgt : Nat) (hd : decode Y.1.2.1 pc = .ok (.if_icmp .ge off, 3)) (ht : (pc : Int) + off = (tgt : Int)) (kt : y ≤ x → qG Y w tgt lo st c) (kf : ¬ (y ≤ x) → qG Y w (pc + 3) lo st c) (hx : iR x := by omega) (hy : iR y := by omega) : qG Y w pc lo (qI y :: qI x :: st) c := by
  intro p l e R s m args below meth cd D cs B H locs ls C hE hH hS hl hn
  refine lv_icmp_ge (x := Int32.ofInt x) (y := Int32.ofInt y) (tgt := tgt) C.1 C.2.1 hd ht (fun q => ?_) (fun q => ?_)
  · exact kt ((q_ile hy hx).mp q) p l e R s m args below meth cd D cs B H locs ls C hE hH hS hl hn
  · exact kf (fun z => q ((q_ile hy hx).mpr z)) p l e R s m args below meth cd D cs B H locs ls C hE hH hS hl hn
theorem g_if_ge {x : Int} {off : Int} (tgt : Nat) (hd : decode Y.1.2.1 pc = .ok (.ifCond .ge off, 3)) (ht : (pc : Int) + off = (tgt : Int)) (kt : 0 ≤ x → qG Y w tgt lo st c) (kf : ¬ (0 ≤ x) → qG Y w (pc + 3) lo st c) (hx : iR x := by omega) : qG Y w pc lo (qI x :: st) c := by
  intro p l e R s m args below meth cd D cs B H locs ls C hE hH hS hl hn
  refine lv_if_ge (x := Int32.ofInt x) (tgt := tgt) C.1 C.2.1 hd ht (fun q => ?_) (fun q => ?_)
  · exact kt ((q_ile q_r0 hx).mp (by rw [← q_i0]; exact q)) p l e R s m args below meth cd D cs B H locs ls C hE hH hS hl hn
  · exact kf (fun z => q (by rw [q_i0]; exact (q_ile q_r0 hx).mpr z)) p l e R s m args below meth cd D cs B H locs ls C hE hH hS hl hn
theorem g_icmp_gt {x y : Int} {off : Int} (tgt : Nat) (hd : decode Y.1.2.1 pc = .ok (.if_icmp .gt off, 3)) (ht : (pc : Int) + off = (tgt : Int)) (kt : y < x → qG Y w tgt lo st c) (kf : ¬ (y < x) → qG Y w (pc + 3) lo st c) (hx : iR x := by omega) (hy : iR y := by omega) : qG Y w pc lo (qI y :: qI x :: st) c := by
  intro p l e R s m args below meth cd D cs B H locs ls C hE hH hS hl hn
  refine lv_icmp_gt (x := Int32.ofInt x) (y := Int32.ofInt y) (tgt := tgt) C.1 C.2.1 hd ht (fun q => ?_) (fun q => ?_)
  · exact kt ((q_ilt hy hx).mp q) p l e R s m args below meth cd D cs B H locs ls C hE hH hS hl hn
  · exact kf (fun z => q ((q_ilt hy hx).mpr z)) p l e R s m args below meth cd D cs B H locs ls C hE hH hS hl hn
theorem g_if_gt {x : Int} {off : Int} (tgt : Nat) (hd : decode Y.1.2.1 pc = .ok (.ifCond .gt off, 3)) (ht : (pc : Int) + off = (tgt : Int)) (kt : 0 < x → qG Y w tgt lo st c) (kf : ¬ (0 < x) → qG Y w (pc + 3) lo st c) (hx : iR x := by omega) : qG Y w pc lo (qI x :: st) c := by
  intro p l e R s m args below meth cd D cs B H locs ls C hE hH hS hl hn
  refine lv_if_gt (x := Int32.ofInt x) (tgt := tgt) C.1 C.2.1 hd ht (fun q => ?_) (fun q => ?_)
  · exact kt ((q_ilt q_r0 hx).mp (by rw [← q_i0]; exact q)) p l e R s m args below meth cd D cs B H locs ls C hE hH hS hl hn
  · exact kf (fun z => q (by rw [q_i0]; exact (q_ilt q_r0 hx).mpr z)) p l e R s m args below meth cd D cs B H locs ls C hE hH hS hl hn
theorem g_icmp_le {x y : Int} {off : Int} (tgt : Nat) (hd : decode Y.1.2.1 pc = .ok (.if_icmp .le off, 3)) (ht : (pc : Int) + off = (tgt : Int)) (kt : x ≤ y → qG Y w tgt lo st c) (kf : ¬ (x ≤ y) → qG Y w (pc + 3) lo st c) (hx : iR x := by omega) (hy : iR y := by omega) : qG Y w pc lo (qI y :: qI x :: st) c := by
  intro p l e R s m args below meth cd D cs B H locs ls C hE hH hS hl hn
  refine lv_icmp_le (x := Int32.ofInt x) (y := Int32.ofInt y) (tgt := tgt) C.1 C.2.1 hd ht (fun q => ?_) (fun q => ?_)
  · exact kt ((q_ile hx hy).mp q) p l e R s m args below meth cd D cs B H locs ls C hE hH hS hl hn
  · exact kf (fun z => q ((q_ile hx hy).mpr z)) p l e R s m args below meth cd D cs B H locs ls C hE hH hS hl hn
theorem g_if_le {x : Int} {off : Int} (tgt : Nat) (hd : decode Y.1.2.1 pc = .ok (.ifCond .le off, 3)) (ht : (pc : Int) + off = (tgt : Int)) (kt : x ≤ 0 → qG Y w tgt lo st c) (kf : ¬ (x ≤ 0) → qG Y w (pc + 3) lo st c) (hx : iR x := by omega) : qG Y w pc lo (qI x :: st) c := by
  intro p l e R s m args below meth cd D cs B H locs ls C hE hH hS hl hn
  refine lv_if_le (x := Int32.ofInt x) (tgt := tgt) C.1 C.2.1 hd ht (fun q => ?_) (fun q => ?_)
  · exact kt ((q_ile hx q_r0).mp (by rw [← q_i0]; exact q)) p l e R s m args below meth cd D cs B H locs ls C hE hH hS hl hn
  · exact kf (fun z => q (by rw [q_i0]; exact (q_ile hx q_r0).mpr z)) p l e R s m args below meth cd D cs B H locs ls C hE hH hS hl hn
theorem g_lif_eq {x y : Int} {off : Int} (tgt : Nat) (hd : decode Y.1.2.1 pc = .ok (.lcmp, 1)) (hd2 : decode Y.1.2.1 (pc + 1) = .ok (.ifCond .eq off, 3)) (ht : ((pc + 1 : Nat) : Int) + off = (tgt : Int)) (kt : x = y → qG Y w tgt lo st c) (kf : ¬ (x = y) → qG Y w (pc + 1 + 3) lo st c) (hx : lR x := by omega) (hy : lR y := by omega) : qG Y w pc lo (qJ y :: qJ x :: st) c := by
  refine g_lcmp hd hx hy (g_if_eq tgt hd2 ht (fun q => kt ?_) (fun q => kf ?_) ?_)
  · split at q <;> first | omega | (split at q <;> omega)
  · split at q <;> first | omega | (split at q <;> omega)
  · split <;> first | omega | (split <;> omega)
theorem g_lif_ne {x y : Int} {off : Int} (tgt : Nat) (hd : decode Y.1.2.1 pc = .ok (.lcmp, 1)) (hd2 : decode Y.1.2.1 (pc + 1) = .ok (.ifCond .ne off, 3)) (ht : ((pc + 1 : Nat) : Int) + off = (tgt : Int)) (kt : ¬ x = y → qG Y w tgt lo st c) (kf : x = y → qG Y w (pc + 1 + 3) lo st c) (hx : lR x := by omega) (hy : lR y := by omega) : qG Y w pc lo (qJ y :: qJ x :: st) c := by
  refine g_lcmp hd hx hy (g_if_ne tgt hd2 ht (fun q => kt ?_) (fun q => kf ?_) ?_)
  · split at q <;> first | omega | (split at q <;> omega)
  · split at q <;> first | omega | (split at q <;> omega)
  · split <;> first | omega | (split <;> omega)
theorem g_lif_lt {x y : Int} {off : Int} (tgt : Nat) (hd : decode Y.1.2.1 pc = .ok (.lcmp, 1)) (hd2 : decode Y.1.2.1 (pc + 1) = .ok (.ifCond .lt off, 3)) (ht : ((pc + 1 : Nat) : Int) + off = (tgt : Int)) (kt : x < y → qG Y w tgt lo st c) (kf : ¬ (x < y) → qG Y w (pc + 1 + 3) lo st c) (hx : lR x := by omega) (hy : lR y := by omega) : qG Y w pc lo (qJ y :: qJ x :: st) c := by
  refine g_lcmp hd hx hy (g_if_lt tgt hd2 ht (fun q => kt ?_) (fun q => kf ?_) ?_)
  · split at q <;> first | omega | (split at q <;> omega)
  · split at q <;> first | omega | (split at q <;> omega)
  · split <;> first | omega | (split <;> omega)
theorem g_lif_ge {x y : Int} {off : Int} (tgt : Nat) (hd : decode Y.1.2.1 pc = .ok (.lcmp, 1)) (hd2 : decode Y.1.2.1 (pc + 1) = .ok (.ifCond .ge off, 3)) (ht : ((pc + 1 : Nat) : Int) + off = (tgt : Int)) (kt : y ≤ x → qG Y w tgt lo st c) (kf : ¬ (y ≤ x) → qG Y w (pc + 1 + 3) lo st c) (hx : lR x := by omega) (hy : lR y := by omega) : qG Y w pc lo (qJ y :: qJ x :: st) c := by
  refine g_lcmp hd hx hy (g_if_ge tgt hd2 ht (fun q => kt ?_) (fun q => kf ?_) ?_)
  · split at q <;> first | omega | (split at q <;> omega)
  · split at q <;> first | omega | (split at q <;> omega)
  · split <;> first | omega | (split <;> omega)
theorem g_lif_gt {x y : Int} {off : Int} (tgt : Nat) (hd : decode Y.1.2.1 pc = .ok (.lcmp, 1)) (hd2 : decode Y.1.2.1 (pc + 1) = .ok (.ifCond .gt off, 3)) (ht : ((pc + 1 : Nat) : Int) + off = (tgt : Int)) (kt : y < x → qG Y w tgt lo st c) (kf : ¬ (y < x) → qG Y w (pc + 1 + 3) lo st c) (hx : lR x := by omega) (hy : lR y := by omega) : qG Y w pc lo (qJ y :: qJ x :: st) c := by
  refine g_lcmp hd hx hy (g_if_gt tgt hd2 ht (fun q => kt ?_) (fun q => kf ?_) ?_)
  · split at q <;> first | omega | (split at q <;> omega)
  · split at q <;> first | omega | (split at q <;> omega)
  · split <;> first | omega | (split <;> omega)
theorem g_lif_le {x y : Int} {off : Int} (tgt : Nat) (hd : decode Y.1.2.1 pc = .ok (.lcmp, 1)) (hd2 : decode Y.1.2.1 (pc + 1) = .ok (.ifCond .le off, 3)) (ht : ((pc + 1 : Nat) : Int) + off = (tgt : Int)) (kt : x ≤ y → qG Y w tgt lo st c) (kf : ¬ (x ≤ y) → qG Y w (pc + 1 + 3) lo st c) (hx : lR x := by omega) (hy : lR y := by omega) : qG Y w pc lo (qJ y :: qJ x :: st) c := by
  refine g_lcmp hd hx hy (g_if_le tgt hd2 ht (fun q => kt ?_) (fun q => kf ?_) ?_)
  · split at q <;> first | omega | (split at q <;> omega)
  · split at q <;> first | omega | (split at q <;> omega)
  · split <;> first | omega | (split <;> omega)
theorem g_tableOut {x dflt lo0 hi : Int} {offs : Array Int} {len : Nat} (tgt : Nat) (hd : decode Y.1.2.1 pc = .ok (.tableswitch dflt lo0 hi offs, len)) (ho : x < lo0 ∨ hi < x) (ht : (pc : Int) + dflt = (tgt : Int)) (h : qG Y w tgt lo st c) (hx : iR x := by omega) : qG Y w pc lo (qI x :: st) c := by
  intro p l e R s m args below meth cd D cs B H locs ls C hE hH hS hl hn
  refine lv_tableOut (x := Int32.ofInt x) (tgt := tgt) C.1 C.2.1 hd (by rw [q_it hx]; exact ho) ht ?_
  exact h p l e R s m args below meth cd D cs B H locs ls C hE hH hS hl hn
theorem g_tableIn {x dflt lo0 hi off : Int} {offs : Array Int} {len : Nat} (tgt : Nat) (hd : decode Y.1.2.1 pc = .ok (.tableswitch dflt lo0 hi offs, len)) (h1 : ¬ x < lo0) (h2 : ¬ hi < x) (ho : offs[(x - lo0).toNat]? = some off) (ht : (pc : Int) + off = (tgt : Int)) (h : qG Y w tgt lo st c) (hx : iR x := by omega) : qG Y w pc lo (qI x :: st) c := by
  intro p l e R s m args below meth cd D cs B H locs ls C hE hH hS hl hn
  refine lv_tableIn (x := Int32.ofInt x) (tgt := tgt) C.1 C.2.1 hd (by rw [q_it hx]; exact h1) (by rw [q_it hx]; exact h2) (by rw [q_it hx]; exact ho) ht ?_
  exact h p l e R s m args below meth cd D cs B H locs ls C hE hH hS hl hn
theorem g_lookup {x dflt off : Int} {ps : Array (Int × Int)} {len : Nat} (tgt : Nat) (hd : decode Y.1.2.1 pc = .ok (.lookupswitch dflt ps, len)) (hp : (ps.toList.zip (ps.toList.drop 1)).all (fun (a, next) => a.1 < next.1) = true) (ho : Op.lookupswitch.offset ps.toList dflt x = off) (ht : (pc : Int) + off = (tgt : Int)) (h : qG Y w tgt lo st c) (hx : iR x := by omega) : qG Y w pc lo (qI x :: st) c := by
  intro p l e R s m args below meth cd D cs B H locs ls C hE hH hS hl hn
  refine lv_lookup (x := Int32.ofInt x) (tgt := tgt) C.1 C.2.1 hd hp (by rw [q_it hx]; exact ho) ht ?_
  exact h p l e R s m args below meth cd D cs B H locs ls C hE hH hS hl hn
theorem g_iaload {a n : Nat} {i : Int} (hd : decode Y.1.2.1 pc = .ok (.iaload, 1)) (hL : w.1 a = .inl (0, n)) (ha : a < w.2.1) (h : qG Y w (pc + 1) lo (qI (c a i) :: st) c) (h0 : 0 ≤ i := by omega) (h1 : i < (n : Int) := by omega) (hn0 : n < 2147483648 := by decide) : qG Y w pc lo (qI i :: qP a :: st) c := by
  intro p l e R s m args below meth cd D cs B H locs ls C hE hH hS hl hn
  refine va_iald (D := D) (cl := qcl) (tys := qtys cs) C.1 C.2.1 C.2.2.2.2.2.2.2.1 (hH.one ha hL) 0 0 rfl rfl (q_in h0 h1 hn0) hd ?_
  rw [q_cl h0 (by omega)]
  have ei : ((i.toNat : Nat) : Int) = i := by omega
  show W p l e R s m args below meth cd H locs _ _ _ (F0 m (pc + 1) ls (qv B (qI (c a ((i.toNat : Nat) : Int))) :: st.map (qv B)))
  rw [ei]
  exact h p l e R s m args below meth cd D cs B H locs ls C hE hH hS hl hn
theorem g_laload {a n : Nat} {i : Int} (hd : decode Y.1.2.1 pc = .ok (.laload, 1)) (hL : w.1 a = .inl (1, n)) (ha : a < w.2.1) (h : qG Y w (pc + 1) lo (qJ (c a i) :: st) c) (h0 : 0 ≤ i := by omega) (h1 : i < (n : Int) := by omega) (hn0 : n < 2147483648 := by decide) : qG Y w pc lo (qI i :: qP a :: st) c := by
  intro p l e R s m args below meth cd D cs B H locs ls C hE hH hS hl hn
  refine va_lald (D := D) (cl := qcl) (tys := qtys cs) C.1 C.2.1 C.2.2.2.2.2.2.2.1 (hH.one ha hL) 0 1 rfl rfl (q_in h0 h1 hn0) hd ?_
  rw [q_cl h0 (by omega)]
  have ei : ((i.toNat : Nat) : Int) = i := by omega
  show W p l e R s m args below meth cd H locs _ _ _ (F0 m (pc + 1) ls (qv B (qJ (c a ((i.toNat : Nat) : Int))) :: st.map (qv B)))
  rw [ei]
  exact h p l e R s m args below meth cd D cs B H locs ls C hE hH hS hl hn
theorem g_baload {a n : Nat} {i : Int} (hd : decode Y.1.2.1 pc = .ok (.baload, 1)) (hL : w.1 a = .inl (2, n)) (ha : a < w.2.1) (h : qG Y w (pc + 1) lo (qI (c a i) :: st) c) (h0 : 0 ≤ i := by omega) (h1 : i < (n : Int) := by omega) (hn0 : n < 2147483648 := by decide) : qG Y w pc lo (qI i :: qP a :: st) c := by
  intro p l e R s m args below meth cd D cs B H locs ls C hE hH hS hl hn
  refine va_zald (D := D) (cl := qcl) (tys := qtys cs) C.1 C.2.1 C.2.2.2.2.2.2.2.1 (hH.one ha hL) 0 2 rfl rfl (q_in h0 h1 hn0) hd ?_
  rw [q_cl h0 (by omega)]
  have ei : ((i.toNat : Nat) : Int) = i := by omega
  show W p l e R s m args below meth cd H locs _ _ _ (F0 m (pc + 1) ls (qv B (qI (c a ((i.toNat : Nat) : Int))) :: st.map (qv B)))
  rw [ei]
  exact h p l e R s m args below meth cd D cs B H locs ls C hE hH hS hl hn
theorem q_put {A : Nat → Prop} {H0 H H1 : Heap} {locs : List Loc} {a k : Nat} (h : va_S A H0 H locs) (z : H1.size = H.size) (oq : ∀ q : Nat, q ≠ a → H1[q]? = H[q]?) (ha : A a) : va_S A H0 H1 (locs ++ [⟨a, k⟩]) := h.put z oq ha
theorem g_iastore {a n : Nat} {i x : Int} (hd : decode Y.1.2.1 pc = .ok (.iastore, 1)) (hL : w.1 a = .inl (0, n)) (ha : a < w.2.1) (h : qG Y w (pc + 1) lo st (qu c a i x)) (h0 : 0 ≤ i := by omega) (h1 : i < (n : Int) := by omega) (hn0 : n < 2147483648 := by decide) : qG Y w pc lo (qI x :: qI i :: qP a :: st) c := by
  intro p l e R s m args below meth cd D cs B H locs ls C hE hH hS hl hn
  have hc : H[B + a]? = some (arrV cs.1 n (fun j => .int (Int32.ofInt (c a j)))) := by
    have := hH.2 a ha
    rw [hL] at this
    exact this
  refine W.iast (a := B + a) (j := Int32.ofInt i) C.1 C.2.1 hc ((C.2.2.2.2.2.2.2.1.2 0 _ rfl).1 n _) (fun q => by cases q) (by rw [arrV_size]; exact q_in h0 h1 hn0) rfl rfl hd fun H1 e1 z1 o1 => ?_
  refine h p l e R s m args below meth cd D cs B H1 _ ls C hE (hH.set (k := a) z1 o1 ?_ (fun j hj => ⟨qu_ne hj, rfl⟩)) (hS.put z1 o1 (by show B ≤ B + a; omega)) hl hn
  rw [hL]
  show H1[B + a]? = some (arrV cs.1 n (fun j => .int (Int32.ofInt (qu c a i x a j))))
  rw [e1, q_cl h0 (by omega), arrV_store]
  congr 2
  funext j
  by_cases hj : j = i.toNat
  · have ei : (j : Int) = i := by omega
    have ej : i.toNat = j := hj.symm
    simp [updV, qu, ei, ej]
  · have e : ¬ (j : Int) = i := by omega
    simp [updV, hj, qu, e]
theorem g_lastore {a n : Nat} {i x : Int} (hd : decode Y.1.2.1 pc = .ok (.lastore, 1)) (hL : w.1 a = .inl (1, n)) (ha : a < w.2.1) (h : qG Y w (pc + 1) lo st (qu c a i x)) (h0 : 0 ≤ i := by omega) (h1 : i < (n : Int) := by omega) (hn0 : n < 2147483648 := by decide) : qG Y w pc lo (qJ x :: qI i :: qP a :: st) c := by
  intro p l e R s m args below meth cd D cs B H locs ls C hE hH hS hl hn
  have hc : H[B + a]? = some (arrV cs.2.1 n (fun j => .long (Int64.ofInt (c a j)))) := by
    have := hH.2 a ha
    rw [hL] at this
    exact this
  refine W.last (a := B + a) (j := Int32.ofInt i) C.1 C.2.1 hc ((C.2.2.2.2.2.2.2.1.2 1 _ rfl).1 n _) (fun q => by cases q) (by rw [arrV_size]; exact q_in h0 h1 hn0) rfl rfl hd fun H1 e1 z1 o1 => ?_
  refine h p l e R s m args below meth cd D cs B H1 _ ls C hE (hH.set (k := a) z1 o1 ?_ (fun j hj => ⟨qu_ne hj, rfl⟩)) (hS.put z1 o1 (by show B ≤ B + a; omega)) hl hn
  rw [hL]
  show H1[B + a]? = some (arrV cs.2.1 n (fun j => .long (Int64.ofInt (qu c a i x a j))))
  rw [e1, q_cl h0 (by omega), arrV_store]
  congr 2
  funext j
  by_cases hj : j = i.toNat
  · have ei : (j : Int) = i := by omega
    have ej : i.toNat = j := hj.symm
    simp [updV, qu, ei, ej]
  · have e : ¬ (j : Int) = i := by omega
    simp [updV, hj, qu, e]
theorem g_bastore {a n : Nat} {i x : Int} (hd : decode Y.1.2.1 pc = .ok (.bastore, 1)) (hL : w.1 a = .inl (2, n)) (ha : a < w.2.1) (hb : x = 0 ∨ x = 1) (h : qG Y w (pc + 1) lo st (qu c a i x)) (h0 : 0 ≤ i := by omega) (h1 : i < (n : Int) := by omega) (hn0 : n < 2147483648 := by decide) : qG Y w pc lo (qI x :: qI i :: qP a :: st) c := by
  intro p l e R s m args below meth cd D cs B H locs ls C hE hH hS hl hn
  have hnar : narrow .boolean (.int (Int32.ofInt x)) = .int (Int32.ofInt x) := by rcases hb with rfl | rfl <;> decide
  have hc : H[B + a]? = some (arrV cs.2.2.1 n (fun j => .int (Int32.ofInt (c a j)))) := by
    have := hH.2 a ha
    rw [hL] at this
    exact this
  refine W.zast (a := B + a) (j := Int32.ofInt i) C.1 C.2.1 hc ((C.2.2.2.2.2.2.2.1.2 2 _ rfl).1 n _) (fun q => by cases q) (by rw [arrV_size]; exact q_in h0 h1 hn0) rfl rfl hd fun H1 e1 z1 o1 => ?_
  rw [hnar] at e1
  refine h p l e R s m args below meth cd D cs B H1 _ ls C hE (hH.set (k := a) z1 o1 ?_ (fun j hj => ⟨qu_ne hj, rfl⟩)) (hS.put z1 o1 (by show B ≤ B + a; omega)) hl hn
  rw [hL]
  show H1[B + a]? = some (arrV cs.2.2.1 n (fun j => .int (Int32.ofInt (qu c a i x a j))))
  rw [e1, q_cl h0 (by omega), arrV_store]
  congr 2
  funext j
  by_cases hj : j = i.toNat
  · have ei : (j : Int) = i := by omega
    have ej : i.toNat = j := hj.symm
    simp [updV, qu, ei, ej]
  · have e : ¬ (j : Int) = i := by omega
    simp [updV, hj, qu, e]
theorem g_aaload {a n b : Nat} {f : Nat → Option Nat} {i : Int} (hd : decode Y.1.2.1 pc = .ok (.aaload, 1)) (hL : w.1 a = .inr (.inl (n, f))) (ha : a < w.2.1) (hf : f i.toNat = some b) (h : qG Y w (pc + 1) lo (qP b :: st) c) (h0 : 0 ≤ i := by omega) (h1 : i < (n : Int) := by omega) (hn0 : n < 2147483648 := by decide) : qG Y w pc lo (qI i :: qP a :: st) c := by
  intro p l e R s m args below meth cd D cs B H locs ls C hE hH hS hl hn
  refine va_aldq (D := D) (cl := qcl) (tys := qtys cs) (C := qgr) C.1 C.2.1 C.2.2.2.2.2.2.2.1 (hH.one ha hL) 0 3 rfl rfl (q_in h0 h1 hn0) hd ?_
  rw [q_cl h0 (by omega), hf]
  exact h p l e R s m args below meth cd D cs B H locs ls C hE hH hS hl hn
end QG
end
section
section QH
variable {Y : qY} {w : qW} {pc : Nat} {lo : List (Option qV)} {st : List qV} {c : qC}
/-- a field by its link: class number, place -/
def qFl (own : String) (idx ci j : Nat) : Prop := ∃ (C : String) (T : u_T) (N : Nat), qcl[ci]? = some (C, T, N) ∧ j < N ∧ (∀ w ∈ u_ws C T N, w ∈ qALL) ∧ (Cond.fieldLink own idx (T j).1 (T j).2.1 (T j).2.2.1 ∈ qALL ∨ ∃ host : String, Cond.fieldLinkNest own idx (T j).1 (T j).2.1 (T j).2.2.1 host ∈ qNZ)
def qFw (ci j : Nat) (ty : FieldType) (fin : Bool) : Prop := ∃ (C : String) (T : u_T) (N : Nat) (ty0 : Nat → FieldType), qcl[ci]? = some (C, T, N) ∧ (∀ k, k < N → parseFieldDescriptor (T k).2.2.1 = some (ty0 k)) ∧ (∀ a, a < N → ∀ b, b < N → a ≠ b → (T a).2.1 ≠ (T b).2.1) ∧ (T j).2.2.2 = fin ∧ parseFieldDescriptor (T j).2.2.1 = some ty ∧ (T j).1 = C
theorem q_fi {B : Nat} {z : Int} {kd : Nat} (h : kd ≠ 1) : qf B z (.inr kd) = .int (Int32.ofInt z) := by
  match kd, h with
  | 0, _ => rfl
  | 1, h => exact absurd rfl h
  | _ + 2, _ => rfl
theorem q_get {v : Value} {a ci j idx : Nat} {fs : List qF} {f : qF} {p : Program} {l : Launch} {e : Env} {R : Room} {s : State} {m : MethodId} {args : Array Value} {below : List Frame} {meth : Method} {cd : Code} {D : va_G} {cs : qS} {B n k z : Nat} {L : Nat → qL} {H : Heap} {locs : List Loc} {ls : Array Slot} {X : qM} {r : Nat × Nat × Nat} {Q : State → Prop} {rest : List Value}
    (C : qCx X r p R s m args meth cd D cs B) (hH : qH D cs B L n c H) (hd : decode X.2.1 pc = .ok (.getfield idx, 3)) (hf : qFl X.1.cls idx ci j) (hL : L a = .inr (.inr (ci, fs))) (ha : a < n) (hfs : fs[j]? = some f) (hv : qf B (c a j) f = v)
    (h : W p l e R s m args below meth cd H locs k z Q (F0 m (pc + 3) ls (v :: rest))) : W p l e R s m args below meth cd H locs k z Q (F0 m pc ls (.ref (B + a) :: rest)) := by
  obtain ⟨C0, T, N, h1, h2, h3, h4⟩ := hf
  have hP := hH.one ha hL
  have hval : (qfs B (c a) 0 fs)[j]? = some v := by rw [q_fs, hfs, ← hv, Nat.zero_add]; rfl
  rcases h4 with h4 | ⟨host, h4⟩
  · exact va_get (D := D) (cl := qcl) (tys := qtys cs) (C := C0) (T := T) (N := N) (Ts := qALL) (fs := qfs B (c a) 0 fs) C.1 C.2.1 C.2.2.2.2.2.1 h3 C.2.2.2.2.1 C.2.2.2.2.2.2.2.1 hP 0 rfl h1 j h2 (C.2.2.2.2.2.1 _ h4) (fun _ q => q) hval hd h
  · exact va_getN (D := D) (cl := qcl) (tys := qtys cs) (C := C0) (T := T) (N := N) (Ts := qALL) (fs := qfs B (c a) 0 fs) C.1 C.2.1 C.2.2.2.2.2.1 h3 C.2.2.2.2.1 C.2.2.2.2.2.2.2.1 hP 0 rfl h1 j h2 (va_Nw.use rfl (C.2.2.2.2.2.2.1 _ h4)) (fun _ q => q) hval hd h
theorem g_getI {a ci j idx kd : Nat} {fs : List qF} {ji v : Int} (hd : decode Y.1.2.1 pc = .ok (.getfield idx, 3)) (hf : qFl Y.1.1.cls idx ci j) (hL : w.1 a = .inr (.inr (ci, fs))) (ha : a < w.2.1) (hfs : fs[j]? = some (.inr kd)) (hkd : kd ≠ 1) (hj : ji = (j : Int)) (hv : c a ji = v) (h : qG Y w (pc + 3) lo (qI v :: st) c) : qG Y w pc lo (qP a :: st) c := by
  subst hj; subst hv
  intro p l e R s m args below meth cd D cs B H locs ls C hE hH hS hl hn
  exact q_get C hH hd hf hL ha hfs (q_fi hkd) (h p l e R s m args below meth cd D cs B H locs ls C hE hH hS hl hn)
theorem g_getJ {a ci j idx : Nat} {fs : List qF} {ji v : Int} (hd : decode Y.1.2.1 pc = .ok (.getfield idx, 3)) (hf : qFl Y.1.1.cls idx ci j) (hL : w.1 a = .inr (.inr (ci, fs))) (ha : a < w.2.1) (hfs : fs[j]? = some (.inr 1)) (hj : ji = (j : Int)) (hv : c a ji = v) (h : qG Y w (pc + 3) lo (qJ v :: st) c) : qG Y w pc lo (qP a :: st) c := by
  subst hj; subst hv
  intro p l e R s m args below meth cd D cs B H locs ls C hE hH hS hl hn
  exact q_get C hH hd hf hL ha hfs rfl (h p l e R s m args below meth cd D cs B H locs ls C hE hH hS hl hn)
theorem g_getP {a ci j idx b : Nat} {fs : List qF} (hd : decode Y.1.2.1 pc = .ok (.getfield idx, 3)) (hf : qFl Y.1.1.cls idx ci j) (hL : w.1 a = .inr (.inr (ci, fs))) (ha : a < w.2.1) (hfs : fs[j]? = some (.inl (some b))) (h : qG Y w (pc + 3) lo (qP b :: st) c) : qG Y w pc lo (qP a :: st) c := by
  intro p l e R s m args below meth cd D cs B H locs ls C hE hH hS hl hn
  exact q_get C hH hd hf hL ha hfs rfl (h p l e R s m args below meth cd D cs B H locs ls C hE hH hS hl hn)
theorem q_putW {v : Value} {a ci j idx : Nat} {fs : List qF} {ty : FieldType} {fin : Bool} {p : Program} {l : Launch} {e : Env} {R : Room} {s : State} {m : MethodId} {args : Array Value} {below : List Frame} {meth : Method} {cd : Code} {D : va_G} {cs : qS} {B n k z : Nat} {L : Nat → qL} {H : Heap} {locs : List Loc} {ls : Array Slot} {X : qM} {r : Nat × Nat × Nat} {Q : State → Prop} {rest : List Value}
    (C : qCx X r p R s m args meth cd D cs B) (hH : qH D cs B L n c H) (hS : va_S (fun q : Nat => B ≤ q) s.heap H locs) (hd : decode X.2.1 pc = .ok (.putfield idx, 3)) (hf : qFl X.1.cls idx ci j) (hw : qFw ci j ty fin) (hfin : fin = true → X.1.name = "<init>" ∧ (∀ q : vw_C, qcl[ci]? = some q → X.1.cls = q.1) ∧ ∀ (host : String) (T : u_T) (C0 : String) (N : Nat), qcl[ci]? = some (C0, T, N) → Cond.fieldLinkNest X.1.cls idx (T j).1 (T j).2.1 (T j).2.2.1 host ∉ qNZ) (hL : L a = .inr (.inr (ci, fs))) (ha : a < n) (hjl : j < fs.length) (hn : narrow ty v = v) (hfit : fits ty v = true)
    (h : ∀ (H1 : Heap) (locs1 : List Loc), H1.size = H.size → (∀ q, q ≠ B + a → H1[q]? = H[q]?) → va_at D qcl (B + a, .inr (ci, (qfs B (c a) 0 fs).set j v)) H1 → va_S (fun q : Nat => B ≤ q) s.heap H1 locs1 → W p l e R s m args below meth cd H1 locs1 k z Q (F0 m (pc + 3) ls rest)) : W p l e R s m args below meth cd H locs k z Q (F0 m pc ls (v :: .ref (B + a) :: rest)) := by
  obtain ⟨C0, T, N, h1, h2, h3, h4⟩ := hf
  obtain ⟨C1, T1, N1, ty0, g1, g2, g3, g4, g5, g6⟩ := hw
  cases h1.symm.trans g1
  obtain ⟨hx, hb, -, -, hown, hts, hNZ, hK, -, hname, -⟩ := C
  have hap := va_apart (own := X.1.cls) hts h3 ty0 g2 g3 hK h1
  have hat := hH.2 a ha
  rw [hL] at hat
  obtain ⟨r0, q0, cell, q1, q2, q3, q4⟩ := hat
  cases q0.symm.trans h1
  obtain ⟨hSl, hfc, kC, hkC, hkind⟩ := hK.1 ci _ h1
  obtain ⟨cf, kf, fi, f, hi, hsl⟩ := hSl j h2
  have hst := (u_facts hfc hkC (u_lays hts h3 h2) hi).1
  have hlen : j < (qfs B (c a) 0 fs).length := by rw [q_fsl]; exact hjl
  have fin1 : ∀ (H' : Heap), H'[B + a]? = some (cell.setSlot f.slot v) → H'.size = H.size → (∀ q, q ≠ B + a → H'[q]? = H[q]?) → W p l e R s m args below meth cd H' (locs ++ [⟨B + a, f.slot⟩]) k z Q (F0 m (pc + 3) ls rest) := by
    intro H' e1 e2 e3
    rw [hsl] at e1
    refine h H' _ e2 e3 ⟨_, h1, t_OB.to (V := updV (vp_V (qfs B (c a) 0 fs)) j v) ⟨_, e1, q2, q3, t_set q4 hap h2 v⟩ (fun i _ => vp_updV_set hlen v i)⟩ (hS.put e2 e3 (by show B ≤ B + a; omega))
  cases fin with
  | false =>
    have hlay := hts _ (h3 _ (u_in_lay h2))
    unfold u_lay at hlay
    rw [if_neg (by rw [g4]; decide)] at hlay
    have h6 := u_store hfc hkC hkind hlay hi g5 hn hfit
    rcases h4 with h4 | ⟨host, h4⟩
    · exact W.putK hx hb (f := f) ⟨hown, hts _ h4, ⟨_, _, _, hi⟩, hst⟩ (by rw [q2]; exact h6) q1 q3 (by rw [hsl]; exact k2_hasslot (q4 j h2)) rfl rfl hd fin1
    · exact va_WputK hx hb (f := f) hown (va_Nw.use rfl (hNZ _ h4)) hi hst (by rw [q2]; exact h6) q1 q3 (by rw [hsl]; exact k2_hasslot (q4 j h2)) rfl rfl hd fin1
  | true =>
    obtain ⟨f1, f2, f3⟩ := hfin rfl
    have hlay := hts _ (h3 _ (u_in_lay h2))
    unfold u_lay at hlay
    rw [if_pos g4] at hlay
    have hcf : m.cls = cf := by
      obtain ⟨_, _, c', _, _, _, -, -, hf', -, -, -, hown2, -⟩ := Cond.laysFinal_spec hlay
      have e1 : c' = cf := by have := hi.symm.trans hf'; simp at this; exact this.1.symm
      have f2' : X.1.cls = C0 := f2 _ h1
      rw [g6, ← f2'] at hown2
      rw [← e1]; exact Option.some.inj (hown.symm.trans hown2)
    have h6 := u_fits hfc hkC hkind (Or.inr hlay) hi g5 hn hfit
    rcases h4 with h4 | ⟨host, h4⟩
    · exact W.putFinK hx hb hown (hts _ h4) hi hst hcf (hname.trans f1) (by rw [q2]; exact h6) q1 q3 (by rw [hsl]; exact k2_hasslot (q4 j h2)) rfl rfl hd fin1
    · exact absurd h4 (f3 _ _ _ _ h1)
theorem q_fset {B : Nat} {g g' : Int → Int} {fs fs' : List qF} {j : Nat} {f : qF} {v : Value} (hl : fs'.length = fs.length) (hf : fs'[j]? = some f) (hv : qf B (g' j) f = v) (ho : ∀ i : Nat, i ≠ j → fs'[i]? = fs[i]? ∧ g' i = g i) : (qfs B g 0 fs).set j v = qfs B g' 0 fs' := by
  apply List.ext_getElem?
  intro i
  have hj : j < fs'.length := (List.getElem?_eq_some_iff.mp hf).1
  rw [List.getElem?_set, q_fsl]
  by_cases e : j = i
  · subst e
    rw [if_pos rfl, if_pos (by omega), q_fs, hf, Nat.zero_add, ← hv]; rfl
  · rw [if_neg e, q_fs, q_fs, (ho i (fun q => e q.symm)).1, Nat.zero_add, (ho i (fun q => e q.symm)).2]
theorem g_putI {a ci j idx kd : Nat} {fs : List qF} {x : Int} (ji : Int) (hd : decode Y.1.2.1 pc = .ok (.putfield idx, 3)) (hf : qFl Y.1.1.cls idx ci j) (hw : qFw ci j .int false) (hL : w.1 a = .inr (.inr (ci, fs))) (ha : a < w.2.1) (hfs : fs[j]? = some (.inr kd)) (hkd : kd ≠ 1) (hj : ji = (j : Int)) (h : qG Y w (pc + 3) lo st (qu c a ji x)) : qG Y w pc lo (qI x :: qP a :: st) c := by
  subst hj
  intro p l e R s m args below meth cd D cs B H locs ls C hE hH hS hl hn
  have hjl : j < fs.length := (List.getElem?_eq_some_iff.mp hfs).1
  refine q_putW (v := .int (Int32.ofInt x)) C hH hS hd hf hw (fun q => by cases q) hL ha hjl rfl rfl (fun H1 locs1 z1 o1 a1 s1 => ?_)
  refine h p l e R s m args below meth cd D cs B H1 locs1 ls C hE (hH.set (k := a) z1 o1 ?_ (fun i hi => ⟨qu_ne hi, rfl⟩)) s1 hl hn
  rw [hL]
  rw [q_fset (g' := qu c a j x a) (fs' := fs) rfl hfs (by rw [qu_eq]; exact q_fi hkd) (fun i hi => ⟨rfl, qu_off (by omega)⟩)] at a1
  exact a1
theorem g_putZ {a ci j idx kd : Nat} {fs : List qF} {x : Int} (ji : Int) (hd : decode Y.1.2.1 pc = .ok (.putfield idx, 3)) (hf : qFl Y.1.1.cls idx ci j) (hw : qFw ci j .boolean false) (hL : w.1 a = .inr (.inr (ci, fs))) (ha : a < w.2.1) (hfs : fs[j]? = some (.inr kd)) (hkd : kd ≠ 1) (hj : ji = (j : Int)) (hb : x = 0 ∨ x = 1) (h : qG Y w (pc + 3) lo st (qu c a ji x)) : qG Y w pc lo (qI x :: qP a :: st) c := by
  subst hj
  intro p l e R s m args below meth cd D cs B H locs ls C hE hH hS hl hn
  have hjl : j < fs.length := (List.getElem?_eq_some_iff.mp hfs).1
  refine q_putW (v := .int (Int32.ofInt x)) C hH hS hd hf hw (fun q => by cases q) hL ha hjl (by rcases hb with rfl | rfl <;> decide) (by rcases hb with rfl | rfl <;> decide) (fun H1 locs1 z1 o1 a1 s1 => ?_)
  refine h p l e R s m args below meth cd D cs B H1 locs1 ls C hE (hH.set (k := a) z1 o1 ?_ (fun i hi => ⟨qu_ne hi, rfl⟩)) s1 hl hn
  rw [hL]
  rw [q_fset (g' := qu c a j x a) (fs' := fs) rfl hfs (by rw [qu_eq]; exact q_fi hkd) (fun i hi => ⟨rfl, qu_off (by omega)⟩)] at a1
  exact a1
theorem g_putJ {a ci j idx : Nat} {fs : List qF} {x : Int} (ji : Int) (hd : decode Y.1.2.1 pc = .ok (.putfield idx, 3)) (hf : qFl Y.1.1.cls idx ci j) (hw : qFw ci j .long false) (hL : w.1 a = .inr (.inr (ci, fs))) (ha : a < w.2.1) (hfs : fs[j]? = some (.inr 1)) (hj : ji = (j : Int)) (h : qG Y w (pc + 3) lo st (qu c a ji x)) : qG Y w pc lo (qJ x :: qP a :: st) c := by
  subst hj
  intro p l e R s m args below meth cd D cs B H locs ls C hE hH hS hl hn
  have hjl : j < fs.length := (List.getElem?_eq_some_iff.mp hfs).1
  refine q_putW (v := .long (Int64.ofInt x)) C hH hS hd hf hw (fun q => by cases q) hL ha hjl rfl rfl (fun H1 locs1 z1 o1 a1 s1 => ?_)
  refine h p l e R s m args below meth cd D cs B H1 locs1 ls C hE (hH.set (k := a) z1 o1 ?_ (fun i hi => ⟨qu_ne hi, rfl⟩)) s1 hl hn
  rw [hL]
  rw [q_fset (g' := qu c a j x a) (fs' := fs) rfl hfs (by rw [qu_eq]; rfl) (fun i hi => ⟨rfl, qu_off (by omega)⟩)] at a1
  exact a1
-- returns
section RET
variable {X : qM} {r : Nat × Nat × Nat} {E : State → Array Value → Nat → Prop} {post : Option qV → (Nat → qL) → Nat → qC → Prop}
theorem g_iret {v : Int} (hd : decode X.2.1 pc = .ok (.ireturn, 1)) (hr : X.2.2.2 = some .int) (hk : w.2.2.1 ≤ r.2.1) (hz : w.2.2.2 ≤ r.2.2) (hq : post (some (qI v)) w.1 w.2.1 c) : qG (X, r, E, qZm post r.2.1 r.2.2) w pc lo [qI v] c := by
  intro p l e R s m args below meth cd D cs B H locs ls C hE hH hS hl hn
  have hlocks : meth.locks = false := C.2.2.2.2.2.2.2.2.1
  refine W.widen (k := r.2.1) (n := r.2.2) hk hz ?_
  exact W.iret (v := Int32.ofInt v) C.1 C.2.1 (C.2.2.1.trans hr) (fun t ht hW => ⟨⟨some (qI v), w.1, w.2.1, c, rfl, hq, by rw [ht]; exact hH⟩, hS.F ht⟩) hS.2.2 hd
theorem g_zret {v : Int} (hd : decode X.2.1 pc = .ok (.ireturn, 1)) (hr : X.2.2.2 = some .boolean) (hb : v = 0 ∨ v = 1) (hk : w.2.2.1 ≤ r.2.1) (hz : w.2.2.2 ≤ r.2.2) (hq : post (some (qI v)) w.1 w.2.1 c) : qG (X, r, E, qZm post r.2.1 r.2.2) w pc lo [qI v] c := by
  intro p l e R s m args below meth cd D cs B H locs ls C hE hH hS hl hn
  have hlocks : meth.locks = false := C.2.2.2.2.2.2.2.2.1
  refine W.widen (k := r.2.1) (n := r.2.2) hk hz ?_
  exact W.zret (v := Int32.ofInt v) (ty := .boolean) C.1 C.2.1 (C.2.2.1.trans hr) (by rcases hb with rfl | rfl <;> decide) (fun t ht hW => ⟨⟨some (qI v), w.1, w.2.1, c, rfl, hq, by rw [ht]; exact hH⟩, hS.F ht⟩) hS.2.2 hd
theorem g_lret {v : Int} (hd : decode X.2.1 pc = .ok (.lreturn, 1)) (hr : X.2.2.2 = some .long) (hk : w.2.2.1 ≤ r.2.1) (hz : w.2.2.2 ≤ r.2.2) (hq : post (some (qJ v)) w.1 w.2.1 c) : qG (X, r, E, qZm post r.2.1 r.2.2) w pc lo [qJ v] c := by
  intro p l e R s m args below meth cd D cs B H locs ls C hE hH hS hl hn
  have hlocks : meth.locks = false := C.2.2.2.2.2.2.2.2.1
  refine W.widen (k := r.2.1) (n := r.2.2) hk hz ?_
  exact W.lret (v := Int64.ofInt v) C.1 C.2.1 (C.2.2.1.trans hr) (fun t ht hW => ⟨⟨some (qJ v), w.1, w.2.1, c, rfl, hq, by rw [ht]; exact hH⟩, hS.F ht⟩) hS.2.2 hd
theorem g_vret (hd : decode X.2.1 pc = .ok (.return_, 1)) (hr : X.2.2.2 = none) (hk : w.2.2.1 ≤ r.2.1) (hz : w.2.2.2 ≤ r.2.2) (hq : post none w.1 w.2.1 c) : qG (X, r, E, qZm post r.2.1 r.2.2) w pc lo [] c := by
  intro p l e R s m args below meth cd D cs B H locs ls C hE hH hS hl hn
  have hlocks : meth.locks = false := C.2.2.2.2.2.2.2.2.1
  refine W.widen (k := r.2.1) (n := r.2.2) hk hz ?_
  exact W.vret C.1 C.2.1 (C.2.2.1.trans hr) (fun t ht hW => ⟨⟨none, w.1, w.2.1, c, rfl, hq, by rw [ht]; exact hH⟩, hS.F ht⟩) hS.2.2 hd
end RET
-- calls
theorem q_after {post : Option qV → (Nat → qL) → Nat → qC → Prop} {p : Program} {l : Launch} {e : Env} {R : Room} {s : State} {m : MethodId} {args : Array Value} {below : List Frame} {meth : Method} {cd : Code} {D : va_G} {cs : qS} {B k z mc ms : Nat} {H : Heap} {locs : List Loc} {ls : Array Slot} {Q : State → Prop} {st0 rest : List Value} {a : Array Value}
    (hr : va_Run p l e R s m args below meth cd H locs k z mc ms (F0 m pc ls st0) rest (qQ post D cs B a) (fun q : Nat => B ≤ q)) (hS : va_S (fun q : Nat => B ≤ q) s.heap H locs)
    (kk : ∀ (r : Option qV) (L : Nat → qL) (n : Nat) (c' : qC) (H1 : Heap) (locs1 : List Loc), post r L n c' → qH D cs B L n c' H1 → va_S (fun q : Nat => B ≤ q) s.heap H1 locs1 → W p l e R s m args below meth cd H1 locs1 (k + mc) (z + ms) Q (F0 m (pc + 3) ls ((r.map (qv B)).toList ++ rest))) : W p l e R s m args below meth cd H locs k z Q (F0 m pc ls st0) := by
  intro T hT X
  obtain ⟨v, st₀, t, T', L, h0, X', hL, e1, e2, ⟨⟨r, L', n', c', hv, hp, hh⟩, hz, hk⟩, st⟩ := hr T hT X
  cases hv
  rw [h0] at hz hk
  obtain ⟨t2, a1, b1⟩ := kk r L' n' c' T'.heap (locs ++ L) hp (by rw [e1]; exact hh)
    ⟨Nat.le_trans hS.1 (by rw [e1]; exact hz), fun q h1 h2 => by rw [e1, hk q (Nat.lt_of_lt_of_le h1 hS.1) h2]; exact hS.2.1 q h1 h2, fun q hq => by
      rcases List.mem_append.mp hq with h | h
      · exact hS.2.2 q h
      · exact hL q h⟩ T' rfl X'
  exact ⟨t2, st t2 a1, b1⟩
/-- the words of a call -/
def qLk (own : String) (idx np : Nat) (X : qM) : Prop := Cond.code X.1 X.2.1 X.2.2.1 X.2.2.2 ∈ qALL ∧ Cond.initialized X.1.cls ∈ qALL ∧ (X.1.cls ≠ "java/lang/invoke/MethodHandle" ∧ X.1.cls ≠ "java/lang/invoke/VarHandle" ∧ (parseMethodDescriptor X.1.desc).map (fun d => d.parameters.length) = some np) ∧ X.2.2.1 ≤ 29 ∧ (Cond.methodLink own idx X.1 ∈ qALL ∨ ∃ host : String, Cond.methodLinkNest own idx X.1 host ∈ qNZ)
def qIm (X : qM) : Prop := Cond.instanceMethod X.1 ∈ qALL ∧ Cond.selects X.1.cls X.1 X.1 ∈ qALL
theorem q_good {X : qM} (h : Cond.code X.1 X.2.1 X.2.2.1 X.2.2.2 ∈ qALL) : GoodIn qALL (Cond.code X.1 X.2.1 X.2.2.1 X.2.2.2 :: qALL) := by
  intro w hw
  have h1 : w ∈ qALL := by
    rcases List.mem_cons.mp hw with e | e
    · rw [e]; exact h
    · exact e
  exact ⟨h1, good_of_word (List.mem_filter.mp h1).2⟩
theorem q_warm {w : Cond} (hw : w ∈ qNZ) {s U : State} (hW : s.WarmedH U.vm) (h : va_Nw w s) : va_Nw w U := by
  have h2 := (List.mem_filter.mp hw).2
  cases w <;> first | exact va_Nw.warmF hW h | exact va_Nw.warmM hW h | (exact absurd h2 (by simp [qnest]))
theorem q_blind (D : va_G) (cs : qS) (B : Nat) (L : Nat → qL) (n : Nat) (c : qC) (as : List Value) : FrameBlind (va_Pc as (qU D cs B L n c)) := by
  intro a U g mk q
  obtain ⟨q0, q1, qH, qK, qN⟩ := q
  exact ⟨q0, q1, qH, va_K.moved (u := U) (U := U.calling g mk a) (Vm.Alike.refl U.vm) qK, fun w hw => va_Nw.same (q_tab hw) (rfl : U.vm = (U.calling g mk a).vm) (qN w hw)⟩
theorem q_pre {X : qM} {r : Nat × Nat × Nat} {p : Program} {R : Room} {s : State} {m : MethodId} {args : Array Value} {meth : Method} {cd : Code} {D : va_G} {cs : qS} {B n : Nat} {L : Nat → qL} {H : Heap} {locs : List Loc} (C : qCx X r p R s m args meth cd D cs B) (hH : qH D cs B L n c H) (hS : va_S (fun q : Nat => B ≤ q) s.heap H locs) (U : State) (hU : U.heap = H) (hW : s.WarmedH U.vm) : qU D cs B L n c U :=
  ⟨by rw [hU]; exact Nat.le_trans C.2.2.2.2.2.2.2.2.2.2.1 hS.1, by rw [hU]; exact hH, va_K.moved hW.alike C.2.2.2.2.2.2.2.1, fun w hw => q_warm hw hW (C.2.2.2.2.2.2.1 w hw)⟩
theorem q_stk {B : Nat} {As rest : List qV} {a : Nat} {st0 : List qV} (h : st0 = As.reverse ++ qP a :: rest) : st0.map (qv B) = (As.map (qv B)).reverse ++ .ref (B + a) :: rest.map (qv B) := by
  rw [h, List.map_append, List.map_reverse]; rfl
theorem q_stkS {B : Nat} {As rest : List qV} {st0 : List qV} (h : st0 = As.reverse ++ rest) : st0.map (qv B) = (As.map (qv B)).reverse ++ rest.map (qv B) := by
  rw [h, List.map_append, List.map_reverse]
theorem q_ret {B : Nat} {r : Option qV} {rest : List qV} : (r.map (qv B)).toList ++ rest.map (qv B) = (r.toList ++ rest).map (qv B) := by
  cases r <;> rfl
theorem g_callV {X : qM} {r : Nat × Nat × Nat} {As rest st0 : List qV} {a ci idx np : Nat} {fs : List qF} {post : Option qV → (Nat → qL) → Nat → qC → Prop} (hM : qK X r (qP a :: As) w.1 w.2.1 c post) (hd : decode Y.1.2.1 pc = .ok (.invokevirtual idx, 3)) (hk : qLk Y.1.1.cls idx np X) (hi : qIm X) (hL : w.1 a = .inr (.inr (ci, fs))) (ha : a < w.2.1) (hci : (qcl[ci]?).map (fun q => q.1) = some X.1.cls) (hn : As.length = np) (hst : st0 = As.reverse ++ qP a :: rest) (hcs : Nat.ble (qcs rest) 8 = true) (hr : r.1 + 1 ≤ Y.2.1.1) (hmc : w.2.2.1 + r.2.1 ≤ Y.2.1.2.1) (hms : w.2.2.2 + r.2.2 ≤ Y.2.1.2.2)
    (kk : ∀ (v : Option qV) (L : Nat → qL) (n : Nat) (c' : qC), post v L n c' → qG Y (L, n, w.2.2.1 + r.2.1, w.2.2.2 + r.2.2) (pc + 3) lo (v.toList ++ rest) c') : qG Y w pc lo st0 c := by
  intro p l e R s m args below meth cd D cs B H locs ls C hE hH hS hl hnl
  have C' := C
  obtain ⟨hx, hb, -, hml, hown, hts, hNZ, hK, -, hname, hB, hfr, hlc, hce, hso⟩ := C
  obtain ⟨k1, k2, k3, k4, k5⟩ := hk
  have hR : (qrm r).frames + 1 ≤ R.frames ∧ 8 + (X.2.2.1 + 11) + (qrm r).locals ≤ R.locals := ⟨by show r.1 + 1 ≤ _; omega, by show 8 + (X.2.2.1 + 11) + 48 * r.1 ≤ _; omega⟩
  have hsz : ls.size = Y.1.2.2.1 := hnl
  obtain ⟨q, hq, hqc⟩ : ∃ q, qcl[ci]? = some q ∧ q.1 = X.1.cls := by
    cases h : qcl[ci]? with
    | none => rw [h] at hci; cases hci
    | some q => rw [h] at hci; exact ⟨q, rfl, Option.some.inj hci⟩
  have hrecv := va_recv hK (hH.one ha hL) (ci := ci) (q0 := 0) hq rfl
  rw [hqc] at hrecv
  have hpre : PreV s H X.1.cls (B + a) (va_Pc ((qP a :: As).map (qv B)) (qU D cs B w.1 w.2.1 c)) (As.map (qv B)) := ⟨q_blind _ _ _ _ _ _ _, hrecv, fun U hU hW => ⟨rfl, q_pre C' hH hS U hU hW⟩⟩
  have hW0 : 2 * (F0 m pc ls (st0.map (qv B))).monitorRoom + ((rest.map (qv B)).map fun v => v.category).sum ≤ 8 := by
    rw [q_cs]; show 2 * 0 + _ ≤ 8; have := Nat.le_of_ble_eq_true hcs; omega
  have hS2 := hS
  rcases k5 with k5 | ⟨host, k5⟩
  · refine q_after (va_runV (As := As.map (qv B)) (rest := rest.map (qv B)) (b := B + a) (n := np) ⟨hx, hb, hml, hown, hts⟩ (hM l D cs B) ⟨callB_of np hts (q_good k1) rfl rfl rfl (hts _ k2) (hts _ k5) k3 hR, hts _ hi.1, hts _ hi.2⟩ hpre rfl (by rw [List.length_map]; exact hn) hsz (q_stk hst) hW0 hd ⟨by show _ + r.2.1 ≤ _; omega, by show _ + r.2.2 ≤ _; omega⟩) hS (fun v L n c' H1 locs1 hp hH1 hS1 => ?_)
    rw [q_ret]
    exact kk v L n c' hp p l e R s m args below meth cd D cs B H1 locs1 ls C' hE hH1 hS1 hl hnl
  · refine q_after (va_runVN (As := As.map (qv B)) (rest := rest.map (qv B)) (b := B + a) (n := np) ⟨hx, hb, hml, hown, hts⟩ (hM l D cs B) ⟨va_cnB np hts (q_good k1) rfl rfl rfl (hNZ _ k5) (hts _ k2) k3 hR, hts _ hi.1, hts _ hi.2⟩ hpre rfl (by rw [List.length_map]; exact hn) hsz (q_stk hst) hW0 hd ⟨by show _ + r.2.1 ≤ _; omega, by show _ + r.2.2 ≤ _; omega⟩) hS (fun v L n c' H1 locs1 hp hH1 hS1 => ?_)
    rw [q_ret]
    exact kk v L n c' hp p l e R s m args below meth cd D cs B H1 locs1 ls C' hE hH1 hS1 hl hnl
theorem g_callS {X : qM} {r : Nat × Nat × Nat} {As rest st0 : List qV} {idx np : Nat} {post : Option qV → (Nat → qL) → Nat → qC → Prop} (hM : qK X r As w.1 w.2.1 c post) (hd : decode Y.1.2.1 pc = .ok (.invokestatic idx, 3)) (hk : qLk Y.1.1.cls idx np X) (hi : Cond.static X.1 ∈ qALL) (hn : As.length = np) (hst : st0 = As.reverse ++ rest) (hcs : Nat.ble (qcs rest) 8 = true) (hr : r.1 + 1 ≤ Y.2.1.1) (hmc : w.2.2.1 + r.2.1 ≤ Y.2.1.2.1) (hms : w.2.2.2 + r.2.2 ≤ Y.2.1.2.2)
    (kk : ∀ (v : Option qV) (L : Nat → qL) (n : Nat) (c' : qC), post v L n c' → qG Y (L, n, w.2.2.1 + r.2.1, w.2.2.2 + r.2.2) (pc + 3) lo (v.toList ++ rest) c') : qG Y w pc lo st0 c := by
  intro p l e R s m args below meth cd D cs B H locs ls C hE hH hS hl hnl
  have C' := C
  obtain ⟨hx, hb, -, hml, hown, hts, hNZ, hK, -, hname, hB, hfr, hlc, hce, hso⟩ := C
  obtain ⟨k1, k2, k3, k4, k5⟩ := hk
  have hR : (qrm r).frames + 1 ≤ R.frames ∧ 8 + (X.2.2.1 + 11) + (qrm r).locals ≤ R.locals := ⟨by show r.1 + 1 ≤ _; omega, by show 8 + (X.2.2.1 + 11) + 48 * r.1 ≤ _; omega⟩
  have hsz : ls.size = Y.1.2.2.1 := hnl
  have hpre : PreS s H (va_Pc (As.map (qv B)) (qU D cs B w.1 w.2.1 c)) (As.map (qv B)) := ⟨q_blind _ _ _ _ _ _ _, fun U hU hW => ⟨rfl, q_pre C' hH hS U hU hW⟩⟩
  have hW0 : 2 * (F0 m pc ls (st0.map (qv B))).monitorRoom + ((rest.map (qv B)).map fun v => v.category).sum ≤ 8 := by
    rw [q_cs]; show 2 * 0 + _ ≤ 8; have := Nat.le_of_ble_eq_true hcs; omega
  rcases k5 with k5 | ⟨host, k5⟩
  · refine q_after (va_runS (As := As.map (qv B)) (rest := rest.map (qv B)) (n := np) ⟨hx, hb, hml, hown, hts⟩ (hM l D cs B) ⟨callB_of np hts (q_good k1) rfl rfl rfl (hts _ k2) (hts _ k5) k3 hR, hts _ hi⟩ hpre rfl (by rw [List.length_map]; exact hn) hsz (q_stkS hst) hW0 hd ⟨by show _ + r.2.1 ≤ _; omega, by show _ + r.2.2 ≤ _; omega⟩) hS (fun v L n c' H1 locs1 hp hH1 hS1 => ?_)
    rw [q_ret]
    exact kk v L n c' hp p l e R s m args below meth cd D cs B H1 locs1 ls C' hE hH1 hS1 hl hnl
  · refine q_after (va_runSN (As := As.map (qv B)) (rest := rest.map (qv B)) (n := np) ⟨hx, hb, hml, hown, hts⟩ (hM l D cs B) ⟨va_cnB np hts (q_good k1) rfl rfl rfl (hNZ _ k5) (hts _ k2) k3 hR, hts _ hi, trivial⟩ hpre rfl (by rw [List.length_map]; exact hn) hsz (q_stkS hst) hW0 hd ⟨by show _ + r.2.1 ≤ _; omega, by show _ + r.2.2 ≤ _; omega⟩) hS (fun v L n c' H1 locs1 hp hH1 hS1 => ?_)
    rw [q_ret]
    exact kk v L n c' hp p l e R s m args below meth cd D cs B H1 locs1 ls C' hE hH1 hS1 hl hnl
theorem g_callI {X : qM} {r : Nat × Nat × Nat} {As rest st0 : List qV} {a idx np : Nat} {post : Option qV → (Nat → qL) → Nat → qC → Prop} (hM : qK X r (qP a :: As) w.1 w.2.1 c post) (hd : decode Y.1.2.1 pc = .ok (.invokespecial idx, 3)) (hk : qLk Y.1.1.cls idx np X) (hnest : ∀ host : String, Cond.methodLinkNest Y.1.1.cls idx X.1 host ∉ qNZ) (hi : Cond.instanceMethod X.1 ∈ qALL) (hy : X.1.name = "<init>") (hv : X.2.2.2 = none) (hn : As.length = np) (hst : st0 = As.reverse ++ qP a :: rest) (hcs : Nat.ble (qcs rest) 8 = true) (hr : r.1 + 1 ≤ Y.2.1.1) (hmc : w.2.2.1 + r.2.1 ≤ Y.2.1.2.1) (hms : w.2.2.2 + r.2.2 ≤ Y.2.1.2.2)
    (kk : ∀ (v : Option qV) (L : Nat → qL) (n : Nat) (c' : qC), post v L n c' → qG Y (L, n, w.2.2.1 + r.2.1, w.2.2.2 + r.2.2) (pc + 3) lo (v.toList ++ rest) c') : qG Y w pc lo st0 c := by
  intro p l e R s m args below meth cd D cs B H locs ls C hE hH hS hl hnl
  have C' := C
  obtain ⟨hx, hb, -, hml, hown, hts, hNZ, hK, -, hname, hB, hfr, hlc, hce, hso⟩ := C
  obtain ⟨k1, k2, k3, k4, k5⟩ := hk
  have hR : (qrm r).frames + 1 ≤ R.frames ∧ 8 + (X.2.2.1 + 11) + (qrm r).locals ≤ R.locals := ⟨by show r.1 + 1 ≤ _; omega, by show 8 + (X.2.2.1 + 11) + 48 * r.1 ≤ _; omega⟩
  have hsz : ls.size = Y.1.2.2.1 := hnl
  have hpre : PreS s H (va_Pc ((qP a :: As).map (qv B)) (qU D cs B w.1 w.2.1 c)) (.ref (B + a) :: As.map (qv B)) := ⟨q_blind _ _ _ _ _ _ _, fun U hU hW => ⟨rfl, q_pre C' hH hS U hU hW⟩⟩
  have hW0 : 2 * (F0 m pc ls (st0.map (qv B))).monitorRoom + ((rest.map (qv B)).map fun v => v.category).sum ≤ 8 := by
    rw [q_cs]; show 2 * 0 + _ ≤ 8; have := Nat.le_of_ble_eq_true hcs; omega
  have hMl := hM l D cs B
  rw [hv] at hMl k1
  have hg := q_good (X := (X.1, X.2.1, X.2.2.1, none)) k1
  rcases k5 with k5 | ⟨host, k5⟩
  · refine q_after (va_runI (As := As.map (qv B)) (rest := rest.map (qv B)) (b := B + a) (n := np) ⟨hx, hb, hml, hown, hts⟩ hMl ⟨callB_of np hts hg rfl rfl rfl (hts _ k2) (hts _ k5) k3 hR, hy, hts _ hi⟩ hpre rfl (by rw [List.length_map]; exact hn) hsz (q_stk hst) hW0 hd ⟨by show _ + r.2.1 ≤ _; omega, by show _ + r.2.2 ≤ _; omega⟩) hS (fun v L n c' H1 locs1 hp hH1 hS1 => ?_)
    rw [q_ret]
    exact kk v L n c' hp p l e R s m args below meth cd D cs B H1 locs1 ls C' hE hH1 hS1 hl hnl
  · exact absurd k5 (hnest host)
end QH
end
section
/-! THE CELLS, in the order in which the law makes them: 0 the class's object, 1 its Table (2 cells, 3 distances), 4 slots, 5 and 8 the Groupings (groupOf, sizes behind each), 11 MeanRounds, 18 BestRows, 23 DenseRows, 27 Joins, 37 and 38 the Fractions (Joins', the class's), 39 the reference and its arrays -/
def LAYs : Nat → Option Nat
  | 0 => some 5
  | 1 => some 8
  | _ => none
def LAY : Nat → qL
  | 0 => .inr (.inr (7, [.inl (some 1), .inl (some 4), .inl (some 11), .inl (some 18), .inl (some 23), .inl (some 27), .inl (some 38)]))
  | 1 => .inr (.inr (6, [.inl (some 2), .inl (some 3), .inr 0, .inr 0]))
  | 2 => .inl (0, 120)
  | 3 => .inl (0, 2700)
  | 4 => .inr (.inl (2, LAYs))
  | 5 => .inr (.inr (3, [.inl (some 6), .inl (some 7), .inr 0, .inr 0]))
  | 6 => .inl (0, 30)
  | 7 => .inl (0, 30)
  | 8 => .inr (.inr (3, [.inl (some 9), .inl (some 10), .inr 0, .inr 0]))
  | 9 => .inl (0, 30)
  | 10 => .inl (0, 30)
  | 11 => .inr (.inr (5, [.inl (some 12), .inl (some 13), .inl (some 14), .inl (some 15), .inl (some 16), .inl (some 17), .inr 0]))
  | 12 => .inl (0, 30)
  | 13 => .inl (0, 30)
  | 14 => .inl (0, 6)
  | 15 => .inl (0, 24)
  | 16 => .inl (0, 6)
  | 17 => .inl (0, 30)
  | 18 => .inr (.inr (0, [.inl (some 19), .inl (some 20), .inl (some 21), .inl (some 22), .inr 0, .inr 0]))
  | 19 => .inl (0, 30)
  | 20 => .inl (0, 3)
  | 21 => .inl (0, 3)
  | 22 => .inl (0, 90)
  | 23 => .inr (.inr (1, [.inl (some 24), .inl (some 25), .inl (some 26)]))
  | 24 => .inl (0, 30)
  | 25 => .inl (2, 30)
  | 26 => .inl (0, 30)
  | 27 => .inr (.inr (4, [.inl (some 28), .inl (some 29), .inl (some 30), .inl (some 31), .inl (some 32), .inl (some 33), .inl (some 34), .inl (some 35), .inl (some 36), .inl (some 37), .inr 0, .inr 0]))
  | 28 => .inl (0, 30)
  | 29 => .inl (0, 30)
  | 30 => .inl (0, 30)
  | 31 => .inl (1, 30)
  | 32 => .inl (1, 30)
  | 33 => .inl (0, 30)
  | 34 => .inl (0, 30)
  | 35 => .inl (1, 120)
  | 36 => .inl (1, 900)
  | 37 => .inr (.inr (2, [.inr 1, .inr 1]))
  | 38 => .inr (.inr (2, [.inr 1, .inr 1]))
  | 39 => .inr (.inr (8, [.inr 0, .inr 0, .inl (some 40), .inl (some 41), .inl (some 42), .inl (some 43), .inr 0, .inl (some 44), .inr 2, .inr 0, .inl (some 45), .inl (some 46), .inl (some 47), .inl (some 48), .inl (some 49), .inl (some 50), .inl (some 51), .inl (some 52), .inl (some 53), .inl (some 54), .inl (some 55), .inl (some 56), .inr 1, .inr 1, .inl (some 57), .inl (some 58), .inl (some 59), .inl (some 60), .inl (some 61)]))
  | 40 => .inl (0, 120)
  | 41 => .inl (2, 2)
  | 42 => .inl (0, 2)
  | 43 => .inl (0, 60)
  | 44 => .inl (0, 3)
  | 45 => .inl (0, 29)
  | 46 => .inl (0, 29)
  | 47 => .inl (0, 29)
  | 48 => .inl (1, 29)
  | 49 => .inl (1, 29)
  | 50 => .inl (0, 900)
  | 51 => .inl (1, 24)
  | 52 => .inl (0, 6)
  | 53 => .inl (0, 30)
  | 54 => .inl (2, 30)
  | 55 => .inl (2, 30)
  | 56 => .inl (0, 30)
  | 57 => .inl (1, 30)
  | 58 => .inl (1, 120)
  | 59 => .inl (1, 900)
  | 60 => .inl (1, 900)
  | 61 => .inl (1, 900)
  | _ => .inl (0, 0)
abbrev NN : Nat := 62
abbrev wN : qW := (LAY, NN, 0, 0)
/-- a normal contract: the cells stay, what they hold changes -/
def qN (X : qM) (d : Nat) (as : List qV) (c : qC) (post : Option qV → qC → Prop) : Prop := qK X (d, 0, 0) as LAY NN c (fun r L n c' => L = LAY ∧ n = NN ∧ post r c')
abbrev qYn (X : qM) (d : Nat) (post : Option qV → qC → Prop) : qY := (X, (d, 0, 0), qE0, qZm (fun r L n c' => L = LAY ∧ n = NN ∧ post r c') 0 0)
abbrev pI (P : Int → qC → Prop) : Option qV → qC → Prop := fun r c' => ∃ z, r = some (qI z) ∧ P z c'
abbrev pJ (P : Int → qC → Prop) : Option qV → qC → Prop := fun r c' => ∃ z, r = some (qJ z) ∧ P z c'
abbrev pV (P : qC → Prop) : Option qV → qC → Prop := fun r c' => r = none ∧ P c'
theorem qN.of {X : qM} {d : Nat} {as : List qV} {c : qC} {post : Option qV → qC → Prop} (lo : List (Option qV)) (hp : plainName X.1.cls = true) (hlen : lo.length = X.2.2.1) (hlo : ∀ B : Nat, qlv B 0 lo = lv_args 0 (as.map (qv B))) (hsl : ∀ B : Nat, (lg_sl (as.map (qv B))).length ≤ X.2.2.1) (h : qG (qYn X d post) wN 0 lo [] c) : qN X d as c post := qK.of lo hp hlen hlo hsl h
section QN
variable {Y : qY} {X : qM} {d pc : Nat} {lo : List (Option qV)} {st : List qV} {c : qC}
theorem n_reti {P : Int → qC → Prop} {v : Int} (hd : decode X.2.1 pc = .ok (.ireturn, 1)) (hr : X.2.2.2 = some .int) (hq : P v c) : qG (qYn X d (pI P)) wN pc lo [qI v] c := g_iret hd hr (Nat.le_refl 0) (Nat.le_refl 0) ⟨rfl, rfl, v, rfl, hq⟩
theorem n_retz {P : Int → qC → Prop} {v : Int} (hd : decode X.2.1 pc = .ok (.ireturn, 1)) (hr : X.2.2.2 = some .boolean) (hb : v = 0 ∨ v = 1) (hq : P v c) : qG (qYn X d (pI P)) wN pc lo [qI v] c := g_zret hd hr hb (Nat.le_refl 0) (Nat.le_refl 0) ⟨rfl, rfl, v, rfl, hq⟩
theorem n_retj {P : Int → qC → Prop} {v : Int} (hd : decode X.2.1 pc = .ok (.lreturn, 1)) (hr : X.2.2.2 = some .long) (hq : P v c) : qG (qYn X d (pJ P)) wN pc lo [qJ v] c := g_lret hd hr (Nat.le_refl 0) (Nat.le_refl 0) ⟨rfl, rfl, v, rfl, hq⟩
theorem n_retv {P : qC → Prop} (hd : decode X.2.1 pc = .ok (.return_, 1)) (hr : X.2.2.2 = none) (hq : P c) : qG (qYn X d (pV P)) wN pc lo [] c := g_vret hd hr (Nat.le_refl 0) (Nat.le_refl 0) ⟨rfl, rfl, rfl, hq⟩
variable {X' : qM} {d' : Nat} {As rest st0 : List qV} {a ci idx np : Nat} {fs : List qF}
theorem n_callVi {P : Int → qC → Prop} (hM : qN X' d' (qP a :: As) c (pI P)) (hd : decode Y.1.2.1 pc = .ok (.invokevirtual idx, 3)) (hk : qLk Y.1.1.cls idx np X') (hi : qIm X') (hL : LAY a = .inr (.inr (ci, fs))) (ha : a < NN) (hci : (qcl[ci]?).map (fun q => q.1) = some X'.1.cls) (hn : As.length = np) (hst : st0 = As.reverse ++ qP a :: rest) (hcs : Nat.ble (qcs rest) 8 = true) (hr : d' + 1 ≤ Y.2.1.1) (kk : ∀ (z : Int) (c' : qC), P z c' → qG Y wN (pc + 3) lo (qI z :: rest) c') : qG Y wN pc lo st0 c := by
  refine g_callV (w := wN) hM hd hk hi hL ha hci hn hst hcs hr (Nat.zero_le _) (Nat.zero_le _) ?_
  rintro v L n c' ⟨rfl, rfl, z, rfl, hp⟩
  exact kk z c' hp
theorem n_callSi {P : Int → qC → Prop} (hM : qN X' d' As c (pI P)) (hd : decode Y.1.2.1 pc = .ok (.invokestatic idx, 3)) (hk : qLk Y.1.1.cls idx np X') (hi : Cond.static X'.1 ∈ qALL) (hn : As.length = np) (hst : st0 = As.reverse ++ rest) (hcs : Nat.ble (qcs rest) 8 = true) (hr : d' + 1 ≤ Y.2.1.1) (kk : ∀ (z : Int) (c' : qC), P z c' → qG Y wN (pc + 3) lo (qI z :: rest) c') : qG Y wN pc lo st0 c := by
  refine g_callS (w := wN) hM hd hk hi hn hst hcs hr (Nat.zero_le _) (Nat.zero_le _) ?_
  rintro v L n c' ⟨rfl, rfl, z, rfl, hp⟩
  exact kk z c' hp
theorem n_callVj {P : Int → qC → Prop} (hM : qN X' d' (qP a :: As) c (pJ P)) (hd : decode Y.1.2.1 pc = .ok (.invokevirtual idx, 3)) (hk : qLk Y.1.1.cls idx np X') (hi : qIm X') (hL : LAY a = .inr (.inr (ci, fs))) (ha : a < NN) (hci : (qcl[ci]?).map (fun q => q.1) = some X'.1.cls) (hn : As.length = np) (hst : st0 = As.reverse ++ qP a :: rest) (hcs : Nat.ble (qcs rest) 8 = true) (hr : d' + 1 ≤ Y.2.1.1) (kk : ∀ (z : Int) (c' : qC), P z c' → qG Y wN (pc + 3) lo (qJ z :: rest) c') : qG Y wN pc lo st0 c := by
  refine g_callV (w := wN) hM hd hk hi hL ha hci hn hst hcs hr (Nat.zero_le _) (Nat.zero_le _) ?_
  rintro v L n c' ⟨rfl, rfl, z, rfl, hp⟩
  exact kk z c' hp
theorem n_callSj {P : Int → qC → Prop} (hM : qN X' d' As c (pJ P)) (hd : decode Y.1.2.1 pc = .ok (.invokestatic idx, 3)) (hk : qLk Y.1.1.cls idx np X') (hi : Cond.static X'.1 ∈ qALL) (hn : As.length = np) (hst : st0 = As.reverse ++ rest) (hcs : Nat.ble (qcs rest) 8 = true) (hr : d' + 1 ≤ Y.2.1.1) (kk : ∀ (z : Int) (c' : qC), P z c' → qG Y wN (pc + 3) lo (qJ z :: rest) c') : qG Y wN pc lo st0 c := by
  refine g_callS (w := wN) hM hd hk hi hn hst hcs hr (Nat.zero_le _) (Nat.zero_le _) ?_
  rintro v L n c' ⟨rfl, rfl, z, rfl, hp⟩
  exact kk z c' hp
theorem n_callVv {P : qC → Prop} (hM : qN X' d' (qP a :: As) c (pV P)) (hd : decode Y.1.2.1 pc = .ok (.invokevirtual idx, 3)) (hk : qLk Y.1.1.cls idx np X') (hi : qIm X') (hL : LAY a = .inr (.inr (ci, fs))) (ha : a < NN) (hci : (qcl[ci]?).map (fun q => q.1) = some X'.1.cls) (hn : As.length = np) (hst : st0 = As.reverse ++ qP a :: rest) (hcs : Nat.ble (qcs rest) 8 = true) (hr : d' + 1 ≤ Y.2.1.1) (kk : ∀ (c' : qC), P c' → qG Y wN (pc + 3) lo (rest) c') : qG Y wN pc lo st0 c := by
  refine g_callV (w := wN) hM hd hk hi hL ha hci hn hst hcs hr (Nat.zero_le _) (Nat.zero_le _) ?_
  rintro v L n c' ⟨rfl, rfl, rfl, hp⟩
  exact kk c' hp
theorem n_callSv {P : qC → Prop} (hM : qN X' d' As c (pV P)) (hd : decode Y.1.2.1 pc = .ok (.invokestatic idx, 3)) (hk : qLk Y.1.1.cls idx np X') (hi : Cond.static X'.1 ∈ qALL) (hn : As.length = np) (hst : st0 = As.reverse ++ rest) (hcs : Nat.ble (qcs rest) 8 = true) (hr : d' + 1 ≤ Y.2.1.1) (kk : ∀ (c' : qC), P c' → qG Y wN (pc + 3) lo (rest) c') : qG Y wN pc lo st0 c := by
  refine g_callS (w := wN) hM hd hk hi hn hst hcs hr (Nat.zero_le _) (Nat.zero_le _) ?_
  rintro v L n c' ⟨rfl, rfl, rfl, hp⟩
  exact kk c' hp
end QN
section QST
variable {Y : qY} {w : qW} {pc : Nat} {st : List qV} {c : qC} {t : List (Option qV)}
theorem g_istore0 {x : Option qV} {z : Int} (hd : decode Y.1.2.1 pc = .ok (.istore 0, 2)) (h : qG Y w (pc + 2) (some (qI z) :: t) st c) : qG Y w pc (x :: t) (qI z :: st) c := g_istore_g hd (by simp only [List.length_cons]; omega) (by simp [qs1]) h
theorem g_istore_n0 {x : Option qV} {z : Int} (hd : decode Y.1.2.1 pc = .ok (.istore_n 0, 1)) (h : qG Y w (pc + 1) (some (qI z) :: t) st c) : qG Y w pc (x :: t) (qI z :: st) c := g_istore_ng hd rfl (by simp only [List.length_cons]; omega) (by simp [qs1]) h
theorem g_astore0 {x : Option qV} {z : Nat} (hd : decode Y.1.2.1 pc = .ok (.astore 0, 2)) (h : qG Y w (pc + 2) (some (qP z) :: t) st c) : qG Y w pc (x :: t) (qP z :: st) c := g_astore_g hd (by simp only [List.length_cons]; omega) (by simp [qs1]) h
theorem g_astore_n0 {x : Option qV} {z : Nat} (hd : decode Y.1.2.1 pc = .ok (.astore_n 0, 1)) (h : qG Y w (pc + 1) (some (qP z) :: t) st c) : qG Y w pc (x :: t) (qP z :: st) c := g_astore_ng hd rfl (by simp only [List.length_cons]; omega) (by simp [qs1]) h
theorem g_lstore0 {x : Option qV} {y : Option qV} {z : Int} (hd : decode Y.1.2.1 pc = .ok (.lstore 0, 2)) (h : qG Y w (pc + 2) (some (qJ z) :: none :: t) st c) : qG Y w pc (x :: y :: t) (qJ z :: st) c := g_lstore_g hd (by simp only [List.length_cons]; omega) (by simp [qs2]) h
theorem g_lstore_n0 {x : Option qV} {y : Option qV} {z : Int} (hd : decode Y.1.2.1 pc = .ok (.lstore_n 0, 1)) (h : qG Y w (pc + 1) (some (qJ z) :: none :: t) st c) : qG Y w pc (x :: y :: t) (qJ z :: st) c := g_lstore_ng hd rfl (by simp only [List.length_cons]; omega) (by simp [qs2]) h
theorem g_iinc0 {z n : Int} (hd : decode Y.1.2.1 pc = .ok (.iinc 0 n, 3)) (h : qG Y w (pc + 3) (some (qI (z + n)) :: t) st c) : qG Y w pc (some (qI z) :: t) st c := g_iinc_g hd rfl (by simp [qs1]) h
theorem g_istore1 {a0 x : Option qV} {z : Int} (hd : decode Y.1.2.1 pc = .ok (.istore 1, 2)) (hp : qlg a0 = false) (h : qG Y w (pc + 2) (a0 :: some (qI z) :: t) st c) : qG Y w pc (a0 :: x :: t) (qI z :: st) c := g_istore_g hd (by simp only [List.length_cons]; omega) (by simp [qs1, hp]) h
theorem g_istore_n1 {a0 x : Option qV} {z : Int} (hd : decode Y.1.2.1 pc = .ok (.istore_n 1, 1)) (hp : qlg a0 = false) (h : qG Y w (pc + 1) (a0 :: some (qI z) :: t) st c) : qG Y w pc (a0 :: x :: t) (qI z :: st) c := g_istore_ng hd rfl (by simp only [List.length_cons]; omega) (by simp [qs1, hp]) h
theorem g_astore1 {a0 x : Option qV} {z : Nat} (hd : decode Y.1.2.1 pc = .ok (.astore 1, 2)) (hp : qlg a0 = false) (h : qG Y w (pc + 2) (a0 :: some (qP z) :: t) st c) : qG Y w pc (a0 :: x :: t) (qP z :: st) c := g_astore_g hd (by simp only [List.length_cons]; omega) (by simp [qs1, hp]) h
theorem g_astore_n1 {a0 x : Option qV} {z : Nat} (hd : decode Y.1.2.1 pc = .ok (.astore_n 1, 1)) (hp : qlg a0 = false) (h : qG Y w (pc + 1) (a0 :: some (qP z) :: t) st c) : qG Y w pc (a0 :: x :: t) (qP z :: st) c := g_astore_ng hd rfl (by simp only [List.length_cons]; omega) (by simp [qs1, hp]) h
theorem g_lstore1 {a0 x : Option qV} {y : Option qV} {z : Int} (hd : decode Y.1.2.1 pc = .ok (.lstore 1, 2)) (hp : qlg a0 = false) (h : qG Y w (pc + 2) (a0 :: some (qJ z) :: none :: t) st c) : qG Y w pc (a0 :: x :: y :: t) (qJ z :: st) c := g_lstore_g hd (by simp only [List.length_cons]; omega) (by simp [qs2, hp]) h
theorem g_lstore_n1 {a0 x : Option qV} {y : Option qV} {z : Int} (hd : decode Y.1.2.1 pc = .ok (.lstore_n 1, 1)) (hp : qlg a0 = false) (h : qG Y w (pc + 1) (a0 :: some (qJ z) :: none :: t) st c) : qG Y w pc (a0 :: x :: y :: t) (qJ z :: st) c := g_lstore_ng hd rfl (by simp only [List.length_cons]; omega) (by simp [qs2, hp]) h
theorem g_iinc1 {a0 : Option qV} {z n : Int} (hd : decode Y.1.2.1 pc = .ok (.iinc 1 n, 3)) (hp : qlg a0 = false) (h : qG Y w (pc + 3) (a0 :: some (qI (z + n)) :: t) st c) : qG Y w pc (a0 :: some (qI z) :: t) st c := g_iinc_g hd rfl (by simp [qs1, hp]) h
theorem g_istore2 {a0 a1 x : Option qV} {z : Int} (hd : decode Y.1.2.1 pc = .ok (.istore 2, 2)) (hp : qlg a1 = false) (h : qG Y w (pc + 2) (a0 :: a1 :: some (qI z) :: t) st c) : qG Y w pc (a0 :: a1 :: x :: t) (qI z :: st) c := g_istore_g hd (by simp only [List.length_cons]; omega) (by simp [qs1, hp]) h
theorem g_istore_n2 {a0 a1 x : Option qV} {z : Int} (hd : decode Y.1.2.1 pc = .ok (.istore_n 2, 1)) (hp : qlg a1 = false) (h : qG Y w (pc + 1) (a0 :: a1 :: some (qI z) :: t) st c) : qG Y w pc (a0 :: a1 :: x :: t) (qI z :: st) c := g_istore_ng hd rfl (by simp only [List.length_cons]; omega) (by simp [qs1, hp]) h
theorem g_astore2 {a0 a1 x : Option qV} {z : Nat} (hd : decode Y.1.2.1 pc = .ok (.astore 2, 2)) (hp : qlg a1 = false) (h : qG Y w (pc + 2) (a0 :: a1 :: some (qP z) :: t) st c) : qG Y w pc (a0 :: a1 :: x :: t) (qP z :: st) c := g_astore_g hd (by simp only [List.length_cons]; omega) (by simp [qs1, hp]) h
theorem g_astore_n2 {a0 a1 x : Option qV} {z : Nat} (hd : decode Y.1.2.1 pc = .ok (.astore_n 2, 1)) (hp : qlg a1 = false) (h : qG Y w (pc + 1) (a0 :: a1 :: some (qP z) :: t) st c) : qG Y w pc (a0 :: a1 :: x :: t) (qP z :: st) c := g_astore_ng hd rfl (by simp only [List.length_cons]; omega) (by simp [qs1, hp]) h
theorem g_lstore2 {a0 a1 x : Option qV} {y : Option qV} {z : Int} (hd : decode Y.1.2.1 pc = .ok (.lstore 2, 2)) (hp : qlg a1 = false) (h : qG Y w (pc + 2) (a0 :: a1 :: some (qJ z) :: none :: t) st c) : qG Y w pc (a0 :: a1 :: x :: y :: t) (qJ z :: st) c := g_lstore_g hd (by simp only [List.length_cons]; omega) (by simp [qs2, hp]) h
theorem g_lstore_n2 {a0 a1 x : Option qV} {y : Option qV} {z : Int} (hd : decode Y.1.2.1 pc = .ok (.lstore_n 2, 1)) (hp : qlg a1 = false) (h : qG Y w (pc + 1) (a0 :: a1 :: some (qJ z) :: none :: t) st c) : qG Y w pc (a0 :: a1 :: x :: y :: t) (qJ z :: st) c := g_lstore_ng hd rfl (by simp only [List.length_cons]; omega) (by simp [qs2, hp]) h
theorem g_iinc2 {a0 a1 : Option qV} {z n : Int} (hd : decode Y.1.2.1 pc = .ok (.iinc 2 n, 3)) (hp : qlg a1 = false) (h : qG Y w (pc + 3) (a0 :: a1 :: some (qI (z + n)) :: t) st c) : qG Y w pc (a0 :: a1 :: some (qI z) :: t) st c := g_iinc_g hd rfl (by simp [qs1, hp]) h
theorem g_istore3 {a0 a1 a2 x : Option qV} {z : Int} (hd : decode Y.1.2.1 pc = .ok (.istore 3, 2)) (hp : qlg a2 = false) (h : qG Y w (pc + 2) (a0 :: a1 :: a2 :: some (qI z) :: t) st c) : qG Y w pc (a0 :: a1 :: a2 :: x :: t) (qI z :: st) c := g_istore_g hd (by simp only [List.length_cons]; omega) (by simp [qs1, hp]) h
theorem g_istore_n3 {a0 a1 a2 x : Option qV} {z : Int} (hd : decode Y.1.2.1 pc = .ok (.istore_n 3, 1)) (hp : qlg a2 = false) (h : qG Y w (pc + 1) (a0 :: a1 :: a2 :: some (qI z) :: t) st c) : qG Y w pc (a0 :: a1 :: a2 :: x :: t) (qI z :: st) c := g_istore_ng hd rfl (by simp only [List.length_cons]; omega) (by simp [qs1, hp]) h
theorem g_astore3 {a0 a1 a2 x : Option qV} {z : Nat} (hd : decode Y.1.2.1 pc = .ok (.astore 3, 2)) (hp : qlg a2 = false) (h : qG Y w (pc + 2) (a0 :: a1 :: a2 :: some (qP z) :: t) st c) : qG Y w pc (a0 :: a1 :: a2 :: x :: t) (qP z :: st) c := g_astore_g hd (by simp only [List.length_cons]; omega) (by simp [qs1, hp]) h
theorem g_astore_n3 {a0 a1 a2 x : Option qV} {z : Nat} (hd : decode Y.1.2.1 pc = .ok (.astore_n 3, 1)) (hp : qlg a2 = false) (h : qG Y w (pc + 1) (a0 :: a1 :: a2 :: some (qP z) :: t) st c) : qG Y w pc (a0 :: a1 :: a2 :: x :: t) (qP z :: st) c := g_astore_ng hd rfl (by simp only [List.length_cons]; omega) (by simp [qs1, hp]) h
theorem g_lstore3 {a0 a1 a2 x : Option qV} {y : Option qV} {z : Int} (hd : decode Y.1.2.1 pc = .ok (.lstore 3, 2)) (hp : qlg a2 = false) (h : qG Y w (pc + 2) (a0 :: a1 :: a2 :: some (qJ z) :: none :: t) st c) : qG Y w pc (a0 :: a1 :: a2 :: x :: y :: t) (qJ z :: st) c := g_lstore_g hd (by simp only [List.length_cons]; omega) (by simp [qs2, hp]) h
theorem g_lstore_n3 {a0 a1 a2 x : Option qV} {y : Option qV} {z : Int} (hd : decode Y.1.2.1 pc = .ok (.lstore_n 3, 1)) (hp : qlg a2 = false) (h : qG Y w (pc + 1) (a0 :: a1 :: a2 :: some (qJ z) :: none :: t) st c) : qG Y w pc (a0 :: a1 :: a2 :: x :: y :: t) (qJ z :: st) c := g_lstore_ng hd rfl (by simp only [List.length_cons]; omega) (by simp [qs2, hp]) h
theorem g_iinc3 {a0 a1 a2 : Option qV} {z n : Int} (hd : decode Y.1.2.1 pc = .ok (.iinc 3 n, 3)) (hp : qlg a2 = false) (h : qG Y w (pc + 3) (a0 :: a1 :: a2 :: some (qI (z + n)) :: t) st c) : qG Y w pc (a0 :: a1 :: a2 :: some (qI z) :: t) st c := g_iinc_g hd rfl (by simp [qs1, hp]) h
theorem g_istore4 {a0 a1 a2 a3 x : Option qV} {z : Int} (hd : decode Y.1.2.1 pc = .ok (.istore 4, 2)) (hp : qlg a3 = false) (h : qG Y w (pc + 2) (a0 :: a1 :: a2 :: a3 :: some (qI z) :: t) st c) : qG Y w pc (a0 :: a1 :: a2 :: a3 :: x :: t) (qI z :: st) c := g_istore_g hd (by simp only [List.length_cons]; omega) (by simp [qs1, hp]) h
theorem g_astore4 {a0 a1 a2 a3 x : Option qV} {z : Nat} (hd : decode Y.1.2.1 pc = .ok (.astore 4, 2)) (hp : qlg a3 = false) (h : qG Y w (pc + 2) (a0 :: a1 :: a2 :: a3 :: some (qP z) :: t) st c) : qG Y w pc (a0 :: a1 :: a2 :: a3 :: x :: t) (qP z :: st) c := g_astore_g hd (by simp only [List.length_cons]; omega) (by simp [qs1, hp]) h
theorem g_lstore4 {a0 a1 a2 a3 x : Option qV} {y : Option qV} {z : Int} (hd : decode Y.1.2.1 pc = .ok (.lstore 4, 2)) (hp : qlg a3 = false) (h : qG Y w (pc + 2) (a0 :: a1 :: a2 :: a3 :: some (qJ z) :: none :: t) st c) : qG Y w pc (a0 :: a1 :: a2 :: a3 :: x :: y :: t) (qJ z :: st) c := g_lstore_g hd (by simp only [List.length_cons]; omega) (by simp [qs2, hp]) h
theorem g_iinc4 {a0 a1 a2 a3 : Option qV} {z n : Int} (hd : decode Y.1.2.1 pc = .ok (.iinc 4 n, 3)) (hp : qlg a3 = false) (h : qG Y w (pc + 3) (a0 :: a1 :: a2 :: a3 :: some (qI (z + n)) :: t) st c) : qG Y w pc (a0 :: a1 :: a2 :: a3 :: some (qI z) :: t) st c := g_iinc_g hd rfl (by simp [qs1, hp]) h
theorem g_istore5 {a0 a1 a2 a3 a4 x : Option qV} {z : Int} (hd : decode Y.1.2.1 pc = .ok (.istore 5, 2)) (hp : qlg a4 = false) (h : qG Y w (pc + 2) (a0 :: a1 :: a2 :: a3 :: a4 :: some (qI z) :: t) st c) : qG Y w pc (a0 :: a1 :: a2 :: a3 :: a4 :: x :: t) (qI z :: st) c := g_istore_g hd (by simp only [List.length_cons]; omega) (by simp [qs1, hp]) h
theorem g_astore5 {a0 a1 a2 a3 a4 x : Option qV} {z : Nat} (hd : decode Y.1.2.1 pc = .ok (.astore 5, 2)) (hp : qlg a4 = false) (h : qG Y w (pc + 2) (a0 :: a1 :: a2 :: a3 :: a4 :: some (qP z) :: t) st c) : qG Y w pc (a0 :: a1 :: a2 :: a3 :: a4 :: x :: t) (qP z :: st) c := g_astore_g hd (by simp only [List.length_cons]; omega) (by simp [qs1, hp]) h
theorem g_lstore5 {a0 a1 a2 a3 a4 x : Option qV} {y : Option qV} {z : Int} (hd : decode Y.1.2.1 pc = .ok (.lstore 5, 2)) (hp : qlg a4 = false) (h : qG Y w (pc + 2) (a0 :: a1 :: a2 :: a3 :: a4 :: some (qJ z) :: none :: t) st c) : qG Y w pc (a0 :: a1 :: a2 :: a3 :: a4 :: x :: y :: t) (qJ z :: st) c := g_lstore_g hd (by simp only [List.length_cons]; omega) (by simp [qs2, hp]) h
theorem g_iinc5 {a0 a1 a2 a3 a4 : Option qV} {z n : Int} (hd : decode Y.1.2.1 pc = .ok (.iinc 5 n, 3)) (hp : qlg a4 = false) (h : qG Y w (pc + 3) (a0 :: a1 :: a2 :: a3 :: a4 :: some (qI (z + n)) :: t) st c) : qG Y w pc (a0 :: a1 :: a2 :: a3 :: a4 :: some (qI z) :: t) st c := g_iinc_g hd rfl (by simp [qs1, hp]) h
theorem g_istore6 {a0 a1 a2 a3 a4 a5 x : Option qV} {z : Int} (hd : decode Y.1.2.1 pc = .ok (.istore 6, 2)) (hp : qlg a5 = false) (h : qG Y w (pc + 2) (a0 :: a1 :: a2 :: a3 :: a4 :: a5 :: some (qI z) :: t) st c) : qG Y w pc (a0 :: a1 :: a2 :: a3 :: a4 :: a5 :: x :: t) (qI z :: st) c := g_istore_g hd (by simp only [List.length_cons]; omega) (by simp [qs1, hp]) h
theorem g_astore6 {a0 a1 a2 a3 a4 a5 x : Option qV} {z : Nat} (hd : decode Y.1.2.1 pc = .ok (.astore 6, 2)) (hp : qlg a5 = false) (h : qG Y w (pc + 2) (a0 :: a1 :: a2 :: a3 :: a4 :: a5 :: some (qP z) :: t) st c) : qG Y w pc (a0 :: a1 :: a2 :: a3 :: a4 :: a5 :: x :: t) (qP z :: st) c := g_astore_g hd (by simp only [List.length_cons]; omega) (by simp [qs1, hp]) h
theorem g_lstore6 {a0 a1 a2 a3 a4 a5 x : Option qV} {y : Option qV} {z : Int} (hd : decode Y.1.2.1 pc = .ok (.lstore 6, 2)) (hp : qlg a5 = false) (h : qG Y w (pc + 2) (a0 :: a1 :: a2 :: a3 :: a4 :: a5 :: some (qJ z) :: none :: t) st c) : qG Y w pc (a0 :: a1 :: a2 :: a3 :: a4 :: a5 :: x :: y :: t) (qJ z :: st) c := g_lstore_g hd (by simp only [List.length_cons]; omega) (by simp [qs2, hp]) h
theorem g_iinc6 {a0 a1 a2 a3 a4 a5 : Option qV} {z n : Int} (hd : decode Y.1.2.1 pc = .ok (.iinc 6 n, 3)) (hp : qlg a5 = false) (h : qG Y w (pc + 3) (a0 :: a1 :: a2 :: a3 :: a4 :: a5 :: some (qI (z + n)) :: t) st c) : qG Y w pc (a0 :: a1 :: a2 :: a3 :: a4 :: a5 :: some (qI z) :: t) st c := g_iinc_g hd rfl (by simp [qs1, hp]) h
theorem g_istore7 {a0 a1 a2 a3 a4 a5 a6 x : Option qV} {z : Int} (hd : decode Y.1.2.1 pc = .ok (.istore 7, 2)) (hp : qlg a6 = false) (h : qG Y w (pc + 2) (a0 :: a1 :: a2 :: a3 :: a4 :: a5 :: a6 :: some (qI z) :: t) st c) : qG Y w pc (a0 :: a1 :: a2 :: a3 :: a4 :: a5 :: a6 :: x :: t) (qI z :: st) c := g_istore_g hd (by simp only [List.length_cons]; omega) (by simp [qs1, hp]) h
theorem g_astore7 {a0 a1 a2 a3 a4 a5 a6 x : Option qV} {z : Nat} (hd : decode Y.1.2.1 pc = .ok (.astore 7, 2)) (hp : qlg a6 = false) (h : qG Y w (pc + 2) (a0 :: a1 :: a2 :: a3 :: a4 :: a5 :: a6 :: some (qP z) :: t) st c) : qG Y w pc (a0 :: a1 :: a2 :: a3 :: a4 :: a5 :: a6 :: x :: t) (qP z :: st) c := g_astore_g hd (by simp only [List.length_cons]; omega) (by simp [qs1, hp]) h
theorem g_lstore7 {a0 a1 a2 a3 a4 a5 a6 x : Option qV} {y : Option qV} {z : Int} (hd : decode Y.1.2.1 pc = .ok (.lstore 7, 2)) (hp : qlg a6 = false) (h : qG Y w (pc + 2) (a0 :: a1 :: a2 :: a3 :: a4 :: a5 :: a6 :: some (qJ z) :: none :: t) st c) : qG Y w pc (a0 :: a1 :: a2 :: a3 :: a4 :: a5 :: a6 :: x :: y :: t) (qJ z :: st) c := g_lstore_g hd (by simp only [List.length_cons]; omega) (by simp [qs2, hp]) h
theorem g_iinc7 {a0 a1 a2 a3 a4 a5 a6 : Option qV} {z n : Int} (hd : decode Y.1.2.1 pc = .ok (.iinc 7 n, 3)) (hp : qlg a6 = false) (h : qG Y w (pc + 3) (a0 :: a1 :: a2 :: a3 :: a4 :: a5 :: a6 :: some (qI (z + n)) :: t) st c) : qG Y w pc (a0 :: a1 :: a2 :: a3 :: a4 :: a5 :: a6 :: some (qI z) :: t) st c := g_iinc_g hd rfl (by simp [qs1, hp]) h
theorem g_istore8 {a0 a1 a2 a3 a4 a5 a6 a7 x : Option qV} {z : Int} (hd : decode Y.1.2.1 pc = .ok (.istore 8, 2)) (hp : qlg a7 = false) (h : qG Y w (pc + 2) (a0 :: a1 :: a2 :: a3 :: a4 :: a5 :: a6 :: a7 :: some (qI z) :: t) st c) : qG Y w pc (a0 :: a1 :: a2 :: a3 :: a4 :: a5 :: a6 :: a7 :: x :: t) (qI z :: st) c := g_istore_g hd (by simp only [List.length_cons]; omega) (by simp [qs1, hp]) h
theorem g_astore8 {a0 a1 a2 a3 a4 a5 a6 a7 x : Option qV} {z : Nat} (hd : decode Y.1.2.1 pc = .ok (.astore 8, 2)) (hp : qlg a7 = false) (h : qG Y w (pc + 2) (a0 :: a1 :: a2 :: a3 :: a4 :: a5 :: a6 :: a7 :: some (qP z) :: t) st c) : qG Y w pc (a0 :: a1 :: a2 :: a3 :: a4 :: a5 :: a6 :: a7 :: x :: t) (qP z :: st) c := g_astore_g hd (by simp only [List.length_cons]; omega) (by simp [qs1, hp]) h
theorem g_lstore8 {a0 a1 a2 a3 a4 a5 a6 a7 x : Option qV} {y : Option qV} {z : Int} (hd : decode Y.1.2.1 pc = .ok (.lstore 8, 2)) (hp : qlg a7 = false) (h : qG Y w (pc + 2) (a0 :: a1 :: a2 :: a3 :: a4 :: a5 :: a6 :: a7 :: some (qJ z) :: none :: t) st c) : qG Y w pc (a0 :: a1 :: a2 :: a3 :: a4 :: a5 :: a6 :: a7 :: x :: y :: t) (qJ z :: st) c := g_lstore_g hd (by simp only [List.length_cons]; omega) (by simp [qs2, hp]) h
theorem g_iinc8 {a0 a1 a2 a3 a4 a5 a6 a7 : Option qV} {z n : Int} (hd : decode Y.1.2.1 pc = .ok (.iinc 8 n, 3)) (hp : qlg a7 = false) (h : qG Y w (pc + 3) (a0 :: a1 :: a2 :: a3 :: a4 :: a5 :: a6 :: a7 :: some (qI (z + n)) :: t) st c) : qG Y w pc (a0 :: a1 :: a2 :: a3 :: a4 :: a5 :: a6 :: a7 :: some (qI z) :: t) st c := g_iinc_g hd rfl (by simp [qs1, hp]) h
theorem g_istore9 {a0 a1 a2 a3 a4 a5 a6 a7 a8 x : Option qV} {z : Int} (hd : decode Y.1.2.1 pc = .ok (.istore 9, 2)) (hp : qlg a8 = false) (h : qG Y w (pc + 2) (a0 :: a1 :: a2 :: a3 :: a4 :: a5 :: a6 :: a7 :: a8 :: some (qI z) :: t) st c) : qG Y w pc (a0 :: a1 :: a2 :: a3 :: a4 :: a5 :: a6 :: a7 :: a8 :: x :: t) (qI z :: st) c := g_istore_g hd (by simp only [List.length_cons]; omega) (by simp [qs1, hp]) h
theorem g_astore9 {a0 a1 a2 a3 a4 a5 a6 a7 a8 x : Option qV} {z : Nat} (hd : decode Y.1.2.1 pc = .ok (.astore 9, 2)) (hp : qlg a8 = false) (h : qG Y w (pc + 2) (a0 :: a1 :: a2 :: a3 :: a4 :: a5 :: a6 :: a7 :: a8 :: some (qP z) :: t) st c) : qG Y w pc (a0 :: a1 :: a2 :: a3 :: a4 :: a5 :: a6 :: a7 :: a8 :: x :: t) (qP z :: st) c := g_astore_g hd (by simp only [List.length_cons]; omega) (by simp [qs1, hp]) h
theorem g_lstore9 {a0 a1 a2 a3 a4 a5 a6 a7 a8 x : Option qV} {y : Option qV} {z : Int} (hd : decode Y.1.2.1 pc = .ok (.lstore 9, 2)) (hp : qlg a8 = false) (h : qG Y w (pc + 2) (a0 :: a1 :: a2 :: a3 :: a4 :: a5 :: a6 :: a7 :: a8 :: some (qJ z) :: none :: t) st c) : qG Y w pc (a0 :: a1 :: a2 :: a3 :: a4 :: a5 :: a6 :: a7 :: a8 :: x :: y :: t) (qJ z :: st) c := g_lstore_g hd (by simp only [List.length_cons]; omega) (by simp [qs2, hp]) h
theorem g_iinc9 {a0 a1 a2 a3 a4 a5 a6 a7 a8 : Option qV} {z n : Int} (hd : decode Y.1.2.1 pc = .ok (.iinc 9 n, 3)) (hp : qlg a8 = false) (h : qG Y w (pc + 3) (a0 :: a1 :: a2 :: a3 :: a4 :: a5 :: a6 :: a7 :: a8 :: some (qI (z + n)) :: t) st c) : qG Y w pc (a0 :: a1 :: a2 :: a3 :: a4 :: a5 :: a6 :: a7 :: a8 :: some (qI z) :: t) st c := g_iinc_g hd rfl (by simp [qs1, hp]) h
theorem g_istore10 {a0 a1 a2 a3 a4 a5 a6 a7 a8 a9 x : Option qV} {z : Int} (hd : decode Y.1.2.1 pc = .ok (.istore 10, 2)) (hp : qlg a9 = false) (h : qG Y w (pc + 2) (a0 :: a1 :: a2 :: a3 :: a4 :: a5 :: a6 :: a7 :: a8 :: a9 :: some (qI z) :: t) st c) : qG Y w pc (a0 :: a1 :: a2 :: a3 :: a4 :: a5 :: a6 :: a7 :: a8 :: a9 :: x :: t) (qI z :: st) c := g_istore_g hd (by simp only [List.length_cons]; omega) (by simp [qs1, hp]) h
theorem g_astore10 {a0 a1 a2 a3 a4 a5 a6 a7 a8 a9 x : Option qV} {z : Nat} (hd : decode Y.1.2.1 pc = .ok (.astore 10, 2)) (hp : qlg a9 = false) (h : qG Y w (pc + 2) (a0 :: a1 :: a2 :: a3 :: a4 :: a5 :: a6 :: a7 :: a8 :: a9 :: some (qP z) :: t) st c) : qG Y w pc (a0 :: a1 :: a2 :: a3 :: a4 :: a5 :: a6 :: a7 :: a8 :: a9 :: x :: t) (qP z :: st) c := g_astore_g hd (by simp only [List.length_cons]; omega) (by simp [qs1, hp]) h
theorem g_lstore10 {a0 a1 a2 a3 a4 a5 a6 a7 a8 a9 x : Option qV} {y : Option qV} {z : Int} (hd : decode Y.1.2.1 pc = .ok (.lstore 10, 2)) (hp : qlg a9 = false) (h : qG Y w (pc + 2) (a0 :: a1 :: a2 :: a3 :: a4 :: a5 :: a6 :: a7 :: a8 :: a9 :: some (qJ z) :: none :: t) st c) : qG Y w pc (a0 :: a1 :: a2 :: a3 :: a4 :: a5 :: a6 :: a7 :: a8 :: a9 :: x :: y :: t) (qJ z :: st) c := g_lstore_g hd (by simp only [List.length_cons]; omega) (by simp [qs2, hp]) h
theorem g_iinc10 {a0 a1 a2 a3 a4 a5 a6 a7 a8 a9 : Option qV} {z n : Int} (hd : decode Y.1.2.1 pc = .ok (.iinc 10 n, 3)) (hp : qlg a9 = false) (h : qG Y w (pc + 3) (a0 :: a1 :: a2 :: a3 :: a4 :: a5 :: a6 :: a7 :: a8 :: a9 :: some (qI (z + n)) :: t) st c) : qG Y w pc (a0 :: a1 :: a2 :: a3 :: a4 :: a5 :: a6 :: a7 :: a8 :: a9 :: some (qI z) :: t) st c := g_iinc_g hd rfl (by simp [qs1, hp]) h
theorem g_istore11 {a0 a1 a2 a3 a4 a5 a6 a7 a8 a9 a10 x : Option qV} {z : Int} (hd : decode Y.1.2.1 pc = .ok (.istore 11, 2)) (hp : qlg a10 = false) (h : qG Y w (pc + 2) (a0 :: a1 :: a2 :: a3 :: a4 :: a5 :: a6 :: a7 :: a8 :: a9 :: a10 :: some (qI z) :: t) st c) : qG Y w pc (a0 :: a1 :: a2 :: a3 :: a4 :: a5 :: a6 :: a7 :: a8 :: a9 :: a10 :: x :: t) (qI z :: st) c := g_istore_g hd (by simp only [List.length_cons]; omega) (by simp [qs1, hp]) h
theorem g_astore11 {a0 a1 a2 a3 a4 a5 a6 a7 a8 a9 a10 x : Option qV} {z : Nat} (hd : decode Y.1.2.1 pc = .ok (.astore 11, 2)) (hp : qlg a10 = false) (h : qG Y w (pc + 2) (a0 :: a1 :: a2 :: a3 :: a4 :: a5 :: a6 :: a7 :: a8 :: a9 :: a10 :: some (qP z) :: t) st c) : qG Y w pc (a0 :: a1 :: a2 :: a3 :: a4 :: a5 :: a6 :: a7 :: a8 :: a9 :: a10 :: x :: t) (qP z :: st) c := g_astore_g hd (by simp only [List.length_cons]; omega) (by simp [qs1, hp]) h
theorem g_lstore11 {a0 a1 a2 a3 a4 a5 a6 a7 a8 a9 a10 x : Option qV} {y : Option qV} {z : Int} (hd : decode Y.1.2.1 pc = .ok (.lstore 11, 2)) (hp : qlg a10 = false) (h : qG Y w (pc + 2) (a0 :: a1 :: a2 :: a3 :: a4 :: a5 :: a6 :: a7 :: a8 :: a9 :: a10 :: some (qJ z) :: none :: t) st c) : qG Y w pc (a0 :: a1 :: a2 :: a3 :: a4 :: a5 :: a6 :: a7 :: a8 :: a9 :: a10 :: x :: y :: t) (qJ z :: st) c := g_lstore_g hd (by simp only [List.length_cons]; omega) (by simp [qs2, hp]) h
theorem g_iinc11 {a0 a1 a2 a3 a4 a5 a6 a7 a8 a9 a10 : Option qV} {z n : Int} (hd : decode Y.1.2.1 pc = .ok (.iinc 11 n, 3)) (hp : qlg a10 = false) (h : qG Y w (pc + 3) (a0 :: a1 :: a2 :: a3 :: a4 :: a5 :: a6 :: a7 :: a8 :: a9 :: a10 :: some (qI (z + n)) :: t) st c) : qG Y w pc (a0 :: a1 :: a2 :: a3 :: a4 :: a5 :: a6 :: a7 :: a8 :: a9 :: a10 :: some (qI z) :: t) st c := g_iinc_g hd rfl (by simp [qs1, hp]) h
theorem g_istore12 {a0 a1 a2 a3 a4 a5 a6 a7 a8 a9 a10 a11 x : Option qV} {z : Int} (hd : decode Y.1.2.1 pc = .ok (.istore 12, 2)) (hp : qlg a11 = false) (h : qG Y w (pc + 2) (a0 :: a1 :: a2 :: a3 :: a4 :: a5 :: a6 :: a7 :: a8 :: a9 :: a10 :: a11 :: some (qI z) :: t) st c) : qG Y w pc (a0 :: a1 :: a2 :: a3 :: a4 :: a5 :: a6 :: a7 :: a8 :: a9 :: a10 :: a11 :: x :: t) (qI z :: st) c := g_istore_g hd (by simp only [List.length_cons]; omega) (by simp [qs1, hp]) h
theorem g_astore12 {a0 a1 a2 a3 a4 a5 a6 a7 a8 a9 a10 a11 x : Option qV} {z : Nat} (hd : decode Y.1.2.1 pc = .ok (.astore 12, 2)) (hp : qlg a11 = false) (h : qG Y w (pc + 2) (a0 :: a1 :: a2 :: a3 :: a4 :: a5 :: a6 :: a7 :: a8 :: a9 :: a10 :: a11 :: some (qP z) :: t) st c) : qG Y w pc (a0 :: a1 :: a2 :: a3 :: a4 :: a5 :: a6 :: a7 :: a8 :: a9 :: a10 :: a11 :: x :: t) (qP z :: st) c := g_astore_g hd (by simp only [List.length_cons]; omega) (by simp [qs1, hp]) h
theorem g_lstore12 {a0 a1 a2 a3 a4 a5 a6 a7 a8 a9 a10 a11 x : Option qV} {y : Option qV} {z : Int} (hd : decode Y.1.2.1 pc = .ok (.lstore 12, 2)) (hp : qlg a11 = false) (h : qG Y w (pc + 2) (a0 :: a1 :: a2 :: a3 :: a4 :: a5 :: a6 :: a7 :: a8 :: a9 :: a10 :: a11 :: some (qJ z) :: none :: t) st c) : qG Y w pc (a0 :: a1 :: a2 :: a3 :: a4 :: a5 :: a6 :: a7 :: a8 :: a9 :: a10 :: a11 :: x :: y :: t) (qJ z :: st) c := g_lstore_g hd (by simp only [List.length_cons]; omega) (by simp [qs2, hp]) h
theorem g_iinc12 {a0 a1 a2 a3 a4 a5 a6 a7 a8 a9 a10 a11 : Option qV} {z n : Int} (hd : decode Y.1.2.1 pc = .ok (.iinc 12 n, 3)) (hp : qlg a11 = false) (h : qG Y w (pc + 3) (a0 :: a1 :: a2 :: a3 :: a4 :: a5 :: a6 :: a7 :: a8 :: a9 :: a10 :: a11 :: some (qI (z + n)) :: t) st c) : qG Y w pc (a0 :: a1 :: a2 :: a3 :: a4 :: a5 :: a6 :: a7 :: a8 :: a9 :: a10 :: a11 :: some (qI z) :: t) st c := g_iinc_g hd rfl (by simp [qs1, hp]) h
theorem g_istore13 {a0 a1 a2 a3 a4 a5 a6 a7 a8 a9 a10 a11 a12 x : Option qV} {z : Int} (hd : decode Y.1.2.1 pc = .ok (.istore 13, 2)) (hp : qlg a12 = false) (h : qG Y w (pc + 2) (a0 :: a1 :: a2 :: a3 :: a4 :: a5 :: a6 :: a7 :: a8 :: a9 :: a10 :: a11 :: a12 :: some (qI z) :: t) st c) : qG Y w pc (a0 :: a1 :: a2 :: a3 :: a4 :: a5 :: a6 :: a7 :: a8 :: a9 :: a10 :: a11 :: a12 :: x :: t) (qI z :: st) c := g_istore_g hd (by simp only [List.length_cons]; omega) (by simp [qs1, hp]) h
theorem g_astore13 {a0 a1 a2 a3 a4 a5 a6 a7 a8 a9 a10 a11 a12 x : Option qV} {z : Nat} (hd : decode Y.1.2.1 pc = .ok (.astore 13, 2)) (hp : qlg a12 = false) (h : qG Y w (pc + 2) (a0 :: a1 :: a2 :: a3 :: a4 :: a5 :: a6 :: a7 :: a8 :: a9 :: a10 :: a11 :: a12 :: some (qP z) :: t) st c) : qG Y w pc (a0 :: a1 :: a2 :: a3 :: a4 :: a5 :: a6 :: a7 :: a8 :: a9 :: a10 :: a11 :: a12 :: x :: t) (qP z :: st) c := g_astore_g hd (by simp only [List.length_cons]; omega) (by simp [qs1, hp]) h
theorem g_lstore13 {a0 a1 a2 a3 a4 a5 a6 a7 a8 a9 a10 a11 a12 x : Option qV} {y : Option qV} {z : Int} (hd : decode Y.1.2.1 pc = .ok (.lstore 13, 2)) (hp : qlg a12 = false) (h : qG Y w (pc + 2) (a0 :: a1 :: a2 :: a3 :: a4 :: a5 :: a6 :: a7 :: a8 :: a9 :: a10 :: a11 :: a12 :: some (qJ z) :: none :: t) st c) : qG Y w pc (a0 :: a1 :: a2 :: a3 :: a4 :: a5 :: a6 :: a7 :: a8 :: a9 :: a10 :: a11 :: a12 :: x :: y :: t) (qJ z :: st) c := g_lstore_g hd (by simp only [List.length_cons]; omega) (by simp [qs2, hp]) h
theorem g_iinc13 {a0 a1 a2 a3 a4 a5 a6 a7 a8 a9 a10 a11 a12 : Option qV} {z n : Int} (hd : decode Y.1.2.1 pc = .ok (.iinc 13 n, 3)) (hp : qlg a12 = false) (h : qG Y w (pc + 3) (a0 :: a1 :: a2 :: a3 :: a4 :: a5 :: a6 :: a7 :: a8 :: a9 :: a10 :: a11 :: a12 :: some (qI (z + n)) :: t) st c) : qG Y w pc (a0 :: a1 :: a2 :: a3 :: a4 :: a5 :: a6 :: a7 :: a8 :: a9 :: a10 :: a11 :: a12 :: some (qI z) :: t) st c := g_iinc_g hd rfl (by simp [qs1, hp]) h
theorem g_istore14 {a0 a1 a2 a3 a4 a5 a6 a7 a8 a9 a10 a11 a12 a13 x : Option qV} {z : Int} (hd : decode Y.1.2.1 pc = .ok (.istore 14, 2)) (hp : qlg a13 = false) (h : qG Y w (pc + 2) (a0 :: a1 :: a2 :: a3 :: a4 :: a5 :: a6 :: a7 :: a8 :: a9 :: a10 :: a11 :: a12 :: a13 :: some (qI z) :: t) st c) : qG Y w pc (a0 :: a1 :: a2 :: a3 :: a4 :: a5 :: a6 :: a7 :: a8 :: a9 :: a10 :: a11 :: a12 :: a13 :: x :: t) (qI z :: st) c := g_istore_g hd (by simp only [List.length_cons]; omega) (by simp [qs1, hp]) h
theorem g_astore14 {a0 a1 a2 a3 a4 a5 a6 a7 a8 a9 a10 a11 a12 a13 x : Option qV} {z : Nat} (hd : decode Y.1.2.1 pc = .ok (.astore 14, 2)) (hp : qlg a13 = false) (h : qG Y w (pc + 2) (a0 :: a1 :: a2 :: a3 :: a4 :: a5 :: a6 :: a7 :: a8 :: a9 :: a10 :: a11 :: a12 :: a13 :: some (qP z) :: t) st c) : qG Y w pc (a0 :: a1 :: a2 :: a3 :: a4 :: a5 :: a6 :: a7 :: a8 :: a9 :: a10 :: a11 :: a12 :: a13 :: x :: t) (qP z :: st) c := g_astore_g hd (by simp only [List.length_cons]; omega) (by simp [qs1, hp]) h
theorem g_lstore14 {a0 a1 a2 a3 a4 a5 a6 a7 a8 a9 a10 a11 a12 a13 x : Option qV} {y : Option qV} {z : Int} (hd : decode Y.1.2.1 pc = .ok (.lstore 14, 2)) (hp : qlg a13 = false) (h : qG Y w (pc + 2) (a0 :: a1 :: a2 :: a3 :: a4 :: a5 :: a6 :: a7 :: a8 :: a9 :: a10 :: a11 :: a12 :: a13 :: some (qJ z) :: none :: t) st c) : qG Y w pc (a0 :: a1 :: a2 :: a3 :: a4 :: a5 :: a6 :: a7 :: a8 :: a9 :: a10 :: a11 :: a12 :: a13 :: x :: y :: t) (qJ z :: st) c := g_lstore_g hd (by simp only [List.length_cons]; omega) (by simp [qs2, hp]) h
theorem g_iinc14 {a0 a1 a2 a3 a4 a5 a6 a7 a8 a9 a10 a11 a12 a13 : Option qV} {z n : Int} (hd : decode Y.1.2.1 pc = .ok (.iinc 14 n, 3)) (hp : qlg a13 = false) (h : qG Y w (pc + 3) (a0 :: a1 :: a2 :: a3 :: a4 :: a5 :: a6 :: a7 :: a8 :: a9 :: a10 :: a11 :: a12 :: a13 :: some (qI (z + n)) :: t) st c) : qG Y w pc (a0 :: a1 :: a2 :: a3 :: a4 :: a5 :: a6 :: a7 :: a8 :: a9 :: a10 :: a11 :: a12 :: a13 :: some (qI z) :: t) st c := g_iinc_g hd rfl (by simp [qs1, hp]) h
theorem g_istore15 {a0 a1 a2 a3 a4 a5 a6 a7 a8 a9 a10 a11 a12 a13 a14 x : Option qV} {z : Int} (hd : decode Y.1.2.1 pc = .ok (.istore 15, 2)) (hp : qlg a14 = false) (h : qG Y w (pc + 2) (a0 :: a1 :: a2 :: a3 :: a4 :: a5 :: a6 :: a7 :: a8 :: a9 :: a10 :: a11 :: a12 :: a13 :: a14 :: some (qI z) :: t) st c) : qG Y w pc (a0 :: a1 :: a2 :: a3 :: a4 :: a5 :: a6 :: a7 :: a8 :: a9 :: a10 :: a11 :: a12 :: a13 :: a14 :: x :: t) (qI z :: st) c := g_istore_g hd (by simp only [List.length_cons]; omega) (by simp [qs1, hp]) h
theorem g_astore15 {a0 a1 a2 a3 a4 a5 a6 a7 a8 a9 a10 a11 a12 a13 a14 x : Option qV} {z : Nat} (hd : decode Y.1.2.1 pc = .ok (.astore 15, 2)) (hp : qlg a14 = false) (h : qG Y w (pc + 2) (a0 :: a1 :: a2 :: a3 :: a4 :: a5 :: a6 :: a7 :: a8 :: a9 :: a10 :: a11 :: a12 :: a13 :: a14 :: some (qP z) :: t) st c) : qG Y w pc (a0 :: a1 :: a2 :: a3 :: a4 :: a5 :: a6 :: a7 :: a8 :: a9 :: a10 :: a11 :: a12 :: a13 :: a14 :: x :: t) (qP z :: st) c := g_astore_g hd (by simp only [List.length_cons]; omega) (by simp [qs1, hp]) h
theorem g_lstore15 {a0 a1 a2 a3 a4 a5 a6 a7 a8 a9 a10 a11 a12 a13 a14 x : Option qV} {y : Option qV} {z : Int} (hd : decode Y.1.2.1 pc = .ok (.lstore 15, 2)) (hp : qlg a14 = false) (h : qG Y w (pc + 2) (a0 :: a1 :: a2 :: a3 :: a4 :: a5 :: a6 :: a7 :: a8 :: a9 :: a10 :: a11 :: a12 :: a13 :: a14 :: some (qJ z) :: none :: t) st c) : qG Y w pc (a0 :: a1 :: a2 :: a3 :: a4 :: a5 :: a6 :: a7 :: a8 :: a9 :: a10 :: a11 :: a12 :: a13 :: a14 :: x :: y :: t) (qJ z :: st) c := g_lstore_g hd (by simp only [List.length_cons]; omega) (by simp [qs2, hp]) h
theorem g_iinc15 {a0 a1 a2 a3 a4 a5 a6 a7 a8 a9 a10 a11 a12 a13 a14 : Option qV} {z n : Int} (hd : decode Y.1.2.1 pc = .ok (.iinc 15 n, 3)) (hp : qlg a14 = false) (h : qG Y w (pc + 3) (a0 :: a1 :: a2 :: a3 :: a4 :: a5 :: a6 :: a7 :: a8 :: a9 :: a10 :: a11 :: a12 :: a13 :: a14 :: some (qI (z + n)) :: t) st c) : qG Y w pc (a0 :: a1 :: a2 :: a3 :: a4 :: a5 :: a6 :: a7 :: a8 :: a9 :: a10 :: a11 :: a12 :: a13 :: a14 :: some (qI z) :: t) st c := g_iinc_g hd rfl (by simp [qs1, hp]) h
theorem g_istore16 {a0 a1 a2 a3 a4 a5 a6 a7 a8 a9 a10 a11 a12 a13 a14 a15 x : Option qV} {z : Int} (hd : decode Y.1.2.1 pc = .ok (.istore 16, 2)) (hp : qlg a15 = false) (h : qG Y w (pc + 2) (a0 :: a1 :: a2 :: a3 :: a4 :: a5 :: a6 :: a7 :: a8 :: a9 :: a10 :: a11 :: a12 :: a13 :: a14 :: a15 :: some (qI z) :: t) st c) : qG Y w pc (a0 :: a1 :: a2 :: a3 :: a4 :: a5 :: a6 :: a7 :: a8 :: a9 :: a10 :: a11 :: a12 :: a13 :: a14 :: a15 :: x :: t) (qI z :: st) c := g_istore_g hd (by simp only [List.length_cons]; omega) (by simp [qs1, hp]) h
theorem g_astore16 {a0 a1 a2 a3 a4 a5 a6 a7 a8 a9 a10 a11 a12 a13 a14 a15 x : Option qV} {z : Nat} (hd : decode Y.1.2.1 pc = .ok (.astore 16, 2)) (hp : qlg a15 = false) (h : qG Y w (pc + 2) (a0 :: a1 :: a2 :: a3 :: a4 :: a5 :: a6 :: a7 :: a8 :: a9 :: a10 :: a11 :: a12 :: a13 :: a14 :: a15 :: some (qP z) :: t) st c) : qG Y w pc (a0 :: a1 :: a2 :: a3 :: a4 :: a5 :: a6 :: a7 :: a8 :: a9 :: a10 :: a11 :: a12 :: a13 :: a14 :: a15 :: x :: t) (qP z :: st) c := g_astore_g hd (by simp only [List.length_cons]; omega) (by simp [qs1, hp]) h
theorem g_lstore16 {a0 a1 a2 a3 a4 a5 a6 a7 a8 a9 a10 a11 a12 a13 a14 a15 x : Option qV} {y : Option qV} {z : Int} (hd : decode Y.1.2.1 pc = .ok (.lstore 16, 2)) (hp : qlg a15 = false) (h : qG Y w (pc + 2) (a0 :: a1 :: a2 :: a3 :: a4 :: a5 :: a6 :: a7 :: a8 :: a9 :: a10 :: a11 :: a12 :: a13 :: a14 :: a15 :: some (qJ z) :: none :: t) st c) : qG Y w pc (a0 :: a1 :: a2 :: a3 :: a4 :: a5 :: a6 :: a7 :: a8 :: a9 :: a10 :: a11 :: a12 :: a13 :: a14 :: a15 :: x :: y :: t) (qJ z :: st) c := g_lstore_g hd (by simp only [List.length_cons]; omega) (by simp [qs2, hp]) h
theorem g_iinc16 {a0 a1 a2 a3 a4 a5 a6 a7 a8 a9 a10 a11 a12 a13 a14 a15 : Option qV} {z n : Int} (hd : decode Y.1.2.1 pc = .ok (.iinc 16 n, 3)) (hp : qlg a15 = false) (h : qG Y w (pc + 3) (a0 :: a1 :: a2 :: a3 :: a4 :: a5 :: a6 :: a7 :: a8 :: a9 :: a10 :: a11 :: a12 :: a13 :: a14 :: a15 :: some (qI (z + n)) :: t) st c) : qG Y w pc (a0 :: a1 :: a2 :: a3 :: a4 :: a5 :: a6 :: a7 :: a8 :: a9 :: a10 :: a11 :: a12 :: a13 :: a14 :: a15 :: some (qI z) :: t) st c := g_iinc_g hd rfl (by simp [qs1, hp]) h
theorem g_istore17 {a0 a1 a2 a3 a4 a5 a6 a7 a8 a9 a10 a11 a12 a13 a14 a15 a16 x : Option qV} {z : Int} (hd : decode Y.1.2.1 pc = .ok (.istore 17, 2)) (hp : qlg a16 = false) (h : qG Y w (pc + 2) (a0 :: a1 :: a2 :: a3 :: a4 :: a5 :: a6 :: a7 :: a8 :: a9 :: a10 :: a11 :: a12 :: a13 :: a14 :: a15 :: a16 :: some (qI z) :: t) st c) : qG Y w pc (a0 :: a1 :: a2 :: a3 :: a4 :: a5 :: a6 :: a7 :: a8 :: a9 :: a10 :: a11 :: a12 :: a13 :: a14 :: a15 :: a16 :: x :: t) (qI z :: st) c := g_istore_g hd (by simp only [List.length_cons]; omega) (by simp [qs1, hp]) h
theorem g_astore17 {a0 a1 a2 a3 a4 a5 a6 a7 a8 a9 a10 a11 a12 a13 a14 a15 a16 x : Option qV} {z : Nat} (hd : decode Y.1.2.1 pc = .ok (.astore 17, 2)) (hp : qlg a16 = false) (h : qG Y w (pc + 2) (a0 :: a1 :: a2 :: a3 :: a4 :: a5 :: a6 :: a7 :: a8 :: a9 :: a10 :: a11 :: a12 :: a13 :: a14 :: a15 :: a16 :: some (qP z) :: t) st c) : qG Y w pc (a0 :: a1 :: a2 :: a3 :: a4 :: a5 :: a6 :: a7 :: a8 :: a9 :: a10 :: a11 :: a12 :: a13 :: a14 :: a15 :: a16 :: x :: t) (qP z :: st) c := g_astore_g hd (by simp only [List.length_cons]; omega) (by simp [qs1, hp]) h
theorem g_lstore17 {a0 a1 a2 a3 a4 a5 a6 a7 a8 a9 a10 a11 a12 a13 a14 a15 a16 x : Option qV} {y : Option qV} {z : Int} (hd : decode Y.1.2.1 pc = .ok (.lstore 17, 2)) (hp : qlg a16 = false) (h : qG Y w (pc + 2) (a0 :: a1 :: a2 :: a3 :: a4 :: a5 :: a6 :: a7 :: a8 :: a9 :: a10 :: a11 :: a12 :: a13 :: a14 :: a15 :: a16 :: some (qJ z) :: none :: t) st c) : qG Y w pc (a0 :: a1 :: a2 :: a3 :: a4 :: a5 :: a6 :: a7 :: a8 :: a9 :: a10 :: a11 :: a12 :: a13 :: a14 :: a15 :: a16 :: x :: y :: t) (qJ z :: st) c := g_lstore_g hd (by simp only [List.length_cons]; omega) (by simp [qs2, hp]) h
theorem g_iinc17 {a0 a1 a2 a3 a4 a5 a6 a7 a8 a9 a10 a11 a12 a13 a14 a15 a16 : Option qV} {z n : Int} (hd : decode Y.1.2.1 pc = .ok (.iinc 17 n, 3)) (hp : qlg a16 = false) (h : qG Y w (pc + 3) (a0 :: a1 :: a2 :: a3 :: a4 :: a5 :: a6 :: a7 :: a8 :: a9 :: a10 :: a11 :: a12 :: a13 :: a14 :: a15 :: a16 :: some (qI (z + n)) :: t) st c) : qG Y w pc (a0 :: a1 :: a2 :: a3 :: a4 :: a5 :: a6 :: a7 :: a8 :: a9 :: a10 :: a11 :: a12 :: a13 :: a14 :: a15 :: a16 :: some (qI z) :: t) st c := g_iinc_g hd rfl (by simp [qs1, hp]) h
theorem g_istore18 {a0 a1 a2 a3 a4 a5 a6 a7 a8 a9 a10 a11 a12 a13 a14 a15 a16 a17 x : Option qV} {z : Int} (hd : decode Y.1.2.1 pc = .ok (.istore 18, 2)) (hp : qlg a17 = false) (h : qG Y w (pc + 2) (a0 :: a1 :: a2 :: a3 :: a4 :: a5 :: a6 :: a7 :: a8 :: a9 :: a10 :: a11 :: a12 :: a13 :: a14 :: a15 :: a16 :: a17 :: some (qI z) :: t) st c) : qG Y w pc (a0 :: a1 :: a2 :: a3 :: a4 :: a5 :: a6 :: a7 :: a8 :: a9 :: a10 :: a11 :: a12 :: a13 :: a14 :: a15 :: a16 :: a17 :: x :: t) (qI z :: st) c := g_istore_g hd (by simp only [List.length_cons]; omega) (by simp [qs1, hp]) h
theorem g_astore18 {a0 a1 a2 a3 a4 a5 a6 a7 a8 a9 a10 a11 a12 a13 a14 a15 a16 a17 x : Option qV} {z : Nat} (hd : decode Y.1.2.1 pc = .ok (.astore 18, 2)) (hp : qlg a17 = false) (h : qG Y w (pc + 2) (a0 :: a1 :: a2 :: a3 :: a4 :: a5 :: a6 :: a7 :: a8 :: a9 :: a10 :: a11 :: a12 :: a13 :: a14 :: a15 :: a16 :: a17 :: some (qP z) :: t) st c) : qG Y w pc (a0 :: a1 :: a2 :: a3 :: a4 :: a5 :: a6 :: a7 :: a8 :: a9 :: a10 :: a11 :: a12 :: a13 :: a14 :: a15 :: a16 :: a17 :: x :: t) (qP z :: st) c := g_astore_g hd (by simp only [List.length_cons]; omega) (by simp [qs1, hp]) h
theorem g_lstore18 {a0 a1 a2 a3 a4 a5 a6 a7 a8 a9 a10 a11 a12 a13 a14 a15 a16 a17 x : Option qV} {y : Option qV} {z : Int} (hd : decode Y.1.2.1 pc = .ok (.lstore 18, 2)) (hp : qlg a17 = false) (h : qG Y w (pc + 2) (a0 :: a1 :: a2 :: a3 :: a4 :: a5 :: a6 :: a7 :: a8 :: a9 :: a10 :: a11 :: a12 :: a13 :: a14 :: a15 :: a16 :: a17 :: some (qJ z) :: none :: t) st c) : qG Y w pc (a0 :: a1 :: a2 :: a3 :: a4 :: a5 :: a6 :: a7 :: a8 :: a9 :: a10 :: a11 :: a12 :: a13 :: a14 :: a15 :: a16 :: a17 :: x :: y :: t) (qJ z :: st) c := g_lstore_g hd (by simp only [List.length_cons]; omega) (by simp [qs2, hp]) h
theorem g_iinc18 {a0 a1 a2 a3 a4 a5 a6 a7 a8 a9 a10 a11 a12 a13 a14 a15 a16 a17 : Option qV} {z n : Int} (hd : decode Y.1.2.1 pc = .ok (.iinc 18 n, 3)) (hp : qlg a17 = false) (h : qG Y w (pc + 3) (a0 :: a1 :: a2 :: a3 :: a4 :: a5 :: a6 :: a7 :: a8 :: a9 :: a10 :: a11 :: a12 :: a13 :: a14 :: a15 :: a16 :: a17 :: some (qI (z + n)) :: t) st c) : qG Y w pc (a0 :: a1 :: a2 :: a3 :: a4 :: a5 :: a6 :: a7 :: a8 :: a9 :: a10 :: a11 :: a12 :: a13 :: a14 :: a15 :: a16 :: a17 :: some (qI z) :: t) st c := g_iinc_g hd rfl (by simp [qs1, hp]) h
theorem g_istore19 {a0 a1 a2 a3 a4 a5 a6 a7 a8 a9 a10 a11 a12 a13 a14 a15 a16 a17 a18 x : Option qV} {z : Int} (hd : decode Y.1.2.1 pc = .ok (.istore 19, 2)) (hp : qlg a18 = false) (h : qG Y w (pc + 2) (a0 :: a1 :: a2 :: a3 :: a4 :: a5 :: a6 :: a7 :: a8 :: a9 :: a10 :: a11 :: a12 :: a13 :: a14 :: a15 :: a16 :: a17 :: a18 :: some (qI z) :: t) st c) : qG Y w pc (a0 :: a1 :: a2 :: a3 :: a4 :: a5 :: a6 :: a7 :: a8 :: a9 :: a10 :: a11 :: a12 :: a13 :: a14 :: a15 :: a16 :: a17 :: a18 :: x :: t) (qI z :: st) c := g_istore_g hd (by simp only [List.length_cons]; omega) (by simp [qs1, hp]) h
theorem g_astore19 {a0 a1 a2 a3 a4 a5 a6 a7 a8 a9 a10 a11 a12 a13 a14 a15 a16 a17 a18 x : Option qV} {z : Nat} (hd : decode Y.1.2.1 pc = .ok (.astore 19, 2)) (hp : qlg a18 = false) (h : qG Y w (pc + 2) (a0 :: a1 :: a2 :: a3 :: a4 :: a5 :: a6 :: a7 :: a8 :: a9 :: a10 :: a11 :: a12 :: a13 :: a14 :: a15 :: a16 :: a17 :: a18 :: some (qP z) :: t) st c) : qG Y w pc (a0 :: a1 :: a2 :: a3 :: a4 :: a5 :: a6 :: a7 :: a8 :: a9 :: a10 :: a11 :: a12 :: a13 :: a14 :: a15 :: a16 :: a17 :: a18 :: x :: t) (qP z :: st) c := g_astore_g hd (by simp only [List.length_cons]; omega) (by simp [qs1, hp]) h
theorem g_lstore19 {a0 a1 a2 a3 a4 a5 a6 a7 a8 a9 a10 a11 a12 a13 a14 a15 a16 a17 a18 x : Option qV} {y : Option qV} {z : Int} (hd : decode Y.1.2.1 pc = .ok (.lstore 19, 2)) (hp : qlg a18 = false) (h : qG Y w (pc + 2) (a0 :: a1 :: a2 :: a3 :: a4 :: a5 :: a6 :: a7 :: a8 :: a9 :: a10 :: a11 :: a12 :: a13 :: a14 :: a15 :: a16 :: a17 :: a18 :: some (qJ z) :: none :: t) st c) : qG Y w pc (a0 :: a1 :: a2 :: a3 :: a4 :: a5 :: a6 :: a7 :: a8 :: a9 :: a10 :: a11 :: a12 :: a13 :: a14 :: a15 :: a16 :: a17 :: a18 :: x :: y :: t) (qJ z :: st) c := g_lstore_g hd (by simp only [List.length_cons]; omega) (by simp [qs2, hp]) h
theorem g_iinc19 {a0 a1 a2 a3 a4 a5 a6 a7 a8 a9 a10 a11 a12 a13 a14 a15 a16 a17 a18 : Option qV} {z n : Int} (hd : decode Y.1.2.1 pc = .ok (.iinc 19 n, 3)) (hp : qlg a18 = false) (h : qG Y w (pc + 3) (a0 :: a1 :: a2 :: a3 :: a4 :: a5 :: a6 :: a7 :: a8 :: a9 :: a10 :: a11 :: a12 :: a13 :: a14 :: a15 :: a16 :: a17 :: a18 :: some (qI (z + n)) :: t) st c) : qG Y w pc (a0 :: a1 :: a2 :: a3 :: a4 :: a5 :: a6 :: a7 :: a8 :: a9 :: a10 :: a11 :: a12 :: a13 :: a14 :: a15 :: a16 :: a17 :: a18 :: some (qI z) :: t) st c := g_iinc_g hd rfl (by simp [qs1, hp]) h
theorem g_istore20 {a0 a1 a2 a3 a4 a5 a6 a7 a8 a9 a10 a11 a12 a13 a14 a15 a16 a17 a18 a19 x : Option qV} {z : Int} (hd : decode Y.1.2.1 pc = .ok (.istore 20, 2)) (hp : qlg a19 = false) (h : qG Y w (pc + 2) (a0 :: a1 :: a2 :: a3 :: a4 :: a5 :: a6 :: a7 :: a8 :: a9 :: a10 :: a11 :: a12 :: a13 :: a14 :: a15 :: a16 :: a17 :: a18 :: a19 :: some (qI z) :: t) st c) : qG Y w pc (a0 :: a1 :: a2 :: a3 :: a4 :: a5 :: a6 :: a7 :: a8 :: a9 :: a10 :: a11 :: a12 :: a13 :: a14 :: a15 :: a16 :: a17 :: a18 :: a19 :: x :: t) (qI z :: st) c := g_istore_g hd (by simp only [List.length_cons]; omega) (by simp [qs1, hp]) h
theorem g_astore20 {a0 a1 a2 a3 a4 a5 a6 a7 a8 a9 a10 a11 a12 a13 a14 a15 a16 a17 a18 a19 x : Option qV} {z : Nat} (hd : decode Y.1.2.1 pc = .ok (.astore 20, 2)) (hp : qlg a19 = false) (h : qG Y w (pc + 2) (a0 :: a1 :: a2 :: a3 :: a4 :: a5 :: a6 :: a7 :: a8 :: a9 :: a10 :: a11 :: a12 :: a13 :: a14 :: a15 :: a16 :: a17 :: a18 :: a19 :: some (qP z) :: t) st c) : qG Y w pc (a0 :: a1 :: a2 :: a3 :: a4 :: a5 :: a6 :: a7 :: a8 :: a9 :: a10 :: a11 :: a12 :: a13 :: a14 :: a15 :: a16 :: a17 :: a18 :: a19 :: x :: t) (qP z :: st) c := g_astore_g hd (by simp only [List.length_cons]; omega) (by simp [qs1, hp]) h
theorem g_lstore20 {a0 a1 a2 a3 a4 a5 a6 a7 a8 a9 a10 a11 a12 a13 a14 a15 a16 a17 a18 a19 x : Option qV} {y : Option qV} {z : Int} (hd : decode Y.1.2.1 pc = .ok (.lstore 20, 2)) (hp : qlg a19 = false) (h : qG Y w (pc + 2) (a0 :: a1 :: a2 :: a3 :: a4 :: a5 :: a6 :: a7 :: a8 :: a9 :: a10 :: a11 :: a12 :: a13 :: a14 :: a15 :: a16 :: a17 :: a18 :: a19 :: some (qJ z) :: none :: t) st c) : qG Y w pc (a0 :: a1 :: a2 :: a3 :: a4 :: a5 :: a6 :: a7 :: a8 :: a9 :: a10 :: a11 :: a12 :: a13 :: a14 :: a15 :: a16 :: a17 :: a18 :: a19 :: x :: y :: t) (qJ z :: st) c := g_lstore_g hd (by simp only [List.length_cons]; omega) (by simp [qs2, hp]) h
theorem g_iinc20 {a0 a1 a2 a3 a4 a5 a6 a7 a8 a9 a10 a11 a12 a13 a14 a15 a16 a17 a18 a19 : Option qV} {z n : Int} (hd : decode Y.1.2.1 pc = .ok (.iinc 20 n, 3)) (hp : qlg a19 = false) (h : qG Y w (pc + 3) (a0 :: a1 :: a2 :: a3 :: a4 :: a5 :: a6 :: a7 :: a8 :: a9 :: a10 :: a11 :: a12 :: a13 :: a14 :: a15 :: a16 :: a17 :: a18 :: a19 :: some (qI (z + n)) :: t) st c) : qG Y w pc (a0 :: a1 :: a2 :: a3 :: a4 :: a5 :: a6 :: a7 :: a8 :: a9 :: a10 :: a11 :: a12 :: a13 :: a14 :: a15 :: a16 :: a17 :: a18 :: a19 :: some (qI z) :: t) st c := g_iinc_g hd rfl (by simp [qs1, hp]) h
theorem g_istore21 {a0 a1 a2 a3 a4 a5 a6 a7 a8 a9 a10 a11 a12 a13 a14 a15 a16 a17 a18 a19 a20 x : Option qV} {z : Int} (hd : decode Y.1.2.1 pc = .ok (.istore 21, 2)) (hp : qlg a20 = false) (h : qG Y w (pc + 2) (a0 :: a1 :: a2 :: a3 :: a4 :: a5 :: a6 :: a7 :: a8 :: a9 :: a10 :: a11 :: a12 :: a13 :: a14 :: a15 :: a16 :: a17 :: a18 :: a19 :: a20 :: some (qI z) :: t) st c) : qG Y w pc (a0 :: a1 :: a2 :: a3 :: a4 :: a5 :: a6 :: a7 :: a8 :: a9 :: a10 :: a11 :: a12 :: a13 :: a14 :: a15 :: a16 :: a17 :: a18 :: a19 :: a20 :: x :: t) (qI z :: st) c := g_istore_g hd (by simp only [List.length_cons]; omega) (by simp [qs1, hp]) h
theorem g_astore21 {a0 a1 a2 a3 a4 a5 a6 a7 a8 a9 a10 a11 a12 a13 a14 a15 a16 a17 a18 a19 a20 x : Option qV} {z : Nat} (hd : decode Y.1.2.1 pc = .ok (.astore 21, 2)) (hp : qlg a20 = false) (h : qG Y w (pc + 2) (a0 :: a1 :: a2 :: a3 :: a4 :: a5 :: a6 :: a7 :: a8 :: a9 :: a10 :: a11 :: a12 :: a13 :: a14 :: a15 :: a16 :: a17 :: a18 :: a19 :: a20 :: some (qP z) :: t) st c) : qG Y w pc (a0 :: a1 :: a2 :: a3 :: a4 :: a5 :: a6 :: a7 :: a8 :: a9 :: a10 :: a11 :: a12 :: a13 :: a14 :: a15 :: a16 :: a17 :: a18 :: a19 :: a20 :: x :: t) (qP z :: st) c := g_astore_g hd (by simp only [List.length_cons]; omega) (by simp [qs1, hp]) h
theorem g_lstore21 {a0 a1 a2 a3 a4 a5 a6 a7 a8 a9 a10 a11 a12 a13 a14 a15 a16 a17 a18 a19 a20 x : Option qV} {y : Option qV} {z : Int} (hd : decode Y.1.2.1 pc = .ok (.lstore 21, 2)) (hp : qlg a20 = false) (h : qG Y w (pc + 2) (a0 :: a1 :: a2 :: a3 :: a4 :: a5 :: a6 :: a7 :: a8 :: a9 :: a10 :: a11 :: a12 :: a13 :: a14 :: a15 :: a16 :: a17 :: a18 :: a19 :: a20 :: some (qJ z) :: none :: t) st c) : qG Y w pc (a0 :: a1 :: a2 :: a3 :: a4 :: a5 :: a6 :: a7 :: a8 :: a9 :: a10 :: a11 :: a12 :: a13 :: a14 :: a15 :: a16 :: a17 :: a18 :: a19 :: a20 :: x :: y :: t) (qJ z :: st) c := g_lstore_g hd (by simp only [List.length_cons]; omega) (by simp [qs2, hp]) h
theorem g_iinc21 {a0 a1 a2 a3 a4 a5 a6 a7 a8 a9 a10 a11 a12 a13 a14 a15 a16 a17 a18 a19 a20 : Option qV} {z n : Int} (hd : decode Y.1.2.1 pc = .ok (.iinc 21 n, 3)) (hp : qlg a20 = false) (h : qG Y w (pc + 3) (a0 :: a1 :: a2 :: a3 :: a4 :: a5 :: a6 :: a7 :: a8 :: a9 :: a10 :: a11 :: a12 :: a13 :: a14 :: a15 :: a16 :: a17 :: a18 :: a19 :: a20 :: some (qI (z + n)) :: t) st c) : qG Y w pc (a0 :: a1 :: a2 :: a3 :: a4 :: a5 :: a6 :: a7 :: a8 :: a9 :: a10 :: a11 :: a12 :: a13 :: a14 :: a15 :: a16 :: a17 :: a18 :: a19 :: a20 :: some (qI z) :: t) st c := g_iinc_g hd rfl (by simp [qs1, hp]) h
end QST
section QMATH
variable {Y : qY} {w : qW} {pc : Nat} {lo : List (Option qV)} {st : List qV} {c : qC}
def ab (x : Int) : Int := if x < 0 then 0 - x else x
def mx (x y : Int) : Int := if x < y then y else x
def mn (x y : Int) : Int := if y < x then y else x
def qMw (own : String) (idx : Nat) (y : MethodName) (b : ByteArray) (n : Nat) (ret : Option FieldType) : Prop := Cond.methodLink own idx y ∈ qALL ∧ Cond.static y ∈ qALL ∧ Cond.initialized "java/lang/Math" ∈ qALL ∧ Cond.code y b n ret ∈ qALL
theorem g_mabs {x : Int} {idx : Nat} (hd : decode Y.1.2.1 pc = .ok (.invokestatic idx, 3)) (hw : qMw Y.1.1.cls idx Lib.Math.abs.name Lib.Math.abs.code 1 (some .int)) (h : qG Y w (pc + 3) lo (qI (ab x) :: st) c) (hk : w.2.2.1 ≤ Y.2.1.2.1) (hz : w.2.2.2 ≤ Y.2.1.2.2) (hcs : Nat.ble (qcs st) 8 = true) (hr : 1 ≤ Y.2.1.1) (hx : iR x := by omega) : qG Y w pc lo (qI x :: st) c := by
  intro p l e R s m args below meth cd D cs B H locs ls C hE hH hS hl hn
  have hts := C.2.2.2.2.2.1
  refine va_mabs (x := Int32.ofInt x) C.1 C.2.1 (by rw [C.2.2.2.1, hn]) C.2.2.2.2.1 (hts _ hw.1) (hts _ hw.2.1) (hts _ hw.2.2.1) (hts _ hw.2.2.2) (by have := C.2.2.2.2.2.2.2.2.2.2.2.1; omega) (by have h1 := C.2.2.2.2.2.2.2.2.2.2.2.2.1; have h2 := Nat.le_of_ble_eq_true hcs; rw [q_cs]; omega) (Nat.le_trans hk C.2.2.2.2.2.2.2.2.2.2.2.2.2.1) (Nat.le_trans hz C.2.2.2.2.2.2.2.2.2.2.2.2.2.2) hd ?_
  have e1 : (if 0 ≤ Int32.ofInt x then Int32.ofInt x else 0 - Int32.ofInt x) = Int32.ofInt (ab x) := by
    unfold ab
    by_cases q : x < 0
    · rw [if_pos q, if_neg (by rw [q_i0]; exact fun z => by have := (q_ile q_r0 hx).mp z; omega), Int32.ofInt_sub]; rfl
    · rw [if_neg q, if_pos (by rw [q_i0]; exact (q_ile q_r0 hx).mpr (by omega))]
  rw [e1]
  exact h p l e R s m args below meth cd D cs B H locs ls C hE hH hS hl hn
theorem g_mmax {x y : Int} {idx : Nat} (hd : decode Y.1.2.1 pc = .ok (.invokestatic idx, 3)) (hw : qMw Y.1.1.cls idx Lib.Math.max.name Lib.Math.max.code 2 (some .int)) (h : qG Y w (pc + 3) lo (qI (mx x y) :: st) c) (hk : w.2.2.1 ≤ Y.2.1.2.1) (hz : w.2.2.2 ≤ Y.2.1.2.2) (hcs : Nat.ble (qcs st) 8 = true) (hr : 1 ≤ Y.2.1.1) (hx : iR x := by omega) (hy : iR y := by omega) : qG Y w pc lo (qI y :: qI x :: st) c := by
  intro p l e R s m args below meth cd D cs B H locs ls C hE hH hS hl hn
  have hts := C.2.2.2.2.2.1
  refine va_mmax (x := Int32.ofInt x) (y := Int32.ofInt y) C.1 C.2.1 (by rw [C.2.2.2.1, hn]) C.2.2.2.2.1 (hts _ hw.1) (hts _ hw.2.1) (hts _ hw.2.2.1) (hts _ hw.2.2.2) (by have := C.2.2.2.2.2.2.2.2.2.2.2.1; omega) (by have h1 := C.2.2.2.2.2.2.2.2.2.2.2.2.1; have h2 := Nat.le_of_ble_eq_true hcs; rw [q_cs]; omega) (Nat.le_trans hk C.2.2.2.2.2.2.2.2.2.2.2.2.2.1) (Nat.le_trans hz C.2.2.2.2.2.2.2.2.2.2.2.2.2.2) hd ?_
  have e1 : (if Int32.ofInt x < Int32.ofInt y then Int32.ofInt y else Int32.ofInt x) = Int32.ofInt (mx x y) := by
    unfold mx
    by_cases q : x < y
    · rw [if_pos q, if_pos ((q_ilt hx hy).mpr q)]
    · rw [if_neg q, if_neg (fun z => q ((q_ilt hx hy).mp z))]
  rw [e1]
  exact h p l e R s m args below meth cd D cs B H locs ls C hE hH hS hl hn
theorem g_mmin {x y : Int} {idx : Nat} (hd : decode Y.1.2.1 pc = .ok (.invokestatic idx, 3)) (hw : qMw Y.1.1.cls idx Lib.Math.min.name Lib.Math.min.code 2 (some .int)) (h : qG Y w (pc + 3) lo (qI (mn x y) :: st) c) (hk : w.2.2.1 ≤ Y.2.1.2.1) (hz : w.2.2.2 ≤ Y.2.1.2.2) (hcs : Nat.ble (qcs st) 8 = true) (hr : 1 ≤ Y.2.1.1) (hx : iR x := by omega) (hy : iR y := by omega) : qG Y w pc lo (qI y :: qI x :: st) c := by
  intro p l e R s m args below meth cd D cs B H locs ls C hE hH hS hl hn
  have hts := C.2.2.2.2.2.1
  refine va_mmin (x := Int32.ofInt x) (y := Int32.ofInt y) C.1 C.2.1 (by rw [C.2.2.2.1, hn]) C.2.2.2.2.1 (hts _ hw.1) (hts _ hw.2.1) (hts _ hw.2.2.1) (hts _ hw.2.2.2) (by have := C.2.2.2.2.2.2.2.2.2.2.2.1; omega) (by have h1 := C.2.2.2.2.2.2.2.2.2.2.2.2.1; have h2 := Nat.le_of_ble_eq_true hcs; rw [q_cs]; omega) (Nat.le_trans hk C.2.2.2.2.2.2.2.2.2.2.2.2.2.1) (Nat.le_trans hz C.2.2.2.2.2.2.2.2.2.2.2.2.2.2) hd ?_
  have e1 : (if Int32.ofInt y < Int32.ofInt x then Int32.ofInt y else Int32.ofInt x) = Int32.ofInt (mn x y) := by
    unfold mn
    by_cases q : y < x
    · rw [if_pos q, if_pos ((q_ilt hy hx).mpr q)]
    · rw [if_neg q, if_neg (fun z => q ((q_ilt hy hx).mp z))]
  rw [e1]
  exact h p l e R s m args below meth cd D cs B H locs ls C hE hH hS hl hn
theorem g_mabsJ {x : Int} {idx : Nat} (hd : decode Y.1.2.1 pc = .ok (.invokestatic idx, 3)) (hw : qMw Y.1.1.cls idx Lib.MathLoose.abs_long.x Lib.MathLoose.abs_long.code 2 (some .long)) (h : qG Y w (pc + 3) lo (qJ (ab x) :: st) c) (hk : w.2.2.1 ≤ Y.2.1.2.1) (hz : w.2.2.2 ≤ Y.2.1.2.2) (hcs : Nat.ble (qcs st) 8 = true) (hr : 1 ≤ Y.2.1.1) (hx : lR x := by omega) : qG Y w pc lo (qJ x :: st) c := by
  intro p l e R s m args below meth cd D cs B H locs ls C hE hH hS hl hn
  have hts := C.2.2.2.2.2.1
  refine va_mabs_long (x := Int64.ofInt x) C.1 C.2.1 (by rw [C.2.2.2.1, hn]) C.2.2.2.2.1 (hts _ hw.1) (hts _ hw.2.1) (hts _ hw.2.2.1) (hts _ hw.2.2.2) (by have := C.2.2.2.2.2.2.2.2.2.2.2.1; omega) (by have h1 := C.2.2.2.2.2.2.2.2.2.2.2.2.1; have h2 := Nat.le_of_ble_eq_true hcs; rw [q_cs]; omega) (Nat.le_trans hk C.2.2.2.2.2.2.2.2.2.2.2.2.2.1) (Nat.le_trans hz C.2.2.2.2.2.2.2.2.2.2.2.2.2.2) hd ?_
  have e1 : (if 0 < Int64.ofInt x then Int64.ofInt x else -Int64.ofInt x) = Int64.ofInt (ab x) := by
    unfold ab
    by_cases q : x < 0
    · rw [if_pos q, if_neg (by rw [q_l0]; exact fun z => by have := (q_llt q_lr0 hx).mp z; omega), Int64.ofInt_sub, ← Int64.ofInt_neg, ← Int64.ofInt_sub]; congr 1; omega
    · rw [if_neg q]
      by_cases q2 : 0 < x
      · rw [if_pos (by rw [q_l0]; exact (q_llt q_lr0 hx).mpr q2)]
      · have : x = 0 := by omega
        subst this
        decide
  rw [e1]
  exact h p l e R s m args below meth cd D cs B H locs ls C hE hH hS hl hn
theorem g_mmaxJ {x y : Int} {idx : Nat} (hd : decode Y.1.2.1 pc = .ok (.invokestatic idx, 3)) (hw : qMw Y.1.1.cls idx Lib.MathLoose.max_long.x Lib.MathLoose.max_long.code 4 (some .long)) (h : qG Y w (pc + 3) lo (qJ (mx x y) :: st) c) (hk : w.2.2.1 ≤ Y.2.1.2.1) (hz : w.2.2.2 ≤ Y.2.1.2.2) (hcs : Nat.ble (qcs st) 8 = true) (hr : 1 ≤ Y.2.1.1) (hx : lR x := by omega) (hy : lR y := by omega) : qG Y w pc lo (qJ y :: qJ x :: st) c := by
  intro p l e R s m args below meth cd D cs B H locs ls C hE hH hS hl hn
  have hts := C.2.2.2.2.2.1
  refine va_mmax_long (x := Int64.ofInt x) (y := Int64.ofInt y) C.1 C.2.1 (by rw [C.2.2.2.1, hn]) C.2.2.2.2.1 (hts _ hw.1) (hts _ hw.2.1) (hts _ hw.2.2.1) (hts _ hw.2.2.2) (by have := C.2.2.2.2.2.2.2.2.2.2.2.1; omega) (by have h1 := C.2.2.2.2.2.2.2.2.2.2.2.2.1; have h2 := Nat.le_of_ble_eq_true hcs; rw [q_cs]; omega) (Nat.le_trans hk C.2.2.2.2.2.2.2.2.2.2.2.2.2.1) (Nat.le_trans hz C.2.2.2.2.2.2.2.2.2.2.2.2.2.2) hd ?_
  have e1 : (if Int64.ofInt y < Int64.ofInt x then Int64.ofInt x else Int64.ofInt y) = Int64.ofInt (mx x y) := by
    unfold mx
    by_cases q : x < y
    · rw [if_pos q, if_neg (fun z => by have := (q_llt hy hx).mp z; omega)]
    · rw [if_neg q]
      by_cases q2 : y < x
      · rw [if_pos ((q_llt hy hx).mpr q2)]
      · rw [if_neg (fun z => q2 ((q_llt hy hx).mp z)), show x = y by omega]
  rw [e1]
  exact h p l e R s m args below meth cd D cs B H locs ls C hE hH hS hl hn
theorem g_mminJ {x y : Int} {idx : Nat} (hd : decode Y.1.2.1 pc = .ok (.invokestatic idx, 3)) (hw : qMw Y.1.1.cls idx Lib.MathLoose.min_long.x Lib.MathLoose.min_long.code 4 (some .long)) (h : qG Y w (pc + 3) lo (qJ (mn x y) :: st) c) (hk : w.2.2.1 ≤ Y.2.1.2.1) (hz : w.2.2.2 ≤ Y.2.1.2.2) (hcs : Nat.ble (qcs st) 8 = true) (hr : 1 ≤ Y.2.1.1) (hx : lR x := by omega) (hy : lR y := by omega) : qG Y w pc lo (qJ y :: qJ x :: st) c := by
  intro p l e R s m args below meth cd D cs B H locs ls C hE hH hS hl hn
  have hts := C.2.2.2.2.2.1
  refine va_mmin_long (x := Int64.ofInt x) (y := Int64.ofInt y) C.1 C.2.1 (by rw [C.2.2.2.1, hn]) C.2.2.2.2.1 (hts _ hw.1) (hts _ hw.2.1) (hts _ hw.2.2.1) (hts _ hw.2.2.2) (by have := C.2.2.2.2.2.2.2.2.2.2.2.1; omega) (by have h1 := C.2.2.2.2.2.2.2.2.2.2.2.2.1; have h2 := Nat.le_of_ble_eq_true hcs; rw [q_cs]; omega) (Nat.le_trans hk C.2.2.2.2.2.2.2.2.2.2.2.2.2.1) (Nat.le_trans hz C.2.2.2.2.2.2.2.2.2.2.2.2.2.2) hd ?_
  have e1 : (if Int64.ofInt y < Int64.ofInt x then Int64.ofInt y else Int64.ofInt x) = Int64.ofInt (mn x y) := by
    unfold mn
    by_cases q : y < x
    · rw [if_pos q, if_pos ((q_llt hy hx).mpr q)]
    · rw [if_neg q, if_neg (fun z => q ((q_llt hy hx).mp z))]
  rw [e1]
  exact h p l e R s m args below meth cd D cs B H locs ls C hE hH hS hl hn
end QMATH
end
section
theorem q_mem {w : Cond} (i : Nat) (h : tables_1[i]? = some w) (hg : goodWord w = true) : w ∈ qALL := List.mem_filter.mpr ⟨List.mem_append_right _ (List.mem_of_getElem? h), hg⟩
theorem q_memP {w : Cond} (i : Nat) (h : (k2_sels lw_privs)[i]? = some w) (hg : goodWord w = true) : w ∈ qALL := List.mem_filter.mpr ⟨List.mem_append_left _ (List.mem_of_getElem? h), hg⟩
theorem q_memN {w : Cond} (i : Nat) (h : tables_1[i]? = some w) (hg : qnest w = true) : w ∈ qNZ := List.mem_filter.mpr ⟨List.mem_append_right _ (List.mem_of_getElem? h), hg⟩
abbrev X0_init : qM := (yX0_init, cX0_init, 1, none)
abbrev X0_search : qM := (yX0_search, cX0_search, 5, some .int)
abbrev X0_tryRows : qM := (yX0_tryRows, cX0_tryRows, 6, none)
abbrev X0_lowerLeasts : qM := (yX0_lowerLeasts, cX0_lowerLeasts, 8, none)
abbrev X0_weighTrial : qM := (yX0_weighTrial, cX0_weighTrial, 9, none)
abbrev X0_nearestBest : qM := (yX0_nearestBest, cX0_nearestBest, 6, some .int)
abbrev X1_init : qM := (yX1_init, cX1_init, 1, none)
abbrev X1_spread : qM := (yX1_spread, cX1_spread, 7, some .int)
abbrev X1_rowsWithin : qM := (yX1_rowsWithin, cX1_rowsWithin, 7, some .int)
abbrev X1_spreadFrom : qM := (yX1_spreadFrom, cX1_spreadFrom, 9, none)
abbrev X1_leastGroupWithin : qM := (yX1_leastGroupWithin, cX1_leastGroupWithin, 7, some .int)
abbrev X2_init : qM := (yX2_init, cX2_init, 1, none)
abbrev X2_put : qM := (yX2_put, cX2_put, 7, none)
abbrev X2_add : qM := (yX2_add, cX2_add, 5, none)
abbrev X2_part : qM := (yX2_part, cX2_part, 2, some .long)
abbrev X2_commonDivisor : qM := (yX2_commonDivisor, cX2_commonDivisor, 11, some .long)
abbrev X3_init : qM := (yX3_init, cX3_init, 1, none)
abbrev X3_isEmpty : qM := (yX3_isEmpty, cX3_isEmpty, 1, some .boolean)
abbrev X3_fill : qM := (yX3_fill, cX3_fill, 5, none)
abbrev X3_holdsBoth : qM := (yX3_holdsBoth, cX3_holdsBoth, 3, some .boolean)
abbrev X3_total : qM := (yX3_total, cX3_total, 7, some .long)
abbrev X3_squaresTimesSize : qM := (yX3_squaresTimesSize, cX3_squaresTimesSize, 8, some .long)
abbrev X3_distancesTo : qM := (yX3_distancesTo, cX3_distancesTo, 8, some .long)
abbrev X3_totalOfSquares : qM := (yX3_totalOfSquares, cX3_totalOfSquares, 9, some .long)
abbrev X4_init : qM := (yX4_init, cX4_init, 1, none)
abbrev X4_build : qM := (yX4_build, cX4_build, 5, some .int)
abbrev X4_split : qM := (yX4_split, cX4_split, 5, none)
abbrev X4_numberByLeastRows : qM := (yX4_numberByLeastRows, cX4_numberByLeastRows, 4, none)
abbrev X4_placeRows : qM := (yX4_placeRows, cX4_placeRows, 5, none)
abbrev X4_findNearest : qM := (yX4_findNearest, cX4_findNearest, 13, none)
abbrev X4_gapAbove : qM := (yX4_gapAbove, cX4_gapAbove, 9, some .long)
abbrev X4_gapBelow : qM := (yX4_gapBelow, cX4_gapBelow, 3, some .long)
abbrev X4_merge : qM := (yX4_merge, cX4_merge, 7, none)
abbrev X4_gapToBoth : qM := (yX4_gapToBoth, cX4_gapToBoth, 5, some .long)
abbrev X5_init : qM := (yX5_init, cX5_init, 1, none)
abbrev X5_run : qM := (yX5_run, cX5_run, 4, some .int)
abbrev X5_chooseFirstMeans : qM := (yX5_chooseFirstMeans, cX5_chooseFirstMeans, 4, none)
abbrev X5_putFirstMean : qM := (yX5_putFirstMean, cX5_putFirstMean, 5, none)
abbrev X5_farthestFromChosen : qM := (yX5_farthestFromChosen, cX5_farthestFromChosen, 5, some .int)
abbrev X5_moveRows : qM := (yX5_moveRows, cX5_moveRows, 3, some .boolean)
abbrev X5_nearestMean : qM := (yX5_nearestMean, cX5_nearestMean, 9, some .int)
abbrev X5_takeFarthest : qM := (yX5_takeFarthest, cX5_takeFarthest, 12, none)
abbrev X5_noteMoves : qM := (yX5_noteMoves, cX5_noteMoves, 4, some .boolean)
abbrev X5_remakeMeans : qM := (yX5_remakeMeans, cX5_remakeMeans, 4, none)
abbrev X5_squaresAbove : qM := (yX5_squaresAbove, cX5_squaresAbove, 9, some .long)
abbrev X5_squaresBelow : qM := (yX5_squaresBelow, cX5_squaresBelow, 2, some .long)
abbrev X6_init : qM := (yX6_init, cX6_init, 1, none)
abbrev X6_takes : qM := (yX6_takes, cX6_takes, 3, some .boolean)
abbrev X6_append : qM := (yX6_append, cX6_append, 8, some .int)
abbrev X6_cell : qM := (yX6_cell, cX6_cell, 3, some .int)
abbrev X6_apart : qM := (yX6_apart, cX6_apart, 4, some .int)
abbrev X6_placeOf : qM := (yX6_placeOf, cX6_placeOf, 3, some .int)
abbrev X6_nearerThan : qM := (yX6_nearerThan, cX6_nearerThan, 8, some .int)
abbrev X6_measure : qM := (yX6_measure, cX6_measure, 8, none)
abbrev X6_note : qM := (yX6_note, cX6_note, 5, none)
abbrev X7_init : qM := (yX7_init, cX7_init, 2, none)
abbrev X7_columns : qM := (yX7_columns, cX7_columns, 2, some .int)
abbrev X7_row : qM := (yX7_row, cX7_row, 5, some .int)
abbrev X7_clear : qM := (yX7_clear, cX7_clear, 2, some .int)
abbrev X7_count : qM := (yX7_count, cX7_count, 2, some .int)
abbrev X7_distance : qM := (yX7_distance, cX7_distance, 4, some .int)
abbrev X7_near : qM := (yX7_near, cX7_near, 5, some .int)
abbrev X7_means : qM := (yX7_means, cX7_means, 4, some .int)
abbrev X7_medoids : qM := (yX7_medoids, cX7_medoids, 5, some .int)
abbrev X7_medoid : qM := (yX7_medoid, cX7_medoid, 2, some .int)
abbrev X7_density : qM := (yX7_density, cX7_density, 6, some .int)
abbrev X7_tree : qM := (yX7_tree, cX7_tree, 3, some .int)
abbrev X7_join : qM := (yX7_join, cX7_join, 3, some .long)
abbrev X7_cut : qM := (yX7_cut, cX7_cut, 3, some .int)
abbrev X7_of : qM := (yX7_of, cX7_of, 3, some .int)
abbrev X7_size : qM := (yX7_size, cX7_size, 4, some .int)
abbrev X7_mean : qM := (yX7_mean, cX7_mean, 6, some .int)
abbrev X7_sum : qM := (yX7_sum, cX7_sum, 3, some .long)
abbrev X7_well : qM := (yX7_well, cX7_well, 5, some .long)
abbrev X7_agree : qM := (yX7_agree, cX7_agree, 5, some .int)
abbrev X7_forgetGroupings : qM := (yX7_forgetGroupings, cX7_forgetGroupings, 2, none)
abbrev X7_isRow : qM := (yX7_isRow, cX7_isRow, 2, some .boolean)
abbrev X7_isKind : qM := (yX7_isKind, cX7_isKind, 1, some .boolean)
abbrev X7_isSlot : qM := (yX7_isSlot, cX7_isSlot, 1, some .boolean)
abbrev X7_isSide : qM := (yX7_isSide, cX7_isSide, 1, some .boolean)
abbrev X7_refusalOfGroup : qM := (yX7_refusalOfGroup, cX7_refusalOfGroup, 3, some .int)
abbrev X7_reckonMean : qM := (yX7_reckonMean, cX7_reckonMean, 5, none)
abbrev X7_reckonSum : qM := (yX7_reckonSum, cX7_reckonSum, 3, none)
abbrev X7_reckonWell : qM := (yX7_reckonWell, cX7_reckonWell, 12, none)
abbrev X7_nearestOtherGroup : qM := (yX7_nearestOtherGroup, cX7_nearestOtherGroup, 12, some .int)
abbrev X7_agreementOf : qM := (yX7_agreementOf, cX7_agreementOf, 5, some .int)
abbrev X7_isLess : qM := (yX7_isLess, cX7_isLess, 8, some .boolean)
abbrev X8_init : qM := (yX8_init, cX8_init, 1, none)
abbrev X8_within : qM := (yX8_within, cX8_within, 3, some .boolean)
abbrev X8_isRow : qM := (yX8_isRow, cX8_isRow, 2, some .boolean)
abbrev X8_common : qM := (yX8_common, cX8_common, 10, some .long)
abbrev X8_forget : qM := (yX8_forget, cX8_forget, 1, none)
abbrev X8_columns : qM := (yX8_columns, cX8_columns, 2, some .int)
abbrev X8_row : qM := (yX8_row, cX8_row, 6, some .int)
abbrev X8_clear : qM := (yX8_clear, cX8_clear, 2, some .int)
abbrev X8_count : qM := (yX8_count, cX8_count, 2, some .int)
abbrev X8_apart : qM := (yX8_apart, cX8_apart, 7, some .int)
abbrev X8_lay : qM := (yX8_lay, cX8_lay, 4, none)
abbrev X8_distance : qM := (yX8_distance, cX8_distance, 4, some .int)
abbrev X8_near : qM := (yX8_near, cX8_near, 8, some .int)
abbrev X8_chooseFirst : qM := (yX8_chooseFirst, cX8_chooseFirst, 5, none)
abbrev X8_farthest : qM := (yX8_farthest, cX8_farthest, 7, some .int)
abbrev X8_square : qM := (yX8_square, cX8_square, 8, some .long)
abbrev X8_isNearer : qM := (yX8_isNearer, cX8_isNearer, 9, some .boolean)
abbrev X8_sizeNow : qM := (yX8_sizeNow, cX8_sizeNow, 4, some .int)
abbrev X8_fill : qM := (yX8_fill, cX8_fill, 4, none)
abbrev X8_takeMeans : qM := (yX8_takeMeans, cX8_takeMeans, 5, none)
abbrev X8_means : qM := (yX8_means, cX8_means, 7, some .int)
abbrev X8_nearestOf : qM := (yX8_nearestOf, cX8_nearestOf, 8, some .int)
abbrev X8_sumOf : qM := (yX8_sumOf, cX8_sumOf, 7, some .int)
abbrev X8_medoids : qM := (yX8_medoids, cX8_medoids, 9, some .int)
abbrev X8_medoid : qM := (yX8_medoid, cX8_medoid, 2, some .int)
abbrev X8_density : qM := (yX8_density, cX8_density, 10, some .int)
abbrev X8_spread : qM := (yX8_spread, cX8_spread, 7, none)
abbrev X8_gather : qM := (yX8_gather, cX8_gather, 7, none)
abbrev X8_apartOf : qM := (yX8_apartOf, cX8_apartOf, 8, none)
abbrev X8_tree : qM := (yX8_tree, cX8_tree, 4, some .int)
abbrev X8_joinNext : qM := (yX8_joinNext, cX8_joinNext, 11, none)
abbrev X8_join : qM := (yX8_join, cX8_join, 3, some .long)
abbrev X8_cut : qM := (yX8_cut, cX8_cut, 5, some .int)
abbrev X8_of0 : qM := (yX8_of0, cX8_of0, 3, some .int)
abbrev X8_of : qM := (yX8_of, cX8_of, 3, some .int)
abbrev X8_sizeIn : qM := (yX8_sizeIn, cX8_sizeIn, 5, some .int)
abbrev X8_refused : qM := (yX8_refused, cX8_refused, 3, some .int)
abbrev X8_size : qM := (yX8_size, cX8_size, 4, some .int)
abbrev X8_sumIn : qM := (yX8_sumIn, cX8_sumIn, 7, some .long)
abbrev X8_mean : qM := (yX8_mean, cX8_mean, 12, some .int)
abbrev X8_sum : qM := (yX8_sum, cX8_sum, 20, some .long)
abbrev X8_farFrom : qM := (yX8_farFrom, cX8_farFrom, 8, some .long)
abbrev X8_well : qM := (yX8_well, cX8_well, 20, some .long)
abbrev X8_agree : qM := (yX8_agree, cX8_agree, 8, some .int)
theorem fin0 : ∀ w ∈ u_ws RX0 TX0 6, w ∈ qALL := fun w hw => by
  have h := goodIn_of (big := lw_tbl) (u_ws RX0 TX0 6) (by decide +kernel) w hw
  have h2 := List.all_eq_true.mp (show (u_ws RX0 TX0 6).all goodWord = true by decide +kernel) w hw
  exact List.mem_filter.mpr ⟨h.1, h2⟩
theorem fw0_0 : qFw 0 0 (.array .int) true := ⟨RX0, TX0, 6, tyX0, rfl, tyX0_ok, nmX0, rfl, (by decide +kernel), rfl⟩
theorem fw0_1 : qFw 0 1 (.array .int) true := ⟨RX0, TX0, 6, tyX0, rfl, tyX0_ok, nmX0, rfl, (by decide +kernel), rfl⟩
theorem fw0_2 : qFw 0 2 (.array .int) true := ⟨RX0, TX0, 6, tyX0, rfl, tyX0_ok, nmX0, rfl, (by decide +kernel), rfl⟩
theorem fw0_3 : qFw 0 3 (.array .int) true := ⟨RX0, TX0, 6, tyX0, rfl, tyX0_ok, nmX0, rfl, (by decide +kernel), rfl⟩
theorem fw0_4 : qFw 0 4 (.int) false := ⟨RX0, TX0, 6, tyX0, rfl, tyX0_ok, nmX0, rfl, (by decide +kernel), rfl⟩
theorem fw0_5 : qFw 0 5 (.int) false := ⟨RX0, TX0, 6, tyX0, rfl, tyX0_ok, nmX0, rfl, (by decide +kernel), rfl⟩
theorem fin1 : ∀ w ∈ u_ws RX1 TX1 3, w ∈ qALL := fun w hw => by
  have h := goodIn_of (big := lw_tbl) (u_ws RX1 TX1 3) (by decide +kernel) w hw
  have h2 := List.all_eq_true.mp (show (u_ws RX1 TX1 3).all goodWord = true by decide +kernel) w hw
  exact List.mem_filter.mpr ⟨h.1, h2⟩
theorem fw1_0 : qFw 1 0 (.array .int) true := ⟨RX1, TX1, 3, tyX1, rfl, tyX1_ok, nmX1, rfl, (by decide +kernel), rfl⟩
theorem fw1_1 : qFw 1 1 (.array .boolean) true := ⟨RX1, TX1, 3, tyX1, rfl, tyX1_ok, nmX1, rfl, (by decide +kernel), rfl⟩
theorem fw1_2 : qFw 1 2 (.array .int) true := ⟨RX1, TX1, 3, tyX1, rfl, tyX1_ok, nmX1, rfl, (by decide +kernel), rfl⟩
theorem fin2 : ∀ w ∈ u_ws RX2 TX2 2, w ∈ qALL := fun w hw => by
  have h := goodIn_of (big := lw_tbl) (u_ws RX2 TX2 2) (by decide +kernel) w hw
  have h2 := List.all_eq_true.mp (show (u_ws RX2 TX2 2).all goodWord = true by decide +kernel) w hw
  exact List.mem_filter.mpr ⟨h.1, h2⟩
theorem fw2_0 : qFw 2 0 (.long) false := ⟨RX2, TX2, 2, tyX2, rfl, tyX2_ok, nmX2, rfl, (by decide +kernel), rfl⟩
theorem fw2_1 : qFw 2 1 (.long) false := ⟨RX2, TX2, 2, tyX2, rfl, tyX2_ok, nmX2, rfl, (by decide +kernel), rfl⟩
theorem fin3 : ∀ w ∈ u_ws RX3 TX3 4, w ∈ qALL := fun w hw => by
  have h := goodIn_of (big := lw_tbl) (u_ws RX3 TX3 4) (by decide +kernel) w hw
  have h2 := List.all_eq_true.mp (show (u_ws RX3 TX3 4).all goodWord = true by decide +kernel) w hw
  exact List.mem_filter.mpr ⟨h.1, h2⟩
theorem fw3_0 : qFw 3 0 (.array .int) true := ⟨RX3, TX3, 4, tyX3, rfl, tyX3_ok, nmX3, rfl, (by decide +kernel), rfl⟩
theorem fw3_1 : qFw 3 1 (.array .int) true := ⟨RX3, TX3, 4, tyX3, rfl, tyX3_ok, nmX3, rfl, (by decide +kernel), rfl⟩
theorem fw3_2 : qFw 3 2 (.int) false := ⟨RX3, TX3, 4, tyX3, rfl, tyX3_ok, nmX3, rfl, (by decide +kernel), rfl⟩
theorem fw3_3 : qFw 3 3 (.int) false := ⟨RX3, TX3, 4, tyX3, rfl, tyX3_ok, nmX3, rfl, (by decide +kernel), rfl⟩
theorem fin4 : ∀ w ∈ u_ws RX4 TX4 12, w ∈ qALL := fun w hw => by
  have h := goodIn_of (big := lw_tbl) (u_ws RX4 TX4 12) (by decide +kernel) w hw
  have h2 := List.all_eq_true.mp (show (u_ws RX4 TX4 12).all goodWord = true by decide +kernel) w hw
  exact List.mem_filter.mpr ⟨h.1, h2⟩
theorem fw4_0 : qFw 4 0 (.array .int) true := ⟨RX4, TX4, 12, tyX4, rfl, tyX4_ok, nmX4, rfl, (by decide +kernel), rfl⟩
theorem fw4_1 : qFw 4 1 (.array .int) true := ⟨RX4, TX4, 12, tyX4, rfl, tyX4_ok, nmX4, rfl, (by decide +kernel), rfl⟩
theorem fw4_2 : qFw 4 2 (.array .int) true := ⟨RX4, TX4, 12, tyX4, rfl, tyX4_ok, nmX4, rfl, (by decide +kernel), rfl⟩
theorem fw4_3 : qFw 4 3 (.array .long) true := ⟨RX4, TX4, 12, tyX4, rfl, tyX4_ok, nmX4, rfl, (by decide +kernel), rfl⟩
theorem fw4_4 : qFw 4 4 (.array .long) true := ⟨RX4, TX4, 12, tyX4, rfl, tyX4_ok, nmX4, rfl, (by decide +kernel), rfl⟩
theorem fw4_5 : qFw 4 5 (.array .int) true := ⟨RX4, TX4, 12, tyX4, rfl, tyX4_ok, nmX4, rfl, (by decide +kernel), rfl⟩
theorem fw4_6 : qFw 4 6 (.array .int) true := ⟨RX4, TX4, 12, tyX4, rfl, tyX4_ok, nmX4, rfl, (by decide +kernel), rfl⟩
theorem fw4_7 : qFw 4 7 (.array .long) true := ⟨RX4, TX4, 12, tyX4, rfl, tyX4_ok, nmX4, rfl, (by decide +kernel), rfl⟩
theorem fw4_8 : qFw 4 8 (.array .long) true := ⟨RX4, TX4, 12, tyX4, rfl, tyX4_ok, nmX4, rfl, (by decide +kernel), rfl⟩
theorem fw4_9 : qFw 4 9 (.object "NearGroups$Fraction") true := ⟨RX4, TX4, 12, tyX4, rfl, tyX4_ok, nmX4, rfl, (by decide +kernel), rfl⟩
theorem fw4_10 : qFw 4 10 (.int) false := ⟨RX4, TX4, 12, tyX4, rfl, tyX4_ok, nmX4, rfl, (by decide +kernel), rfl⟩
theorem fw4_11 : qFw 4 11 (.int) false := ⟨RX4, TX4, 12, tyX4, rfl, tyX4_ok, nmX4, rfl, (by decide +kernel), rfl⟩
theorem fin5 : ∀ w ∈ u_ws RX5 TX5 7, w ∈ qALL := fun w hw => by
  have h := goodIn_of (big := lw_tbl) (u_ws RX5 TX5 7) (by decide +kernel) w hw
  have h2 := List.all_eq_true.mp (show (u_ws RX5 TX5 7).all goodWord = true by decide +kernel) w hw
  exact List.mem_filter.mpr ⟨h.1, h2⟩
theorem fw5_0 : qFw 5 0 (.array .int) true := ⟨RX5, TX5, 7, tyX5, rfl, tyX5_ok, nmX5, rfl, (by decide +kernel), rfl⟩
theorem fw5_1 : qFw 5 1 (.array .int) true := ⟨RX5, TX5, 7, tyX5, rfl, tyX5_ok, nmX5, rfl, (by decide +kernel), rfl⟩
theorem fw5_2 : qFw 5 2 (.array .int) true := ⟨RX5, TX5, 7, tyX5, rfl, tyX5_ok, nmX5, rfl, (by decide +kernel), rfl⟩
theorem fw5_3 : qFw 5 3 (.array .int) true := ⟨RX5, TX5, 7, tyX5, rfl, tyX5_ok, nmX5, rfl, (by decide +kernel), rfl⟩
theorem fw5_4 : qFw 5 4 (.array .int) true := ⟨RX5, TX5, 7, tyX5, rfl, tyX5_ok, nmX5, rfl, (by decide +kernel), rfl⟩
theorem fw5_5 : qFw 5 5 (.array .int) true := ⟨RX5, TX5, 7, tyX5, rfl, tyX5_ok, nmX5, rfl, (by decide +kernel), rfl⟩
theorem fw5_6 : qFw 5 6 (.int) false := ⟨RX5, TX5, 7, tyX5, rfl, tyX5_ok, nmX5, rfl, (by decide +kernel), rfl⟩
theorem fin6 : ∀ w ∈ u_ws RX6 TX6 4, w ∈ qALL := fun w hw => by
  have h := goodIn_of (big := lw_tbl) (u_ws RX6 TX6 4) (by decide +kernel) w hw
  have h2 := List.all_eq_true.mp (show (u_ws RX6 TX6 4).all goodWord = true by decide +kernel) w hw
  exact List.mem_filter.mpr ⟨h.1, h2⟩
theorem fw6_0 : qFw 6 0 (.array .int) true := ⟨RX6, TX6, 4, tyX6, rfl, tyX6_ok, nmX6, rfl, (by decide +kernel), rfl⟩
theorem fw6_1 : qFw 6 1 (.array .int) true := ⟨RX6, TX6, 4, tyX6, rfl, tyX6_ok, nmX6, rfl, (by decide +kernel), rfl⟩
theorem fw6_2 : qFw 6 2 (.int) false := ⟨RX6, TX6, 4, tyX6, rfl, tyX6_ok, nmX6, rfl, (by decide +kernel), rfl⟩
theorem fw6_3 : qFw 6 3 (.int) false := ⟨RX6, TX6, 4, tyX6, rfl, tyX6_ok, nmX6, rfl, (by decide +kernel), rfl⟩
theorem fin7 : ∀ w ∈ u_ws RX7 TX7 7, w ∈ qALL := fun w hw => by
  have h := goodIn_of (big := lw_tbl) (u_ws RX7 TX7 7) (by decide +kernel) w hw
  have h2 := List.all_eq_true.mp (show (u_ws RX7 TX7 7).all goodWord = true by decide +kernel) w hw
  exact List.mem_filter.mpr ⟨h.1, h2⟩
theorem fw7_0 : qFw 7 0 (.object "NearGroups$Table") true := ⟨RX7, TX7, 7, tyX7, rfl, tyX7_ok, nmX7, rfl, (by decide +kernel), rfl⟩
theorem fw7_1 : qFw 7 1 (.array (.object "NearGroups$Grouping")) true := ⟨RX7, TX7, 7, tyX7, rfl, tyX7_ok, nmX7, rfl, (by decide +kernel), rfl⟩
theorem fw7_2 : qFw 7 2 (.object "NearGroups$MeanRounds") true := ⟨RX7, TX7, 7, tyX7, rfl, tyX7_ok, nmX7, rfl, (by decide +kernel), rfl⟩
theorem fw7_3 : qFw 7 3 (.object "NearGroups$BestRows") true := ⟨RX7, TX7, 7, tyX7, rfl, tyX7_ok, nmX7, rfl, (by decide +kernel), rfl⟩
theorem fw7_4 : qFw 7 4 (.object "NearGroups$DenseRows") true := ⟨RX7, TX7, 7, tyX7, rfl, tyX7_ok, nmX7, rfl, (by decide +kernel), rfl⟩
theorem fw7_5 : qFw 7 5 (.object "NearGroups$Joins") true := ⟨RX7, TX7, 7, tyX7, rfl, tyX7_ok, nmX7, rfl, (by decide +kernel), rfl⟩
theorem fw7_6 : qFw 7 6 (.object "NearGroups$Fraction") true := ⟨RX7, TX7, 7, tyX7, rfl, tyX7_ok, nmX7, rfl, (by decide +kernel), rfl⟩
theorem fin8 : ∀ w ∈ u_ws RX8 TX8 29, w ∈ qALL := fun w hw => by
  have h := goodIn_of (big := lw_tbl) (u_ws RX8 TX8 29) (by decide +kernel) w hw
  have h2 := List.all_eq_true.mp (show (u_ws RX8 TX8 29).all goodWord = true by decide +kernel) w hw
  exact List.mem_filter.mpr ⟨h.1, h2⟩
theorem fw8_0 : qFw 8 0 (.int) false := ⟨RX8, TX8, 29, tyX8, rfl, tyX8_ok, nmX8, rfl, (by decide +kernel), rfl⟩
theorem fw8_1 : qFw 8 1 (.int) false := ⟨RX8, TX8, 29, tyX8, rfl, tyX8_ok, nmX8, rfl, (by decide +kernel), rfl⟩
theorem fw8_2 : qFw 8 2 (.array .int) true := ⟨RX8, TX8, 29, tyX8, rfl, tyX8_ok, nmX8, rfl, (by decide +kernel), rfl⟩
theorem fw8_3 : qFw 8 3 (.array .boolean) true := ⟨RX8, TX8, 29, tyX8, rfl, tyX8_ok, nmX8, rfl, (by decide +kernel), rfl⟩
theorem fw8_4 : qFw 8 4 (.array .int) true := ⟨RX8, TX8, 29, tyX8, rfl, tyX8_ok, nmX8, rfl, (by decide +kernel), rfl⟩
theorem fw8_5 : qFw 8 5 (.array .int) true := ⟨RX8, TX8, 29, tyX8, rfl, tyX8_ok, nmX8, rfl, (by decide +kernel), rfl⟩
theorem fw8_6 : qFw 8 6 (.int) false := ⟨RX8, TX8, 29, tyX8, rfl, tyX8_ok, nmX8, rfl, (by decide +kernel), rfl⟩
theorem fw8_7 : qFw 8 7 (.array .int) true := ⟨RX8, TX8, 29, tyX8, rfl, tyX8_ok, nmX8, rfl, (by decide +kernel), rfl⟩
theorem fw8_8 : qFw 8 8 (.boolean) false := ⟨RX8, TX8, 29, tyX8, rfl, tyX8_ok, nmX8, rfl, (by decide +kernel), rfl⟩
theorem fw8_9 : qFw 8 9 (.int) false := ⟨RX8, TX8, 29, tyX8, rfl, tyX8_ok, nmX8, rfl, (by decide +kernel), rfl⟩
theorem fw8_10 : qFw 8 10 (.array .int) true := ⟨RX8, TX8, 29, tyX8, rfl, tyX8_ok, nmX8, rfl, (by decide +kernel), rfl⟩
theorem fw8_11 : qFw 8 11 (.array .int) true := ⟨RX8, TX8, 29, tyX8, rfl, tyX8_ok, nmX8, rfl, (by decide +kernel), rfl⟩
theorem fw8_12 : qFw 8 12 (.array .int) true := ⟨RX8, TX8, 29, tyX8, rfl, tyX8_ok, nmX8, rfl, (by decide +kernel), rfl⟩
theorem fw8_13 : qFw 8 13 (.array .long) true := ⟨RX8, TX8, 29, tyX8, rfl, tyX8_ok, nmX8, rfl, (by decide +kernel), rfl⟩
theorem fw8_14 : qFw 8 14 (.array .long) true := ⟨RX8, TX8, 29, tyX8, rfl, tyX8_ok, nmX8, rfl, (by decide +kernel), rfl⟩
theorem fw8_15 : qFw 8 15 (.array .int) true := ⟨RX8, TX8, 29, tyX8, rfl, tyX8_ok, nmX8, rfl, (by decide +kernel), rfl⟩
theorem fw8_16 : qFw 8 16 (.array .long) true := ⟨RX8, TX8, 29, tyX8, rfl, tyX8_ok, nmX8, rfl, (by decide +kernel), rfl⟩
theorem fw8_17 : qFw 8 17 (.array .int) true := ⟨RX8, TX8, 29, tyX8, rfl, tyX8_ok, nmX8, rfl, (by decide +kernel), rfl⟩
theorem fw8_18 : qFw 8 18 (.array .int) true := ⟨RX8, TX8, 29, tyX8, rfl, tyX8_ok, nmX8, rfl, (by decide +kernel), rfl⟩
theorem fw8_19 : qFw 8 19 (.array .boolean) true := ⟨RX8, TX8, 29, tyX8, rfl, tyX8_ok, nmX8, rfl, (by decide +kernel), rfl⟩
theorem fw8_20 : qFw 8 20 (.array .boolean) true := ⟨RX8, TX8, 29, tyX8, rfl, tyX8_ok, nmX8, rfl, (by decide +kernel), rfl⟩
theorem fw8_21 : qFw 8 21 (.array .int) true := ⟨RX8, TX8, 29, tyX8, rfl, tyX8_ok, nmX8, rfl, (by decide +kernel), rfl⟩
theorem fw8_22 : qFw 8 22 (.long) false := ⟨RX8, TX8, 29, tyX8, rfl, tyX8_ok, nmX8, rfl, (by decide +kernel), rfl⟩
theorem fw8_23 : qFw 8 23 (.long) false := ⟨RX8, TX8, 29, tyX8, rfl, tyX8_ok, nmX8, rfl, (by decide +kernel), rfl⟩
theorem fw8_24 : qFw 8 24 (.array .long) true := ⟨RX8, TX8, 29, tyX8, rfl, tyX8_ok, nmX8, rfl, (by decide +kernel), rfl⟩
theorem fw8_25 : qFw 8 25 (.array .long) true := ⟨RX8, TX8, 29, tyX8, rfl, tyX8_ok, nmX8, rfl, (by decide +kernel), rfl⟩
theorem fw8_26 : qFw 8 26 (.array .long) true := ⟨RX8, TX8, 29, tyX8, rfl, tyX8_ok, nmX8, rfl, (by decide +kernel), rfl⟩
theorem fw8_27 : qFw 8 27 (.array .long) true := ⟨RX8, TX8, 29, tyX8, rfl, tyX8_ok, nmX8, rfl, (by decide +kernel), rfl⟩
theorem fw8_28 : qFw 8 28 (.array .long) true := ⟨RX8, TX8, 29, tyX8, rfl, tyX8_ok, nmX8, rfl, (by decide +kernel), rfl⟩
theorem fl7_10 : qFl RX7 10 7 0 := ⟨RX7, TX7, 7, rfl, by decide, fin7, Or.inl (q_mem 215 (by decide +kernel) (by decide +kernel))⟩
theorem fl7_18 : qFl RX7 18 7 1 := ⟨RX7, TX7, 7, rfl, by decide, fin7, Or.inl (q_mem 216 (by decide +kernel) (by decide +kernel))⟩
theorem fl7_26 : qFl RX7 26 7 2 := ⟨RX7, TX7, 7, rfl, by decide, fin7, Or.inl (q_mem 217 (by decide +kernel) (by decide +kernel))⟩
theorem fl7_33 : qFl RX7 33 7 3 := ⟨RX7, TX7, 7, rfl, by decide, fin7, Or.inl (q_mem 218 (by decide +kernel) (by decide +kernel))⟩
theorem fl7_40 : qFl RX7 40 7 4 := ⟨RX7, TX7, 7, rfl, by decide, fin7, Or.inl (q_mem 219 (by decide +kernel) (by decide +kernel))⟩
theorem fl7_47 : qFl RX7 47 7 5 := ⟨RX7, TX7, 7, rfl, by decide, fin7, Or.inl (q_mem 220 (by decide +kernel) (by decide +kernel))⟩
theorem fl7_54 : qFl RX7 54 7 6 := ⟨RX7, TX7, 7, rfl, by decide, fin7, Or.inl (q_mem 221 (by decide +kernel) (by decide +kernel))⟩
theorem fl7_59 : qFl RX7 59 6 3 := ⟨RX6, TX6, 4, rfl, by decide, fin6, Or.inr ⟨"NearGroups", q_memN 36 (by decide +kernel) (by decide +kernel)⟩⟩
theorem fl7_64 : qFl RX7 64 6 2 := ⟨RX6, TX6, 4, rfl, by decide, fin6, Or.inr ⟨"NearGroups", q_memN 29 (by decide +kernel) (by decide +kernel)⟩⟩
theorem fl7_79 : qFl RX7 79 3 3 := ⟨RX3, TX3, 4, rfl, by decide, fin3, Or.inr ⟨"NearGroups", q_memN 62 (by decide +kernel) (by decide +kernel)⟩⟩
theorem fl7_82 : qFl RX7 82 4 11 := ⟨RX4, TX4, 12, rfl, by decide, fin4, Or.inr ⟨"NearGroups", q_memN 187 (by decide +kernel) (by decide +kernel)⟩⟩
theorem fl7_107 : qFl RX7 107 5 0 := ⟨RX5, TX5, 7, rfl, by decide, fin5, Or.inr ⟨"NearGroups", q_memN 79 (by decide +kernel) (by decide +kernel)⟩⟩
theorem fl7_119 : qFl RX7 119 0 0 := ⟨RX0, TX0, 6, rfl, by decide, fin0, Or.inr ⟨"NearGroups", q_memN 108 (by decide +kernel) (by decide +kernel)⟩⟩
theorem fl7_120 : qFl RX7 120 0 4 := ⟨RX0, TX0, 6, rfl, by decide, fin0, Or.inr ⟨"NearGroups", q_memN 114 (by decide +kernel) (by decide +kernel)⟩⟩
theorem fl7_123 : qFl RX7 123 0 1 := ⟨RX0, TX0, 6, rfl, by decide, fin0, Or.inr ⟨"NearGroups", q_memN 110 (by decide +kernel) (by decide +kernel)⟩⟩
theorem fl7_131 : qFl RX7 131 1 0 := ⟨RX1, TX1, 3, rfl, by decide, fin1, Or.inr ⟨"NearGroups", q_memN 136 (by decide +kernel) (by decide +kernel)⟩⟩
theorem fl7_141 : qFl RX7 141 4 0 := ⟨RX4, TX4, 12, rfl, by decide, fin4, Or.inr ⟨"NearGroups", q_memN 170 (by decide +kernel) (by decide +kernel)⟩⟩
theorem fl7_144 : qFl RX7 144 4 1 := ⟨RX4, TX4, 12, rfl, by decide, fin4, Or.inr ⟨"NearGroups", q_memN 172 (by decide +kernel) (by decide +kernel)⟩⟩
theorem fl7_147 : qFl RX7 147 4 2 := ⟨RX4, TX4, 12, rfl, by decide, fin4, Or.inr ⟨"NearGroups", q_memN 174 (by decide +kernel) (by decide +kernel)⟩⟩
theorem fl7_150 : qFl RX7 150 4 3 := ⟨RX4, TX4, 12, rfl, by decide, fin4, Or.inr ⟨"NearGroups", q_memN 176 (by decide +kernel) (by decide +kernel)⟩⟩
theorem fl7_154 : qFl RX7 154 4 4 := ⟨RX4, TX4, 12, rfl, by decide, fin4, Or.inr ⟨"NearGroups", q_memN 178 (by decide +kernel) (by decide +kernel)⟩⟩
theorem fl7_161 : qFl RX7 161 4 5 := ⟨RX4, TX4, 12, rfl, by decide, fin4, Or.inr ⟨"NearGroups", q_memN 180 (by decide +kernel) (by decide +kernel)⟩⟩
theorem fl7_166 : qFl RX7 166 3 0 := ⟨RX3, TX3, 4, rfl, by decide, fin3, Or.inr ⟨"NearGroups", q_memN 57 (by decide +kernel) (by decide +kernel)⟩⟩
theorem fl7_173 : qFl RX7 173 3 1 := ⟨RX3, TX3, 4, rfl, by decide, fin3, Or.inr ⟨"NearGroups", q_memN 59 (by decide +kernel) (by decide +kernel)⟩⟩
theorem fl0_9 : qFl RX0 9 0 0 := ⟨RX0, TX0, 6, rfl, by decide, fin0, Or.inl (q_mem 107 (by decide +kernel) (by decide +kernel))⟩
theorem fl0_15 : qFl RX0 15 0 1 := ⟨RX0, TX0, 6, rfl, by decide, fin0, Or.inl (q_mem 109 (by decide +kernel) (by decide +kernel))⟩
theorem fl0_18 : qFl RX0 18 0 2 := ⟨RX0, TX0, 6, rfl, by decide, fin0, Or.inl (q_mem 111 (by decide +kernel) (by decide +kernel))⟩
theorem fl0_21 : qFl RX0 21 0 3 := ⟨RX0, TX0, 6, rfl, by decide, fin0, Or.inl (q_mem 112 (by decide +kernel) (by decide +kernel))⟩
theorem fl0_24 : qFl RX0 24 0 4 := ⟨RX0, TX0, 6, rfl, by decide, fin0, Or.inl (q_mem 113 (by decide +kernel) (by decide +kernel))⟩
theorem fl0_28 : qFl RX0 28 0 5 := ⟨RX0, TX0, 6, rfl, by decide, fin0, Or.inl (q_mem 115 (by decide +kernel) (by decide +kernel))⟩
theorem fl0_34 : qFl RX0 34 6 3 := ⟨RX6, TX6, 4, rfl, by decide, fin6, Or.inr ⟨"NearGroups", q_memN 37 (by decide +kernel) (by decide +kernel)⟩⟩
theorem fl0_57 : qFl RX0 57 6 1 := ⟨RX6, TX6, 4, rfl, by decide, fin6, Or.inr ⟨"NearGroups", q_memN 27 (by decide +kernel) (by decide +kernel)⟩⟩
theorem fl1_9 : qFl RX1 9 1 0 := ⟨RX1, TX1, 3, rfl, by decide, fin1, Or.inl (q_mem 135 (by decide +kernel) (by decide +kernel))⟩
theorem fl1_15 : qFl RX1 15 1 1 := ⟨RX1, TX1, 3, rfl, by decide, fin1, Or.inl (q_mem 137 (by decide +kernel) (by decide +kernel))⟩
theorem fl1_19 : qFl RX1 19 1 2 := ⟨RX1, TX1, 3, rfl, by decide, fin1, Or.inl (q_mem 138 (by decide +kernel) (by decide +kernel))⟩
theorem fl1_22 : qFl RX1 22 6 3 := ⟨RX6, TX6, 4, rfl, by decide, fin6, Or.inr ⟨"NearGroups", q_memN 34 (by decide +kernel) (by decide +kernel)⟩⟩
theorem fl2_7 : qFl RX2 7 2 0 := ⟨RX2, TX2, 2, rfl, by decide, fin2, Or.inl (q_mem 159 (by decide +kernel) (by decide +kernel))⟩
theorem fl2_13 : qFl RX2 13 2 1 := ⟨RX2, TX2, 2, rfl, by decide, fin2, Or.inl (q_mem 161 (by decide +kernel) (by decide +kernel))⟩
theorem fl3_9 : qFl RX3 9 3 0 := ⟨RX3, TX3, 4, rfl, by decide, fin3, Or.inl (q_mem 56 (by decide +kernel) (by decide +kernel))⟩
theorem fl3_15 : qFl RX3 15 3 1 := ⟨RX3, TX3, 4, rfl, by decide, fin3, Or.inl (q_mem 58 (by decide +kernel) (by decide +kernel))⟩
theorem fl3_18 : qFl RX3 18 3 2 := ⟨RX3, TX3, 4, rfl, by decide, fin3, Or.inl (q_mem 60 (by decide +kernel) (by decide +kernel))⟩
theorem fl3_22 : qFl RX3 22 3 3 := ⟨RX3, TX3, 4, rfl, by decide, fin3, Or.inl (q_mem 61 (by decide +kernel) (by decide +kernel))⟩
theorem fl3_31 : qFl RX3 31 6 2 := ⟨RX6, TX6, 4, rfl, by decide, fin6, Or.inr ⟨"NearGroups", q_memN 32 (by decide +kernel) (by decide +kernel)⟩⟩
theorem fl4_9 : qFl RX4 9 4 0 := ⟨RX4, TX4, 12, rfl, by decide, fin4, Or.inl (q_mem 169 (by decide +kernel) (by decide +kernel))⟩
theorem fl4_15 : qFl RX4 15 4 1 := ⟨RX4, TX4, 12, rfl, by decide, fin4, Or.inl (q_mem 171 (by decide +kernel) (by decide +kernel))⟩
theorem fl4_18 : qFl RX4 18 4 2 := ⟨RX4, TX4, 12, rfl, by decide, fin4, Or.inl (q_mem 173 (by decide +kernel) (by decide +kernel))⟩
theorem fl4_21 : qFl RX4 21 4 3 := ⟨RX4, TX4, 12, rfl, by decide, fin4, Or.inl (q_mem 175 (by decide +kernel) (by decide +kernel))⟩
theorem fl4_25 : qFl RX4 25 4 4 := ⟨RX4, TX4, 12, rfl, by decide, fin4, Or.inl (q_mem 177 (by decide +kernel) (by decide +kernel))⟩
theorem fl4_28 : qFl RX4 28 4 5 := ⟨RX4, TX4, 12, rfl, by decide, fin4, Or.inl (q_mem 179 (by decide +kernel) (by decide +kernel))⟩
theorem fl4_31 : qFl RX4 31 4 6 := ⟨RX4, TX4, 12, rfl, by decide, fin4, Or.inl (q_mem 181 (by decide +kernel) (by decide +kernel))⟩
theorem fl4_34 : qFl RX4 34 4 7 := ⟨RX4, TX4, 12, rfl, by decide, fin4, Or.inl (q_mem 182 (by decide +kernel) (by decide +kernel))⟩
theorem fl4_37 : qFl RX4 37 4 8 := ⟨RX4, TX4, 12, rfl, by decide, fin4, Or.inl (q_mem 183 (by decide +kernel) (by decide +kernel))⟩
theorem fl4_43 : qFl RX4 43 4 9 := ⟨RX4, TX4, 12, rfl, by decide, fin4, Or.inl (q_mem 184 (by decide +kernel) (by decide +kernel))⟩
theorem fl4_47 : qFl RX4 47 4 10 := ⟨RX4, TX4, 12, rfl, by decide, fin4, Or.inl (q_mem 185 (by decide +kernel) (by decide +kernel))⟩
theorem fl4_51 : qFl RX4 51 4 11 := ⟨RX4, TX4, 12, rfl, by decide, fin4, Or.inl (q_mem 186 (by decide +kernel) (by decide +kernel))⟩
theorem fl4_58 : qFl RX4 58 6 3 := ⟨RX6, TX6, 4, rfl, by decide, fin6, Or.inr ⟨"NearGroups", q_memN 38 (by decide +kernel) (by decide +kernel)⟩⟩
theorem fl4_75 : qFl RX4 75 6 2 := ⟨RX6, TX6, 4, rfl, by decide, fin6, Or.inr ⟨"NearGroups", q_memN 31 (by decide +kernel) (by decide +kernel)⟩⟩
theorem fl4_102 : qFl RX4 102 2 0 := ⟨RX2, TX2, 2, rfl, by decide, fin2, Or.inr ⟨"NearGroups", q_memN 160 (by decide +kernel) (by decide +kernel)⟩⟩
theorem fl4_106 : qFl RX4 106 2 1 := ⟨RX2, TX2, 2, rfl, by decide, fin2, Or.inr ⟨"NearGroups", q_memN 162 (by decide +kernel) (by decide +kernel)⟩⟩
theorem fl5_9 : qFl RX5 9 5 0 := ⟨RX5, TX5, 7, rfl, by decide, fin5, Or.inl (q_mem 78 (by decide +kernel) (by decide +kernel))⟩
theorem fl5_15 : qFl RX5 15 5 1 := ⟨RX5, TX5, 7, rfl, by decide, fin5, Or.inl (q_mem 80 (by decide +kernel) (by decide +kernel))⟩
theorem fl5_18 : qFl RX5 18 5 2 := ⟨RX5, TX5, 7, rfl, by decide, fin5, Or.inl (q_mem 81 (by decide +kernel) (by decide +kernel))⟩
theorem fl5_21 : qFl RX5 21 5 3 := ⟨RX5, TX5, 7, rfl, by decide, fin5, Or.inl (q_mem 82 (by decide +kernel) (by decide +kernel))⟩
theorem fl5_24 : qFl RX5 24 5 4 := ⟨RX5, TX5, 7, rfl, by decide, fin5, Or.inl (q_mem 83 (by decide +kernel) (by decide +kernel))⟩
theorem fl5_27 : qFl RX5 27 5 5 := ⟨RX5, TX5, 7, rfl, by decide, fin5, Or.inl (q_mem 84 (by decide +kernel) (by decide +kernel))⟩
theorem fl5_30 : qFl RX5 30 5 6 := ⟨RX5, TX5, 7, rfl, by decide, fin5, Or.inl (q_mem 85 (by decide +kernel) (by decide +kernel))⟩
theorem fl5_38 : qFl RX5 38 6 3 := ⟨RX6, TX6, 4, rfl, by decide, fin6, Or.inr ⟨"NearGroups", q_memN 35 (by decide +kernel) (by decide +kernel)⟩⟩
theorem fl5_61 : qFl RX5 61 6 2 := ⟨RX6, TX6, 4, rfl, by decide, fin6, Or.inr ⟨"NearGroups", q_memN 30 (by decide +kernel) (by decide +kernel)⟩⟩
theorem fl6_9 : qFl RX6 9 6 0 := ⟨RX6, TX6, 4, rfl, by decide, fin6, Or.inl (q_mem 25 (by decide +kernel) (by decide +kernel))⟩
theorem fl6_15 : qFl RX6 15 6 1 := ⟨RX6, TX6, 4, rfl, by decide, fin6, Or.inl (q_mem 26 (by decide +kernel) (by decide +kernel))⟩
theorem fl6_18 : qFl RX6 18 6 2 := ⟨RX6, TX6, 4, rfl, by decide, fin6, Or.inl (q_mem 28 (by decide +kernel) (by decide +kernel))⟩
theorem fl6_22 : qFl RX6 22 6 3 := ⟨RX6, TX6, 4, rfl, by decide, fin6, Or.inl (q_mem 33 (by decide +kernel) (by decide +kernel))⟩
theorem fl8_7 : qFl RX8 7 8 1 := ⟨RX8, TX8, 29, rfl, by decide, fin8, Or.inl (q_mem 601 (by decide +kernel) (by decide +kernel))⟩
theorem fl8_13 : qFl RX8 13 8 2 := ⟨RX8, TX8, 29, rfl, by decide, fin8, Or.inl (q_mem 602 (by decide +kernel) (by decide +kernel))⟩
theorem fl8_17 : qFl RX8 17 8 3 := ⟨RX8, TX8, 29, rfl, by decide, fin8, Or.inl (q_mem 603 (by decide +kernel) (by decide +kernel))⟩
theorem fl8_21 : qFl RX8 21 8 4 := ⟨RX8, TX8, 29, rfl, by decide, fin8, Or.inl (q_mem 604 (by decide +kernel) (by decide +kernel))⟩
theorem fl8_24 : qFl RX8 24 8 5 := ⟨RX8, TX8, 29, rfl, by decide, fin8, Or.inl (q_mem 605 (by decide +kernel) (by decide +kernel))⟩
theorem fl8_27 : qFl RX8 27 8 7 := ⟨RX8, TX8, 29, rfl, by decide, fin8, Or.inl (q_mem 607 (by decide +kernel) (by decide +kernel))⟩
theorem fl8_30 : qFl RX8 30 8 10 := ⟨RX8, TX8, 29, rfl, by decide, fin8, Or.inl (q_mem 610 (by decide +kernel) (by decide +kernel))⟩
theorem fl8_33 : qFl RX8 33 8 11 := ⟨RX8, TX8, 29, rfl, by decide, fin8, Or.inl (q_mem 611 (by decide +kernel) (by decide +kernel))⟩
theorem fl8_36 : qFl RX8 36 8 12 := ⟨RX8, TX8, 29, rfl, by decide, fin8, Or.inl (q_mem 612 (by decide +kernel) (by decide +kernel))⟩
theorem fl8_39 : qFl RX8 39 8 13 := ⟨RX8, TX8, 29, rfl, by decide, fin8, Or.inl (q_mem 613 (by decide +kernel) (by decide +kernel))⟩
theorem fl8_43 : qFl RX8 43 8 14 := ⟨RX8, TX8, 29, rfl, by decide, fin8, Or.inl (q_mem 614 (by decide +kernel) (by decide +kernel))⟩
theorem fl8_46 : qFl RX8 46 8 15 := ⟨RX8, TX8, 29, rfl, by decide, fin8, Or.inl (q_mem 615 (by decide +kernel) (by decide +kernel))⟩
theorem fl8_49 : qFl RX8 49 8 16 := ⟨RX8, TX8, 29, rfl, by decide, fin8, Or.inl (q_mem 616 (by decide +kernel) (by decide +kernel))⟩
theorem fl8_52 : qFl RX8 52 8 17 := ⟨RX8, TX8, 29, rfl, by decide, fin8, Or.inl (q_mem 617 (by decide +kernel) (by decide +kernel))⟩
theorem fl8_55 : qFl RX8 55 8 18 := ⟨RX8, TX8, 29, rfl, by decide, fin8, Or.inl (q_mem 618 (by decide +kernel) (by decide +kernel))⟩
theorem fl8_58 : qFl RX8 58 8 19 := ⟨RX8, TX8, 29, rfl, by decide, fin8, Or.inl (q_mem 619 (by decide +kernel) (by decide +kernel))⟩
theorem fl8_61 : qFl RX8 61 8 20 := ⟨RX8, TX8, 29, rfl, by decide, fin8, Or.inl (q_mem 620 (by decide +kernel) (by decide +kernel))⟩
theorem fl8_64 : qFl RX8 64 8 21 := ⟨RX8, TX8, 29, rfl, by decide, fin8, Or.inl (q_mem 621 (by decide +kernel) (by decide +kernel))⟩
theorem fl8_67 : qFl RX8 67 8 24 := ⟨RX8, TX8, 29, rfl, by decide, fin8, Or.inl (q_mem 624 (by decide +kernel) (by decide +kernel))⟩
theorem fl8_70 : qFl RX8 70 8 25 := ⟨RX8, TX8, 29, rfl, by decide, fin8, Or.inl (q_mem 625 (by decide +kernel) (by decide +kernel))⟩
theorem fl8_73 : qFl RX8 73 8 26 := ⟨RX8, TX8, 29, rfl, by decide, fin8, Or.inl (q_mem 626 (by decide +kernel) (by decide +kernel))⟩
theorem fl8_76 : qFl RX8 76 8 27 := ⟨RX8, TX8, 29, rfl, by decide, fin8, Or.inl (q_mem 627 (by decide +kernel) (by decide +kernel))⟩
theorem fl8_79 : qFl RX8 79 8 28 := ⟨RX8, TX8, 29, rfl, by decide, fin8, Or.inl (q_mem 628 (by decide +kernel) (by decide +kernel))⟩
theorem fl8_82 : qFl RX8 82 8 0 := ⟨RX8, TX8, 29, rfl, by decide, fin8, Or.inl (q_mem 600 (by decide +kernel) (by decide +kernel))⟩
theorem fl8_89 : qFl RX8 89 8 6 := ⟨RX8, TX8, 29, rfl, by decide, fin8, Or.inl (q_mem 606 (by decide +kernel) (by decide +kernel))⟩
theorem fl8_92 : qFl RX8 92 8 8 := ⟨RX8, TX8, 29, rfl, by decide, fin8, Or.inl (q_mem 608 (by decide +kernel) (by decide +kernel))⟩
theorem fl8_102 : qFl RX8 102 8 9 := ⟨RX8, TX8, 29, rfl, by decide, fin8, Or.inl (q_mem 609 (by decide +kernel) (by decide +kernel))⟩
theorem fl8_158 : qFl RX8 158 8 22 := ⟨RX8, TX8, 29, rfl, by decide, fin8, Or.inl (q_mem 622 (by decide +kernel) (by decide +kernel))⟩
theorem fl8_162 : qFl RX8 162 8 23 := ⟨RX8, TX8, 29, rfl, by decide, fin8, Or.inl (q_mem 623 (by decide +kernel) (by decide +kernel))⟩
theorem lk7_9 : qLk RX7 9 0 X6_init := ⟨q_mem 23 (by decide +kernel) (by decide +kernel), q_mem 2 (by decide +kernel) (by decide +kernel), ⟨(by decide +kernel), (by decide +kernel), (by decide +kernel)⟩, by decide, Or.inl (q_mem 21 (by decide +kernel) (by decide +kernel))⟩
theorem lk7_22 : qLk RX7 22 0 X3_init := ⟨q_mem 54 (by decide +kernel) (by decide +kernel), q_mem 3 (by decide +kernel) (by decide +kernel), ⟨(by decide +kernel), (by decide +kernel), (by decide +kernel)⟩, by decide, Or.inl (q_mem 52 (by decide +kernel) (by decide +kernel))⟩
theorem lk7_25 : qLk RX7 25 0 X5_init := ⟨q_mem 76 (by decide +kernel) (by decide +kernel), q_mem 4 (by decide +kernel) (by decide +kernel), ⟨(by decide +kernel), (by decide +kernel), (by decide +kernel)⟩, by decide, Or.inl (q_mem 74 (by decide +kernel) (by decide +kernel))⟩
theorem lk7_32 : qLk RX7 32 0 X0_init := ⟨q_mem 105 (by decide +kernel) (by decide +kernel), q_mem 5 (by decide +kernel) (by decide +kernel), ⟨(by decide +kernel), (by decide +kernel), (by decide +kernel)⟩, by decide, Or.inl (q_mem 103 (by decide +kernel) (by decide +kernel))⟩
theorem lk7_39 : qLk RX7 39 0 X1_init := ⟨q_mem 133 (by decide +kernel) (by decide +kernel), q_mem 6 (by decide +kernel) (by decide +kernel), ⟨(by decide +kernel), (by decide +kernel), (by decide +kernel)⟩, by decide, Or.inl (q_mem 131 (by decide +kernel) (by decide +kernel))⟩
theorem lk7_46 : qLk RX7 46 0 X4_init := ⟨q_mem 151 (by decide +kernel) (by decide +kernel), q_mem 7 (by decide +kernel) (by decide +kernel), ⟨(by decide +kernel), (by decide +kernel), (by decide +kernel)⟩, by decide, Or.inl (q_mem 149 (by decide +kernel) (by decide +kernel))⟩
theorem lk7_53 : qLk RX7 53 0 X2_init := ⟨q_mem 157 (by decide +kernel) (by decide +kernel), q_mem 8 (by decide +kernel) (by decide +kernel), ⟨(by decide +kernel), (by decide +kernel), (by decide +kernel)⟩, by decide, Or.inl (q_mem 214 (by decide +kernel) (by decide +kernel))⟩
theorem lk7_67 : qLk RX7 67 2 X6_takes := ⟨q_mem 250 (by decide +kernel) (by decide +kernel), q_mem 2 (by decide +kernel) (by decide +kernel), ⟨(by decide +kernel), (by decide +kernel), (by decide +kernel)⟩, by decide, Or.inl (q_mem 247 (by decide +kernel) (by decide +kernel))⟩
theorem lk7_72 : qLk RX7 72 0 X7_forgetGroupings := ⟨q_mem 255 (by decide +kernel) (by decide +kernel), q_mem 1 (by decide +kernel) (by decide +kernel), ⟨(by decide +kernel), (by decide +kernel), (by decide +kernel)⟩, by decide, Or.inl (q_mem 252 (by decide +kernel) (by decide +kernel))⟩
theorem lk7_75 : qLk RX7 75 4 X6_append := ⟨q_mem 259 (by decide +kernel) (by decide +kernel), q_mem 2 (by decide +kernel) (by decide +kernel), ⟨(by decide +kernel), (by decide +kernel), (by decide +kernel)⟩, by decide, Or.inl (q_mem 256 (by decide +kernel) (by decide +kernel))⟩
theorem lk7_85 : qLk RX7 85 1 X7_isRow := ⟨q_mem 297 (by decide +kernel) (by decide +kernel), q_mem 1 (by decide +kernel) (by decide +kernel), ⟨(by decide +kernel), (by decide +kernel), (by decide +kernel)⟩, by decide, Or.inl (q_mem 294 (by decide +kernel) (by decide +kernel))⟩
theorem lk7_90 : qLk RX7 90 1 X7_isKind := ⟨q_mem 301 (by decide +kernel) (by decide +kernel), q_mem 1 (by decide +kernel) (by decide +kernel), ⟨(by decide +kernel), (by decide +kernel), (by decide +kernel)⟩, by decide, Or.inl (q_mem 299 (by decide +kernel) (by decide +kernel))⟩
theorem lk7_93 : qLk RX7 93 3 X6_apart := ⟨q_mem 305 (by decide +kernel) (by decide +kernel), q_mem 2 (by decide +kernel) (by decide +kernel), ⟨(by decide +kernel), (by decide +kernel), (by decide +kernel)⟩, by decide, Or.inl (q_mem 302 (by decide +kernel) (by decide +kernel))⟩
theorem lk7_97 : qLk RX7 97 3 X6_nearerThan := ⟨q_mem 313 (by decide +kernel) (by decide +kernel), q_mem 2 (by decide +kernel) (by decide +kernel), ⟨(by decide +kernel), (by decide +kernel), (by decide +kernel)⟩, by decide, Or.inl (q_mem 310 (by decide +kernel) (by decide +kernel))⟩
theorem lk7_100 : qLk RX7 100 1 X7_isSlot := ⟨q_mem 321 (by decide +kernel) (by decide +kernel), q_mem 1 (by decide +kernel) (by decide +kernel), ⟨(by decide +kernel), (by decide +kernel), (by decide +kernel)⟩, by decide, Or.inl (q_mem 319 (by decide +kernel) (by decide +kernel))⟩
theorem lk7_103 : qLk RX7 103 2 X5_run := ⟨q_mem 325 (by decide +kernel) (by decide +kernel), q_mem 4 (by decide +kernel) (by decide +kernel), ⟨(by decide +kernel), (by decide +kernel), (by decide +kernel)⟩, by decide, Or.inl (q_mem 322 (by decide +kernel) (by decide +kernel))⟩
theorem lk7_111 : qLk RX7 111 3 X3_fill := ⟨q_mem 378 (by decide +kernel) (by decide +kernel), q_mem 3 (by decide +kernel) (by decide +kernel), ⟨(by decide +kernel), (by decide +kernel), (by decide +kernel)⟩, by decide, Or.inl (q_mem 375 (by decide +kernel) (by decide +kernel))⟩
theorem lk7_115 : qLk RX7 115 3 X0_search := ⟨q_mem 386 (by decide +kernel) (by decide +kernel), q_mem 5 (by decide +kernel) (by decide +kernel), ⟨(by decide +kernel), (by decide +kernel), (by decide +kernel)⟩, by decide, Or.inl (q_mem 383 (by decide +kernel) (by decide +kernel))⟩
theorem lk7_127 : qLk RX7 127 4 X1_spread := ⟨q_mem 419 (by decide +kernel) (by decide +kernel), q_mem 6 (by decide +kernel) (by decide +kernel), ⟨(by decide +kernel), (by decide +kernel), (by decide +kernel)⟩, by decide, Or.inl (q_mem 416 (by decide +kernel) (by decide +kernel))⟩
theorem lk7_132 : qLk RX7 132 3 X4_build := ⟨q_mem 440 (by decide +kernel) (by decide +kernel), q_mem 7 (by decide +kernel) (by decide +kernel), ⟨(by decide +kernel), (by decide +kernel), (by decide +kernel)⟩, by decide, Or.inl (q_mem 437 (by decide +kernel) (by decide +kernel))⟩
theorem lk7_157 : qLk RX7 157 2 X4_split := ⟨q_mem 498 (by decide +kernel) (by decide +kernel), q_mem 7 (by decide +kernel) (by decide +kernel), ⟨(by decide +kernel), (by decide +kernel), (by decide +kernel)⟩, by decide, Or.inl (q_mem 495 (by decide +kernel) (by decide +kernel))⟩
theorem lk7_162 : qLk RX7 162 0 X3_isEmpty := ⟨q_mem 510 (by decide +kernel) (by decide +kernel), q_mem 3 (by decide +kernel) (by decide +kernel), ⟨(by decide +kernel), (by decide +kernel), (by decide +kernel)⟩, by decide, Or.inl (q_mem 507 (by decide +kernel) (by decide +kernel))⟩
theorem lk7_169 : qLk RX7 169 2 X7_refusalOfGroup := ⟨q_mem 518 (by decide +kernel) (by decide +kernel), q_mem 1 (by decide +kernel) (by decide +kernel), ⟨(by decide +kernel), (by decide +kernel), (by decide +kernel)⟩, by decide, Or.inl (q_mem 515 (by decide +kernel) (by decide +kernel))⟩
theorem lk7_176 : qLk RX7 176 1 X7_isSide := ⟨q_mem 525 (by decide +kernel) (by decide +kernel), q_mem 1 (by decide +kernel) (by decide +kernel), ⟨(by decide +kernel), (by decide +kernel), (by decide +kernel)⟩, by decide, Or.inl (q_mem 523 (by decide +kernel) (by decide +kernel))⟩
theorem lk7_179 : qLk RX7 179 3 X7_reckonMean := ⟨q_mem 529 (by decide +kernel) (by decide +kernel), q_mem 1 (by decide +kernel) (by decide +kernel), ⟨(by decide +kernel), (by decide +kernel), (by decide +kernel)⟩, by decide, Or.inl (q_mem 526 (by decide +kernel) (by decide +kernel))⟩
theorem lk7_183 : qLk RX7 183 1 X2_part := ⟨q_mem 539 (by decide +kernel) (by decide +kernel), q_mem 8 (by decide +kernel) (by decide +kernel), ⟨(by decide +kernel), (by decide +kernel), (by decide +kernel)⟩, by decide, Or.inl (q_mem 536 (by decide +kernel) (by decide +kernel))⟩
theorem lk7_187 : qLk RX7 187 1 X7_reckonSum := ⟨q_mem 547 (by decide +kernel) (by decide +kernel), q_mem 1 (by decide +kernel) (by decide +kernel), ⟨(by decide +kernel), (by decide +kernel), (by decide +kernel)⟩, by decide, Or.inl (q_mem 544 (by decide +kernel) (by decide +kernel))⟩
theorem lk7_193 : qLk RX7 193 3 X7_reckonWell := ⟨q_mem 570 (by decide +kernel) (by decide +kernel), q_mem 1 (by decide +kernel) (by decide +kernel), ⟨(by decide +kernel), (by decide +kernel), (by decide +kernel)⟩, by decide, Or.inl (q_mem 567 (by decide +kernel) (by decide +kernel))⟩
theorem lk7_196 : qLk RX7 196 2 X7_agreementOf := ⟨q_mem 589 (by decide +kernel) (by decide +kernel), q_mem 1 (by decide +kernel) (by decide +kernel), ⟨(by decide +kernel), (by decide +kernel), (by decide +kernel)⟩, by decide, Or.inl (q_mem 586 (by decide +kernel) (by decide +kernel))⟩
theorem lk7_199 : qLk RX7 199 2 X2_put := ⟨q_mem 463 (by decide +kernel) (by decide +kernel), q_mem 8 (by decide +kernel) (by decide +kernel), ⟨(by decide +kernel), (by decide +kernel), (by decide +kernel)⟩, by decide, Or.inl (q_mem 530 (by decide +kernel) (by decide +kernel))⟩
theorem lk7_203 : qLk RX7 203 3 X3_total := ⟨q_mem 534 (by decide +kernel) (by decide +kernel), q_mem 3 (by decide +kernel) (by decide +kernel), ⟨(by decide +kernel), (by decide +kernel), (by decide +kernel)⟩, by decide, Or.inl (q_mem 531 (by decide +kernel) (by decide +kernel))⟩
theorem lk7_207 : qLk RX7 207 2 X3_squaresTimesSize := ⟨q_mem 551 (by decide +kernel) (by decide +kernel), q_mem 3 (by decide +kernel) (by decide +kernel), ⟨(by decide +kernel), (by decide +kernel), (by decide +kernel)⟩, by decide, Or.inl (q_mem 548 (by decide +kernel) (by decide +kernel))⟩
theorem lk7_211 : qLk RX7 211 2 X2_add := ⟨q_mem 560 (by decide +kernel) (by decide +kernel), q_mem 8 (by decide +kernel) (by decide +kernel), ⟨(by decide +kernel), (by decide +kernel), (by decide +kernel)⟩, by decide, Or.inl (q_mem 557 (by decide +kernel) (by decide +kernel))⟩
theorem lk7_214 : qLk RX7 214 3 X7_nearestOtherGroup := ⟨q_mem 574 (by decide +kernel) (by decide +kernel), q_mem 1 (by decide +kernel) (by decide +kernel), ⟨(by decide +kernel), (by decide +kernel), (by decide +kernel)⟩, by decide, Or.inl (q_mem 571 (by decide +kernel) (by decide +kernel))⟩
theorem lk7_218 : qLk RX7 218 4 X3_distancesTo := ⟨q_mem 578 (by decide +kernel) (by decide +kernel), q_mem 3 (by decide +kernel) (by decide +kernel), ⟨(by decide +kernel), (by decide +kernel), (by decide +kernel)⟩, by decide, Or.inl (q_mem 575 (by decide +kernel) (by decide +kernel))⟩
theorem lk7_228 : qLk RX7 228 4 X7_isLess := ⟨q_mem 362 (by decide +kernel) (by decide +kernel), q_mem 1 (by decide +kernel) (by decide +kernel), ⟨(by decide +kernel), (by decide +kernel), (by decide +kernel)⟩, by decide, Or.inl (q_mem 580 (by decide +kernel) (by decide +kernel))⟩
theorem lk7_232 : qLk RX7 232 2 X3_holdsBoth := ⟨q_mem 593 (by decide +kernel) (by decide +kernel), q_mem 3 (by decide +kernel) (by decide +kernel), ⟨(by decide +kernel), (by decide +kernel), (by decide +kernel)⟩, by decide, Or.inl (q_mem 590 (by decide +kernel) (by decide +kernel))⟩
theorem lk0_39 : qLk RX0 39 4 X0_tryRows := ⟨q_mem 391 (by decide +kernel) (by decide +kernel), q_mem 5 (by decide +kernel) (by decide +kernel), ⟨(by decide +kernel), (by decide +kernel), (by decide +kernel)⟩, by decide, Or.inl (q_mem 388 (by decide +kernel) (by decide +kernel))⟩
theorem lk0_43 : qLk RX0 43 3 X0_nearestBest := ⟨q_mem 405 (by decide +kernel) (by decide +kernel), q_mem 5 (by decide +kernel) (by decide +kernel), ⟨(by decide +kernel), (by decide +kernel), (by decide +kernel)⟩, by decide, Or.inl (q_mem 402 (by decide +kernel) (by decide +kernel))⟩
theorem lk0_47 : qLk RX0 47 4 X0_lowerLeasts := ⟨q_mem 395 (by decide +kernel) (by decide +kernel), q_mem 5 (by decide +kernel) (by decide +kernel), ⟨(by decide +kernel), (by decide +kernel), (by decide +kernel)⟩, by decide, Or.inl (q_mem 392 (by decide +kernel) (by decide +kernel))⟩
theorem lk0_50 : qLk RX0 50 4 X0_weighTrial := ⟨q_mem 401 (by decide +kernel) (by decide +kernel), q_mem 5 (by decide +kernel) (by decide +kernel), ⟨(by decide +kernel), (by decide +kernel), (by decide +kernel)⟩, by decide, Or.inl (q_mem 398 (by decide +kernel) (by decide +kernel))⟩
theorem lk0_53 : qLk RX0 53 2 X6_placeOf := ⟨q_mem 281 (by decide +kernel) (by decide +kernel), q_mem 2 (by decide +kernel) (by decide +kernel), ⟨(by decide +kernel), (by decide +kernel), (by decide +kernel)⟩, by decide, Or.inl (q_mem 396 (by decide +kernel) (by decide +kernel))⟩
theorem lk0_65 : qLk RX0 65 3 X6_apart := ⟨q_mem 305 (by decide +kernel) (by decide +kernel), q_mem 2 (by decide +kernel) (by decide +kernel), ⟨(by decide +kernel), (by decide +kernel), (by decide +kernel)⟩, by decide, Or.inl (q_mem 406 (by decide +kernel) (by decide +kernel))⟩
theorem lk1_28 : qLk RX1 28 4 X1_rowsWithin := ⟨q_mem 423 (by decide +kernel) (by decide +kernel), q_mem 6 (by decide +kernel) (by decide +kernel), ⟨(by decide +kernel), (by decide +kernel), (by decide +kernel)⟩, by decide, Or.inl (q_mem 420 (by decide +kernel) (by decide +kernel))⟩
theorem lk1_32 : qLk RX1 32 5 X1_spreadFrom := ⟨q_mem 428 (by decide +kernel) (by decide +kernel), q_mem 6 (by decide +kernel) (by decide +kernel), ⟨(by decide +kernel), (by decide +kernel), (by decide +kernel)⟩, by decide, Or.inl (q_mem 425 (by decide +kernel) (by decide +kernel))⟩
theorem lk1_36 : qLk RX1 36 4 X1_leastGroupWithin := ⟨q_mem 432 (by decide +kernel) (by decide +kernel), q_mem 6 (by decide +kernel) (by decide +kernel), ⟨(by decide +kernel), (by decide +kernel), (by decide +kernel)⟩, by decide, Or.inl (q_mem 429 (by decide +kernel) (by decide +kernel))⟩
theorem lk1_39 : qLk RX1 39 3 X6_apart := ⟨q_mem 305 (by decide +kernel) (by decide +kernel), q_mem 2 (by decide +kernel) (by decide +kernel), ⟨(by decide +kernel), (by decide +kernel), (by decide +kernel)⟩, by decide, Or.inl (q_mem 424 (by decide +kernel) (by decide +kernel))⟩
theorem lk2_22 : qLk RX2 22 2 X2_commonDivisor := ⟨q_mem 469 (by decide +kernel) (by decide +kernel), q_mem 8 (by decide +kernel) (by decide +kernel), ⟨(by decide +kernel), (by decide +kernel), (by decide +kernel)⟩, by decide, Or.inl (q_mem 467 (by decide +kernel) (by decide +kernel))⟩
theorem lk2_26 : qLk RX2 26 2 X2_put := ⟨q_mem 463 (by decide +kernel) (by decide +kernel), q_mem 8 (by decide +kernel) (by decide +kernel), ⟨(by decide +kernel), (by decide +kernel), (by decide +kernel)⟩, by decide, Or.inl (q_mem 561 (by decide +kernel) (by decide +kernel))⟩
theorem lk3_25 : qLk RX3 25 2 X6_cell := ⟨q_mem 267 (by decide +kernel) (by decide +kernel), q_mem 2 (by decide +kernel) (by decide +kernel), ⟨(by decide +kernel), (by decide +kernel), (by decide +kernel)⟩, by decide, Or.inl (q_mem 535 (by decide +kernel) (by decide +kernel))⟩
theorem lk3_34 : qLk RX3 34 3 X3_total := ⟨q_mem 534 (by decide +kernel) (by decide +kernel), q_mem 3 (by decide +kernel) (by decide +kernel), ⟨(by decide +kernel), (by decide +kernel), (by decide +kernel)⟩, by decide, Or.inl (q_mem 552 (by decide +kernel) (by decide +kernel))⟩
theorem lk3_38 : qLk RX3 38 3 X3_totalOfSquares := ⟨q_mem 556 (by decide +kernel) (by decide +kernel), q_mem 3 (by decide +kernel) (by decide +kernel), ⟨(by decide +kernel), (by decide +kernel), (by decide +kernel)⟩, by decide, Or.inl (q_mem 553 (by decide +kernel) (by decide +kernel))⟩
theorem lk3_41 : qLk RX3 41 3 X6_apart := ⟨q_mem 305 (by decide +kernel) (by decide +kernel), q_mem 2 (by decide +kernel) (by decide +kernel), ⟨(by decide +kernel), (by decide +kernel), (by decide +kernel)⟩, by decide, Or.inl (q_mem 579 (by decide +kernel) (by decide +kernel))⟩
theorem lk4_42 : qLk RX4 42 0 X2_init := ⟨q_mem 157 (by decide +kernel) (by decide +kernel), q_mem 8 (by decide +kernel) (by decide +kernel), ⟨(by decide +kernel), (by decide +kernel), (by decide +kernel)⟩, by decide, Or.inl (q_mem 155 (by decide +kernel) (by decide +kernel))⟩
theorem lk4_54 : qLk RX4 54 2 X4_placeRows := ⟨q_mem 444 (by decide +kernel) (by decide +kernel), q_mem 7 (by decide +kernel) (by decide +kernel), ⟨(by decide +kernel), (by decide +kernel), (by decide +kernel)⟩, by decide, Or.inl (q_mem 441 (by decide +kernel) (by decide +kernel))⟩
theorem lk4_63 : qLk RX4 63 1 X4_findNearest := ⟨q_mem 450 (by decide +kernel) (by decide +kernel), q_mem 7 (by decide +kernel) (by decide +kernel), ⟨(by decide +kernel), (by decide +kernel), (by decide +kernel)⟩, by decide, Or.inl (q_mem 447 (by decide +kernel) (by decide +kernel))⟩
theorem lk4_67 : qLk RX4 67 3 X4_merge := ⟨q_mem 473 (by decide +kernel) (by decide +kernel), q_mem 7 (by decide +kernel) (by decide +kernel), ⟨(by decide +kernel), (by decide +kernel), (by decide +kernel)⟩, by decide, Or.inl (q_mem 470 (by decide +kernel) (by decide +kernel))⟩
theorem lk4_71 : qLk RX4 71 1 X4_numberByLeastRows := ⟨q_mem 502 (by decide +kernel) (by decide +kernel), q_mem 7 (by decide +kernel) (by decide +kernel), ⟨(by decide +kernel), (by decide +kernel), (by decide +kernel)⟩, by decide, Or.inl (q_mem 499 (by decide +kernel) (by decide +kernel))⟩
theorem lk4_78 : qLk RX4 78 2 X6_cell := ⟨q_mem 267 (by decide +kernel) (by decide +kernel), q_mem 2 (by decide +kernel) (by decide +kernel), ⟨(by decide +kernel), (by decide +kernel), (by decide +kernel)⟩, by decide, Or.inl (q_mem 445 (by decide +kernel) (by decide +kernel))⟩
theorem lk4_82 : qLk RX4 82 3 X6_apart := ⟨q_mem 305 (by decide +kernel) (by decide +kernel), q_mem 2 (by decide +kernel) (by decide +kernel), ⟨(by decide +kernel), (by decide +kernel), (by decide +kernel)⟩, by decide, Or.inl (q_mem 446 (by decide +kernel) (by decide +kernel))⟩
theorem lk4_86 : qLk RX4 86 3 X4_gapAbove := ⟨q_mem 454 (by decide +kernel) (by decide +kernel), q_mem 7 (by decide +kernel) (by decide +kernel), ⟨(by decide +kernel), (by decide +kernel), (by decide +kernel)⟩, by decide, Or.inl (q_mem 451 (by decide +kernel) (by decide +kernel))⟩
theorem lk4_90 : qLk RX4 90 2 X4_gapBelow := ⟨q_mem 458 (by decide +kernel) (by decide +kernel), q_mem 7 (by decide +kernel) (by decide +kernel), ⟨(by decide +kernel), (by decide +kernel), (by decide +kernel)⟩, by decide, Or.inl (q_mem 455 (by decide +kernel) (by decide +kernel))⟩
theorem lk4_94 : qLk RX4 94 4 X7_isLess := ⟨q_mem 362 (by decide +kernel) (by decide +kernel), q_mem 1 (by decide +kernel) (by decide +kernel), ⟨(by decide +kernel), (by decide +kernel), (by decide +kernel)⟩, by decide, Or.inr ⟨"NearGroups", q_memN 459 (by decide +kernel) (by decide +kernel)⟩⟩
theorem lk4_98 : qLk RX4 98 2 X2_put := ⟨q_mem 463 (by decide +kernel) (by decide +kernel), q_mem 8 (by decide +kernel) (by decide +kernel), ⟨(by decide +kernel), (by decide +kernel), (by decide +kernel)⟩, by decide, Or.inl (q_mem 460 (by decide +kernel) (by decide +kernel))⟩
theorem lk4_109 : qLk RX4 109 2 X4_gapToBoth := ⟨q_mem 477 (by decide +kernel) (by decide +kernel), q_mem 7 (by decide +kernel) (by decide +kernel), ⟨(by decide +kernel), (by decide +kernel), (by decide +kernel)⟩, by decide, Or.inl (q_mem 474 (by decide +kernel) (by decide +kernel))⟩
theorem lk5_34 : qLk RX5 34 1 X5_chooseFirstMeans := ⟨q_mem 329 (by decide +kernel) (by decide +kernel), q_mem 4 (by decide +kernel) (by decide +kernel), ⟨(by decide +kernel), (by decide +kernel), (by decide +kernel)⟩, by decide, Or.inl (q_mem 326 (by decide +kernel) (by decide +kernel))⟩
theorem lk5_43 : qLk RX5 43 1 X5_moveRows := ⟨q_mem 347 (by decide +kernel) (by decide +kernel), q_mem 4 (by decide +kernel) (by decide +kernel), ⟨(by decide +kernel), (by decide +kernel), (by decide +kernel)⟩, by decide, Or.inl (q_mem 344 (by decide +kernel) (by decide +kernel))⟩
theorem lk5_47 : qLk RX5 47 1 X5_remakeMeans := ⟨q_mem 374 (by decide +kernel) (by decide +kernel), q_mem 4 (by decide +kernel) (by decide +kernel), ⟨(by decide +kernel), (by decide +kernel), (by decide +kernel)⟩, by decide, Or.inl (q_mem 371 (by decide +kernel) (by decide +kernel))⟩
theorem lk5_53 : qLk RX5 53 3 X5_putFirstMean := ⟨q_mem 334 (by decide +kernel) (by decide +kernel), q_mem 4 (by decide +kernel) (by decide +kernel), ⟨(by decide +kernel), (by decide +kernel), (by decide +kernel)⟩, by decide, Or.inl (q_mem 331 (by decide +kernel) (by decide +kernel))⟩
theorem lk5_57 : qLk RX5 57 2 X5_farthestFromChosen := ⟨q_mem 339 (by decide +kernel) (by decide +kernel), q_mem 4 (by decide +kernel) (by decide +kernel), ⟨(by decide +kernel), (by decide +kernel), (by decide +kernel)⟩, by decide, Or.inl (q_mem 336 (by decide +kernel) (by decide +kernel))⟩
theorem lk5_64 : qLk RX5 64 2 X6_cell := ⟨q_mem 267 (by decide +kernel) (by decide +kernel), q_mem 2 (by decide +kernel) (by decide +kernel), ⟨(by decide +kernel), (by decide +kernel), (by decide +kernel)⟩, by decide, Or.inl (q_mem 335 (by decide +kernel) (by decide +kernel))⟩
theorem lk5_68 : qLk RX5 68 3 X6_apart := ⟨q_mem 305 (by decide +kernel) (by decide +kernel), q_mem 2 (by decide +kernel) (by decide +kernel), ⟨(by decide +kernel), (by decide +kernel), (by decide +kernel)⟩, by decide, Or.inl (q_mem 340 (by decide +kernel) (by decide +kernel))⟩
theorem lk5_77 : qLk RX5 77 2 X5_nearestMean := ⟨q_mem 351 (by decide +kernel) (by decide +kernel), q_mem 4 (by decide +kernel) (by decide +kernel), ⟨(by decide +kernel), (by decide +kernel), (by decide +kernel)⟩, by decide, Or.inl (q_mem 348 (by decide +kernel) (by decide +kernel))⟩
theorem lk5_80 : qLk RX5 80 2 X5_takeFarthest := ⟨q_mem 366 (by decide +kernel) (by decide +kernel), q_mem 4 (by decide +kernel) (by decide +kernel), ⟨(by decide +kernel), (by decide +kernel), (by decide +kernel)⟩, by decide, Or.inl (q_mem 363 (by decide +kernel) (by decide +kernel))⟩
theorem lk5_84 : qLk RX5 84 1 X5_noteMoves := ⟨q_mem 370 (by decide +kernel) (by decide +kernel), q_mem 4 (by decide +kernel) (by decide +kernel), ⟨(by decide +kernel), (by decide +kernel), (by decide +kernel)⟩, by decide, Or.inl (q_mem 367 (by decide +kernel) (by decide +kernel))⟩
theorem lk5_88 : qLk RX5 88 3 X5_squaresAbove := ⟨q_mem 355 (by decide +kernel) (by decide +kernel), q_mem 4 (by decide +kernel) (by decide +kernel), ⟨(by decide +kernel), (by decide +kernel), (by decide +kernel)⟩, by decide, Or.inl (q_mem 352 (by decide +kernel) (by decide +kernel))⟩
theorem lk5_92 : qLk RX5 92 1 X5_squaresBelow := ⟨q_mem 359 (by decide +kernel) (by decide +kernel), q_mem 4 (by decide +kernel) (by decide +kernel), ⟨(by decide +kernel), (by decide +kernel), (by decide +kernel)⟩, by decide, Or.inl (q_mem 356 (by decide +kernel) (by decide +kernel))⟩
theorem lk5_96 : qLk RX5 96 4 X7_isLess := ⟨q_mem 362 (by decide +kernel) (by decide +kernel), q_mem 1 (by decide +kernel) (by decide +kernel), ⟨(by decide +kernel), (by decide +kernel), (by decide +kernel)⟩, by decide, Or.inr ⟨"NearGroups", q_memN 360 (by decide +kernel) (by decide +kernel)⟩⟩
theorem lk6_25 : qLk RX6 25 2 X6_measure := ⟨q_mem 263 (by decide +kernel) (by decide +kernel), q_mem 2 (by decide +kernel) (by decide +kernel), ⟨(by decide +kernel), (by decide +kernel), (by decide +kernel)⟩, by decide, Or.inl (q_mem 260 (by decide +kernel) (by decide +kernel))⟩
theorem lk6_29 : qLk RX6 29 2 X6_placeOf := ⟨q_mem 281 (by decide +kernel) (by decide +kernel), q_mem 2 (by decide +kernel) (by decide +kernel), ⟨(by decide +kernel), (by decide +kernel), (by decide +kernel)⟩, by decide, Or.inl (q_mem 278 (by decide +kernel) (by decide +kernel))⟩
theorem lk6_33 : qLk RX6 33 3 X6_apart := ⟨q_mem 305 (by decide +kernel) (by decide +kernel), q_mem 2 (by decide +kernel) (by decide +kernel), ⟨(by decide +kernel), (by decide +kernel), (by decide +kernel)⟩, by decide, Or.inl (q_mem 314 (by decide +kernel) (by decide +kernel))⟩
theorem lk6_37 : qLk RX6 37 2 X6_cell := ⟨q_mem 267 (by decide +kernel) (by decide +kernel), q_mem 2 (by decide +kernel) (by decide +kernel), ⟨(by decide +kernel), (by decide +kernel), (by decide +kernel)⟩, by decide, Or.inl (q_mem 264 (by decide +kernel) (by decide +kernel))⟩
theorem lk6_49 : qLk RX6 49 4 X6_note := ⟨q_mem 277 (by decide +kernel) (by decide +kernel), q_mem 2 (by decide +kernel) (by decide +kernel), ⟨(by decide +kernel), (by decide +kernel), (by decide +kernel)⟩, by decide, Or.inl (q_mem 274 (by decide +kernel) (by decide +kernel))⟩
theorem lkL_9 : qLk RL 9 0 X7_init := ⟨q_mem 15 (by decide +kernel) (by decide +kernel), q_mem 1 (by decide +kernel) (by decide +kernel), ⟨(by decide +kernel), (by decide +kernel), (by decide +kernel)⟩, by decide, Or.inl (q_mem 13 (by decide +kernel) (by decide +kernel))⟩
theorem lkL_12 : qLk RL 12 0 X8_init := ⟨q_mem 598 (by decide +kernel) (by decide +kernel), q_mem 9 (by decide +kernel) (by decide +kernel), ⟨(by decide +kernel), (by decide +kernel), (by decide +kernel)⟩, by decide, Or.inl (q_mem 596 (by decide +kernel) (by decide +kernel))⟩
theorem lkL_13 : qLk RL 13 1 X7_columns := ⟨q_mem 240 (by decide +kernel) (by decide +kernel), q_mem 1 (by decide +kernel) (by decide +kernel), ⟨(by decide +kernel), (by decide +kernel), (by decide +kernel)⟩, by decide, Or.inl (q_mem 237 (by decide +kernel) (by decide +kernel))⟩
theorem lkL_17 : qLk RL 17 1 X8_columns := ⟨q_mem 691 (by decide +kernel) (by decide +kernel), q_mem 9 (by decide +kernel) (by decide +kernel), ⟨(by decide +kernel), (by decide +kernel), (by decide +kernel)⟩, by decide, Or.inl (q_mem 688 (by decide +kernel) (by decide +kernel))⟩
theorem lkL_18 : qLk RL 18 4 X7_row := ⟨q_mem 246 (by decide +kernel) (by decide +kernel), q_mem 1 (by decide +kernel) (by decide +kernel), ⟨(by decide +kernel), (by decide +kernel), (by decide +kernel)⟩, by decide, Or.inl (q_mem 243 (by decide +kernel) (by decide +kernel))⟩
theorem lkL_22 : qLk RL 22 4 X8_row := ⟨q_mem 700 (by decide +kernel) (by decide +kernel), q_mem 9 (by decide +kernel) (by decide +kernel), ⟨(by decide +kernel), (by decide +kernel), (by decide +kernel)⟩, by decide, Or.inl (q_mem 697 (by decide +kernel) (by decide +kernel))⟩
theorem lkL_23 : qLk RL 23 0 X7_clear := ⟨q_mem 285 (by decide +kernel) (by decide +kernel), q_mem 1 (by decide +kernel) (by decide +kernel), ⟨(by decide +kernel), (by decide +kernel), (by decide +kernel)⟩, by decide, Or.inl (q_mem 282 (by decide +kernel) (by decide +kernel))⟩
theorem lkL_27 : qLk RL 27 0 X8_clear := ⟨q_mem 709 (by decide +kernel) (by decide +kernel), q_mem 9 (by decide +kernel) (by decide +kernel), ⟨(by decide +kernel), (by decide +kernel), (by decide +kernel)⟩, by decide, Or.inl (q_mem 706 (by decide +kernel) (by decide +kernel))⟩
theorem lkL_28 : qLk RL 28 1 X7_count := ⟨q_mem 289 (by decide +kernel) (by decide +kernel), q_mem 1 (by decide +kernel) (by decide +kernel), ⟨(by decide +kernel), (by decide +kernel), (by decide +kernel)⟩, by decide, Or.inl (q_mem 286 (by decide +kernel) (by decide +kernel))⟩
theorem lkL_31 : qLk RL 31 1 X8_count := ⟨q_mem 713 (by decide +kernel) (by decide +kernel), q_mem 9 (by decide +kernel) (by decide +kernel), ⟨(by decide +kernel), (by decide +kernel), (by decide +kernel)⟩, by decide, Or.inl (q_mem 710 (by decide +kernel) (by decide +kernel))⟩
theorem lkL_32 : qLk RL 32 3 X7_distance := ⟨q_mem 293 (by decide +kernel) (by decide +kernel), q_mem 1 (by decide +kernel) (by decide +kernel), ⟨(by decide +kernel), (by decide +kernel), (by decide +kernel)⟩, by decide, Or.inl (q_mem 290 (by decide +kernel) (by decide +kernel))⟩
theorem lkL_36 : qLk RL 36 3 X8_distance := ⟨q_mem 717 (by decide +kernel) (by decide +kernel), q_mem 9 (by decide +kernel) (by decide +kernel), ⟨(by decide +kernel), (by decide +kernel), (by decide +kernel)⟩, by decide, Or.inl (q_mem 714 (by decide +kernel) (by decide +kernel))⟩
theorem lkL_37 : qLk RL 37 3 X7_near := ⟨q_mem 309 (by decide +kernel) (by decide +kernel), q_mem 1 (by decide +kernel) (by decide +kernel), ⟨(by decide +kernel), (by decide +kernel), (by decide +kernel)⟩, by decide, Or.inl (q_mem 306 (by decide +kernel) (by decide +kernel))⟩
theorem lkL_40 : qLk RL 40 3 X8_near := ⟨q_mem 730 (by decide +kernel) (by decide +kernel), q_mem 9 (by decide +kernel) (by decide +kernel), ⟨(by decide +kernel), (by decide +kernel), (by decide +kernel)⟩, by decide, Or.inl (q_mem 727 (by decide +kernel) (by decide +kernel))⟩
theorem lkL_41 : qLk RL 41 2 X7_means := ⟨q_mem 318 (by decide +kernel) (by decide +kernel), q_mem 1 (by decide +kernel) (by decide +kernel), ⟨(by decide +kernel), (by decide +kernel), (by decide +kernel)⟩, by decide, Or.inl (q_mem 315 (by decide +kernel) (by decide +kernel))⟩
theorem lkL_45 : qLk RL 45 2 X8_means := ⟨q_mem 738 (by decide +kernel) (by decide +kernel), q_mem 9 (by decide +kernel) (by decide +kernel), ⟨(by decide +kernel), (by decide +kernel), (by decide +kernel)⟩, by decide, Or.inl (q_mem 735 (by decide +kernel) (by decide +kernel))⟩
theorem lkL_46 : qLk RL 46 3 X7_medoids := ⟨q_mem 382 (by decide +kernel) (by decide +kernel), q_mem 1 (by decide +kernel) (by decide +kernel), ⟨(by decide +kernel), (by decide +kernel), (by decide +kernel)⟩, by decide, Or.inl (q_mem 379 (by decide +kernel) (by decide +kernel))⟩
theorem lkL_49 : qLk RL 49 3 X8_medoids := ⟨q_mem 770 (by decide +kernel) (by decide +kernel), q_mem 9 (by decide +kernel) (by decide +kernel), ⟨(by decide +kernel), (by decide +kernel), (by decide +kernel)⟩, by decide, Or.inl (q_mem 767 (by decide +kernel) (by decide +kernel))⟩
theorem lkL_50 : qLk RL 50 1 X7_medoid := ⟨q_mem 410 (by decide +kernel) (by decide +kernel), q_mem 1 (by decide +kernel) (by decide +kernel), ⟨(by decide +kernel), (by decide +kernel), (by decide +kernel)⟩, by decide, Or.inl (q_mem 407 (by decide +kernel) (by decide +kernel))⟩
theorem lkL_53 : qLk RL 53 1 X8_medoid := ⟨q_mem 782 (by decide +kernel) (by decide +kernel), q_mem 9 (by decide +kernel) (by decide +kernel), ⟨(by decide +kernel), (by decide +kernel), (by decide +kernel)⟩, by decide, Or.inl (q_mem 779 (by decide +kernel) (by decide +kernel))⟩
theorem lkL_54 : qLk RL 54 4 X7_density := ⟨q_mem 414 (by decide +kernel) (by decide +kernel), q_mem 1 (by decide +kernel) (by decide +kernel), ⟨(by decide +kernel), (by decide +kernel), (by decide +kernel)⟩, by decide, Or.inl (q_mem 411 (by decide +kernel) (by decide +kernel))⟩
theorem lkL_57 : qLk RL 57 4 X8_density := ⟨q_mem 786 (by decide +kernel) (by decide +kernel), q_mem 9 (by decide +kernel) (by decide +kernel), ⟨(by decide +kernel), (by decide +kernel), (by decide +kernel)⟩, by decide, Or.inl (q_mem 783 (by decide +kernel) (by decide +kernel))⟩
theorem lkL_58 : qLk RL 58 2 X7_tree := ⟨q_mem 436 (by decide +kernel) (by decide +kernel), q_mem 1 (by decide +kernel) (by decide +kernel), ⟨(by decide +kernel), (by decide +kernel), (by decide +kernel)⟩, by decide, Or.inl (q_mem 433 (by decide +kernel) (by decide +kernel))⟩
theorem lkL_61 : qLk RL 61 2 X8_tree := ⟨q_mem 795 (by decide +kernel) (by decide +kernel), q_mem 9 (by decide +kernel) (by decide +kernel), ⟨(by decide +kernel), (by decide +kernel), (by decide +kernel)⟩, by decide, Or.inl (q_mem 792 (by decide +kernel) (by decide +kernel))⟩
theorem lkL_62 : qLk RL 62 2 X7_join := ⟨q_mem 487 (by decide +kernel) (by decide +kernel), q_mem 1 (by decide +kernel) (by decide +kernel), ⟨(by decide +kernel), (by decide +kernel), (by decide +kernel)⟩, by decide, Or.inl (q_mem 484 (by decide +kernel) (by decide +kernel))⟩
theorem lkL_66 : qLk RL 66 2 X8_join := ⟨q_mem 815 (by decide +kernel) (by decide +kernel), q_mem 9 (by decide +kernel) (by decide +kernel), ⟨(by decide +kernel), (by decide +kernel), (by decide +kernel)⟩, by decide, Or.inl (q_mem 812 (by decide +kernel) (by decide +kernel))⟩
theorem lkL_67 : qLk RL 67 2 X7_cut := ⟨q_mem 494 (by decide +kernel) (by decide +kernel), q_mem 1 (by decide +kernel) (by decide +kernel), ⟨(by decide +kernel), (by decide +kernel), (by decide +kernel)⟩, by decide, Or.inl (q_mem 491 (by decide +kernel) (by decide +kernel))⟩
theorem lkL_70 : qLk RL 70 2 X8_cut := ⟨q_mem 821 (by decide +kernel) (by decide +kernel), q_mem 9 (by decide +kernel) (by decide +kernel), ⟨(by decide +kernel), (by decide +kernel), (by decide +kernel)⟩, by decide, Or.inl (q_mem 818 (by decide +kernel) (by decide +kernel))⟩
theorem lkL_71 : qLk RL 71 2 X7_of := ⟨q_mem 506 (by decide +kernel) (by decide +kernel), q_mem 1 (by decide +kernel) (by decide +kernel), ⟨(by decide +kernel), (by decide +kernel), (by decide +kernel)⟩, by decide, Or.inl (q_mem 503 (by decide +kernel) (by decide +kernel))⟩
theorem lkL_74 : qLk RL 74 2 X8_of := ⟨q_mem 825 (by decide +kernel) (by decide +kernel), q_mem 9 (by decide +kernel) (by decide +kernel), ⟨(by decide +kernel), (by decide +kernel), (by decide +kernel)⟩, by decide, Or.inl (q_mem 822 (by decide +kernel) (by decide +kernel))⟩
theorem lkL_75 : qLk RL 75 2 X7_size := ⟨q_mem 514 (by decide +kernel) (by decide +kernel), q_mem 1 (by decide +kernel) (by decide +kernel), ⟨(by decide +kernel), (by decide +kernel), (by decide +kernel)⟩, by decide, Or.inl (q_mem 511 (by decide +kernel) (by decide +kernel))⟩
theorem lkL_78 : qLk RL 78 2 X8_size := ⟨q_mem 833 (by decide +kernel) (by decide +kernel), q_mem 9 (by decide +kernel) (by decide +kernel), ⟨(by decide +kernel), (by decide +kernel), (by decide +kernel)⟩, by decide, Or.inl (q_mem 830 (by decide +kernel) (by decide +kernel))⟩
theorem lkL_79 : qLk RL 79 4 X7_mean := ⟨q_mem 522 (by decide +kernel) (by decide +kernel), q_mem 1 (by decide +kernel) (by decide +kernel), ⟨(by decide +kernel), (by decide +kernel), (by decide +kernel)⟩, by decide, Or.inl (q_mem 519 (by decide +kernel) (by decide +kernel))⟩
theorem lkL_82 : qLk RL 82 4 X8_mean := ⟨q_mem 845 (by decide +kernel) (by decide +kernel), q_mem 9 (by decide +kernel) (by decide +kernel), ⟨(by decide +kernel), (by decide +kernel), (by decide +kernel)⟩, by decide, Or.inl (q_mem 842 (by decide +kernel) (by decide +kernel))⟩
theorem lkL_83 : qLk RL 83 2 X7_sum := ⟨q_mem 543 (by decide +kernel) (by decide +kernel), q_mem 1 (by decide +kernel) (by decide +kernel), ⟨(by decide +kernel), (by decide +kernel), (by decide +kernel)⟩, by decide, Or.inl (q_mem 540 (by decide +kernel) (by decide +kernel))⟩
theorem lkL_86 : qLk RL 86 2 X8_sum := ⟨q_mem 853 (by decide +kernel) (by decide +kernel), q_mem 9 (by decide +kernel) (by decide +kernel), ⟨(by decide +kernel), (by decide +kernel), (by decide +kernel)⟩, by decide, Or.inl (q_mem 850 (by decide +kernel) (by decide +kernel))⟩
theorem lkL_87 : qLk RL 87 4 X7_well := ⟨q_mem 565 (by decide +kernel) (by decide +kernel), q_mem 1 (by decide +kernel) (by decide +kernel), ⟨(by decide +kernel), (by decide +kernel), (by decide +kernel)⟩, by decide, Or.inl (q_mem 562 (by decide +kernel) (by decide +kernel))⟩
theorem lkL_91 : qLk RL 91 4 X8_well := ⟨q_mem 857 (by decide +kernel) (by decide +kernel), q_mem 9 (by decide +kernel) (by decide +kernel), ⟨(by decide +kernel), (by decide +kernel), (by decide +kernel)⟩, by decide, Or.inl (q_mem 854 (by decide +kernel) (by decide +kernel))⟩
theorem lkL_92 : qLk RL 92 1 X7_agree := ⟨q_mem 585 (by decide +kernel) (by decide +kernel), q_mem 1 (by decide +kernel) (by decide +kernel), ⟨(by decide +kernel), (by decide +kernel), (by decide +kernel)⟩, by decide, Or.inl (q_mem 582 (by decide +kernel) (by decide +kernel))⟩
theorem lkL_95 : qLk RL 95 1 X8_agree := ⟨q_mem 866 (by decide +kernel) (by decide +kernel), q_mem 9 (by decide +kernel) (by decide +kernel), ⟨(by decide +kernel), (by decide +kernel), (by decide +kernel)⟩, by decide, Or.inl (q_mem 863 (by decide +kernel) (by decide +kernel))⟩
theorem lk8_85 : qLk RX8 85 3 X8_within := ⟨q_mem 694 (by decide +kernel) (by decide +kernel), q_mem 9 (by decide +kernel) (by decide +kernel), ⟨(by decide +kernel), (by decide +kernel), (by decide +kernel)⟩, by decide, Or.inl (q_mem 692 (by decide +kernel) (by decide +kernel))⟩
theorem lk8_99 : qLk RX8 99 0 X8_forget := ⟨q_mem 705 (by decide +kernel) (by decide +kernel), q_mem 9 (by decide +kernel) (by decide +kernel), ⟨(by decide +kernel), (by decide +kernel), (by decide +kernel)⟩, by decide, Or.inl (q_mem 702 (by decide +kernel) (by decide +kernel))⟩
theorem lk8_105 : qLk RX8 105 3 X8_apart := ⟨q_mem 726 (by decide +kernel) (by decide +kernel), q_mem 9 (by decide +kernel) (by decide +kernel), ⟨(by decide +kernel), (by decide +kernel), (by decide +kernel)⟩, by decide, Or.inl (q_mem 723 (by decide +kernel) (by decide +kernel))⟩
theorem lk8_109 : qLk RX8 109 1 X8_isRow := ⟨q_mem 721 (by decide +kernel) (by decide +kernel), q_mem 9 (by decide +kernel) (by decide +kernel), ⟨(by decide +kernel), (by decide +kernel), (by decide +kernel)⟩, by decide, Or.inl (q_mem 718 (by decide +kernel) (by decide +kernel))⟩
theorem lk8_114 : qLk RX8 114 1 X8_lay := ⟨q_mem 734 (by decide +kernel) (by decide +kernel), q_mem 9 (by decide +kernel) (by decide +kernel), ⟨(by decide +kernel), (by decide +kernel), (by decide +kernel)⟩, by decide, Or.inl (q_mem 731 (by decide +kernel) (by decide +kernel))⟩
theorem lk8_118 : qLk RX8 118 0 X8_farthest := ⟨q_mem 746 (by decide +kernel) (by decide +kernel), q_mem 9 (by decide +kernel) (by decide +kernel), ⟨(by decide +kernel), (by decide +kernel), (by decide +kernel)⟩, by decide, Or.inl (q_mem 743 (by decide +kernel) (by decide +kernel))⟩
theorem lk8_122 : qLk RX8 122 2 X8_square := ⟨q_mem 754 (by decide +kernel) (by decide +kernel), q_mem 9 (by decide +kernel) (by decide +kernel), ⟨(by decide +kernel), (by decide +kernel), (by decide +kernel)⟩, by decide, Or.inl (q_mem 751 (by decide +kernel) (by decide +kernel))⟩
theorem lk8_126 : qLk RX8 126 1 X8_sizeNow := ⟨q_mem 762 (by decide +kernel) (by decide +kernel), q_mem 9 (by decide +kernel) (by decide +kernel), ⟨(by decide +kernel), (by decide +kernel), (by decide +kernel)⟩, by decide, Or.inl (q_mem 759 (by decide +kernel) (by decide +kernel))⟩
theorem lk8_130 : qLk RX8 130 4 X8_isNearer := ⟨q_mem 750 (by decide +kernel) (by decide +kernel), q_mem 9 (by decide +kernel) (by decide +kernel), ⟨(by decide +kernel), (by decide +kernel), (by decide +kernel)⟩, by decide, Or.inl (q_mem 747 (by decide +kernel) (by decide +kernel))⟩
theorem lk8_134 : qLk RX8 134 1 X8_chooseFirst := ⟨q_mem 742 (by decide +kernel) (by decide +kernel), q_mem 9 (by decide +kernel) (by decide +kernel), ⟨(by decide +kernel), (by decide +kernel), (by decide +kernel)⟩, by decide, Or.inl (q_mem 739 (by decide +kernel) (by decide +kernel))⟩
theorem lk8_137 : qLk RX8 137 1 X8_fill := ⟨q_mem 758 (by decide +kernel) (by decide +kernel), q_mem 9 (by decide +kernel) (by decide +kernel), ⟨(by decide +kernel), (by decide +kernel), (by decide +kernel)⟩, by decide, Or.inl (q_mem 755 (by decide +kernel) (by decide +kernel))⟩
theorem lk8_140 : qLk RX8 140 1 X8_takeMeans := ⟨q_mem 766 (by decide +kernel) (by decide +kernel), q_mem 9 (by decide +kernel) (by decide +kernel), ⟨(by decide +kernel), (by decide +kernel), (by decide +kernel)⟩, by decide, Or.inl (q_mem 763 (by decide +kernel) (by decide +kernel))⟩
theorem lk8_143 : qLk RX8 143 5 X8_nearestOf := ⟨q_mem 778 (by decide +kernel) (by decide +kernel), q_mem 9 (by decide +kernel) (by decide +kernel), ⟨(by decide +kernel), (by decide +kernel), (by decide +kernel)⟩, by decide, Or.inl (q_mem 775 (by decide +kernel) (by decide +kernel))⟩
theorem lk8_147 : qLk RX8 147 4 X8_sumOf := ⟨q_mem 774 (by decide +kernel) (by decide +kernel), q_mem 9 (by decide +kernel) (by decide +kernel), ⟨(by decide +kernel), (by decide +kernel), (by decide +kernel)⟩, by decide, Or.inl (q_mem 771 (by decide +kernel) (by decide +kernel))⟩
theorem lk8_152 : qLk RX8 152 3 X8_spread := ⟨q_mem 791 (by decide +kernel) (by decide +kernel), q_mem 9 (by decide +kernel) (by decide +kernel), ⟨(by decide +kernel), (by decide +kernel), (by decide +kernel)⟩, by decide, Or.inl (q_mem 788 (by decide +kernel) (by decide +kernel))⟩
theorem lk8_165 : qLk RX8 165 1 X8_joinNext := ⟨q_mem 799 (by decide +kernel) (by decide +kernel), q_mem 9 (by decide +kernel) (by decide +kernel), ⟨(by decide +kernel), (by decide +kernel), (by decide +kernel)⟩, by decide, Or.inl (q_mem 796 (by decide +kernel) (by decide +kernel))⟩
theorem lk8_168 : qLk RX8 168 0 X8_gather := ⟨q_mem 803 (by decide +kernel) (by decide +kernel), q_mem 9 (by decide +kernel) (by decide +kernel), ⟨(by decide +kernel), (by decide +kernel), (by decide +kernel)⟩, by decide, Or.inl (q_mem 800 (by decide +kernel) (by decide +kernel))⟩
theorem lk8_171 : qLk RX8 171 3 X8_apartOf := ⟨q_mem 808 (by decide +kernel) (by decide +kernel), q_mem 9 (by decide +kernel) (by decide +kernel), ⟨(by decide +kernel), (by decide +kernel), (by decide +kernel)⟩, by decide, Or.inl (q_mem 805 (by decide +kernel) (by decide +kernel))⟩
theorem lk8_174 : qLk RX8 174 2 X8_common := ⟨q_mem 811 (by decide +kernel) (by decide +kernel), q_mem 9 (by decide +kernel) (by decide +kernel), ⟨(by decide +kernel), (by decide +kernel), (by decide +kernel)⟩, by decide, Or.inl (q_mem 809 (by decide +kernel) (by decide +kernel))⟩
theorem lk8_182 : qLk RX8 182 2 X8_of0 := ⟨q_mem 829 (by decide +kernel) (by decide +kernel), q_mem 9 (by decide +kernel) (by decide +kernel), ⟨(by decide +kernel), (by decide +kernel), (by decide +kernel)⟩, by decide, Or.inl (q_mem 826 (by decide +kernel) (by decide +kernel))⟩
theorem lk8_186 : qLk RX8 186 2 X8_refused := ⟨q_mem 837 (by decide +kernel) (by decide +kernel), q_mem 9 (by decide +kernel) (by decide +kernel), ⟨(by decide +kernel), (by decide +kernel), (by decide +kernel)⟩, by decide, Or.inl (q_mem 834 (by decide +kernel) (by decide +kernel))⟩
theorem lk8_189 : qLk RX8 189 2 X8_sizeIn := ⟨q_mem 841 (by decide +kernel) (by decide +kernel), q_mem 9 (by decide +kernel) (by decide +kernel), ⟨(by decide +kernel), (by decide +kernel), (by decide +kernel)⟩, by decide, Or.inl (q_mem 838 (by decide +kernel) (by decide +kernel))⟩
theorem lk8_192 : qLk RX8 192 3 X8_sumIn := ⟨q_mem 849 (by decide +kernel) (by decide +kernel), q_mem 9 (by decide +kernel) (by decide +kernel), ⟨(by decide +kernel), (by decide +kernel), (by decide +kernel)⟩, by decide, Or.inl (q_mem 846 (by decide +kernel) (by decide +kernel))⟩
theorem lk8_198 : qLk RX8 198 4 X8_farFrom := ⟨q_mem 862 (by decide +kernel) (by decide +kernel), q_mem 9 (by decide +kernel) (by decide +kernel), ⟨(by decide +kernel), (by decide +kernel), (by decide +kernel)⟩, by decide, Or.inl (q_mem 859 (by decide +kernel) (by decide +kernel))⟩
theorem ii_X0_init : Cond.instanceMethod X0_init.1 ∈ qALL := q_mem 104 (by decide +kernel) (by decide +kernel)
theorem im_X0_search : qIm X0_search := ⟨q_mem 384 (by decide +kernel) (by decide +kernel), q_mem 385 (by decide +kernel) (by decide +kernel)⟩
theorem im_X0_tryRows : qIm X0_tryRows := ⟨q_mem 390 (by decide +kernel) (by decide +kernel), q_memP 14 (by decide +kernel) (by decide +kernel)⟩
theorem im_X0_lowerLeasts : qIm X0_lowerLeasts := ⟨q_mem 394 (by decide +kernel) (by decide +kernel), q_memP 15 (by decide +kernel) (by decide +kernel)⟩
theorem im_X0_weighTrial : qIm X0_weighTrial := ⟨q_mem 400 (by decide +kernel) (by decide +kernel), q_memP 16 (by decide +kernel) (by decide +kernel)⟩
theorem im_X0_nearestBest : qIm X0_nearestBest := ⟨q_mem 404 (by decide +kernel) (by decide +kernel), q_memP 17 (by decide +kernel) (by decide +kernel)⟩
theorem ii_X1_init : Cond.instanceMethod X1_init.1 ∈ qALL := q_mem 132 (by decide +kernel) (by decide +kernel)
theorem im_X1_spread : qIm X1_spread := ⟨q_mem 417 (by decide +kernel) (by decide +kernel), q_mem 418 (by decide +kernel) (by decide +kernel)⟩
theorem im_X1_rowsWithin : qIm X1_rowsWithin := ⟨q_mem 422 (by decide +kernel) (by decide +kernel), q_memP 18 (by decide +kernel) (by decide +kernel)⟩
theorem im_X1_spreadFrom : qIm X1_spreadFrom := ⟨q_mem 427 (by decide +kernel) (by decide +kernel), q_memP 19 (by decide +kernel) (by decide +kernel)⟩
theorem im_X1_leastGroupWithin : qIm X1_leastGroupWithin := ⟨q_mem 431 (by decide +kernel) (by decide +kernel), q_memP 20 (by decide +kernel) (by decide +kernel)⟩
theorem ii_X2_init : Cond.instanceMethod X2_init.1 ∈ qALL := q_mem 156 (by decide +kernel) (by decide +kernel)
theorem im_X2_put : qIm X2_put := ⟨q_mem 461 (by decide +kernel) (by decide +kernel), q_mem 462 (by decide +kernel) (by decide +kernel)⟩
theorem im_X2_add : qIm X2_add := ⟨q_mem 558 (by decide +kernel) (by decide +kernel), q_mem 559 (by decide +kernel) (by decide +kernel)⟩
theorem im_X2_part : qIm X2_part := ⟨q_mem 537 (by decide +kernel) (by decide +kernel), q_mem 538 (by decide +kernel) (by decide +kernel)⟩
theorem sm_X2_commonDivisor : Cond.static X2_commonDivisor.1 ∈ qALL := q_mem 468 (by decide +kernel) (by decide +kernel)
theorem ii_X3_init : Cond.instanceMethod X3_init.1 ∈ qALL := q_mem 53 (by decide +kernel) (by decide +kernel)
theorem im_X3_isEmpty : qIm X3_isEmpty := ⟨q_mem 508 (by decide +kernel) (by decide +kernel), q_mem 509 (by decide +kernel) (by decide +kernel)⟩
theorem im_X3_fill : qIm X3_fill := ⟨q_mem 376 (by decide +kernel) (by decide +kernel), q_mem 377 (by decide +kernel) (by decide +kernel)⟩
theorem im_X3_holdsBoth : qIm X3_holdsBoth := ⟨q_mem 591 (by decide +kernel) (by decide +kernel), q_mem 592 (by decide +kernel) (by decide +kernel)⟩
theorem im_X3_total : qIm X3_total := ⟨q_mem 532 (by decide +kernel) (by decide +kernel), q_mem 533 (by decide +kernel) (by decide +kernel)⟩
theorem im_X3_squaresTimesSize : qIm X3_squaresTimesSize := ⟨q_mem 549 (by decide +kernel) (by decide +kernel), q_mem 550 (by decide +kernel) (by decide +kernel)⟩
theorem im_X3_distancesTo : qIm X3_distancesTo := ⟨q_mem 576 (by decide +kernel) (by decide +kernel), q_mem 577 (by decide +kernel) (by decide +kernel)⟩
theorem im_X3_totalOfSquares : qIm X3_totalOfSquares := ⟨q_mem 555 (by decide +kernel) (by decide +kernel), q_memP 31 (by decide +kernel) (by decide +kernel)⟩
theorem ii_X4_init : Cond.instanceMethod X4_init.1 ∈ qALL := q_mem 150 (by decide +kernel) (by decide +kernel)
theorem im_X4_build : qIm X4_build := ⟨q_mem 438 (by decide +kernel) (by decide +kernel), q_mem 439 (by decide +kernel) (by decide +kernel)⟩
theorem im_X4_split : qIm X4_split := ⟨q_mem 496 (by decide +kernel) (by decide +kernel), q_mem 497 (by decide +kernel) (by decide +kernel)⟩
theorem im_X4_numberByLeastRows : qIm X4_numberByLeastRows := ⟨q_mem 501 (by decide +kernel) (by decide +kernel), q_memP 27 (by decide +kernel) (by decide +kernel)⟩
theorem im_X4_placeRows : qIm X4_placeRows := ⟨q_mem 443 (by decide +kernel) (by decide +kernel), q_memP 21 (by decide +kernel) (by decide +kernel)⟩
theorem im_X4_findNearest : qIm X4_findNearest := ⟨q_mem 449 (by decide +kernel) (by decide +kernel), q_memP 22 (by decide +kernel) (by decide +kernel)⟩
theorem im_X4_gapAbove : qIm X4_gapAbove := ⟨q_mem 453 (by decide +kernel) (by decide +kernel), q_memP 23 (by decide +kernel) (by decide +kernel)⟩
theorem im_X4_gapBelow : qIm X4_gapBelow := ⟨q_mem 457 (by decide +kernel) (by decide +kernel), q_memP 24 (by decide +kernel) (by decide +kernel)⟩
theorem im_X4_merge : qIm X4_merge := ⟨q_mem 472 (by decide +kernel) (by decide +kernel), q_memP 25 (by decide +kernel) (by decide +kernel)⟩
theorem im_X4_gapToBoth : qIm X4_gapToBoth := ⟨q_mem 476 (by decide +kernel) (by decide +kernel), q_memP 26 (by decide +kernel) (by decide +kernel)⟩
theorem ii_X5_init : Cond.instanceMethod X5_init.1 ∈ qALL := q_mem 75 (by decide +kernel) (by decide +kernel)
theorem im_X5_run : qIm X5_run := ⟨q_mem 323 (by decide +kernel) (by decide +kernel), q_mem 324 (by decide +kernel) (by decide +kernel)⟩
theorem im_X5_chooseFirstMeans : qIm X5_chooseFirstMeans := ⟨q_mem 328 (by decide +kernel) (by decide +kernel), q_memP 4 (by decide +kernel) (by decide +kernel)⟩
theorem im_X5_putFirstMean : qIm X5_putFirstMean := ⟨q_mem 333 (by decide +kernel) (by decide +kernel), q_memP 5 (by decide +kernel) (by decide +kernel)⟩
theorem im_X5_farthestFromChosen : qIm X5_farthestFromChosen := ⟨q_mem 338 (by decide +kernel) (by decide +kernel), q_memP 6 (by decide +kernel) (by decide +kernel)⟩
theorem im_X5_moveRows : qIm X5_moveRows := ⟨q_mem 346 (by decide +kernel) (by decide +kernel), q_memP 7 (by decide +kernel) (by decide +kernel)⟩
theorem im_X5_nearestMean : qIm X5_nearestMean := ⟨q_mem 350 (by decide +kernel) (by decide +kernel), q_memP 8 (by decide +kernel) (by decide +kernel)⟩
theorem im_X5_takeFarthest : qIm X5_takeFarthest := ⟨q_mem 365 (by decide +kernel) (by decide +kernel), q_memP 11 (by decide +kernel) (by decide +kernel)⟩
theorem im_X5_noteMoves : qIm X5_noteMoves := ⟨q_mem 369 (by decide +kernel) (by decide +kernel), q_memP 12 (by decide +kernel) (by decide +kernel)⟩
theorem im_X5_remakeMeans : qIm X5_remakeMeans := ⟨q_mem 373 (by decide +kernel) (by decide +kernel), q_memP 13 (by decide +kernel) (by decide +kernel)⟩
theorem im_X5_squaresAbove : qIm X5_squaresAbove := ⟨q_mem 354 (by decide +kernel) (by decide +kernel), q_memP 9 (by decide +kernel) (by decide +kernel)⟩
theorem im_X5_squaresBelow : qIm X5_squaresBelow := ⟨q_mem 358 (by decide +kernel) (by decide +kernel), q_memP 10 (by decide +kernel) (by decide +kernel)⟩
theorem ii_X6_init : Cond.instanceMethod X6_init.1 ∈ qALL := q_mem 22 (by decide +kernel) (by decide +kernel)
theorem im_X6_takes : qIm X6_takes := ⟨q_mem 248 (by decide +kernel) (by decide +kernel), q_mem 249 (by decide +kernel) (by decide +kernel)⟩
theorem im_X6_append : qIm X6_append := ⟨q_mem 257 (by decide +kernel) (by decide +kernel), q_mem 258 (by decide +kernel) (by decide +kernel)⟩
theorem im_X6_cell : qIm X6_cell := ⟨q_mem 265 (by decide +kernel) (by decide +kernel), q_mem 266 (by decide +kernel) (by decide +kernel)⟩
theorem im_X6_apart : qIm X6_apart := ⟨q_mem 303 (by decide +kernel) (by decide +kernel), q_mem 304 (by decide +kernel) (by decide +kernel)⟩
theorem im_X6_placeOf : qIm X6_placeOf := ⟨q_mem 279 (by decide +kernel) (by decide +kernel), q_mem 280 (by decide +kernel) (by decide +kernel)⟩
theorem im_X6_nearerThan : qIm X6_nearerThan := ⟨q_mem 311 (by decide +kernel) (by decide +kernel), q_mem 312 (by decide +kernel) (by decide +kernel)⟩
theorem im_X6_measure : qIm X6_measure := ⟨q_mem 262 (by decide +kernel) (by decide +kernel), q_memP 1 (by decide +kernel) (by decide +kernel)⟩
theorem im_X6_note : qIm X6_note := ⟨q_mem 276 (by decide +kernel) (by decide +kernel), q_memP 2 (by decide +kernel) (by decide +kernel)⟩
theorem ii_X7_init : Cond.instanceMethod X7_init.1 ∈ qALL := q_mem 14 (by decide +kernel) (by decide +kernel)
theorem im_X7_columns : qIm X7_columns := ⟨q_mem 238 (by decide +kernel) (by decide +kernel), q_mem 239 (by decide +kernel) (by decide +kernel)⟩
theorem im_X7_row : qIm X7_row := ⟨q_mem 244 (by decide +kernel) (by decide +kernel), q_mem 245 (by decide +kernel) (by decide +kernel)⟩
theorem im_X7_clear : qIm X7_clear := ⟨q_mem 283 (by decide +kernel) (by decide +kernel), q_mem 284 (by decide +kernel) (by decide +kernel)⟩
theorem im_X7_count : qIm X7_count := ⟨q_mem 287 (by decide +kernel) (by decide +kernel), q_mem 288 (by decide +kernel) (by decide +kernel)⟩
theorem im_X7_distance : qIm X7_distance := ⟨q_mem 291 (by decide +kernel) (by decide +kernel), q_mem 292 (by decide +kernel) (by decide +kernel)⟩
theorem im_X7_near : qIm X7_near := ⟨q_mem 307 (by decide +kernel) (by decide +kernel), q_mem 308 (by decide +kernel) (by decide +kernel)⟩
theorem im_X7_means : qIm X7_means := ⟨q_mem 316 (by decide +kernel) (by decide +kernel), q_mem 317 (by decide +kernel) (by decide +kernel)⟩
theorem im_X7_medoids : qIm X7_medoids := ⟨q_mem 380 (by decide +kernel) (by decide +kernel), q_mem 381 (by decide +kernel) (by decide +kernel)⟩
theorem im_X7_medoid : qIm X7_medoid := ⟨q_mem 408 (by decide +kernel) (by decide +kernel), q_mem 409 (by decide +kernel) (by decide +kernel)⟩
theorem im_X7_density : qIm X7_density := ⟨q_mem 412 (by decide +kernel) (by decide +kernel), q_mem 413 (by decide +kernel) (by decide +kernel)⟩
theorem im_X7_tree : qIm X7_tree := ⟨q_mem 434 (by decide +kernel) (by decide +kernel), q_mem 435 (by decide +kernel) (by decide +kernel)⟩
theorem im_X7_join : qIm X7_join := ⟨q_mem 485 (by decide +kernel) (by decide +kernel), q_mem 486 (by decide +kernel) (by decide +kernel)⟩
theorem im_X7_cut : qIm X7_cut := ⟨q_mem 492 (by decide +kernel) (by decide +kernel), q_mem 493 (by decide +kernel) (by decide +kernel)⟩
theorem im_X7_of : qIm X7_of := ⟨q_mem 504 (by decide +kernel) (by decide +kernel), q_mem 505 (by decide +kernel) (by decide +kernel)⟩
theorem im_X7_size : qIm X7_size := ⟨q_mem 512 (by decide +kernel) (by decide +kernel), q_mem 513 (by decide +kernel) (by decide +kernel)⟩
theorem im_X7_mean : qIm X7_mean := ⟨q_mem 520 (by decide +kernel) (by decide +kernel), q_mem 521 (by decide +kernel) (by decide +kernel)⟩
theorem im_X7_sum : qIm X7_sum := ⟨q_mem 541 (by decide +kernel) (by decide +kernel), q_mem 542 (by decide +kernel) (by decide +kernel)⟩
theorem im_X7_well : qIm X7_well := ⟨q_mem 563 (by decide +kernel) (by decide +kernel), q_mem 564 (by decide +kernel) (by decide +kernel)⟩
theorem im_X7_agree : qIm X7_agree := ⟨q_mem 583 (by decide +kernel) (by decide +kernel), q_mem 584 (by decide +kernel) (by decide +kernel)⟩
theorem im_X7_forgetGroupings : qIm X7_forgetGroupings := ⟨q_mem 254 (by decide +kernel) (by decide +kernel), q_memP 0 (by decide +kernel) (by decide +kernel)⟩
theorem im_X7_isRow : qIm X7_isRow := ⟨q_mem 296 (by decide +kernel) (by decide +kernel), q_memP 3 (by decide +kernel) (by decide +kernel)⟩
theorem sm_X7_isKind : Cond.static X7_isKind.1 ∈ qALL := q_mem 300 (by decide +kernel) (by decide +kernel)
theorem sm_X7_isSlot : Cond.static X7_isSlot.1 ∈ qALL := q_mem 320 (by decide +kernel) (by decide +kernel)
theorem sm_X7_isSide : Cond.static X7_isSide.1 ∈ qALL := q_mem 524 (by decide +kernel) (by decide +kernel)
theorem im_X7_refusalOfGroup : qIm X7_refusalOfGroup := ⟨q_mem 517 (by decide +kernel) (by decide +kernel), q_memP 28 (by decide +kernel) (by decide +kernel)⟩
theorem im_X7_reckonMean : qIm X7_reckonMean := ⟨q_mem 528 (by decide +kernel) (by decide +kernel), q_memP 29 (by decide +kernel) (by decide +kernel)⟩
theorem im_X7_reckonSum : qIm X7_reckonSum := ⟨q_mem 546 (by decide +kernel) (by decide +kernel), q_memP 30 (by decide +kernel) (by decide +kernel)⟩
theorem im_X7_reckonWell : qIm X7_reckonWell := ⟨q_mem 569 (by decide +kernel) (by decide +kernel), q_memP 32 (by decide +kernel) (by decide +kernel)⟩
theorem im_X7_nearestOtherGroup : qIm X7_nearestOtherGroup := ⟨q_mem 573 (by decide +kernel) (by decide +kernel), q_memP 33 (by decide +kernel) (by decide +kernel)⟩
theorem im_X7_agreementOf : qIm X7_agreementOf := ⟨q_mem 588 (by decide +kernel) (by decide +kernel), q_memP 34 (by decide +kernel) (by decide +kernel)⟩
theorem sm_X7_isLess : Cond.static X7_isLess.1 ∈ qALL := q_mem 361 (by decide +kernel) (by decide +kernel)
theorem ii_X8_init : Cond.instanceMethod X8_init.1 ∈ qALL := q_mem 597 (by decide +kernel) (by decide +kernel)
theorem sm_X8_within : Cond.static X8_within.1 ∈ qALL := q_mem 693 (by decide +kernel) (by decide +kernel)
theorem im_X8_isRow : qIm X8_isRow := ⟨q_mem 720 (by decide +kernel) (by decide +kernel), q_memP 36 (by decide +kernel) (by decide +kernel)⟩
theorem sm_X8_common : Cond.static X8_common.1 ∈ qALL := q_mem 810 (by decide +kernel) (by decide +kernel)
theorem im_X8_forget : qIm X8_forget := ⟨q_mem 704 (by decide +kernel) (by decide +kernel), q_memP 35 (by decide +kernel) (by decide +kernel)⟩
theorem im_X8_columns : qIm X8_columns := ⟨q_mem 689 (by decide +kernel) (by decide +kernel), q_mem 690 (by decide +kernel) (by decide +kernel)⟩
theorem im_X8_row : qIm X8_row := ⟨q_mem 698 (by decide +kernel) (by decide +kernel), q_mem 699 (by decide +kernel) (by decide +kernel)⟩
theorem im_X8_clear : qIm X8_clear := ⟨q_mem 707 (by decide +kernel) (by decide +kernel), q_mem 708 (by decide +kernel) (by decide +kernel)⟩
theorem im_X8_count : qIm X8_count := ⟨q_mem 711 (by decide +kernel) (by decide +kernel), q_mem 712 (by decide +kernel) (by decide +kernel)⟩
theorem im_X8_apart : qIm X8_apart := ⟨q_mem 725 (by decide +kernel) (by decide +kernel), q_memP 37 (by decide +kernel) (by decide +kernel)⟩
theorem im_X8_lay : qIm X8_lay := ⟨q_mem 733 (by decide +kernel) (by decide +kernel), q_memP 38 (by decide +kernel) (by decide +kernel)⟩
theorem im_X8_distance : qIm X8_distance := ⟨q_mem 715 (by decide +kernel) (by decide +kernel), q_mem 716 (by decide +kernel) (by decide +kernel)⟩
theorem im_X8_near : qIm X8_near := ⟨q_mem 728 (by decide +kernel) (by decide +kernel), q_mem 729 (by decide +kernel) (by decide +kernel)⟩
theorem im_X8_chooseFirst : qIm X8_chooseFirst := ⟨q_mem 741 (by decide +kernel) (by decide +kernel), q_memP 39 (by decide +kernel) (by decide +kernel)⟩
theorem im_X8_farthest : qIm X8_farthest := ⟨q_mem 745 (by decide +kernel) (by decide +kernel), q_memP 40 (by decide +kernel) (by decide +kernel)⟩
theorem im_X8_square : qIm X8_square := ⟨q_mem 753 (by decide +kernel) (by decide +kernel), q_memP 42 (by decide +kernel) (by decide +kernel)⟩
theorem im_X8_isNearer : qIm X8_isNearer := ⟨q_mem 749 (by decide +kernel) (by decide +kernel), q_memP 41 (by decide +kernel) (by decide +kernel)⟩
theorem im_X8_sizeNow : qIm X8_sizeNow := ⟨q_mem 761 (by decide +kernel) (by decide +kernel), q_memP 44 (by decide +kernel) (by decide +kernel)⟩
theorem im_X8_fill : qIm X8_fill := ⟨q_mem 757 (by decide +kernel) (by decide +kernel), q_memP 43 (by decide +kernel) (by decide +kernel)⟩
theorem im_X8_takeMeans : qIm X8_takeMeans := ⟨q_mem 765 (by decide +kernel) (by decide +kernel), q_memP 45 (by decide +kernel) (by decide +kernel)⟩
theorem im_X8_means : qIm X8_means := ⟨q_mem 736 (by decide +kernel) (by decide +kernel), q_mem 737 (by decide +kernel) (by decide +kernel)⟩
theorem im_X8_nearestOf : qIm X8_nearestOf := ⟨q_mem 777 (by decide +kernel) (by decide +kernel), q_memP 47 (by decide +kernel) (by decide +kernel)⟩
theorem im_X8_sumOf : qIm X8_sumOf := ⟨q_mem 773 (by decide +kernel) (by decide +kernel), q_memP 46 (by decide +kernel) (by decide +kernel)⟩
theorem im_X8_medoids : qIm X8_medoids := ⟨q_mem 768 (by decide +kernel) (by decide +kernel), q_mem 769 (by decide +kernel) (by decide +kernel)⟩
theorem im_X8_medoid : qIm X8_medoid := ⟨q_mem 780 (by decide +kernel) (by decide +kernel), q_mem 781 (by decide +kernel) (by decide +kernel)⟩
theorem im_X8_density : qIm X8_density := ⟨q_mem 784 (by decide +kernel) (by decide +kernel), q_mem 785 (by decide +kernel) (by decide +kernel)⟩
theorem im_X8_spread : qIm X8_spread := ⟨q_mem 790 (by decide +kernel) (by decide +kernel), q_memP 48 (by decide +kernel) (by decide +kernel)⟩
theorem im_X8_gather : qIm X8_gather := ⟨q_mem 802 (by decide +kernel) (by decide +kernel), q_memP 50 (by decide +kernel) (by decide +kernel)⟩
theorem im_X8_apartOf : qIm X8_apartOf := ⟨q_mem 807 (by decide +kernel) (by decide +kernel), q_memP 51 (by decide +kernel) (by decide +kernel)⟩
theorem im_X8_tree : qIm X8_tree := ⟨q_mem 793 (by decide +kernel) (by decide +kernel), q_mem 794 (by decide +kernel) (by decide +kernel)⟩
theorem im_X8_joinNext : qIm X8_joinNext := ⟨q_mem 798 (by decide +kernel) (by decide +kernel), q_memP 49 (by decide +kernel) (by decide +kernel)⟩
theorem im_X8_join : qIm X8_join := ⟨q_mem 813 (by decide +kernel) (by decide +kernel), q_mem 814 (by decide +kernel) (by decide +kernel)⟩
theorem im_X8_cut : qIm X8_cut := ⟨q_mem 819 (by decide +kernel) (by decide +kernel), q_mem 820 (by decide +kernel) (by decide +kernel)⟩
theorem im_X8_of0 : qIm X8_of0 := ⟨q_mem 828 (by decide +kernel) (by decide +kernel), q_memP 52 (by decide +kernel) (by decide +kernel)⟩
theorem im_X8_of : qIm X8_of := ⟨q_mem 823 (by decide +kernel) (by decide +kernel), q_mem 824 (by decide +kernel) (by decide +kernel)⟩
theorem im_X8_sizeIn : qIm X8_sizeIn := ⟨q_mem 840 (by decide +kernel) (by decide +kernel), q_memP 54 (by decide +kernel) (by decide +kernel)⟩
theorem im_X8_refused : qIm X8_refused := ⟨q_mem 836 (by decide +kernel) (by decide +kernel), q_memP 53 (by decide +kernel) (by decide +kernel)⟩
theorem im_X8_size : qIm X8_size := ⟨q_mem 831 (by decide +kernel) (by decide +kernel), q_mem 832 (by decide +kernel) (by decide +kernel)⟩
theorem im_X8_sumIn : qIm X8_sumIn := ⟨q_mem 848 (by decide +kernel) (by decide +kernel), q_memP 55 (by decide +kernel) (by decide +kernel)⟩
theorem im_X8_mean : qIm X8_mean := ⟨q_mem 843 (by decide +kernel) (by decide +kernel), q_mem 844 (by decide +kernel) (by decide +kernel)⟩
theorem im_X8_sum : qIm X8_sum := ⟨q_mem 851 (by decide +kernel) (by decide +kernel), q_mem 852 (by decide +kernel) (by decide +kernel)⟩
theorem im_X8_farFrom : qIm X8_farFrom := ⟨q_mem 861 (by decide +kernel) (by decide +kernel), q_memP 56 (by decide +kernel) (by decide +kernel)⟩
theorem im_X8_well : qIm X8_well := ⟨q_mem 855 (by decide +kernel) (by decide +kernel), q_mem 856 (by decide +kernel) (by decide +kernel)⟩
theorem im_X8_agree : qIm X8_agree := ⟨q_mem 864 (by decide +kernel) (by decide +kernel), q_mem 865 (by decide +kernel) (by decide +kernel)⟩
theorem cw7_58 : Cond.constant RX7 58 (Int32.ofInt (-2000000002)) ∈ qALL := q_mem 241 (by decide +kernel) (by decide +kernel)
theorem cw7_63 : Cond.constant RX7 63 (Int32.ofInt (-2000000003)) ∈ qALL := q_mem 242 (by decide +kernel) (by decide +kernel)
theorem cw7_71 : Cond.constant RX7 71 (Int32.ofInt (-2000000004)) ∈ qALL := q_mem 251 (by decide +kernel) (by decide +kernel)
theorem cw7_89 : Cond.constant RX7 89 (Int32.ofInt (-2000000001)) ∈ qALL := q_mem 298 (by decide +kernel) (by decide +kernel)
theorem cw7_126 : Cond.constant RX7 126 (Int32.ofInt (20000000)) ∈ qALL := q_mem 415 (by decide +kernel) (by decide +kernel)
theorem cw0_33 : Cond.constant RX0 33 (Int32.ofInt (2147483647)) ∈ qALL := q_mem 387 (by decide +kernel) (by decide +kernel)
theorem cw5_52 : Cond.constant RX5 52 (Int32.ofInt (2147483647)) ∈ qALL := q_mem 330 (by decide +kernel) (by decide +kernel)
theorem cw8_96 : Cond.constant RX8 96 (Int32.ofInt (-2000000002)) ∈ qALL := q_mem 695 (by decide +kernel) (by decide +kernel)
theorem cw8_97 : Cond.constant RX8 97 (Int32.ofInt (-2000000003)) ∈ qALL := q_mem 696 (by decide +kernel) (by decide +kernel)
theorem cw8_98 : Cond.constant RX8 98 (Int32.ofInt (-2000000004)) ∈ qALL := q_mem 701 (by decide +kernel) (by decide +kernel)
theorem cw8_113 : Cond.constant RX8 113 (Int32.ofInt (-2000000001)) ∈ qALL := q_mem 722 (by decide +kernel) (by decide +kernel)
theorem cw8_151 : Cond.constant RX8 151 (Int32.ofInt (20000000)) ∈ qALL := q_mem 787 (by decide +kernel) (by decide +kernel)
theorem cw7_135 : Cond.constantLong RX7 135 (Int64.ofInt (-2000000002)) ∈ qALL := q_mem 488 (by decide +kernel) (by decide +kernel)
theorem cw7_137 : Cond.constantLong RX7 137 (Int64.ofInt (-2000000003)) ∈ qALL := q_mem 489 (by decide +kernel) (by decide +kernel)
theorem cw7_139 : Cond.constantLong RX7 139 (Int64.ofInt (-1)) ∈ qALL := q_mem 490 (by decide +kernel) (by decide +kernel)
theorem cw7_191 : Cond.constantLong RX7 191 (Int64.ofInt (-2000000001)) ∈ qALL := q_mem 566 (by decide +kernel) (by decide +kernel)
theorem cw8_156 : Cond.constantLong RX8 156 (Int64.ofInt (-1)) ∈ qALL := q_mem 804 (by decide +kernel) (by decide +kernel)
theorem cw8_178 : Cond.constantLong RX8 178 (Int64.ofInt (-2000000002)) ∈ qALL := q_mem 816 (by decide +kernel) (by decide +kernel)
theorem cw8_180 : Cond.constantLong RX8 180 (Int64.ofInt (-2000000003)) ∈ qALL := q_mem 817 (by decide +kernel) (by decide +kernel)
theorem cw8_196 : Cond.constantLong RX8 196 (Int64.ofInt (-2000000001)) ∈ qALL := q_mem 858 (by decide +kernel) (by decide +kernel)
theorem mw7_222 : qMw RX7 222 Lib.MathLoose.max_long.x Lib.MathLoose.max_long.code 4 (some .long) := ⟨q_mem 581 (by decide +kernel) (by decide +kernel), q_mem 482 (by decide +kernel) (by decide +kernel), q_mem 10 (by decide +kernel) (by decide +kernel), q_mem 483 (by decide +kernel) (by decide +kernel)⟩
theorem mw0_60 : qMw RX0 60 Lib.Math.min.name Lib.Math.min.code 2 (some .int) := ⟨q_mem 397 (by decide +kernel) (by decide +kernel), q_mem 342 (by decide +kernel) (by decide +kernel), q_mem 10 (by decide +kernel) (by decide +kernel), q_mem 343 (by decide +kernel) (by decide +kernel)⟩
theorem mw2_16 : qMw RX2 16 Lib.MathLoose.abs_long.x Lib.MathLoose.abs_long.code 2 (some .long) := ⟨q_mem 464 (by decide +kernel) (by decide +kernel), q_mem 465 (by decide +kernel) (by decide +kernel), q_mem 10 (by decide +kernel) (by decide +kernel), q_mem 466 (by decide +kernel) (by decide +kernel)⟩
theorem mw4_113 : qMw RX4 113 Lib.MathLoose.min_long.x Lib.MathLoose.min_long.code 4 (some .long) := ⟨q_mem 478 (by decide +kernel) (by decide +kernel), q_mem 479 (by decide +kernel) (by decide +kernel), q_mem 10 (by decide +kernel) (by decide +kernel), q_mem 480 (by decide +kernel) (by decide +kernel)⟩
theorem mw4_118 : qMw RX4 118 Lib.MathLoose.max_long.x Lib.MathLoose.max_long.code 4 (some .long) := ⟨q_mem 481 (by decide +kernel) (by decide +kernel), q_mem 482 (by decide +kernel) (by decide +kernel), q_mem 10 (by decide +kernel) (by decide +kernel), q_mem 483 (by decide +kernel) (by decide +kernel)⟩
theorem mw5_72 : qMw RX5 72 Lib.Math.min.name Lib.Math.min.code 2 (some .int) := ⟨q_mem 341 (by decide +kernel) (by decide +kernel), q_mem 342 (by decide +kernel) (by decide +kernel), q_mem 10 (by decide +kernel) (by decide +kernel), q_mem 343 (by decide +kernel) (by decide +kernel)⟩
theorem mw6_40 : qMw RX6 40 Lib.Math.abs.name Lib.Math.abs.code 1 (some .int) := ⟨q_mem 268 (by decide +kernel) (by decide +kernel), q_mem 269 (by decide +kernel) (by decide +kernel), q_mem 10 (by decide +kernel) (by decide +kernel), q_mem 270 (by decide +kernel) (by decide +kernel)⟩
theorem mw6_46 : qMw RX6 46 Lib.Math.max.name Lib.Math.max.code 2 (some .int) := ⟨q_mem 271 (by decide +kernel) (by decide +kernel), q_mem 272 (by decide +kernel) (by decide +kernel), q_mem 10 (by decide +kernel) (by decide +kernel), q_mem 273 (by decide +kernel) (by decide +kernel)⟩
end
