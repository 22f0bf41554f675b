section
-- ===== PART A: goes FIRST, ahead of the names: the tables' words, and 'selects' of the private methods out of them =====
/-- a private method of a class that the tables say can be made, by its rows of tables_1 -/
def lw_okq (q : MethodName × Nat) : Prop := (q.1.cls ≠ "java/lang/invoke/MethodHandle" ∧ q.1.cls ≠ "java/lang/invoke/VarHandle") ∧ Cond.instantiable q.1.cls q.2 ∈ tables_1 ∧ Cond.privateMethod q.1 ∈ tables_1 ∧ Cond.instanceMethod q.1 ∈ tables_1
theorem lw_p0 : lw_okq (⟨"NearGroups", "forgetGroupings", "()V"⟩, 7) := ⟨⟨by decide +kernel, by decide +kernel⟩, List.mem_of_getElem? (i := 12) (by decide +kernel), List.mem_of_getElem? (i := 253) (by decide +kernel), List.mem_of_getElem? (i := 254) (by decide +kernel)⟩
theorem lw_p1 : lw_okq (⟨"NearGroups$Table", "measure", "(II)V"⟩, 4) := ⟨⟨by decide +kernel, by decide +kernel⟩, List.mem_of_getElem? (i := 20) (by decide +kernel), List.mem_of_getElem? (i := 261) (by decide +kernel), List.mem_of_getElem? (i := 262) (by decide +kernel)⟩
theorem lw_p2 : lw_okq (⟨"NearGroups$Table", "note", "(IIII)V"⟩, 4) := ⟨⟨by decide +kernel, by decide +kernel⟩, List.mem_of_getElem? (i := 20) (by decide +kernel), List.mem_of_getElem? (i := 275) (by decide +kernel), List.mem_of_getElem? (i := 276) (by decide +kernel)⟩
theorem lw_p3 : lw_okq (⟨"NearGroups", "isRow", "(I)Z"⟩, 7) := ⟨⟨by decide +kernel, by decide +kernel⟩, List.mem_of_getElem? (i := 12) (by decide +kernel), List.mem_of_getElem? (i := 295) (by decide +kernel), List.mem_of_getElem? (i := 296) (by decide +kernel)⟩
theorem lw_p4 : lw_okq (⟨"NearGroups$MeanRounds", "chooseFirstMeans", "(LNearGroups$Table;)V"⟩, 7) := ⟨⟨by decide +kernel, by decide +kernel⟩, List.mem_of_getElem? (i := 73) (by decide +kernel), List.mem_of_getElem? (i := 327) (by decide +kernel), List.mem_of_getElem? (i := 328) (by decide +kernel)⟩
theorem lw_p5 : lw_okq (⟨"NearGroups$MeanRounds", "putFirstMean", "(LNearGroups$Table;II)V"⟩, 7) := ⟨⟨by decide +kernel, by decide +kernel⟩, List.mem_of_getElem? (i := 73) (by decide +kernel), List.mem_of_getElem? (i := 332) (by decide +kernel), List.mem_of_getElem? (i := 333) (by decide +kernel)⟩
theorem lw_p6 : lw_okq (⟨"NearGroups$MeanRounds", "farthestFromChosen", "(LNearGroups$Table;I)I"⟩, 7) := ⟨⟨by decide +kernel, by decide +kernel⟩, List.mem_of_getElem? (i := 73) (by decide +kernel), List.mem_of_getElem? (i := 337) (by decide +kernel), List.mem_of_getElem? (i := 338) (by decide +kernel)⟩
theorem lw_p7 : lw_okq (⟨"NearGroups$MeanRounds", "moveRows", "(LNearGroups$Table;)Z"⟩, 7) := ⟨⟨by decide +kernel, by decide +kernel⟩, List.mem_of_getElem? (i := 73) (by decide +kernel), List.mem_of_getElem? (i := 345) (by decide +kernel), List.mem_of_getElem? (i := 346) (by decide +kernel)⟩
theorem lw_p8 : lw_okq (⟨"NearGroups$MeanRounds", "nearestMean", "(LNearGroups$Table;I)I"⟩, 7) := ⟨⟨by decide +kernel, by decide +kernel⟩, List.mem_of_getElem? (i := 73) (by decide +kernel), List.mem_of_getElem? (i := 349) (by decide +kernel), List.mem_of_getElem? (i := 350) (by decide +kernel)⟩
theorem lw_p9 : lw_okq (⟨"NearGroups$MeanRounds", "squaresAbove", "(LNearGroups$Table;II)J"⟩, 7) := ⟨⟨by decide +kernel, by decide +kernel⟩, List.mem_of_getElem? (i := 73) (by decide +kernel), List.mem_of_getElem? (i := 353) (by decide +kernel), List.mem_of_getElem? (i := 354) (by decide +kernel)⟩
theorem lw_p10 : lw_okq (⟨"NearGroups$MeanRounds", "squaresBelow", "(I)J"⟩, 7) := ⟨⟨by decide +kernel, by decide +kernel⟩, List.mem_of_getElem? (i := 73) (by decide +kernel), List.mem_of_getElem? (i := 357) (by decide +kernel), List.mem_of_getElem? (i := 358) (by decide +kernel)⟩
theorem lw_p11 : lw_okq (⟨"NearGroups$MeanRounds", "takeFarthest", "(LNearGroups$Table;I)V"⟩, 7) := ⟨⟨by decide +kernel, by decide +kernel⟩, List.mem_of_getElem? (i := 73) (by decide +kernel), List.mem_of_getElem? (i := 364) (by decide +kernel), List.mem_of_getElem? (i := 365) (by decide +kernel)⟩
theorem lw_p12 : lw_okq (⟨"NearGroups$MeanRounds", "noteMoves", "(I)Z"⟩, 7) := ⟨⟨by decide +kernel, by decide +kernel⟩, List.mem_of_getElem? (i := 73) (by decide +kernel), List.mem_of_getElem? (i := 368) (by decide +kernel), List.mem_of_getElem? (i := 369) (by decide +kernel)⟩
theorem lw_p13 : lw_okq (⟨"NearGroups$MeanRounds", "remakeMeans", "(LNearGroups$Table;)V"⟩, 7) := ⟨⟨by decide +kernel, by decide +kernel⟩, List.mem_of_getElem? (i := 73) (by decide +kernel), List.mem_of_getElem? (i := 372) (by decide +kernel), List.mem_of_getElem? (i := 373) (by decide +kernel)⟩
theorem lw_p14 : lw_okq (⟨"NearGroups$BestRows", "tryRows", "(LNearGroups$Table;III)V"⟩, 6) := ⟨⟨by decide +kernel, by decide +kernel⟩, List.mem_of_getElem? (i := 102) (by decide +kernel), List.mem_of_getElem? (i := 389) (by decide +kernel), List.mem_of_getElem? (i := 390) (by decide +kernel)⟩
theorem lw_p15 : lw_okq (⟨"NearGroups$BestRows", "lowerLeasts", "(LNearGroups$Table;III)V"⟩, 6) := ⟨⟨by decide +kernel, by decide +kernel⟩, List.mem_of_getElem? (i := 102) (by decide +kernel), List.mem_of_getElem? (i := 393) (by decide +kernel), List.mem_of_getElem? (i := 394) (by decide +kernel)⟩
def lw_privs_1 : List (MethodName × Nat) := [(⟨"NearGroups", "forgetGroupings", "()V"⟩, 7), (⟨"NearGroups$Table", "measure", "(II)V"⟩, 4), (⟨"NearGroups$Table", "note", "(IIII)V"⟩, 4), (⟨"NearGroups", "isRow", "(I)Z"⟩, 7), (⟨"NearGroups$MeanRounds", "chooseFirstMeans", "(LNearGroups$Table;)V"⟩, 7), (⟨"NearGroups$MeanRounds", "putFirstMean", "(LNearGroups$Table;II)V"⟩, 7), (⟨"NearGroups$MeanRounds", "farthestFromChosen", "(LNearGroups$Table;I)I"⟩, 7), (⟨"NearGroups$MeanRounds", "moveRows", "(LNearGroups$Table;)Z"⟩, 7), (⟨"NearGroups$MeanRounds", "nearestMean", "(LNearGroups$Table;I)I"⟩, 7), (⟨"NearGroups$MeanRounds", "squaresAbove", "(LNearGroups$Table;II)J"⟩, 7), (⟨"NearGroups$MeanRounds", "squaresBelow", "(I)J"⟩, 7), (⟨"NearGroups$MeanRounds", "takeFarthest", "(LNearGroups$Table;I)V"⟩, 7), (⟨"NearGroups$MeanRounds", "noteMoves", "(I)Z"⟩, 7), (⟨"NearGroups$MeanRounds", "remakeMeans", "(LNearGroups$Table;)V"⟩, 7), (⟨"NearGroups$BestRows", "tryRows", "(LNearGroups$Table;III)V"⟩, 6), (⟨"NearGroups$BestRows", "lowerLeasts", "(LNearGroups$Table;III)V"⟩, 6)]
theorem lw_r1 : ∀ q ∈ lw_privs_1, lw_okq q := List.forall_mem_cons.mpr ⟨lw_p0, List.forall_mem_cons.mpr ⟨lw_p1, List.forall_mem_cons.mpr ⟨lw_p2, List.forall_mem_cons.mpr ⟨lw_p3, List.forall_mem_cons.mpr ⟨lw_p4, List.forall_mem_cons.mpr ⟨lw_p5, List.forall_mem_cons.mpr ⟨lw_p6, List.forall_mem_cons.mpr ⟨lw_p7, List.forall_mem_cons.mpr ⟨lw_p8, List.forall_mem_cons.mpr ⟨lw_p9, List.forall_mem_cons.mpr ⟨lw_p10, List.forall_mem_cons.mpr ⟨lw_p11, List.forall_mem_cons.mpr ⟨lw_p12, List.forall_mem_cons.mpr ⟨lw_p13, List.forall_mem_cons.mpr ⟨lw_p14, List.forall_mem_cons.mpr ⟨lw_p15, fun _ h => absurd h List.not_mem_nil⟩⟩⟩⟩⟩⟩⟩⟩⟩⟩⟩⟩⟩⟩⟩⟩
theorem lw_p16 : lw_okq (⟨"NearGroups$BestRows", "weighTrial", "(LNearGroups$Table;III)V"⟩, 6) := ⟨⟨by decide +kernel, by decide +kernel⟩, List.mem_of_getElem? (i := 102) (by decide +kernel), List.mem_of_getElem? (i := 399) (by decide +kernel), List.mem_of_getElem? (i := 400) (by decide +kernel)⟩
theorem lw_p17 : lw_okq (⟨"NearGroups$BestRows", "nearestBest", "(LNearGroups$Table;II)I"⟩, 6) := ⟨⟨by decide +kernel, by decide +kernel⟩, List.mem_of_getElem? (i := 102) (by decide +kernel), List.mem_of_getElem? (i := 403) (by decide +kernel), List.mem_of_getElem? (i := 404) (by decide +kernel)⟩
theorem lw_p18 : lw_okq (⟨"NearGroups$DenseRows", "rowsWithin", "(LNearGroups$Table;III)I"⟩, 3) := ⟨⟨by decide +kernel, by decide +kernel⟩, List.mem_of_getElem? (i := 130) (by decide +kernel), List.mem_of_getElem? (i := 421) (by decide +kernel), List.mem_of_getElem? (i := 422) (by decide +kernel)⟩
theorem lw_p19 : lw_okq (⟨"NearGroups$DenseRows", "spreadFrom", "(LNearGroups$Table;IIII)V"⟩, 3) := ⟨⟨by decide +kernel, by decide +kernel⟩, List.mem_of_getElem? (i := 130) (by decide +kernel), List.mem_of_getElem? (i := 426) (by decide +kernel), List.mem_of_getElem? (i := 427) (by decide +kernel)⟩
theorem lw_p20 : lw_okq (⟨"NearGroups$DenseRows", "leastGroupWithin", "(LNearGroups$Table;III)I"⟩, 3) := ⟨⟨by decide +kernel, by decide +kernel⟩, List.mem_of_getElem? (i := 130) (by decide +kernel), List.mem_of_getElem? (i := 430) (by decide +kernel), List.mem_of_getElem? (i := 431) (by decide +kernel)⟩
theorem lw_p21 : lw_okq (⟨"NearGroups$Joins", "placeRows", "(LNearGroups$Table;I)V"⟩, 12) := ⟨⟨by decide +kernel, by decide +kernel⟩, List.mem_of_getElem? (i := 148) (by decide +kernel), List.mem_of_getElem? (i := 442) (by decide +kernel), List.mem_of_getElem? (i := 443) (by decide +kernel)⟩
theorem lw_p22 : lw_okq (⟨"NearGroups$Joins", "findNearest", "(LNearGroups$Table;)V"⟩, 12) := ⟨⟨by decide +kernel, by decide +kernel⟩, List.mem_of_getElem? (i := 148) (by decide +kernel), List.mem_of_getElem? (i := 448) (by decide +kernel), List.mem_of_getElem? (i := 449) (by decide +kernel)⟩
theorem lw_p23 : lw_okq (⟨"NearGroups$Joins", "gapAbove", "(LNearGroups$Table;II)J"⟩, 12) := ⟨⟨by decide +kernel, by decide +kernel⟩, List.mem_of_getElem? (i := 148) (by decide +kernel), List.mem_of_getElem? (i := 452) (by decide +kernel), List.mem_of_getElem? (i := 453) (by decide +kernel)⟩
theorem lw_p24 : lw_okq (⟨"NearGroups$Joins", "gapBelow", "(II)J"⟩, 12) := ⟨⟨by decide +kernel, by decide +kernel⟩, List.mem_of_getElem? (i := 148) (by decide +kernel), List.mem_of_getElem? (i := 456) (by decide +kernel), List.mem_of_getElem? (i := 457) (by decide +kernel)⟩
theorem lw_p25 : lw_okq (⟨"NearGroups$Joins", "merge", "(LNearGroups$Table;II)V"⟩, 12) := ⟨⟨by decide +kernel, by decide +kernel⟩, List.mem_of_getElem? (i := 148) (by decide +kernel), List.mem_of_getElem? (i := 471) (by decide +kernel), List.mem_of_getElem? (i := 472) (by decide +kernel)⟩
theorem lw_p26 : lw_okq (⟨"NearGroups$Joins", "gapToBoth", "(JJ)J"⟩, 12) := ⟨⟨by decide +kernel, by decide +kernel⟩, List.mem_of_getElem? (i := 148) (by decide +kernel), List.mem_of_getElem? (i := 475) (by decide +kernel), List.mem_of_getElem? (i := 476) (by decide +kernel)⟩
theorem lw_p27 : lw_okq (⟨"NearGroups$Joins", "numberByLeastRows", "(I)V"⟩, 12) := ⟨⟨by decide +kernel, by decide +kernel⟩, List.mem_of_getElem? (i := 148) (by decide +kernel), List.mem_of_getElem? (i := 500) (by decide +kernel), List.mem_of_getElem? (i := 501) (by decide +kernel)⟩
theorem lw_p28 : lw_okq (⟨"NearGroups", "refusalOfGroup", "(II)I"⟩, 7) := ⟨⟨by decide +kernel, by decide +kernel⟩, List.mem_of_getElem? (i := 12) (by decide +kernel), List.mem_of_getElem? (i := 516) (by decide +kernel), List.mem_of_getElem? (i := 517) (by decide +kernel)⟩
theorem lw_p29 : lw_okq (⟨"NearGroups", "reckonMean", "(LNearGroups$Grouping;II)V"⟩, 7) := ⟨⟨by decide +kernel, by decide +kernel⟩, List.mem_of_getElem? (i := 12) (by decide +kernel), List.mem_of_getElem? (i := 527) (by decide +kernel), List.mem_of_getElem? (i := 528) (by decide +kernel)⟩
theorem lw_p30 : lw_okq (⟨"NearGroups", "reckonSum", "(LNearGroups$Grouping;)V"⟩, 7) := ⟨⟨by decide +kernel, by decide +kernel⟩, List.mem_of_getElem? (i := 12) (by decide +kernel), List.mem_of_getElem? (i := 545) (by decide +kernel), List.mem_of_getElem? (i := 546) (by decide +kernel)⟩
theorem lw_p31 : lw_okq (⟨"NearGroups$Grouping", "totalOfSquares", "(LNearGroups$Table;II)J"⟩, 4) := ⟨⟨by decide +kernel, by decide +kernel⟩, List.mem_of_getElem? (i := 51) (by decide +kernel), List.mem_of_getElem? (i := 554) (by decide +kernel), List.mem_of_getElem? (i := 555) (by decide +kernel)⟩
def lw_privs_2 : List (MethodName × Nat) := [(⟨"NearGroups$BestRows", "weighTrial", "(LNearGroups$Table;III)V"⟩, 6), (⟨"NearGroups$BestRows", "nearestBest", "(LNearGroups$Table;II)I"⟩, 6), (⟨"NearGroups$DenseRows", "rowsWithin", "(LNearGroups$Table;III)I"⟩, 3), (⟨"NearGroups$DenseRows", "spreadFrom", "(LNearGroups$Table;IIII)V"⟩, 3), (⟨"NearGroups$DenseRows", "leastGroupWithin", "(LNearGroups$Table;III)I"⟩, 3), (⟨"NearGroups$Joins", "placeRows", "(LNearGroups$Table;I)V"⟩, 12), (⟨"NearGroups$Joins", "findNearest", "(LNearGroups$Table;)V"⟩, 12), (⟨"NearGroups$Joins", "gapAbove", "(LNearGroups$Table;II)J"⟩, 12), (⟨"NearGroups$Joins", "gapBelow", "(II)J"⟩, 12), (⟨"NearGroups$Joins", "merge", "(LNearGroups$Table;II)V"⟩, 12), (⟨"NearGroups$Joins", "gapToBoth", "(JJ)J"⟩, 12), (⟨"NearGroups$Joins", "numberByLeastRows", "(I)V"⟩, 12), (⟨"NearGroups", "refusalOfGroup", "(II)I"⟩, 7), (⟨"NearGroups", "reckonMean", "(LNearGroups$Grouping;II)V"⟩, 7), (⟨"NearGroups", "reckonSum", "(LNearGroups$Grouping;)V"⟩, 7), (⟨"NearGroups$Grouping", "totalOfSquares", "(LNearGroups$Table;II)J"⟩, 4)]
theorem lw_r2 : ∀ q ∈ lw_privs_2, lw_okq q := List.forall_mem_cons.mpr ⟨lw_p16, List.forall_mem_cons.mpr ⟨lw_p17, List.forall_mem_cons.mpr ⟨lw_p18, List.forall_mem_cons.mpr ⟨lw_p19, List.forall_mem_cons.mpr ⟨lw_p20, List.forall_mem_cons.mpr ⟨lw_p21, List.forall_mem_cons.mpr ⟨lw_p22, List.forall_mem_cons.mpr ⟨lw_p23, List.forall_mem_cons.mpr ⟨lw_p24, List.forall_mem_cons.mpr ⟨lw_p25, List.forall_mem_cons.mpr ⟨lw_p26, List.forall_mem_cons.mpr ⟨lw_p27, List.forall_mem_cons.mpr ⟨lw_p28, List.forall_mem_cons.mpr ⟨lw_p29, List.forall_mem_cons.mpr ⟨lw_p30, List.forall_mem_cons.mpr ⟨lw_p31, fun _ h => absurd h List.not_mem_nil⟩⟩⟩⟩⟩⟩⟩⟩⟩⟩⟩⟩⟩⟩⟩⟩
theorem lw_p32 : lw_okq (⟨"NearGroups", "reckonWell", "(LNearGroups$Grouping;II)V"⟩, 7) := ⟨⟨by decide +kernel, by decide +kernel⟩, List.mem_of_getElem? (i := 12) (by decide +kernel), List.mem_of_getElem? (i := 568) (by decide +kernel), List.mem_of_getElem? (i := 569) (by decide +kernel)⟩
theorem lw_p33 : lw_okq (⟨"NearGroups", "nearestOtherGroup", "(LNearGroups$Grouping;II)I"⟩, 7) := ⟨⟨by decide +kernel, by decide +kernel⟩, List.mem_of_getElem? (i := 12) (by decide +kernel), List.mem_of_getElem? (i := 572) (by decide +kernel), List.mem_of_getElem? (i := 573) (by decide +kernel)⟩
theorem lw_p34 : lw_okq (⟨"NearGroups", "agreementOf", "(II)I"⟩, 7) := ⟨⟨by decide +kernel, by decide +kernel⟩, List.mem_of_getElem? (i := 12) (by decide +kernel), List.mem_of_getElem? (i := 587) (by decide +kernel), List.mem_of_getElem? (i := 588) (by decide +kernel)⟩
theorem lw_p35 : lw_okq (⟨"NearGroupsModel", "forget", "()V"⟩, 29) := ⟨⟨by decide +kernel, by decide +kernel⟩, List.mem_of_getElem? (i := 595) (by decide +kernel), List.mem_of_getElem? (i := 703) (by decide +kernel), List.mem_of_getElem? (i := 704) (by decide +kernel)⟩
theorem lw_p36 : lw_okq (⟨"NearGroupsModel", "isRow", "(I)Z"⟩, 29) := ⟨⟨by decide +kernel, by decide +kernel⟩, List.mem_of_getElem? (i := 595) (by decide +kernel), List.mem_of_getElem? (i := 719) (by decide +kernel), List.mem_of_getElem? (i := 720) (by decide +kernel)⟩
theorem lw_p37 : lw_okq (⟨"NearGroupsModel", "apart", "(III)I"⟩, 29) := ⟨⟨by decide +kernel, by decide +kernel⟩, List.mem_of_getElem? (i := 595) (by decide +kernel), List.mem_of_getElem? (i := 724) (by decide +kernel), List.mem_of_getElem? (i := 725) (by decide +kernel)⟩
theorem lw_p38 : lw_okq (⟨"NearGroupsModel", "lay", "(I)V"⟩, 29) := ⟨⟨by decide +kernel, by decide +kernel⟩, List.mem_of_getElem? (i := 595) (by decide +kernel), List.mem_of_getElem? (i := 732) (by decide +kernel), List.mem_of_getElem? (i := 733) (by decide +kernel)⟩
theorem lw_p39 : lw_okq (⟨"NearGroupsModel", "chooseFirst", "(I)V"⟩, 29) := ⟨⟨by decide +kernel, by decide +kernel⟩, List.mem_of_getElem? (i := 595) (by decide +kernel), List.mem_of_getElem? (i := 740) (by decide +kernel), List.mem_of_getElem? (i := 741) (by decide +kernel)⟩
theorem lw_p40 : lw_okq (⟨"NearGroupsModel", "farthest", "()I"⟩, 29) := ⟨⟨by decide +kernel, by decide +kernel⟩, List.mem_of_getElem? (i := 595) (by decide +kernel), List.mem_of_getElem? (i := 744) (by decide +kernel), List.mem_of_getElem? (i := 745) (by decide +kernel)⟩
theorem lw_p41 : lw_okq (⟨"NearGroupsModel", "isNearer", "(IIII)Z"⟩, 29) := ⟨⟨by decide +kernel, by decide +kernel⟩, List.mem_of_getElem? (i := 595) (by decide +kernel), List.mem_of_getElem? (i := 748) (by decide +kernel), List.mem_of_getElem? (i := 749) (by decide +kernel)⟩
theorem lw_p42 : lw_okq (⟨"NearGroupsModel", "square", "(II)J"⟩, 29) := ⟨⟨by decide +kernel, by decide +kernel⟩, List.mem_of_getElem? (i := 595) (by decide +kernel), List.mem_of_getElem? (i := 752) (by decide +kernel), List.mem_of_getElem? (i := 753) (by decide +kernel)⟩
theorem lw_p43 : lw_okq (⟨"NearGroupsModel", "fill", "(I)V"⟩, 29) := ⟨⟨by decide +kernel, by decide +kernel⟩, List.mem_of_getElem? (i := 595) (by decide +kernel), List.mem_of_getElem? (i := 756) (by decide +kernel), List.mem_of_getElem? (i := 757) (by decide +kernel)⟩
theorem lw_p44 : lw_okq (⟨"NearGroupsModel", "sizeNow", "(I)I"⟩, 29) := ⟨⟨by decide +kernel, by decide +kernel⟩, List.mem_of_getElem? (i := 595) (by decide +kernel), List.mem_of_getElem? (i := 760) (by decide +kernel), List.mem_of_getElem? (i := 761) (by decide +kernel)⟩
theorem lw_p45 : lw_okq (⟨"NearGroupsModel", "takeMeans", "(I)V"⟩, 29) := ⟨⟨by decide +kernel, by decide +kernel⟩, List.mem_of_getElem? (i := 595) (by decide +kernel), List.mem_of_getElem? (i := 764) (by decide +kernel), List.mem_of_getElem? (i := 765) (by decide +kernel)⟩
theorem lw_p46 : lw_okq (⟨"NearGroupsModel", "sumOf", "(IIII)I"⟩, 29) := ⟨⟨by decide +kernel, by decide +kernel⟩, List.mem_of_getElem? (i := 595) (by decide +kernel), List.mem_of_getElem? (i := 772) (by decide +kernel), List.mem_of_getElem? (i := 773) (by decide +kernel)⟩
theorem lw_p47 : lw_okq (⟨"NearGroupsModel", "nearestOf", "(IIIII)I"⟩, 29) := ⟨⟨by decide +kernel, by decide +kernel⟩, List.mem_of_getElem? (i := 595) (by decide +kernel), List.mem_of_getElem? (i := 776) (by decide +kernel), List.mem_of_getElem? (i := 777) (by decide +kernel)⟩
def lw_privs_3 : List (MethodName × Nat) := [(⟨"NearGroups", "reckonWell", "(LNearGroups$Grouping;II)V"⟩, 7), (⟨"NearGroups", "nearestOtherGroup", "(LNearGroups$Grouping;II)I"⟩, 7), (⟨"NearGroups", "agreementOf", "(II)I"⟩, 7), (⟨"NearGroupsModel", "forget", "()V"⟩, 29), (⟨"NearGroupsModel", "isRow", "(I)Z"⟩, 29), (⟨"NearGroupsModel", "apart", "(III)I"⟩, 29), (⟨"NearGroupsModel", "lay", "(I)V"⟩, 29), (⟨"NearGroupsModel", "chooseFirst", "(I)V"⟩, 29), (⟨"NearGroupsModel", "farthest", "()I"⟩, 29), (⟨"NearGroupsModel", "isNearer", "(IIII)Z"⟩, 29), (⟨"NearGroupsModel", "square", "(II)J"⟩, 29), (⟨"NearGroupsModel", "fill", "(I)V"⟩, 29), (⟨"NearGroupsModel", "sizeNow", "(I)I"⟩, 29), (⟨"NearGroupsModel", "takeMeans", "(I)V"⟩, 29), (⟨"NearGroupsModel", "sumOf", "(IIII)I"⟩, 29), (⟨"NearGroupsModel", "nearestOf", "(IIIII)I"⟩, 29)]
theorem lw_r3 : ∀ q ∈ lw_privs_3, lw_okq q := List.forall_mem_cons.mpr ⟨lw_p32, List.forall_mem_cons.mpr ⟨lw_p33, List.forall_mem_cons.mpr ⟨lw_p34, List.forall_mem_cons.mpr ⟨lw_p35, List.forall_mem_cons.mpr ⟨lw_p36, List.forall_mem_cons.mpr ⟨lw_p37, List.forall_mem_cons.mpr ⟨lw_p38, List.forall_mem_cons.mpr ⟨lw_p39, List.forall_mem_cons.mpr ⟨lw_p40, List.forall_mem_cons.mpr ⟨lw_p41, List.forall_mem_cons.mpr ⟨lw_p42, List.forall_mem_cons.mpr ⟨lw_p43, List.forall_mem_cons.mpr ⟨lw_p44, List.forall_mem_cons.mpr ⟨lw_p45, List.forall_mem_cons.mpr ⟨lw_p46, List.forall_mem_cons.mpr ⟨lw_p47, fun _ h => absurd h List.not_mem_nil⟩⟩⟩⟩⟩⟩⟩⟩⟩⟩⟩⟩⟩⟩⟩⟩
theorem lw_p48 : lw_okq (⟨"NearGroupsModel", "spread", "(III)V"⟩, 29) := ⟨⟨by decide +kernel, by decide +kernel⟩, List.mem_of_getElem? (i := 595) (by decide +kernel), List.mem_of_getElem? (i := 789) (by decide +kernel), List.mem_of_getElem? (i := 790) (by decide +kernel)⟩
theorem lw_p49 : lw_okq (⟨"NearGroupsModel", "joinNext", "(I)V"⟩, 29) := ⟨⟨by decide +kernel, by decide +kernel⟩, List.mem_of_getElem? (i := 595) (by decide +kernel), List.mem_of_getElem? (i := 797) (by decide +kernel), List.mem_of_getElem? (i := 798) (by decide +kernel)⟩
theorem lw_p50 : lw_okq (⟨"NearGroupsModel", "gather", "()V"⟩, 29) := ⟨⟨by decide +kernel, by decide +kernel⟩, List.mem_of_getElem? (i := 595) (by decide +kernel), List.mem_of_getElem? (i := 801) (by decide +kernel), List.mem_of_getElem? (i := 802) (by decide +kernel)⟩
theorem lw_p51 : lw_okq (⟨"NearGroupsModel", "apartOf", "(III)V"⟩, 29) := ⟨⟨by decide +kernel, by decide +kernel⟩, List.mem_of_getElem? (i := 595) (by decide +kernel), List.mem_of_getElem? (i := 806) (by decide +kernel), List.mem_of_getElem? (i := 807) (by decide +kernel)⟩
theorem lw_p52 : lw_okq (⟨"NearGroupsModel", "of0", "(II)I"⟩, 29) := ⟨⟨by decide +kernel, by decide +kernel⟩, List.mem_of_getElem? (i := 595) (by decide +kernel), List.mem_of_getElem? (i := 827) (by decide +kernel), List.mem_of_getElem? (i := 828) (by decide +kernel)⟩
theorem lw_p53 : lw_okq (⟨"NearGroupsModel", "refused", "(II)I"⟩, 29) := ⟨⟨by decide +kernel, by decide +kernel⟩, List.mem_of_getElem? (i := 595) (by decide +kernel), List.mem_of_getElem? (i := 835) (by decide +kernel), List.mem_of_getElem? (i := 836) (by decide +kernel)⟩
theorem lw_p54 : lw_okq (⟨"NearGroupsModel", "sizeIn", "(II)I"⟩, 29) := ⟨⟨by decide +kernel, by decide +kernel⟩, List.mem_of_getElem? (i := 595) (by decide +kernel), List.mem_of_getElem? (i := 839) (by decide +kernel), List.mem_of_getElem? (i := 840) (by decide +kernel)⟩
theorem lw_p55 : lw_okq (⟨"NearGroupsModel", "sumIn", "(III)J"⟩, 29) := ⟨⟨by decide +kernel, by decide +kernel⟩, List.mem_of_getElem? (i := 595) (by decide +kernel), List.mem_of_getElem? (i := 847) (by decide +kernel), List.mem_of_getElem? (i := 848) (by decide +kernel)⟩
theorem lw_p56 : lw_okq (⟨"NearGroupsModel", "farFrom", "(IIII)J"⟩, 29) := ⟨⟨by decide +kernel, by decide +kernel⟩, List.mem_of_getElem? (i := 595) (by decide +kernel), List.mem_of_getElem? (i := 860) (by decide +kernel), List.mem_of_getElem? (i := 861) (by decide +kernel)⟩
def lw_privs_4 : List (MethodName × Nat) := [(⟨"NearGroupsModel", "spread", "(III)V"⟩, 29), (⟨"NearGroupsModel", "joinNext", "(I)V"⟩, 29), (⟨"NearGroupsModel", "gather", "()V"⟩, 29), (⟨"NearGroupsModel", "apartOf", "(III)V"⟩, 29), (⟨"NearGroupsModel", "of0", "(II)I"⟩, 29), (⟨"NearGroupsModel", "refused", "(II)I"⟩, 29), (⟨"NearGroupsModel", "sizeIn", "(II)I"⟩, 29), (⟨"NearGroupsModel", "sumIn", "(III)J"⟩, 29), (⟨"NearGroupsModel", "farFrom", "(IIII)J"⟩, 29)]
theorem lw_r4 : ∀ q ∈ lw_privs_4, lw_okq q := List.forall_mem_cons.mpr ⟨lw_p48, List.forall_mem_cons.mpr ⟨lw_p49, List.forall_mem_cons.mpr ⟨lw_p50, List.forall_mem_cons.mpr ⟨lw_p51, List.forall_mem_cons.mpr ⟨lw_p52, List.forall_mem_cons.mpr ⟨lw_p53, List.forall_mem_cons.mpr ⟨lw_p54, List.forall_mem_cons.mpr ⟨lw_p55, List.forall_mem_cons.mpr ⟨lw_p56, fun _ h => absurd h List.not_mem_nil⟩⟩⟩⟩⟩⟩⟩⟩⟩
def lw_privs : List (MethodName × Nat) := lw_privs_1 ++ (lw_privs_2 ++ (lw_privs_3 ++ (lw_privs_4)))
def lw_tbl : List Cond := k2_sels lw_privs ++ tables_1
theorem lw_privs_ok : ∀ q ∈ lw_privs, lw_okq q := by
  show ∀ q ∈ lw_privs_1 ++ (lw_privs_2 ++ (lw_privs_3 ++ (lw_privs_4))), lw_okq q
  exact List.forall_mem_append.mpr ⟨lw_r1, List.forall_mem_append.mpr ⟨lw_r2, List.forall_mem_append.mpr ⟨lw_r3, lw_r4⟩⟩⟩
end
section
def RX0 : String := "NearGroups$BestRows"
def TX0 : u_T := fun k => match k with
  | 0 => ("NearGroups$BestRows", "labels", "[I", true)
  | 1 => ("NearGroups$BestRows", "best", "[I", true)
  | 2 => ("NearGroups$BestRows", "trial", "[I", true)
  | 3 => ("NearGroups$BestRows", "leasts", "[I", true)
  | 4 => ("NearGroups$BestRows", "wanted", "I", false)
  | _ => ("NearGroups$BestRows", "bestTotal", "I", false)
def tyX0 : Nat → FieldType := fun k => match k with
  | 0 => .array .int
  | 1 => .array .int
  | 2 => .array .int
  | 3 => .array .int
  | 4 => .int
  | _ => .int
abbrev wsX00 : List Cond := u_ws RX0 TX0 6
theorem nmX0 : ∀ a, a < 6 → ∀ b, b < 6 → a ≠ b → (TX0 a).2.1 ≠ (TX0 b).2.1 := by decide +kernel
theorem tyX0_ok : ∀ k, k < 6 → parseFieldDescriptor (TX0 k).2.2.1 = some (tyX0 k) := by decide +kernel
abbrev cX0_init : ByteArray := prog_2_method_1_code
def yX0_init : MethodName := ⟨RX0, "<init>", "()V"⟩
abbrev cX0_search : ByteArray := prog_2_method_2_code
def yX0_search : MethodName := ⟨RX0, "search", "(LNearGroups$Table;II)I"⟩
abbrev cX0_tryRows : ByteArray := prog_2_method_3_code
def yX0_tryRows : MethodName := ⟨RX0, "tryRows", "(LNearGroups$Table;III)V"⟩
abbrev cX0_lowerLeasts : ByteArray := prog_2_method_4_code
def yX0_lowerLeasts : MethodName := ⟨RX0, "lowerLeasts", "(LNearGroups$Table;III)V"⟩
abbrev cX0_weighTrial : ByteArray := prog_2_method_5_code
def yX0_weighTrial : MethodName := ⟨RX0, "weighTrial", "(LNearGroups$Table;III)V"⟩
abbrev cX0_nearestBest : ByteArray := prog_2_method_6_code
def yX0_nearestBest : MethodName := ⟨RX0, "nearestBest", "(LNearGroups$Table;II)I"⟩
def RX1 : String := "NearGroups$DenseRows"
def TX1 : u_T := fun k => match k with
  | 0 => ("NearGroups$DenseRows", "labels", "[I", true)
  | 1 => ("NearGroups$DenseRows", "cores", "[Z", true)
  | _ => ("NearGroups$DenseRows", "waiting", "[I", true)
def tyX1 : Nat → FieldType := fun k => match k with
  | 0 => .array .int
  | 1 => .array .boolean
  | _ => .array .int
abbrev wsX10 : List Cond := u_ws RX1 TX1 3
theorem nmX1 : ∀ a, a < 3 → ∀ b, b < 3 → a ≠ b → (TX1 a).2.1 ≠ (TX1 b).2.1 := by decide +kernel
theorem tyX1_ok : ∀ k, k < 3 → parseFieldDescriptor (TX1 k).2.2.1 = some (tyX1 k) := by decide +kernel
abbrev cX1_init : ByteArray := prog_3_method_1_code
def yX1_init : MethodName := ⟨RX1, "<init>", "()V"⟩
abbrev cX1_spread : ByteArray := prog_3_method_2_code
def yX1_spread : MethodName := ⟨RX1, "spread", "(LNearGroups$Table;III)I"⟩
abbrev cX1_rowsWithin : ByteArray := prog_3_method_3_code
def yX1_rowsWithin : MethodName := ⟨RX1, "rowsWithin", "(LNearGroups$Table;III)I"⟩
abbrev cX1_spreadFrom : ByteArray := prog_3_method_4_code
def yX1_spreadFrom : MethodName := ⟨RX1, "spreadFrom", "(LNearGroups$Table;IIII)V"⟩
abbrev cX1_leastGroupWithin : ByteArray := prog_3_method_5_code
def yX1_leastGroupWithin : MethodName := ⟨RX1, "leastGroupWithin", "(LNearGroups$Table;III)I"⟩
def RX2 : String := "NearGroups$Fraction"
def TX2 : u_T := fun k => match k with
  | 0 => ("NearGroups$Fraction", "above", "J", false)
  | _ => ("NearGroups$Fraction", "below", "J", false)
def tyX2 : Nat → FieldType := fun k => match k with
  | 0 => .long
  | _ => .long
abbrev wsX20 : List Cond := u_ws RX2 TX2 2
theorem nmX2 : ∀ a, a < 2 → ∀ b, b < 2 → a ≠ b → (TX2 a).2.1 ≠ (TX2 b).2.1 := by decide +kernel
theorem tyX2_ok : ∀ k, k < 2 → parseFieldDescriptor (TX2 k).2.2.1 = some (tyX2 k) := by decide +kernel
abbrev cX2_init : ByteArray := prog_4_method_1_code
def yX2_init : MethodName := ⟨RX2, "<init>", "()V"⟩
abbrev cX2_put : ByteArray := prog_4_method_2_code
def yX2_put : MethodName := ⟨RX2, "put", "(JJ)V"⟩
abbrev cX2_add : ByteArray := prog_4_method_3_code
def yX2_add : MethodName := ⟨RX2, "add", "(JJ)V"⟩
abbrev cX2_part : ByteArray := prog_4_method_4_code
def yX2_part : MethodName := ⟨RX2, "part", "(I)J"⟩
abbrev cX2_commonDivisor : ByteArray := prog_4_method_5_code
def yX2_commonDivisor : MethodName := ⟨RX2, "commonDivisor", "(JJ)J"⟩
def RX3 : String := "NearGroups$Grouping"
def TX3 : u_T := fun k => match k with
  | 0 => ("NearGroups$Grouping", "groupOf", "[I", true)
  | 1 => ("NearGroups$Grouping", "sizes", "[I", true)
  | 2 => ("NearGroups$Grouping", "rows", "I", false)
  | _ => ("NearGroups$Grouping", "groups", "I", false)
def tyX3 : Nat → FieldType := fun k => match k with
  | 0 => .array .int
  | 1 => .array .int
  | 2 => .int
  | _ => .int
abbrev wsX30 : List Cond := u_ws RX3 TX3 4
theorem nmX3 : ∀ a, a < 4 → ∀ b, b < 4 → a ≠ b → (TX3 a).2.1 ≠ (TX3 b).2.1 := by decide +kernel
theorem tyX3_ok : ∀ k, k < 4 → parseFieldDescriptor (TX3 k).2.2.1 = some (tyX3 k) := by decide +kernel
abbrev cX3_init : ByteArray := prog_5_method_1_code
def yX3_init : MethodName := ⟨RX3, "<init>", "()V"⟩
abbrev cX3_isEmpty : ByteArray := prog_5_method_2_code
def yX3_isEmpty : MethodName := ⟨RX3, "isEmpty", "()Z"⟩
abbrev cX3_fill : ByteArray := prog_5_method_3_code
def yX3_fill : MethodName := ⟨RX3, "fill", "([III)V"⟩
abbrev cX3_holdsBoth : ByteArray := prog_5_method_4_code
def yX3_holdsBoth : MethodName := ⟨RX3, "holdsBoth", "(II)Z"⟩
abbrev cX3_total : ByteArray := prog_5_method_5_code
def yX3_total : MethodName := ⟨RX3, "total", "(LNearGroups$Table;II)J"⟩
abbrev cX3_squaresTimesSize : ByteArray := prog_5_method_6_code
def yX3_squaresTimesSize : MethodName := ⟨RX3, "squaresTimesSize", "(LNearGroups$Table;I)J"⟩
abbrev cX3_distancesTo : ByteArray := prog_5_method_7_code
def yX3_distancesTo : MethodName := ⟨RX3, "distancesTo", "(LNearGroups$Table;III)J"⟩
abbrev cX3_totalOfSquares : ByteArray := prog_5_method_8_code
def yX3_totalOfSquares : MethodName := ⟨RX3, "totalOfSquares", "(LNearGroups$Table;II)J"⟩
def RX4 : String := "NearGroups$Joins"
def TX4 : u_T := fun k => match k with
  | 0 => ("NearGroups$Joins", "firsts", "[I", true)
  | 1 => ("NearGroups$Joins", "seconds", "[I", true)
  | 2 => ("NearGroups$Joins", "together", "[I", true)
  | 3 => ("NearGroups$Joins", "aboves", "[J", true)
  | 4 => ("NearGroups$Joins", "belows", "[J", true)
  | 5 => ("NearGroups$Joins", "labels", "[I", true)
  | 6 => ("NearGroups$Joins", "sizes", "[I", true)
  | 7 => ("NearGroups$Joins", "totals", "[J", true)
  | 8 => ("NearGroups$Joins", "gaps", "[J", true)
  | 9 => ("NearGroups$Joins", "told", "LNearGroups$Fraction;", true)
  | 10 => ("NearGroups$Joins", "way", "I", false)
  | _ => ("NearGroups$Joins", "made", "I", false)
def tyX4 : Nat → FieldType := fun k => match k with
  | 0 => .array .int
  | 1 => .array .int
  | 2 => .array .int
  | 3 => .array .long
  | 4 => .array .long
  | 5 => .array .int
  | 6 => .array .int
  | 7 => .array .long
  | 8 => .array .long
  | 9 => .object "NearGroups$Fraction"
  | 10 => .int
  | _ => .int
abbrev wsX40 : List Cond := u_ws RX4 TX4 12
theorem nmX4 : ∀ a, a < 12 → ∀ b, b < 12 → a ≠ b → (TX4 a).2.1 ≠ (TX4 b).2.1 := by decide +kernel
theorem tyX4_ok : ∀ k, k < 12 → parseFieldDescriptor (TX4 k).2.2.1 = some (tyX4 k) := by decide +kernel
abbrev cX4_init : ByteArray := prog_6_method_1_code
def yX4_init : MethodName := ⟨RX4, "<init>", "()V"⟩
abbrev cX4_build : ByteArray := prog_6_method_2_code
def yX4_build : MethodName := ⟨RX4, "build", "(LNearGroups$Table;II)I"⟩
abbrev cX4_split : ByteArray := prog_6_method_3_code
def yX4_split : MethodName := ⟨RX4, "split", "(II)V"⟩
abbrev cX4_numberByLeastRows : ByteArray := prog_6_method_4_code
def yX4_numberByLeastRows : MethodName := ⟨RX4, "numberByLeastRows", "(I)V"⟩
abbrev cX4_placeRows : ByteArray := prog_6_method_5_code
def yX4_placeRows : MethodName := ⟨RX4, "placeRows", "(LNearGroups$Table;I)V"⟩
abbrev cX4_findNearest : ByteArray := prog_6_method_6_code
def yX4_findNearest : MethodName := ⟨RX4, "findNearest", "(LNearGroups$Table;)V"⟩
abbrev cX4_gapAbove : ByteArray := prog_6_method_7_code
def yX4_gapAbove : MethodName := ⟨RX4, "gapAbove", "(LNearGroups$Table;II)J"⟩
abbrev cX4_gapBelow : ByteArray := prog_6_method_8_code
def yX4_gapBelow : MethodName := ⟨RX4, "gapBelow", "(II)J"⟩
abbrev cX4_merge : ByteArray := prog_6_method_9_code
def yX4_merge : MethodName := ⟨RX4, "merge", "(LNearGroups$Table;II)V"⟩
abbrev cX4_gapToBoth : ByteArray := prog_6_method_10_code
def yX4_gapToBoth : MethodName := ⟨RX4, "gapToBoth", "(JJ)J"⟩
def RX5 : String := "NearGroups$MeanRounds"
def TX5 : u_T := fun k => match k with
  | 0 => ("NearGroups$MeanRounds", "labels", "[I", true)
  | 1 => ("NearGroups$MeanRounds", "before", "[I", true)
  | 2 => ("NearGroups$MeanRounds", "sizes", "[I", true)
  | 3 => ("NearGroups$MeanRounds", "totals", "[I", true)
  | 4 => ("NearGroups$MeanRounds", "divisors", "[I", true)
  | 5 => ("NearGroups$MeanRounds", "leasts", "[I", true)
  | _ => ("NearGroups$MeanRounds", "groups", "I", false)
def tyX5 : Nat → FieldType := fun k => match k with
  | 0 => .array .int
  | 1 => .array .int
  | 2 => .array .int
  | 3 => .array .int
  | 4 => .array .int
  | 5 => .array .int
  | _ => .int
abbrev wsX50 : List Cond := u_ws RX5 TX5 7
theorem nmX5 : ∀ a, a < 7 → ∀ b, b < 7 → a ≠ b → (TX5 a).2.1 ≠ (TX5 b).2.1 := by decide +kernel
theorem tyX5_ok : ∀ k, k < 7 → parseFieldDescriptor (TX5 k).2.2.1 = some (tyX5 k) := by decide +kernel
abbrev cX5_init : ByteArray := prog_7_method_1_code
def yX5_init : MethodName := ⟨RX5, "<init>", "()V"⟩
abbrev cX5_run : ByteArray := prog_7_method_2_code
def yX5_run : MethodName := ⟨RX5, "run", "(LNearGroups$Table;I)I"⟩
abbrev cX5_chooseFirstMeans : ByteArray := prog_7_method_3_code
def yX5_chooseFirstMeans : MethodName := ⟨RX5, "chooseFirstMeans", "(LNearGroups$Table;)V"⟩
abbrev cX5_putFirstMean : ByteArray := prog_7_method_4_code
def yX5_putFirstMean : MethodName := ⟨RX5, "putFirstMean", "(LNearGroups$Table;II)V"⟩
abbrev cX5_farthestFromChosen : ByteArray := prog_7_method_5_code
def yX5_farthestFromChosen : MethodName := ⟨RX5, "farthestFromChosen", "(LNearGroups$Table;I)I"⟩
abbrev cX5_moveRows : ByteArray := prog_7_method_6_code
def yX5_moveRows : MethodName := ⟨RX5, "moveRows", "(LNearGroups$Table;)Z"⟩
abbrev cX5_nearestMean : ByteArray := prog_7_method_7_code
def yX5_nearestMean : MethodName := ⟨RX5, "nearestMean", "(LNearGroups$Table;I)I"⟩
abbrev cX5_takeFarthest : ByteArray := prog_7_method_8_code
def yX5_takeFarthest : MethodName := ⟨RX5, "takeFarthest", "(LNearGroups$Table;I)V"⟩
abbrev cX5_noteMoves : ByteArray := prog_7_method_9_code
def yX5_noteMoves : MethodName := ⟨RX5, "noteMoves", "(I)Z"⟩
abbrev cX5_remakeMeans : ByteArray := prog_7_method_10_code
def yX5_remakeMeans : MethodName := ⟨RX5, "remakeMeans", "(LNearGroups$Table;)V"⟩
abbrev cX5_squaresAbove : ByteArray := prog_7_method_11_code
def yX5_squaresAbove : MethodName := ⟨RX5, "squaresAbove", "(LNearGroups$Table;II)J"⟩
abbrev cX5_squaresBelow : ByteArray := prog_7_method_12_code
def yX5_squaresBelow : MethodName := ⟨RX5, "squaresBelow", "(I)J"⟩
def RX6 : String := "NearGroups$Table"
def TX6 : u_T := fun k => match k with
  | 0 => ("NearGroups$Table", "cells", "[I", true)
  | 1 => ("NearGroups$Table", "distances", "[I", true)
  | 2 => ("NearGroups$Table", "width", "I", false)
  | _ => ("NearGroups$Table", "rows", "I", false)
def tyX6 : Nat → FieldType := fun k => match k with
  | 0 => .array .int
  | 1 => .array .int
  | 2 => .int
  | _ => .int
abbrev wsX60 : List Cond := u_ws RX6 TX6 4
theorem nmX6 : ∀ a, a < 4 → ∀ b, b < 4 → a ≠ b → (TX6 a).2.1 ≠ (TX6 b).2.1 := by decide +kernel
theorem tyX6_ok : ∀ k, k < 4 → parseFieldDescriptor (TX6 k).2.2.1 = some (tyX6 k) := by decide +kernel
abbrev cX6_init : ByteArray := prog_8_method_1_code
def yX6_init : MethodName := ⟨RX6, "<init>", "()V"⟩
abbrev cX6_takes : ByteArray := prog_8_method_2_code
def yX6_takes : MethodName := ⟨RX6, "takes", "(II)Z"⟩
abbrev cX6_append : ByteArray := prog_8_method_3_code
def yX6_append : MethodName := ⟨RX6, "append", "(IIII)I"⟩
abbrev cX6_cell : ByteArray := prog_8_method_4_code
def yX6_cell : MethodName := ⟨RX6, "cell", "(II)I"⟩
abbrev cX6_apart : ByteArray := prog_8_method_5_code
def yX6_apart : MethodName := ⟨RX6, "apart", "(III)I"⟩
abbrev cX6_placeOf : ByteArray := prog_8_method_6_code
def yX6_placeOf : MethodName := ⟨RX6, "placeOf", "(II)I"⟩
abbrev cX6_nearerThan : ByteArray := prog_8_method_7_code
def yX6_nearerThan : MethodName := ⟨RX6, "nearerThan", "(III)I"⟩
abbrev cX6_measure : ByteArray := prog_8_method_8_code
def yX6_measure : MethodName := ⟨RX6, "measure", "(II)V"⟩
abbrev cX6_note : ByteArray := prog_8_method_9_code
def yX6_note : MethodName := ⟨RX6, "note", "(IIII)V"⟩
def RX7 : String := "NearGroups"
def TX7 : u_T := fun k => match k with
  | 0 => ("NearGroups", "table", "LNearGroups$Table;", true)
  | 1 => ("NearGroups", "slots", "[LNearGroups$Grouping;", true)
  | 2 => ("NearGroups", "meanRounds", "LNearGroups$MeanRounds;", true)
  | 3 => ("NearGroups", "bestRows", "LNearGroups$BestRows;", true)
  | 4 => ("NearGroups", "denseRows", "LNearGroups$DenseRows;", true)
  | 5 => ("NearGroups", "joins", "LNearGroups$Joins;", true)
  | _ => ("NearGroups", "told", "LNearGroups$Fraction;", true)
def tyX7 : Nat → FieldType := fun k => match k with
  | 0 => .object "NearGroups$Table"
  | 1 => .array (.object "NearGroups$Grouping")
  | 2 => .object "NearGroups$MeanRounds"
  | 3 => .object "NearGroups$BestRows"
  | 4 => .object "NearGroups$DenseRows"
  | 5 => .object "NearGroups$Joins"
  | _ => .object "NearGroups$Fraction"
abbrev wsX70 : List Cond := u_ws RX7 TX7 7
theorem nmX7 : ∀ a, a < 7 → ∀ b, b < 7 → a ≠ b → (TX7 a).2.1 ≠ (TX7 b).2.1 := by decide +kernel
theorem tyX7_ok : ∀ k, k < 7 → parseFieldDescriptor (TX7 k).2.2.1 = some (tyX7 k) := by decide +kernel
abbrev cX7_init : ByteArray := prog_1_method_1_code
def yX7_init : MethodName := ⟨RX7, "<init>", "()V"⟩
abbrev cX7_columns : ByteArray := prog_1_method_2_code
def yX7_columns : MethodName := ⟨RX7, "columns", "(I)I"⟩
abbrev cX7_row : ByteArray := prog_1_method_3_code
def yX7_row : MethodName := ⟨RX7, "row", "(IIII)I"⟩
abbrev cX7_clear : ByteArray := prog_1_method_4_code
def yX7_clear : MethodName := ⟨RX7, "clear", "()I"⟩
abbrev cX7_count : ByteArray := prog_1_method_5_code
def yX7_count : MethodName := ⟨RX7, "count", "(I)I"⟩
abbrev cX7_distance : ByteArray := prog_1_method_6_code
def yX7_distance : MethodName := ⟨RX7, "distance", "(III)I"⟩
abbrev cX7_near : ByteArray := prog_1_method_7_code
def yX7_near : MethodName := ⟨RX7, "near", "(III)I"⟩
abbrev cX7_means : ByteArray := prog_1_method_8_code
def yX7_means : MethodName := ⟨RX7, "means", "(II)I"⟩
abbrev cX7_medoids : ByteArray := prog_1_method_9_code
def yX7_medoids : MethodName := ⟨RX7, "medoids", "(III)I"⟩
abbrev cX7_medoid : ByteArray := prog_1_method_10_code
def yX7_medoid : MethodName := ⟨RX7, "medoid", "(I)I"⟩
abbrev cX7_density : ByteArray := prog_1_method_11_code
def yX7_density : MethodName := ⟨RX7, "density", "(IIII)I"⟩
abbrev cX7_tree : ByteArray := prog_1_method_12_code
def yX7_tree : MethodName := ⟨RX7, "tree", "(II)I"⟩
abbrev cX7_join : ByteArray := prog_1_method_13_code
def yX7_join : MethodName := ⟨RX7, "join", "(II)J"⟩
abbrev cX7_cut : ByteArray := prog_1_method_14_code
def yX7_cut : MethodName := ⟨RX7, "cut", "(II)I"⟩
abbrev cX7_of : ByteArray := prog_1_method_15_code
def yX7_of : MethodName := ⟨RX7, "of", "(II)I"⟩
abbrev cX7_size : ByteArray := prog_1_method_16_code
def yX7_size : MethodName := ⟨RX7, "size", "(II)I"⟩
abbrev cX7_mean : ByteArray := prog_1_method_17_code
def yX7_mean : MethodName := ⟨RX7, "mean", "(IIII)I"⟩
abbrev cX7_sum : ByteArray := prog_1_method_18_code
def yX7_sum : MethodName := ⟨RX7, "sum", "(II)J"⟩
abbrev cX7_well : ByteArray := prog_1_method_19_code
def yX7_well : MethodName := ⟨RX7, "well", "(IIII)J"⟩
abbrev cX7_agree : ByteArray := prog_1_method_20_code
def yX7_agree : MethodName := ⟨RX7, "agree", "(I)I"⟩
abbrev cX7_forgetGroupings : ByteArray := prog_1_method_21_code
def yX7_forgetGroupings : MethodName := ⟨RX7, "forgetGroupings", "()V"⟩
abbrev cX7_isRow : ByteArray := prog_1_method_22_code
def yX7_isRow : MethodName := ⟨RX7, "isRow", "(I)Z"⟩
abbrev cX7_isKind : ByteArray := prog_1_method_23_code
def yX7_isKind : MethodName := ⟨RX7, "isKind", "(I)Z"⟩
abbrev cX7_isSlot : ByteArray := prog_1_method_24_code
def yX7_isSlot : MethodName := ⟨RX7, "isSlot", "(I)Z"⟩
abbrev cX7_isSide : ByteArray := prog_1_method_25_code
def yX7_isSide : MethodName := ⟨RX7, "isSide", "(I)Z"⟩
abbrev cX7_refusalOfGroup : ByteArray := prog_1_method_26_code
def yX7_refusalOfGroup : MethodName := ⟨RX7, "refusalOfGroup", "(II)I"⟩
abbrev cX7_reckonMean : ByteArray := prog_1_method_27_code
def yX7_reckonMean : MethodName := ⟨RX7, "reckonMean", "(LNearGroups$Grouping;II)V"⟩
abbrev cX7_reckonSum : ByteArray := prog_1_method_28_code
def yX7_reckonSum : MethodName := ⟨RX7, "reckonSum", "(LNearGroups$Grouping;)V"⟩
abbrev cX7_reckonWell : ByteArray := prog_1_method_29_code
def yX7_reckonWell : MethodName := ⟨RX7, "reckonWell", "(LNearGroups$Grouping;II)V"⟩
abbrev cX7_nearestOtherGroup : ByteArray := prog_1_method_30_code
def yX7_nearestOtherGroup : MethodName := ⟨RX7, "nearestOtherGroup", "(LNearGroups$Grouping;II)I"⟩
abbrev cX7_agreementOf : ByteArray := prog_1_method_31_code
def yX7_agreementOf : MethodName := ⟨RX7, "agreementOf", "(II)I"⟩
abbrev cX7_isLess : ByteArray := prog_1_method_32_code
def yX7_isLess : MethodName := ⟨RX7, "isLess", "(JJJJ)Z"⟩
def RX8 : String := "NearGroupsModel"
def TX8 : u_T := fun k => match k with
  | 0 => ("NearGroupsModel", "rows", "I", false)
  | 1 => ("NearGroupsModel", "columns", "I", false)
  | 2 => ("NearGroupsModel", "numbers", "[I", true)
  | 3 => ("NearGroupsModel", "isTold", "[Z", true)
  | 4 => ("NearGroupsModel", "groups", "[I", true)
  | 5 => ("NearGroupsModel", "groupOf", "[I", true)
  | 6 => ("NearGroupsModel", "medoidMany", "I", false)
  | 7 => ("NearGroupsModel", "medoids", "[I", true)
  | 8 => ("NearGroupsModel", "isTree", "Z", false)
  | 9 => ("NearGroupsModel", "joins", "I", false)
  | 10 => ("NearGroupsModel", "joinA", "[I", true)
  | 11 => ("NearGroupsModel", "joinB", "[I", true)
  | 12 => ("NearGroupsModel", "joinSize", "[I", true)
  | 13 => ("NearGroupsModel", "joinAbove", "[J", true)
  | 14 => ("NearGroupsModel", "joinBelow", "[J", true)
  | 15 => ("NearGroupsModel", "table", "[I", true)
  | 16 => ("NearGroupsModel", "sums", "[J", true)
  | 17 => ("NearGroupsModel", "many", "[I", true)
  | 18 => ("NearGroupsModel", "now", "[I", true)
  | 19 => ("NearGroupsModel", "chosen", "[Z", true)
  | 20 => ("NearGroupsModel", "isCore", "[Z", true)
  | 21 => ("NearGroupsModel", "cluster", "[I", true)
  | 22 => ("NearGroupsModel", "above", "J", false)
  | 23 => ("NearGroupsModel", "below", "J", false)
  | 24 => ("NearGroupsModel", "sizes", "[J", true)
  | 25 => ("NearGroupsModel", "columnSums", "[J", true)
  | 26 => ("NearGroupsModel", "least", "[J", true)
  | 27 => ("NearGroupsModel", "most", "[J", true)
  | _ => ("NearGroupsModel", "whole", "[J", true)
def tyX8 : Nat → FieldType := fun k => match k with
  | 0 => .int
  | 1 => .int
  | 2 => .array .int
  | 3 => .array .boolean
  | 4 => .array .int
  | 5 => .array .int
  | 6 => .int
  | 7 => .array .int
  | 8 => .boolean
  | 9 => .int
  | 10 => .array .int
  | 11 => .array .int
  | 12 => .array .int
  | 13 => .array .long
  | 14 => .array .long
  | 15 => .array .int
  | 16 => .array .long
  | 17 => .array .int
  | 18 => .array .int
  | 19 => .array .boolean
  | 20 => .array .boolean
  | 21 => .array .int
  | 22 => .long
  | 23 => .long
  | 24 => .array .long
  | 25 => .array .long
  | 26 => .array .long
  | 27 => .array .long
  | _ => .array .long
abbrev wsX80 : List Cond := u_ws RX8 TX8 29
theorem nmX8 : ∀ a, a < 29 → ∀ b, b < 29 → a ≠ b → (TX8 a).2.1 ≠ (TX8 b).2.1 := by decide +kernel
theorem tyX8_ok : ∀ k, k < 29 → parseFieldDescriptor (TX8 k).2.2.1 = some (tyX8 k) := by decide +kernel
abbrev cX8_init : ByteArray := prog_10_method_1_code
def yX8_init : MethodName := ⟨RX8, "<init>", "()V"⟩
abbrev cX8_within : ByteArray := prog_10_method_3_code
def yX8_within : MethodName := ⟨RX8, "within", "(III)Z"⟩
abbrev cX8_isRow : ByteArray := prog_10_method_4_code
def yX8_isRow : MethodName := ⟨RX8, "isRow", "(I)Z"⟩
abbrev cX8_common : ByteArray := prog_10_method_5_code
def yX8_common : MethodName := ⟨RX8, "common", "(JJ)J"⟩
abbrev cX8_forget : ByteArray := prog_10_method_6_code
def yX8_forget : MethodName := ⟨RX8, "forget", "()V"⟩
abbrev cX8_columns : ByteArray := prog_10_method_7_code
def yX8_columns : MethodName := ⟨RX8, "columns", "(I)I"⟩
abbrev cX8_row : ByteArray := prog_10_method_8_code
def yX8_row : MethodName := ⟨RX8, "row", "(IIII)I"⟩
abbrev cX8_clear : ByteArray := prog_10_method_9_code
def yX8_clear : MethodName := ⟨RX8, "clear", "()I"⟩
abbrev cX8_count : ByteArray := prog_10_method_10_code
def yX8_count : MethodName := ⟨RX8, "count", "(I)I"⟩
abbrev cX8_apart : ByteArray := prog_10_method_11_code
def yX8_apart : MethodName := ⟨RX8, "apart", "(III)I"⟩
abbrev cX8_lay : ByteArray := prog_10_method_12_code
def yX8_lay : MethodName := ⟨RX8, "lay", "(I)V"⟩
abbrev cX8_distance : ByteArray := prog_10_method_13_code
def yX8_distance : MethodName := ⟨RX8, "distance", "(III)I"⟩
abbrev cX8_near : ByteArray := prog_10_method_14_code
def yX8_near : MethodName := ⟨RX8, "near", "(III)I"⟩
abbrev cX8_chooseFirst : ByteArray := prog_10_method_15_code
def yX8_chooseFirst : MethodName := ⟨RX8, "chooseFirst", "(I)V"⟩
abbrev cX8_farthest : ByteArray := prog_10_method_16_code
def yX8_farthest : MethodName := ⟨RX8, "farthest", "()I"⟩
abbrev cX8_square : ByteArray := prog_10_method_17_code
def yX8_square : MethodName := ⟨RX8, "square", "(II)J"⟩
abbrev cX8_isNearer : ByteArray := prog_10_method_18_code
def yX8_isNearer : MethodName := ⟨RX8, "isNearer", "(IIII)Z"⟩
abbrev cX8_sizeNow : ByteArray := prog_10_method_19_code
def yX8_sizeNow : MethodName := ⟨RX8, "sizeNow", "(I)I"⟩
abbrev cX8_fill : ByteArray := prog_10_method_20_code
def yX8_fill : MethodName := ⟨RX8, "fill", "(I)V"⟩
abbrev cX8_takeMeans : ByteArray := prog_10_method_21_code
def yX8_takeMeans : MethodName := ⟨RX8, "takeMeans", "(I)V"⟩
abbrev cX8_means : ByteArray := prog_10_method_22_code
def yX8_means : MethodName := ⟨RX8, "means", "(II)I"⟩
abbrev cX8_nearestOf : ByteArray := prog_10_method_23_code
def yX8_nearestOf : MethodName := ⟨RX8, "nearestOf", "(IIIII)I"⟩
abbrev cX8_sumOf : ByteArray := prog_10_method_24_code
def yX8_sumOf : MethodName := ⟨RX8, "sumOf", "(IIII)I"⟩
abbrev cX8_medoids : ByteArray := prog_10_method_25_code
def yX8_medoids : MethodName := ⟨RX8, "medoids", "(III)I"⟩
abbrev cX8_medoid : ByteArray := prog_10_method_26_code
def yX8_medoid : MethodName := ⟨RX8, "medoid", "(I)I"⟩
abbrev cX8_density : ByteArray := prog_10_method_27_code
def yX8_density : MethodName := ⟨RX8, "density", "(IIII)I"⟩
abbrev cX8_spread : ByteArray := prog_10_method_28_code
def yX8_spread : MethodName := ⟨RX8, "spread", "(III)V"⟩
abbrev cX8_gather : ByteArray := prog_10_method_29_code
def yX8_gather : MethodName := ⟨RX8, "gather", "()V"⟩
abbrev cX8_apartOf : ByteArray := prog_10_method_30_code
def yX8_apartOf : MethodName := ⟨RX8, "apartOf", "(III)V"⟩
abbrev cX8_tree : ByteArray := prog_10_method_31_code
def yX8_tree : MethodName := ⟨RX8, "tree", "(II)I"⟩
abbrev cX8_joinNext : ByteArray := prog_10_method_32_code
def yX8_joinNext : MethodName := ⟨RX8, "joinNext", "(I)V"⟩
abbrev cX8_join : ByteArray := prog_10_method_33_code
def yX8_join : MethodName := ⟨RX8, "join", "(II)J"⟩
abbrev cX8_cut : ByteArray := prog_10_method_34_code
def yX8_cut : MethodName := ⟨RX8, "cut", "(II)I"⟩
abbrev cX8_of0 : ByteArray := prog_10_method_35_code
def yX8_of0 : MethodName := ⟨RX8, "of0", "(II)I"⟩
abbrev cX8_of : ByteArray := prog_10_method_36_code
def yX8_of : MethodName := ⟨RX8, "of", "(II)I"⟩
abbrev cX8_sizeIn : ByteArray := prog_10_method_37_code
def yX8_sizeIn : MethodName := ⟨RX8, "sizeIn", "(II)I"⟩
abbrev cX8_refused : ByteArray := prog_10_method_38_code
def yX8_refused : MethodName := ⟨RX8, "refused", "(II)I"⟩
abbrev cX8_size : ByteArray := prog_10_method_39_code
def yX8_size : MethodName := ⟨RX8, "size", "(II)I"⟩
abbrev cX8_sumIn : ByteArray := prog_10_method_40_code
def yX8_sumIn : MethodName := ⟨RX8, "sumIn", "(III)J"⟩
abbrev cX8_mean : ByteArray := prog_10_method_41_code
def yX8_mean : MethodName := ⟨RX8, "mean", "(IIII)I"⟩
abbrev cX8_sum : ByteArray := prog_10_method_42_code
def yX8_sum : MethodName := ⟨RX8, "sum", "(II)J"⟩
abbrev cX8_farFrom : ByteArray := prog_10_method_43_code
def yX8_farFrom : MethodName := ⟨RX8, "farFrom", "(IIII)J"⟩
abbrev cX8_well : ByteArray := prog_10_method_44_code
def yX8_well : MethodName := ⟨RX8, "well", "(IIII)J"⟩
abbrev cX8_agree : ByteArray := prog_10_method_45_code
def yX8_agree : MethodName := ⟨RX8, "agree", "(I)I"⟩
def RL : String := "NearGroupsLaw"
abbrev cL_law : ByteArray := code
def yL_law : MethodName := ⟨RL, "law", "([I)Z"⟩
abbrev vwCl : List vw_C := [(RX0, TX0, 6), (RX1, TX1, 3), (RX2, TX2, 2), (RX3, TX3, 4), (RX4, TX4, 12), (RX5, TX5, 7), (RX6, TX6, 4), (RX7, TX7, 7), (RX8, TX8, 29)]
end
section
-- the words of the tables that stand all through; those that only warm
abbrev qcl : List vw_C := vwCl
def qgr : String := "NearGroups$Grouping"
def qALL : List Cond := lw_tbl.filter goodWord
def qnest : Cond → Bool
  | .fieldLinkNest .. => true
  | .methodLinkNest .. => true
  | _ => false
def qNZ : List Cond := lw_tbl.filter qnest
theorem q_tab {w : Cond} (h : w ∈ qNZ) : w.onTables = true := by
  have h2 := (List.mem_filter.mp h).2
  cases w <;> first | rfl | (exact absurd h2 (by simp [qnest]))
/-! THE q LAYER: a machine over whole numbers. A state is: pc, locals, stack, and what the cells hold ('c k i': cell k, place i, a whole number); the cells lie at B, B + 1, .. and their kinds ('qL') stand apart from what they hold. 'qG' says: from such a state the machine comes to its end as Z says. -/
abbrev iR (z : Int) : Prop := -2147483648 ≤ z ∧ z ≤ 2147483647
abbrev lR (z : Int) : Prop := -9223372036854775808 ≤ z ∧ z ≤ 9223372036854775807
theorem q_it {z : Int} (h : iR z) : (Int32.ofInt z).toInt = z := Int32.toInt_ofInt_of_le (by omega) (by omega)
theorem q_lt {z : Int} (h : lR z) : (Int64.ofInt z).toInt = z := Int64.toInt_ofInt_of_le (by omega) (by omega)
theorem q_ofi (x : Int32) : iR x.toInt := ⟨by have := Int32.le_toInt x; omega, by have := Int32.toInt_lt x; omega⟩
theorem q_i0 : (0 : Int32) = Int32.ofInt 0 := by decide
theorem q_l0 : (0 : Int64) = Int64.ofInt 0 := by decide
theorem q_ilt {x y : Int} (hx : iR x) (hy : iR y) : Int32.ofInt x < Int32.ofInt y ↔ x < y := by rw [Int32.lt_iff_toInt_lt, q_it hx, q_it hy]
theorem q_ile {x y : Int} (hx : iR x) (hy : iR y) : Int32.ofInt x ≤ Int32.ofInt y ↔ x ≤ y := by rw [Int32.le_iff_toInt_le, q_it hx, q_it hy]
theorem q_ieq {x y : Int} (hx : iR x) (hy : iR y) : Int32.ofInt x = Int32.ofInt y ↔ x = y := by rw [← Int32.toInt_inj, q_it hx, q_it hy]
theorem q_llt {x y : Int} (hx : lR x) (hy : lR y) : Int64.ofInt x < Int64.ofInt y ↔ x < y := by rw [Int64.lt_iff_toInt_lt, q_lt hx, q_lt hy]
theorem q_leq {x y : Int} (hx : lR x) (hy : lR y) : Int64.ofInt x = Int64.ofInt y ↔ x = y := by rw [← Int64.toInt_inj, q_lt hx, q_lt hy]
theorem q_r0 : iR 0 := by omega
theorem q_i2l {z : Int} (h : iR z) : (Int32.ofInt z).toInt64 = Int64.ofInt z := Int32.toInt64_ofInt (by show (-2147483648 : Int) ≤ z; exact h.1) (by show z ≤ (2147483647 : Int); exact h.2)
theorem q_ldiv {a b : Int} (ha : lR a) (hb : lR b) : Int64.ofInt a / Int64.ofInt b = Int64.ofInt (a.tdiv b) := (Int64.ofInt_tdiv (by show (-9223372036854775808 : Int) ≤ a; exact ha.1) (by show a ≤ (9223372036854775807 : Int); exact ha.2) (by show (-9223372036854775808 : Int) ≤ b; exact hb.1) (by show b ≤ (9223372036854775807 : Int); exact hb.2)).symm
theorem q_lrem {a b : Int} (ha : lR a) (hb : lR b) : Int64.ofInt a - Int64.ofInt a / Int64.ofInt b * Int64.ofInt b = Int64.ofInt (a.tmod b) := by
  rw [q_ldiv ha hb, ← Int64.ofInt_mul, ← Int64.ofInt_sub]
  congr 1
  have := Int.tdiv_mul_add_tmod a b
  omega
theorem q_cl {z : Int} (h0 : 0 ≤ z) (h1 : z ≤ 2147483647) : (Int32.ofInt z).toNatClampNeg = z.toNat := Int32.toNatClampNeg_ofInt_of_le (by omega) (by omega)
theorem q_in {z : Int} {n : Nat} (h0 : 0 ≤ z) (h1 : z < n) (hn : n < 2147483648) : vp_in (Int32.ofInt z) n := by
  rw [vp_in_iff, q_it (by omega)]
  exact ⟨h0, h1⟩
theorem q_cmp {x y : Int} (hx : lR x) (hy : lR y) : lg_cmp (Int64.ofInt x) (Int64.ofInt y) = Int32.ofInt (if y < x then 1 else if x = y then 0 else -1) := by
  by_cases h1 : y < x
  · rw [if_pos h1]; simp [lg_cmp, (q_llt hy hx).mpr h1]; try decide
  · rw [if_neg h1]
    by_cases h2 : x = y
    · rw [if_pos h2]; subst h2; simp [lg_cmp]; try decide
    · rw [if_neg h2]
      have h3 : ¬ Int64.ofInt y < Int64.ofInt x := fun h => h1 ((q_llt hy hx).mp h)
      have h4 : ¬ Int64.ofInt x = Int64.ofInt y := fun h => h2 ((q_leq hx hy).mp h)
      simp [lg_cmp, h3, h4]; try decide
-- values, cells
abbrev qV : Type := Int ⊕ Int ⊕ Option Nat ⊕ Nat
def qI (z : Int) : qV := .inl z
def qJ (z : Int) : qV := .inr (.inl z)
def qP (k : Nat) : qV := .inr (.inr (.inl (some k)))
def qO (a : Nat) : qV := .inr (.inr (.inr a))
def qv (B : Nat) : qV → Value
  | .inl z => .int (Int32.ofInt z)
  | .inr (.inl z) => .long (Int64.ofInt z)
  | .inr (.inr (.inl none)) => .null
  | .inr (.inr (.inl (some k))) => .ref (B + k)
  | .inr (.inr (.inr a)) => .ref a
def qcat : qV → Nat
  | .inr (.inl _) => 2
  | _ => 1
theorem q_cat (B : Nat) (v : qV) : (qv B v).category = qcat v := by
  rcases v with z | z | (_ | k) | a <;> rfl
def qcs : List qV → Nat
  | [] => 0
  | v :: t => qcat v + qcs t
theorem q_cs (B : Nat) (st : List qV) : ((st.map (qv B)).map fun v => v.category).sum = qcs st := by
  induction st with
  | nil => rfl
  | cons v t ih => simp only [List.map_cons, List.sum_cons, ih, q_cat, qcs]
abbrev qF : Type := Option Nat ⊕ Nat
abbrev qL : Type := (Nat × Nat) ⊕ (Nat × (Nat → Option Nat)) ⊕ (Nat × List qF)
abbrev qS : Type := ClassId × ClassId × ClassId × ClassId
abbrev qC : Type := Nat → Int → Int
def qf (B : Nat) (z : Int) : qF → Value
  | .inl r => va_rf (r.map (B + ·))
  | .inr 1 => .long (Int64.ofInt z)
  | .inr _ => .int (Int32.ofInt z)
def qfs (B : Nat) (g : Int → Int) : Nat → List qF → List Value
  | _, [] => []
  | j, f :: t => qf B (g j) f :: qfs B g (j + 1) t
theorem q_fs (B : Nat) (g : Int → Int) (fs : List qF) : ∀ (j i : Nat), (qfs B g j fs)[i]? = (fs[i]?).map (qf B (g ((j + i : Nat) : Int))) := by
  induction fs with
  | nil => intro j i; simp [qfs]
  | cons f t ih =>
    intro j i
    cases i with
    | zero => simp [qfs]
    | succ i => simp only [qfs, List.getElem?_cons_succ, ih]; rw [show j + 1 + i = j + (i + 1) by omega]
theorem q_fsl (B : Nat) (g : Int → Int) (fs : List qF) : ∀ j : Nat, (qfs B g j fs).length = fs.length := by
  induction fs with
  | nil => intro j; rfl
  | cons f t ih => intro j; simp [qfs, ih]
def qE (B : Nat) (cs : qS) (g : Int → Int) : qL → va_E
  | .inl (0, n) => .inl (cs.1, n, .inl fun j => Int32.ofInt (g j))
  | .inl (1, n) => .inl (cs.2.1, n, .inr (.inl fun j => Int64.ofInt (g j)))
  | .inl (_, n) => .inl (cs.2.2.1, n, .inl fun j => Int32.ofInt (g j))
  | .inr (.inl (n, f)) => .inl (cs.2.2.2, n, .inr (.inr (.inr (.inr fun j => (f j).map (B + ·)))))
  | .inr (.inr (ci, fs)) => .inr (ci, qfs B g 0 fs)
def qu (c : qC) (k : Nat) (i x : Int) : qC := fun a => if a = k then (fun b => if b = i then x else c a b) else c a
theorem qu_ne {c : qC} {k a : Nat} {i x : Int} (h : a ≠ k) : qu c k i x a = c a := if_neg h
theorem qu_at (c : qC) (k : Nat) (i x j : Int) : qu c k i x k j = if j = i then x else c k j := by simp [qu]
theorem qu_eq (c : qC) (k : Nat) (i x : Int) : qu c k i x k i = x := by simp [qu]
theorem qu_off {c : qC} {k : Nat} {i x j : Int} (h : j ≠ i) : qu c k i x k j = c k j := by simp [qu, h]
def quL (L : Nat → qL) (k : Nat) (e : qL) : Nat → qL := fun a => if a = k then e else L a
def qtys (cs : qS) : List (ClassId × FieldType) := [(cs.1, .int), (cs.2.1, .long), (cs.2.2.1, .boolean), (cs.2.2.2, .object qgr)]
/-- the heap holds the cells -/
def qH (D : va_G) (cs : qS) (B : Nat) (L : Nat → qL) (n : Nat) (c : qC) (H : Heap) : Prop := H.size = B + n ∧ ∀ k, k < n → va_at D qcl (B + k, qE B cs (c k) (L k)) H
theorem qH.one {D : va_G} {cs : qS} {B : Nat} {L : Nat → qL} {n : Nat} {c : qC} {H : Heap} (h : qH D cs B L n c H) {k : Nat} (hk : k < n) {e : qL} (he : L k = e) : va_P D qcl [(B + k, qE B cs (c k) e)] H := by
  subst he
  intro j q hq
  cases j with
  | zero => cases hq; exact h.2 k hk
  | succ j => cases hq
theorem qH.set {D : va_G} {cs : qS} {B : Nat} {L L' : Nat → qL} {n : Nat} {c c' : qC} {H H1 : Heap} (h : qH D cs B L n c H) {k : Nat} (hz : H1.size = H.size) (ho : ∀ q, q ≠ B + k → H1[q]? = H[q]?) (ha : va_at D qcl (B + k, qE B cs (c' k) (L' k)) H1) (hc : ∀ j, j ≠ k → c' j = c j ∧ L' j = L j) : qH D cs B L' n c' H1 := by
  refine ⟨by rw [hz]; exact h.1, fun j hj => ?_⟩
  by_cases e : j = k
  · subst e; exact ha
  · rw [(hc j e).1, (hc j e).2]
    exact (h.2 j hj).kept (ho _ (by show B + j ≠ B + k; omega))
theorem qH.push {D : va_G} {cs : qS} {B : Nat} {L L' : Nat → qL} {n : Nat} {c c' : qC} {H H1 : Heap} (h : qH D cs B L n c H) (hz : H1.size = H.size + 1) (ho : ∀ q, q < H.size → H1[q]? = H[q]?) (ha : va_at D qcl (B + n, qE B cs (c' n) (L' n)) H1) (hc : ∀ j, j ≠ n → c' j = c j ∧ L' j = L j) : qH D cs B L' (n + 1) c' H1 := by
  refine ⟨by rw [hz, h.1]; omega, fun j hj => ?_⟩
  by_cases e : j = n
  · subst e; exact ha
  · rw [(hc j e).1, (hc j e).2]
    exact (h.2 j (by omega)).kept (ho _ (by show B + j < H.size; rw [h.1]; omega))
-- locals
def qLs (B : Nat) (ls : Array Slot) (lo : List (Option qV)) : Prop := ls.size = lo.length ∧ lv_wf ls ∧ ∀ (i : Nat) (v : qV), lo[i]? = some (some v) → ls[i]? = some (.val (qv B v))
def qlv (B : Nat) : Nat → List (Option qV) → List (Nat × Value)
  | _, [] => []
  | i, none :: t => qlv B (i + 1) t
  | i, some v :: t => (i, qv B v) :: qlv B (i + 1) t
theorem q_lvm (B : Nat) (lo : List (Option qV)) : ∀ (j i : Nat) (v : qV), lo[i]? = some (some v) → (j + i, qv B v) ∈ qlv B j lo := by
  induction lo with
  | nil => intro j i v h; cases h
  | cons a t ih =>
    intro j i v h
    cases i with
    | zero =>
      have e : a = some v := by simpa using h
      subst e
      exact List.mem_cons_self
    | succ i =>
      have h2 := ih (j + 1) i v (by simpa using h)
      rw [show j + 1 + i = j + (i + 1) by omega] at h2
      cases a with
      | none => exact h2
      | some u => exact List.mem_cons_of_mem _ h2
theorem q_lvo (B : Nat) (lo : List (Option qV)) : ∀ (j : Nat) (q : Nat × Value), q ∈ qlv B j lo → ∃ (i : Nat) (v : qV), lo[i]? = some (some v) ∧ q = (j + i, qv B v) := by
  induction lo with
  | nil => intro j q h; cases h
  | cons a t ih =>
    intro j q h
    cases a with
    | none =>
      obtain ⟨i, v, h1, h2⟩ := ih (j + 1) q h
      exact ⟨i + 1, v, by simpa using h1, by rw [h2, show j + 1 + i = j + (i + 1) by omega]⟩
    | some u =>
      rcases List.mem_cons.mp h with h | h
      · exact ⟨0, u, rfl, h⟩
      · obtain ⟨i, v, h1, h2⟩ := ih (j + 1) q h
        exact ⟨i + 1, v, by simpa using h1, by rw [h2, show j + 1 + i = j + (i + 1) by omega]⟩
theorem qLs.has {B : Nat} {ls : Array Slot} {lo : List (Option qV)} (h : qLs B ls lo) : lv_has ls lo.length (qlv B 0 lo) := by
  refine ⟨h.1, h.2.1, fun q hq => ?_⟩
  obtain ⟨i, v, h1, h2⟩ := q_lvo B lo 0 q hq
  subst h2
  have h3 := h.2.2 i v h1
  simpa using h3
theorem qLs.of {B : Nat} {ls : Array Slot} {lo : List (Option qV)} {l : List (Nat × Value)} (h : lv_has ls lo.length l) (hl : ∀ (i : Nat) (v : qV), lo[i]? = some (some v) → (i, qv B v) ∈ l) : qLs B ls lo :=
  ⟨h.1, h.2.1, fun i v hi => h.2.2 _ (hl i v hi)⟩
/-- is it a long? -/
def qlg : Option qV → Bool
  | some (.inr (.inl _)) => true
  | _ => false
/-- a value of one slot at place i -/
def qs1 (v : qV) : List (Option qV) → Nat → List (Option qV)
  | [], _ => []
  | _ :: t, 0 => some v :: t
  | a :: t, 1 => (if qlg a = true then none else a) :: qs1 v t 0
  | a :: t, i + 2 => a :: qs1 v t (i + 1)
/-- a value of two slots at place i -/
def qs2 (v : qV) : List (Option qV) → Nat → List (Option qV)
  | [], _ => []
  | _ :: [], 0 => [some v]
  | _ :: _ :: t, 0 => some v :: none :: t
  | a :: t, 1 => (if qlg a = true then none else a) :: qs2 v t 0
  | a :: t, i + 2 => a :: qs2 v t (i + 1)
theorem q_s1l (v : qV) : ∀ (lo : List (Option qV)) (i : Nat), (qs1 v lo i).length = lo.length
  | [], _ => rfl
  | _ :: _, 0 => rfl
  | a :: t, 1 => by simp [qs1, q_s1l v t 0]
  | a :: t, i + 2 => by simp [qs1, q_s1l v t (i + 1)]
theorem q_s2l (v : qV) : ∀ (lo : List (Option qV)) (i : Nat), (qs2 v lo i).length = lo.length
  | [], _ => rfl
  | _ :: [], 0 => rfl
  | _ :: _ :: _, 0 => rfl
  | a :: t, 1 => by simp [qs2, q_s2l v t 0]
  | a :: t, i + 2 => by simp [qs2, q_s2l v t (i + 1)]
theorem q_s1 (v : qV) : ∀ (lo : List (Option qV)) (i j : Nat) (u : qV), (qs1 v lo i)[j]? = some (some u) → (j = i ∧ u = v) ∨ (j ≠ i ∧ lo[j]? = some (some u) ∧ ¬ (j + 1 = i ∧ qcat u = 2))
  | [], i, j, u, h => by cases h
  | a :: t, 0, j, u, h => by
    cases j with
    | zero => left; refine ⟨rfl, ?_⟩; have : v = u := by simpa [qs1] using h
              exact this.symm
    | succ j => right; exact ⟨by omega, by simpa [qs1] using h, fun q => by omega⟩
  | a :: t, 1, j, u, h => by
    cases j with
    | zero =>
      right
      refine ⟨by omega, ?_, ?_⟩
      · by_cases ha : qlg a = true
        · simp [qs1, ha] at h
        · simpa [qs1, ha] using h
      · intro q
        by_cases ha : qlg a = true
        · simp [qs1, ha] at h
        · have e : a = some u := by simpa [qs1, ha] using h
          subst e
          rcases u with z | z | (_ | k) | b <;> simp [qcat, qlg] at q ha
    | succ j =>
      rcases q_s1 v t 0 j u (by simpa [qs1] using h) with ⟨h1, h2⟩ | ⟨h1, h2, h3⟩
      · left; exact ⟨by omega, h2⟩
      · right; exact ⟨by omega, by simpa using h2, fun q => by omega⟩
  | a :: t, i + 2, j, u, h => by
    cases j with
    | zero => right; exact ⟨by omega, by simpa [qs1] using h, fun q => by omega⟩
    | succ j =>
      rcases q_s1 v t (i + 1) j u (by simpa [qs1] using h) with ⟨h1, h2⟩ | ⟨h1, h2, h3⟩
      · left; exact ⟨by omega, h2⟩
      · right; exact ⟨by omega, by simpa using h2, fun q => h3 ⟨by omega, q.2⟩⟩
theorem q_s2 (v : qV) : ∀ (lo : List (Option qV)) (i j : Nat) (u : qV), (qs2 v lo i)[j]? = some (some u) → (j = i ∧ u = v) ∨ (j ≠ i ∧ j ≠ i + 1 ∧ lo[j]? = some (some u) ∧ ¬ (j + 1 = i ∧ qcat u = 2)) ∨ lo.length ≤ i + 1
  | [], i, j, u, h => by cases h
  | a :: [], 0, j, u, h => by right; right; simp
  | a :: b :: t, 0, j, u, h => by
    match j with
    | 0 => left; refine ⟨rfl, ?_⟩; have : v = u := by simpa [qs2] using h
           exact this.symm
    | 1 => simp [qs2] at h
    | j + 2 => right; left; exact ⟨by omega, by omega, by simpa [qs2] using h, fun q => by omega⟩
  | a :: t, 1, j, u, h => by
    cases j with
    | zero =>
      right; left
      refine ⟨by omega, by omega, ?_, ?_⟩
      · by_cases ha : qlg a = true
        · simp [qs2, ha] at h
        · simpa [qs2, ha] using h
      · intro q
        by_cases ha : qlg a = true
        · simp [qs2, ha] at h
        · have e : a = some u := by simpa [qs2, ha] using h
          subst e
          rcases u with z | z | (_ | k) | b <;> simp [qcat, qlg] at q ha
    | succ j =>
      rcases q_s2 v t 0 j u (by simpa [qs2] using h) with ⟨h1, h2⟩ | ⟨h1, h2, h3, h4⟩ | h1
      · left; exact ⟨by omega, h2⟩
      · right; left; exact ⟨by omega, by omega, by simpa using h3, fun q => by omega⟩
      · right; right; simp; omega
  | a :: t, i + 2, j, u, h => by
    cases j with
    | zero => right; left; exact ⟨by omega, by omega, by simpa [qs2] using h, fun q => by omega⟩
    | succ j =>
      rcases q_s2 v t (i + 1) j u (by simpa [qs2] using h) with ⟨h1, h2⟩ | ⟨h1, h2, h3, h4⟩ | h1
      · left; exact ⟨by omega, h2⟩
      · right; left; exact ⟨by omega, by omega, by simpa using h3, fun q => h4 ⟨by omega, q.2⟩⟩
      · right; right; simp; omega
theorem qLs.s1 {B : Nat} {ls : Array Slot} {lo : List (Option qV)} {i : Nat} {v : qV} (h : lv_has ls lo.length ((i, qv B v) :: (qlv B 0 lo).filter (fun q => !(q.1 == i) && !(q.1 + 1 == i && q.2.category == 2)))) : qLs B ls (qs1 v lo i) := by
  refine qLs.of (by rw [q_s1l]; exact h) (fun j u hj => ?_)
  rcases q_s1 v lo i j u hj with ⟨rfl, rfl⟩ | ⟨h1, h2, h3⟩
  · exact List.mem_cons_self
  · refine List.mem_cons_of_mem _ (List.mem_filter.mpr ⟨by have := q_lvm B lo 0 j u h2; simpa using this, ?_⟩)
    have h5 : ¬ (j + 1 = i ∧ (qv B u).category = 2) := by rw [q_cat]; exact h3
    simp only [Bool.and_eq_true, Bool.not_eq_true', beq_eq_false_iff_ne, Bool.and_eq_false_iff]
    refine ⟨h1, ?_⟩
    by_cases e : j + 1 = i
    · right; simpa using fun q => h5 ⟨e, q⟩
    · left; simpa using e
theorem qLs.s2 {B : Nat} {ls : Array Slot} {lo : List (Option qV)} {i : Nat} {v : qV} (hi : i + 1 < lo.length) (h : lv_has ls lo.length ((i, qv B v) :: (qlv B 0 lo).filter (fun q => !(q.1 == i) && (!(q.1 == i + 1) && !(q.1 + 1 == i && q.2.category == 2))))) : qLs B ls (qs2 v lo i) := by
  refine qLs.of (by rw [q_s2l]; exact h) (fun j u hj => ?_)
  rcases q_s2 v lo i j u hj with ⟨rfl, rfl⟩ | ⟨h1, h2, h3, h4⟩ | h1
  · exact List.mem_cons_self
  · refine List.mem_cons_of_mem _ (List.mem_filter.mpr ⟨by have := q_lvm B lo 0 j u h3; simpa using this, ?_⟩)
    have h5 : ¬ (j + 1 = i ∧ (qv B u).category = 2) := by rw [q_cat]; exact h4
    simp only [Bool.and_eq_true, Bool.not_eq_true', beq_eq_false_iff_ne, Bool.and_eq_false_iff]
    refine ⟨h1, h2, ?_⟩
    by_cases e : j + 1 = i
    · right; simpa using fun q => h5 ⟨e, q⟩
    · left; simpa using e
  · omega
end
section
/-! the judgement qG, the contract qK, a rule an instruction -/
abbrev qM : Type := MethodName × ByteArray × Nat × Option FieldType
abbrev qZt : Type := va_G → qS → Nat → State → Array Value → List Frame → State → Prop
abbrev qY : Type := qM × (Nat × Nat × Nat) × (State → Array Value → Nat → Prop) × qZt
abbrev qW : Type := (Nat → qL) × Nat × Nat × Nat
/-- what holds of the machine all through a method -/
def qCx (X : qM) (r : Nat × Nat × Nat) (p : Program) (R : Room) (s : State) (m : MethodId) (args : Array Value) (meth : Method) (cd : Code) (D : va_G) (cs : qS) (B : Nat) : Prop :=
  p.tables.exec = Jvm.exec ∧ cd.code = X.2.1 ∧ meth.sig.returnType = X.2.2.2 ∧ cd.maxLocals = X.2.2.1 ∧ s.vm.findClass X.1.cls = some m.cls ∧ (∀ w ∈ qALL, w.before args s = true) ∧ (∀ w ∈ qNZ, va_Nw w s) ∧ va_K D qcl (qtys cs) s ∧ meth.locks = false ∧ meth.name = X.1.name ∧ B ≤ s.heap.size ∧ r.1 ≤ R.frames ∧ 48 * r.1 ≤ R.locals ∧ r.2.1 ≤ R.cells ∧ r.2.2 ≤ R.slots
def qG (Y : qY) (w : qW) (pc : Nat) (lo : List (Option qV)) (st : List qV) (c : qC) : Prop :=
  ∀ (p : Program) (l : Launch) (e : Env) (R : Room) (s : State) (m : MethodId) (args : Array Value) (below : List Frame) (meth : Method) (cd : Code) (D : va_G) (cs : qS) (B : Nat) (H : Heap) (locs : List Loc) (ls : Array Slot),
    qCx Y.1 Y.2.1 p R s m args meth cd D cs B → Y.2.2.1 s args B → qH D cs B w.1 w.2.1 c H → va_S (fun q : Nat => B ≤ q) s.heap H locs → qLs B ls lo → ls.size = Y.1.2.2.1 →
    W p l e R s m args below meth cd H locs w.2.2.1 w.2.2.2 (Y.2.2.2 D cs B s args below) (F0 m pc ls (st.map (qv B)))
def qE0 : State → Array Value → Nat → Prop := fun _ _ _ => True
/-- a method's end -/
def qQ (post : Option qV → (Nat → qL) → Nat → qC → Prop) (D : va_G) (cs : qS) (B : Nat) : Array Value → State → Outcome → State → Prop := fun _ st oc t => (∃ (r : Option qV) (L : Nat → qL) (n : Nat) (c : qC), oc = .returned (r.map (qv B)) ∧ post r L n c ∧ qH D cs B L n c t.heap) ∧ va_F (fun q : Nat => B ≤ q) st t
def qZm (post : Option qV → (Nat → qL) → Nat → qC → Prop) (mc ms : Nat) : qZt := fun D cs B s args below => MQ below (qQ post D cs B) args s mc ms (fun q : Nat => B ≤ q)
def qrm (r : Nat × Nat × Nat) : Room := { frames := r.1, cells := r.2.1, slots := r.2.2, locals := 48 * r.1 }
/-- a state in which a method may be called -/
def qU (D : va_G) (cs : qS) (B : Nat) (L : Nat → qL) (n : Nat) (c : qC) (U : State) : Prop := B ≤ U.heap.size ∧ qH D cs B L n c U.heap ∧ va_K D qcl (qtys cs) U ∧ ∀ w ∈ qNZ, va_Nw w U
/-- THE CONTRACT: from these arguments and cells the method X returns, with 'post' of its answer and of the cells -/
def qK (X : qM) (r : Nat × Nat × Nat) (as : List qV) (L : Nat → qL) (n : Nat) (c : qC) (post : Option qV → (Nat → qL) → Nat → qC → Prop) : Prop :=
  ∀ (l : Launch) (D : va_G) (cs : qS) (B : Nat), Met l X.1 (Cond.code X.1 X.2.1 X.2.2.1 X.2.2.2 :: qALL) (qrm r) (va_Pc (as.map (qv B)) (qU D cs B L n c)) (qQ post D cs B) r.2.1 r.2.2 (fun q : Nat => B ≤ q)
theorem qK.of {X : qM} {r : Nat × Nat × Nat} {as : List qV} {L : Nat → qL} {n : Nat} {c : qC} {post : Option qV → (Nat → qL) → Nat → qC → Prop} (lo : List (Option qV)) (hp : plainName X.1.cls = true) (hlen : lo.length = X.2.2.1) (hlo : ∀ B : Nat, qlv B 0 lo = lv_args 0 (as.map (qv B))) (hsl : ∀ B : Nat, (lg_sl (as.map (qv B))).length ≤ X.2.2.1)
    (h : qG (X, r, qE0, qZm post r.2.1 r.2.2) (L, n, 0, 0) 0 lo [] c) : qK X r as L n c post := by
  intro l D cs B
  refine Met.ofW (cc := X.2.1) (maxL := X.2.2.1) (ret := X.2.2.2) hp rfl ?_
  intro p e s m args below meth cd s₁ Bd hml hv
  obtain ⟨rfl, hB, hH, hK, hN⟩ := hv
  have hts := atoms_spec (ws := Cond.code X.1 X.2.1 X.2.2.1 X.2.2.2 :: qALL) Bd.pre
  have hl := lv_entry (as.map (qv B)) (n := X.2.2.1) (hsl B)
  rw [lg_entry_eq]
  generalize (lg_sl (as.map (qv B)) ++ List.replicate (X.2.2.1 - (lg_sl (as.map (qv B))).length) Slot.unset).toArray = ls at hl ⊢
  refine h p l e _ s m _ below meth cd D cs B s.heap [] ls ⟨Bd.exec, Bd.bytes, Bd.returns, hml, findClass_of_methodNamed Bd.named, fun w hw => hts w (List.mem_cons_of_mem _ hw), hN, hK, Bd.notSynchronized, (name_of_methodNamed Bd.named Bd.method).1, hB, Nat.le_refl _, Nat.le_refl _, Nat.le_refl _, Nat.le_refl _⟩ trivial hH va_S.rf ?_ hl.1
  refine qLs.of (by rw [hlen]; exact hl) (fun i v hi => ?_)
  rw [← hlo B]
  have := q_lvm B lo 0 i v hi
  simpa using this
section QG
variable {Y : qY} {w : qW} {pc : Nat} {lo : List (Option qV)} {st : List qV} {c : qC}
theorem qG.name {x : Int} (h : ∀ y : Int, y = x → qG Y w pc lo (qI y :: st) c) : qG Y w pc lo (qI x :: st) c := h x rfl
theorem qG.nameJ {x : Int} (h : ∀ y : Int, y = x → qG Y w pc lo (qJ y :: st) c) : qG Y w pc lo (qJ x :: st) c := h x rfl
theorem qG.to {pc' : Nat} {lo' : List (Option qV)} {st' : List qV} {c' : qC} (h : qG Y w pc lo st c) (h1 : pc = pc') (h2 : lo = lo') (h3 : st = st') (h4 : c = c') : qG Y w pc' lo' st' c' := by
  subst h1; subst h2; subst h3; subst h4; exact h
/-- fewer locals are named -/
theorem qG.fewer {lo' : List (Option qV)} (h : qG Y w pc lo st c) (hl : lo.length = lo'.length) (h2 : ∀ (i : Nat) (v : qV), lo[i]? = some (some v) → lo'[i]? = some (some v)) : qG Y w pc lo' st c :=
  fun p l e R s m args below meth cd D cs B H locs ls C hE hH hS hl0 hn => h p l e R s m args below meth cd D cs B H locs ls C hE hH hS ⟨hl0.1.trans hl.symm, hl0.2.1, fun i v hi => hl0.2.2 i v (h2 i v hi)⟩ hn

theorem q_lr0 : lR 0 := by omega
theorem g_iconst {n : Int} (hd : decode Y.1.2.1 pc = .ok (.iconst n, 1)) (h : qG Y w (pc + 1) lo (qI n :: st) c) : qG Y w pc lo st c := by
  intro p l e R s m args below meth cd D cs B H locs ls C hE hH hS hl hn
  refine lv_iconst C.1 C.2.1 hd rfl ?_
  exact h p l e R s m args below meth cd D cs B H locs ls C hE hH hS hl hn
theorem g_bipush {n : Int} (hd : decode Y.1.2.1 pc = .ok (.bipush n, 2)) (hr : (Int8.ofInt n).toInt32 = Int32.ofInt n) (h : qG Y w (pc + 2) lo (qI n :: st) c) : qG Y w pc lo st c := by
  intro p l e R s m args below meth cd D cs B H locs ls C hE hH hS hl hn
  refine lv_bipush C.1 C.2.1 hd hr ?_
  exact h p l e R s m args below meth cd D cs B H locs ls C hE hH hS hl hn
theorem g_sipush {n : Int} (hd : decode Y.1.2.1 pc = .ok (.sipush n, 3)) (hr : (Int16.ofInt n).toInt32 = Int32.ofInt n) (h : qG Y w (pc + 3) lo (qI n :: st) c) : qG Y w pc lo st c := by
  intro p l e R s m args below meth cd D cs B H locs ls C hE hH hS hl hn
  refine lv_sipush C.1 C.2.1 hd hr ?_
  exact h p l e R s m args below meth cd D cs B H locs ls C hE hH hS hl hn
theorem g_lconst {n : Fin 2} {z : Int} (hd : decode Y.1.2.1 pc = .ok (.lconst n, 1)) (hz : Int64.ofNat (n : Nat) = Int64.ofInt z) (h : qG Y w (pc + 1) lo (qJ z :: st) c) : qG Y w pc lo st c := by
  intro p l e R s m args below meth cd D cs B H locs ls C hE hH hS hl hn
  refine lv_lconst C.1 C.2.1 hd hz ?_
  exact h p l e R s m args below meth cd D cs B H locs ls C hE hH hS hl hn
theorem g_ldc {i : Nat} {z : Int} (hd : decode Y.1.2.1 pc = .ok (.ldc i, 2)) (hw : Cond.constant Y.1.1.cls i (Int32.ofInt z) ∈ qALL) (h : qG Y w (pc + 2) lo (qI z :: st) c) : qG Y w pc lo st c := by
  intro p l e R s m args below meth cd D cs B H locs ls C hE hH hS hl hn
  refine lv_ldc C.1 C.2.1 C.2.2.2.2.1 (C.2.2.2.2.2.1 _ hw) hd ?_
  exact h p l e R s m args below meth cd D cs B H locs ls C hE hH hS hl hn
theorem g_ldc2 {i : Nat} {z : Int} (hd : decode Y.1.2.1 pc = .ok (.ldc2_w i, 3)) (hw : Cond.constantLong Y.1.1.cls i (Int64.ofInt z) ∈ qALL) (h : qG Y w (pc + 3) lo (qJ z :: st) c) : qG Y w pc lo st c := by
  intro p l e R s m args below meth cd D cs B H locs ls C hE hH hS hl hn
  refine lv_ldc2 C.1 C.2.1 C.2.2.2.2.1 (C.2.2.2.2.2.1 _ hw) hd ?_
  exact h p l e R s m args below meth cd D cs B H locs ls C hE hH hS hl hn
theorem g_iload {i : Nat} {z : Int} (hd : decode Y.1.2.1 pc = .ok (.iload i, 2)) (hi : lo[i]? = some (some (qI z))) (h : qG Y w (pc + 2) lo (qI z :: st) c) : qG Y w pc lo st c := by
  intro p l e R s m args below meth cd D cs B H locs ls C hE hH hS hl hn
  refine lv_iload C.1 C.2.1 hd (hl.2.2 i _ hi) ?_
  exact h p l e R s m args below meth cd D cs B H locs ls C hE hH hS hl hn
theorem g_iload_n {k : Fin 4} {i : Nat} {z : Int} (hd : decode Y.1.2.1 pc = .ok (.iload_n k, 1)) (hk : (k : Nat) = i) (hi : lo[i]? = some (some (qI z))) (h : qG Y w (pc + 1) lo (qI z :: st) c) : qG Y w pc lo st c := by
  intro p l e R s m args below meth cd D cs B H locs ls C hE hH hS hl hn
  refine lv_iload_n C.1 C.2.1 hd hk (hl.2.2 i _ hi) ?_
  exact h p l e R s m args below meth cd D cs B H locs ls C hE hH hS hl hn
theorem g_lload {i : Nat} {z : Int} (hd : decode Y.1.2.1 pc = .ok (.lload i, 2)) (hi : lo[i]? = some (some (qJ z))) (h : qG Y w (pc + 2) lo (qJ z :: st) c) : qG Y w pc lo st c := by
  intro p l e R s m args below meth cd D cs B H locs ls C hE hH hS hl hn
  refine lv_lload C.1 C.2.1 hd (hl.2.2 i _ hi) ?_
  exact h p l e R s m args below meth cd D cs B H locs ls C hE hH hS hl hn
theorem g_lload_n {k : Fin 4} {i : Nat} {z : Int} (hd : decode Y.1.2.1 pc = .ok (.lload_n k, 1)) (hk : (k : Nat) = i) (hi : lo[i]? = some (some (qJ z))) (h : qG Y w (pc + 1) lo (qJ z :: st) c) : qG Y w pc lo st c := by
  intro p l e R s m args below meth cd D cs B H locs ls C hE hH hS hl hn
  refine lv_lload_n C.1 C.2.1 hd hk (hl.2.2 i _ hi) ?_
  exact h p l e R s m args below meth cd D cs B H locs ls C hE hH hS hl hn
theorem g_aload {i : Nat} {z : Nat} (hd : decode Y.1.2.1 pc = .ok (.aload i, 2)) (hi : lo[i]? = some (some (qP z))) (h : qG Y w (pc + 2) lo (qP z :: st) c) : qG Y w pc lo st c := by
  intro p l e R s m args below meth cd D cs B H locs ls C hE hH hS hl hn
  refine lv_aload C.1 C.2.1 hd (hl.2.2 i _ hi) ?_
  exact h p l e R s m args below meth cd D cs B H locs ls C hE hH hS hl hn
theorem g_aload_n {k : Fin 4} {i : Nat} {z : Nat} (hd : decode Y.1.2.1 pc = .ok (.aload_n k, 1)) (hk : (k : Nat) = i) (hi : lo[i]? = some (some (qP z))) (h : qG Y w (pc + 1) lo (qP z :: st) c) : qG Y w pc lo st c := by
  intro p l e R s m args below meth cd D cs B H locs ls C hE hH hS hl hn
  refine lv_aload_n C.1 C.2.1 hd hk (hl.2.2 i _ hi) ?_
  exact h p l e R s m args below meth cd D cs B H locs ls C hE hH hS hl hn
theorem g_aloadO_n {k : Fin 4} {i z : Nat} (hd : decode Y.1.2.1 pc = .ok (.aload_n k, 1)) (hk : (k : Nat) = i) (hi : lo[i]? = some (some (qO z))) (h : qG Y w (pc + 1) lo (qO z :: st) c) : qG Y w pc lo st c := by
  intro p l e R s m args below meth cd D cs B H locs ls C hE hH hS hl hn
  refine lv_aload_n C.1 C.2.1 hd hk (hl.2.2 i _ hi) ?_
  exact h p l e R s m args below meth cd D cs B H locs ls C hE hH hS hl hn
theorem g_istore_g {i : Nat} {z : Int} {lo' : List (Option qV)} (hd : decode Y.1.2.1 pc = .ok (.istore i, 2)) (hb : i < lo.length) (hlo : qs1 (qI z) lo i = lo') (h : qG Y w (pc + 2) lo' st c) : qG Y w pc lo (qI z :: st) c := by
  subst hlo
  intro p l e R s m args below meth cd D cs B H locs ls C hE hH hS hl hn
  refine lv_istore C.1 C.2.1 hd hl.has hb rfl (fun ls2 hl2 => ?_)
  exact h p l e R s m args below meth cd D cs B H locs ls2 C hE hH hS (qLs.s1 hl2) (by rw [hl2.1, ← hl.1, hn])
theorem g_istore_ng {k : Fin 4} {i : Nat} {z : Int} {lo' : List (Option qV)} (hd : decode Y.1.2.1 pc = .ok (.istore_n k, 1)) (hk : (k : Nat) = i) (hb : i < lo.length) (hlo : qs1 (qI z) lo i = lo') (h : qG Y w (pc + 1) lo' st c) : qG Y w pc lo (qI z :: st) c := by
  subst hlo
  intro p l e R s m args below meth cd D cs B H locs ls C hE hH hS hl hn
  refine lv_istore_n C.1 C.2.1 hd hk hl.has hb rfl (fun ls2 hl2 => ?_)
  exact h p l e R s m args below meth cd D cs B H locs ls2 C hE hH hS (qLs.s1 hl2) (by rw [hl2.1, ← hl.1, hn])
theorem g_lstore_g {i : Nat} {z : Int} {lo' : List (Option qV)} (hd : decode Y.1.2.1 pc = .ok (.lstore i, 2)) (hb : i + 1 < lo.length) (hlo : qs2 (qJ z) lo i = lo') (h : qG Y w (pc + 2) lo' st c) : qG Y w pc lo (qJ z :: st) c := by
  subst hlo
  intro p l e R s m args below meth cd D cs B H locs ls C hE hH hS hl hn
  refine lv_lstore C.1 C.2.1 hd hl.has hb rfl (fun ls2 hl2 => ?_)
  exact h p l e R s m args below meth cd D cs B H locs ls2 C hE hH hS (qLs.s2 hb hl2) (by rw [hl2.1, ← hl.1, hn])
theorem g_lstore_ng {k : Fin 4} {i : Nat} {z : Int} {lo' : List (Option qV)} (hd : decode Y.1.2.1 pc = .ok (.lstore_n k, 1)) (hk : (k : Nat) = i) (hb : i + 1 < lo.length) (hlo : qs2 (qJ z) lo i = lo') (h : qG Y w (pc + 1) lo' st c) : qG Y w pc lo (qJ z :: st) c := by
  subst hlo
  intro p l e R s m args below meth cd D cs B H locs ls C hE hH hS hl hn
  refine lv_lstore_n C.1 C.2.1 hd hk hl.has hb rfl (fun ls2 hl2 => ?_)
  exact h p l e R s m args below meth cd D cs B H locs ls2 C hE hH hS (qLs.s2 hb hl2) (by rw [hl2.1, ← hl.1, hn])
theorem g_astore_g {i : Nat} {z : Nat} {lo' : List (Option qV)} (hd : decode Y.1.2.1 pc = .ok (.astore i, 2)) (hb : i < lo.length) (hlo : qs1 (qP z) lo i = lo') (h : qG Y w (pc + 2) lo' st c) : qG Y w pc lo (qP z :: st) c := by
  subst hlo
  intro p l e R s m args below meth cd D cs B H locs ls C hE hH hS hl hn
  refine lv_astore C.1 C.2.1 hd hl.has hb rfl (fun ls2 hl2 => ?_)
  exact h p l e R s m args below meth cd D cs B H locs ls2 C hE hH hS (qLs.s1 hl2) (by rw [hl2.1, ← hl.1, hn])
theorem g_astore_ng {k : Fin 4} {i : Nat} {z : Nat} {lo' : List (Option qV)} (hd : decode Y.1.2.1 pc = .ok (.astore_n k, 1)) (hk : (k : Nat) = i) (hb : i < lo.length) (hlo : qs1 (qP z) lo i = lo') (h : qG Y w (pc + 1) lo' st c) : qG Y w pc lo (qP z :: st) c := by
  subst hlo
  intro p l e R s m args below meth cd D cs B H locs ls C hE hH hS hl hn
  refine lv_astore_n C.1 C.2.1 hd hk hl.has hb rfl (fun ls2 hl2 => ?_)
  exact h p l e R s m args below meth cd D cs B H locs ls2 C hE hH hS (qLs.s1 hl2) (by rw [hl2.1, ← hl.1, hn])
theorem g_iinc_g {i : Nat} {n z : Int} {lo' : List (Option qV)} (hd : decode Y.1.2.1 pc = .ok (.iinc i n, 3)) (hi : lo[i]? = some (some (qI z))) (hlo : qs1 (qI (z + n)) lo i = lo') (h : qG Y w (pc + 3) lo' st c) : qG Y w pc lo st c := by
  subst hlo
  intro p l e R s m args below meth cd D cs B H locs ls C hE hH hS hl hn
  have hm := q_lvm B lo 0 i _ hi
  rw [Nat.zero_add] at hm
  obtain ⟨k, hk⟩ := List.getElem?_of_mem hm
  have hb : i < lo.length := (List.getElem?_eq_some_iff.mp hi).1
  refine lv_iinc (v := Int32.ofInt (z + n)) C.1 C.2.1 hd hl.has (k := k) hk (Int32.ofInt_add z n).symm hb rfl (fun ls2 hl2 => ?_)
  exact h p l e R s m args below meth cd D cs B H locs ls2 C hE hH hS (qLs.s1 (v := qI (z + n)) hl2) (by rw [hl2.1, ← hl.1, hn])
theorem g_iadd {x y : Int} (hd : decode Y.1.2.1 pc = .ok (.iadd, 1))
    (h : qG Y w (pc + 1) lo (qI (x + y) :: st) c) : qG Y w pc lo (qI y :: qI x :: st) c := by
  intro p l e R s m args below meth cd D cs B H locs ls C hE hH hS hl hn
  refine lv_iadd (x := Int32.ofInt x) (y := Int32.ofInt y) C.1 C.2.1 hd ?_
  rw [← Int32.ofInt_add]
  exact h p l e R s m args below meth cd D cs B H locs ls C hE hH hS hl hn
theorem g_isub {x y : Int} (hd : decode Y.1.2.1 pc = .ok (.isub, 1))
    (h : qG Y w (pc + 1) lo (qI (x - y) :: st) c) : qG Y w pc lo (qI y :: qI x :: st) c := by
  intro p l e R s m args below meth cd D cs B H locs ls C hE hH hS hl hn
  refine lv_isub (x := Int32.ofInt x) (y := Int32.ofInt y) C.1 C.2.1 hd ?_
  rw [← Int32.ofInt_sub]
  exact h p l e R s m args below meth cd D cs B H locs ls C hE hH hS hl hn
theorem g_imul {x y : Int} (hd : decode Y.1.2.1 pc = .ok (.imul, 1))
    (h : qG Y w (pc + 1) lo (qI (x * y) :: st) c) : qG Y w pc lo (qI y :: qI x :: st) c := by
  intro p l e R s m args below meth cd D cs B H locs ls C hE hH hS hl hn
  refine lv_imul (x := Int32.ofInt x) (y := Int32.ofInt y) C.1 C.2.1 hd ?_
  rw [← Int32.ofInt_mul]
  exact h p l e R s m args below meth cd D cs B H locs ls C hE hH hS hl hn
theorem g_ladd {x y : Int} (hd : decode Y.1.2.1 pc = .ok (.ladd, 1))
    (h : qG Y w (pc + 1) lo (qJ (x + y) :: st) c) : qG Y w pc lo (qJ y :: qJ x :: st) c := by
  intro p l e R s m args below meth cd D cs B H locs ls C hE hH hS hl hn
  refine lv_ladd (x := Int64.ofInt x) (y := Int64.ofInt y) C.1 C.2.1 hd ?_
  rw [← Int64.ofInt_add]
  exact h p l e R s m args below meth cd D cs B H locs ls C hE hH hS hl hn
theorem g_lsub {x y : Int} (hd : decode Y.1.2.1 pc = .ok (.lsub, 1))
    (h : qG Y w (pc + 1) lo (qJ (x - y) :: st) c) : qG Y w pc lo (qJ y :: qJ x :: st) c := by
  intro p l e R s m args below meth cd D cs B H locs ls C hE hH hS hl hn
  refine lv_lsub (x := Int64.ofInt x) (y := Int64.ofInt y) C.1 C.2.1 hd ?_
  rw [← Int64.ofInt_sub]
  exact h p l e R s m args below meth cd D cs B H locs ls C hE hH hS hl hn
theorem g_lmul {x y : Int} (hd : decode Y.1.2.1 pc = .ok (.lmul, 1))
    (h : qG Y w (pc + 1) lo (qJ (x * y) :: st) c) : qG Y w pc lo (qJ y :: qJ x :: st) c := by
  intro p l e R s m args below meth cd D cs B H locs ls C hE hH hS hl hn
  refine lv_lmul (x := Int64.ofInt x) (y := Int64.ofInt y) C.1 C.2.1 hd ?_
  rw [← Int64.ofInt_mul]
  exact h p l e R s m args below meth cd D cs B H locs ls C hE hH hS hl hn
theorem g_i2l {x : Int} (hd : decode Y.1.2.1 pc = .ok (.i2l, 1)) (hx : iR x := by omega)
    (h : qG Y w (pc + 1) lo (qJ x :: st) c) : qG Y w pc lo (qI x :: st) c := by
  intro p l e R s m args below meth cd D cs B H locs ls C hE hH hS hl hn
  refine lv_i2l C.1 C.2.1 hd (q_i2l hx) ?_
  exact h p l e R s m args below meth cd D cs B H locs ls C hE hH hS hl hn
theorem g_l2i {x : Int} (hd : decode Y.1.2.1 pc = .ok (.l2i, 1))
    (h : qG Y w (pc + 1) lo (qI x :: st) c) : qG Y w pc lo (qJ x :: st) c := by
  intro p l e R s m args below meth cd D cs B H locs ls C hE hH hS hl hn
  refine lv_l2i C.1 C.2.1 hd Int64.toInt32_ofInt ?_
  exact h p l e R s m args below meth cd D cs B H locs ls C hE hH hS hl hn
theorem g_ldiv {x y : Int} (hd : decode Y.1.2.1 pc = .ok (.ldiv, 1)) (hy0 : y ≠ 0) (hx : lR x) (hy : lR y)
    (h : qG Y w (pc + 1) lo (qJ (x.tdiv y) :: st) c) : qG Y w pc lo (qJ y :: qJ x :: st) c := by
  intro p l e R s m args below meth cd D cs B H locs ls C hE hH hS hl hn
  refine lv_ldiv (x := Int64.ofInt x) (y := Int64.ofInt y) C.1 C.2.1 hd (fun q => hy0 ((q_leq hy q_lr0).mp (q.trans q_l0))) ?_
  rw [q_ldiv hx hy]
  exact h p l e R s m args below meth cd D cs B H locs ls C hE hH hS hl hn
theorem g_lrem {x y : Int} (hd : decode Y.1.2.1 pc = .ok (.lrem, 1)) (hy0 : y ≠ 0) (hx : lR x) (hy : lR y)
    (h : qG Y w (pc + 1) lo (qJ (x.tmod y) :: st) c) : qG Y w pc lo (qJ y :: qJ x :: st) c := by
  intro p l e R s m args below meth cd D cs B H locs ls C hE hH hS hl hn
  refine lv_lrem (x := Int64.ofInt x) (y := Int64.ofInt y) C.1 C.2.1 hd (fun q => hy0 ((q_leq hy q_lr0).mp (q.trans q_l0))) ?_
  rw [q_lrem hx hy]
  exact h p l e R s m args below meth cd D cs B H locs ls C hE hH hS hl hn
theorem g_lcmp {x y : Int} (hd : decode Y.1.2.1 pc = .ok (.lcmp, 1)) (hx : lR x) (hy : lR y)
    (h : qG Y w (pc + 1) lo (qI (if y < x then 1 else if x = y then 0 else -1) :: st) c) : qG Y w pc lo (qJ y :: qJ x :: st) c := by
  intro p l e R s m args below meth cd D cs B H locs ls C hE hH hS hl hn
  refine W.lcmp (x := Int64.ofInt x) (y := Int64.ofInt y) C.1 C.2.1 hd ?_
  rw [q_cmp hx hy]
  exact h p l e R s m args below meth cd D cs B H locs ls C hE hH hS hl hn
theorem g_dup {v : qV} (hd : decode Y.1.2.1 pc = .ok (.dup, 1)) (hv : qcat v = 1)
    (h : qG Y w (pc + 1) lo (v :: v :: st) c) : qG Y w pc lo (v :: st) c := by
  intro p l e R s m args below meth cd D cs B H locs ls C hE hH hS hl hn
  refine lv_dup C.1 C.2.1 hd ((q_cat B v).trans hv) ?_
  exact h p l e R s m args below meth cd D cs B H locs ls C hE hH hS hl hn
theorem g_pop {v : qV} (hd : decode Y.1.2.1 pc = .ok (.pop, 1)) (hv : qcat v = 1)
    (h : qG Y w (pc + 1) lo st c) : qG Y w pc lo (v :: st) c := by
  intro p l e R s m args below meth cd D cs B H locs ls C hE hH hS hl hn
  refine lv_pop (va := qv B v) C.1 C.2.1 hd ((q_cat B v).trans hv) ?_
  exact h p l e R s m args below meth cd D cs B H locs ls C hE hH hS hl hn
theorem g_pop2 {v : qV} (hd : decode Y.1.2.1 pc = .ok (.pop2, 1)) (hv : qcat v = 2)
    (h : qG Y w (pc + 1) lo st c) : qG Y w pc lo (v :: st) c := by
  intro p l e R s m args below meth cd D cs B H locs ls C hE hH hS hl hn
  refine lv_pop2_2 (va := qv B v) C.1 C.2.1 hd ((q_cat B v).trans hv) ?_
  exact h p l e R s m args below meth cd D cs B H locs ls C hE hH hS hl hn
theorem g_dup_x1 {v u : qV} (hd : decode Y.1.2.1 pc = .ok (.dup_x1, 1)) (hv : qcat v = 1) (hu : qcat u = 1)
    (h : qG Y w (pc + 1) lo (v :: u :: v :: st) c) : qG Y w pc lo (v :: u :: st) c := by
  intro p l e R s m args below meth cd D cs B H locs ls C hE hH hS hl hn
  refine lv_dup_x1 C.1 C.2.1 hd ((q_cat B v).trans hv) ((q_cat B u).trans hu) ?_
  exact h p l e R s m args below meth cd D cs B H locs ls C hE hH hS hl hn
theorem g_dup_x2 {v u t : qV} (hd : decode Y.1.2.1 pc = .ok (.dup_x2, 1)) (hv : qcat v = 1) (hu : qcat u = 1) (ht : qcat t = 1)
    (h : qG Y w (pc + 1) lo (v :: u :: t :: v :: st) c) : qG Y w pc lo (v :: u :: t :: st) c := by
  intro p l e R s m args below meth cd D cs B H locs ls C hE hH hS hl hn
  refine lv_dup_x2 C.1 C.2.1 hd ((q_cat B v).trans hv) ((q_cat B u).trans hu) ((q_cat B t).trans ht) ?_
  exact h p l e R s m args below meth cd D cs B H locs ls C hE hH hS hl hn
theorem g_dup2 {v u : qV} (hd : decode Y.1.2.1 pc = .ok (.dup2, 1)) (hv : qcat v = 1) (hu : qcat u = 1)
    (h : qG Y w (pc + 1) lo (v :: u :: v :: u :: st) c) : qG Y w pc lo (v :: u :: st) c := by
  intro p l e R s m args below meth cd D cs B H locs ls C hE hH hS hl hn
  refine lv_dup2_11 C.1 C.2.1 hd ((q_cat B v).trans hv) ((q_cat B u).trans hu) ?_
  exact h p l e R s m args below meth cd D cs B H locs ls C hE hH hS hl hn
theorem g_dup2l {v : qV} (hd : decode Y.1.2.1 pc = .ok (.dup2, 1)) (hv : qcat v = 2)
    (h : qG Y w (pc + 1) lo (v :: v :: st) c) : qG Y w pc lo (v :: st) c := by
  intro p l e R s m args below meth cd D cs B H locs ls C hE hH hS hl hn
  refine lv_dup2_2 C.1 C.2.1 hd ((q_cat B v).trans hv) ?_
  exact h p l e R s m args below meth cd D cs B H locs ls C hE hH hS hl hn
theorem g_goto {off : Int} (tgt : Nat) (hd : decode Y.1.2.1 pc = .ok (.goto off, 3)) (ht : (pc : Int) + off = (tgt : Int)) (h : qG Y w tgt lo st c) : qG Y w pc lo st c := by
  intro p l e R s m args below meth cd D cs B H locs ls C hE hH hS hl hn
  refine lv_goto (tgt := tgt) C.1 C.2.1 hd ht ?_
  exact h p l e R s m args below meth cd D cs B H locs ls C hE hH hS hl hn
theorem g_icmp_eq {x y : Int} {off : Int} (tgt : Nat) (hd : decode Y.1.2.1 pc = .ok (.if_icmp .eq off, 3)) (ht : (pc : Int) + off = (tgt : Int)) (kt : x = y → qG Y w tgt lo st c) (kf : ¬ (x = y) → qG Y w (pc + 3) lo st c) (hx : iR x := by omega) (hy : iR y := by omega) : qG Y w pc lo (qI y :: qI x :: st) c := by
  intro p l e R s m args below meth cd D cs B H locs ls C hE hH hS hl hn
  refine lv_icmp_eq (x := Int32.ofInt x) (y := Int32.ofInt y) (tgt := tgt) C.1 C.2.1 hd ht (fun q => ?_) (fun q => ?_)
  · exact kt ((q_ieq hx hy).mp q) p l e R s m args below meth cd D cs B H locs ls C hE hH hS hl hn
  · exact kf (fun z => q ((q_ieq hx hy).mpr z)) p l e R s m args below meth cd D cs B H locs ls C hE hH hS hl hn
theorem g_if_eq {x : Int} {off : Int} (tgt : Nat) (hd : decode Y.1.2.1 pc = .ok (.ifCond .eq off, 3)) (ht : (pc : Int) + off = (tgt : Int)) (kt : x = 0 → qG Y w tgt lo st c) (kf : ¬ (x = 0) → qG Y w (pc + 3) lo st c) (hx : iR x := by omega) : qG Y w pc lo (qI x :: st) c := by
  intro p l e R s m args below meth cd D cs B H locs ls C hE hH hS hl hn
  refine lv_if_eq (x := Int32.ofInt x) (tgt := tgt) C.1 C.2.1 hd ht (fun q => ?_) (fun q => ?_)
  · exact kt ((q_ieq hx q_r0).mp (by rw [← q_i0]; exact q)) p l e R s m args below meth cd D cs B H locs ls C hE hH hS hl hn
  · exact kf (fun z => q (by rw [q_i0]; exact (q_ieq hx q_r0).mpr z)) p l e R s m args below meth cd D cs B H locs ls C hE hH hS hl hn
theorem g_icmp_ne {x y : Int} {off : Int} (tgt : Nat) (hd : decode Y.1.2.1 pc = .ok (.if_icmp .ne off, 3)) (ht : (pc : Int) + off = (tgt : Int)) (kt : ¬ x = y → qG Y w tgt lo st c) (kf : x = y → qG Y w (pc + 3) lo st c) (hx : iR x := by omega) (hy : iR y := by omega) : qG Y w pc lo (qI y :: qI x :: st) c := by
  intro p l e R s m args below meth cd D cs B H locs ls C hE hH hS hl hn
  refine lv_icmp_ne (x := Int32.ofInt x) (y := Int32.ofInt y) (tgt := tgt) C.1 C.2.1 hd ht (fun q => ?_) (fun q => ?_)
  · exact kt ((not_congr (q_ieq hx hy)).mp q) p l e R s m args below meth cd D cs B H locs ls C hE hH hS hl hn
  · exact kf ((q_ieq hx hy).mp q) p l e R s m args below meth cd D cs B H locs ls C hE hH hS hl hn
theorem g_if_ne {x : Int} {off : Int} (tgt : Nat) (hd : decode Y.1.2.1 pc = .ok (.ifCond .ne off, 3)) (ht : (pc : Int) + off = (tgt : Int)) (kt : ¬ x = 0 → qG Y w tgt lo st c) (kf : x = 0 → qG Y w (pc + 3) lo st c) (hx : iR x := by omega) : qG Y w pc lo (qI x :: st) c := by
  intro p l e R s m args below meth cd D cs B H locs ls C hE hH hS hl hn
  refine lv_if_ne (x := Int32.ofInt x) (tgt := tgt) C.1 C.2.1 hd ht (fun q => ?_) (fun q => ?_)
  · exact kt (fun z => q (((q_ieq hx q_r0).mpr z).trans q_i0.symm)) p l e R s m args below meth cd D cs B H locs ls C hE hH hS hl hn
  · exact kf ((q_ieq hx q_r0).mp (q.trans q_i0)) p l e R s m args below meth cd D cs B H locs ls C hE hH hS hl hn
theorem g_icmp_lt {x y : Int} {off : Int} (tgt : Nat) (hd : decode Y.1.2.1 pc = .ok (.if_icmp .lt off, 3)) (ht : (pc : Int) + off = (tgt : Int)) (kt : x < y → qG Y w tgt lo st c) (kf : ¬ (x < y) → qG Y w (pc + 3) lo st c) (hx : iR x := by omega) (hy : iR y := by omega) : qG Y w pc lo (qI y :: qI x :: st) c := by
  intro p l e R s m args below meth cd D cs B H locs ls C hE hH hS hl hn
  refine lv_icmp_lt (x := Int32.ofInt x) (y := Int32.ofInt y) (tgt := tgt) C.1 C.2.1 hd ht (fun q => ?_) (fun q => ?_)
  · exact kt ((q_ilt hx hy).mp q) p l e R s m args below meth cd D cs B H locs ls C hE hH hS hl hn
  · exact kf (fun z => q ((q_ilt hx hy).mpr z)) p l e R s m args below meth cd D cs B H locs ls C hE hH hS hl hn
theorem g_if_lt {x : Int} {off : Int} (tgt : Nat) (hd : decode Y.1.2.1 pc = .ok (.ifCond .lt off, 3)) (ht : (pc : Int) + off = (tgt : Int)) (kt : x < 0 → qG Y w tgt lo st c) (kf : ¬ (x < 0) → qG Y w (pc + 3) lo st c) (hx : iR x := by omega) : qG Y w pc lo (qI x :: st) c := by
  intro p l e R s m args below meth cd D cs B H locs ls C hE hH hS hl hn
  refine lv_if_lt (x := Int32.ofInt x) (tgt := tgt) C.1 C.2.1 hd ht (fun q => ?_) (fun q => ?_)
  · exact kt ((q_ilt hx q_r0).mp (by rw [← q_i0]; exact q)) p l e R s m args below meth cd D cs B H locs ls C hE hH hS hl hn
  · exact kf (fun z => q (by rw [q_i0]; exact (q_ilt hx q_r0).mpr z)) p l e R s m args below meth cd D cs B H locs ls C hE hH hS hl hn
theorem g_icmp_ge {x y : Int} {off : Int} (tgt : Nat) (hd : decode Y.1.2.1 pc = .ok (.if_icmp .ge off, 3)) (ht : (pc : Int) + off = (tgt : Int)) (kt : y ≤ x → qG Y w tgt lo st c) (kf : ¬ (y ≤ x) → qG Y w (pc + 3) lo st c) (hx : iR x := by omega) (hy : iR y := by omega) : qG Y w pc lo (qI y :: qI x :: st) c := by
  intro p l e R s m args below meth cd D cs B H locs ls C hE hH hS hl hn
  refine lv_icmp_ge (x := Int32.ofInt x) (y := Int32.ofInt y) (tgt := tgt) C.1 C.2.1 hd ht (fun q => ?_) (fun q => ?_)
  · exact kt ((q_ile hy hx).mp q) p l e R s m args below meth cd D cs B H locs ls C hE hH hS hl hn
  · exact kf (fun z => q ((q_ile hy hx).mpr z)) p l e R s m args below meth cd D cs B H locs ls C hE hH hS hl hn
theorem g_if_ge {x : Int} {off : Int} (tgt : Nat) (hd : decode Y.1.2.1 pc = .ok (.ifCond .ge off, 3)) (ht : (pc : Int) + off = (tgt : Int)) (kt : 0 ≤ x → qG Y w tgt lo st c) (kf : ¬ (0 ≤ x) → qG Y w (pc + 3) lo st c) (hx : iR x := by omega) : qG Y w pc lo (qI x :: st) c := by
  intro p l e R s m args below meth cd D cs B H locs ls C hE hH hS hl hn
  refine lv_if_ge (x := Int32.ofInt x) (tgt := tgt) C.1 C.2.1 hd ht (fun q => ?_) (fun q => ?_)
  · exact kt ((q_ile q_r0 hx).mp (by rw [← q_i0]; exact q)) p l e R s m args below meth cd D cs B H locs ls C hE hH hS hl hn
  · exact kf (fun z => q (by rw [q_i0]; exact (q_ile q_r0 hx).mpr z)) p l e R s m args below meth cd D cs B H locs ls C hE hH hS hl hn
theorem g_icmp_gt {x y : Int} {off : Int} (tgt : Nat) (hd : decode Y.1.2.1 pc = .ok (.if_icmp .gt off, 3)) (ht : (pc : Int) + off = (tgt : Int)) (kt : y < x → qG Y w tgt lo st c) (kf : ¬ (y < x) → qG Y w (pc + 3) lo st c) (hx : iR x := by omega) (hy : iR y := by omega) : qG Y w pc lo (qI y :: qI x :: st) c := by
  intro p l e R s m args below meth cd D cs B H locs ls C hE hH hS hl hn
  refine lv_icmp_gt (x := Int32.ofInt x) (y := Int32.ofInt y) (tgt := tgt) C.1 C.2.1 hd ht (fun q => ?_) (fun q => ?_)
  · exact kt ((q_ilt hy hx).mp q) p l e R s m args below meth cd D cs B H locs ls C hE hH hS hl hn
  · exact kf (fun z => q ((q_ilt hy hx).mpr z)) p l e R s m args below meth cd D cs B H locs ls C hE hH hS hl hn
theorem g_if_gt {x : Int} {off : Int} (tgt : Nat) (hd : decode Y.1.2.1 pc = .ok (.ifCond .gt off, 3)) (ht : (pc : Int) + off = (tgt : Int)) (kt : 0 < x → qG Y w tgt lo st c) (kf : ¬ (0 < x) → qG Y w (pc + 3) lo st c) (hx : iR x := by omega) : qG Y w pc lo (qI x :: st) c := by
  intro p l e R s m args below meth cd D cs B H locs ls C hE hH hS hl hn
  refine lv_if_gt (x := Int32.ofInt x) (tgt := tgt) C.1 C.2.1 hd ht (fun q => ?_) (fun q => ?_)
  · exact kt ((q_ilt q_r0 hx).mp (by rw [← q_i0]; exact q)) p l e R s m args below meth cd D cs B H locs ls C hE hH hS hl hn
  · exact kf (fun z => q (by rw [q_i0]; exact (q_ilt q_r0 hx).mpr z)) p l e R s m args below meth cd D cs B H locs ls C hE hH hS hl hn
theorem g_icmp_le {x y : Int} {off : Int} (tgt : Nat) (hd : decode Y.1.2.1 pc = .ok (.if_icmp .le off, 3)) (ht : (pc : Int) + off = (tgt : Int)) (kt : x ≤ y → qG Y w tgt lo st c) (kf : ¬ (x ≤ y) → qG Y w (pc + 3) lo st c) (hx : iR x := by omega) (hy : iR y := by omega) : qG Y w pc lo (qI y :: qI x :: st) c := by
  intro p l e R s m args below meth cd D cs B H locs ls C hE hH hS hl hn
  refine lv_icmp_le (x := Int32.ofInt x) (y := Int32.ofInt y) (tgt := tgt) C.1 C.2.1 hd ht (fun q => ?_) (fun q => ?_)
  · exact kt ((q_ile hx hy).mp q) p l e R s m args below meth cd D cs B H locs ls C hE hH hS hl hn
  · exact kf (fun z => q ((q_ile hx hy).mpr z)) p l e R s m args below meth cd D cs B H locs ls C hE hH hS hl hn
theorem g_if_le {x : Int} {off : Int} (tgt : Nat) (hd : decode Y.1.2.1 pc = .ok (.ifCond .le off, 3)) (ht : (pc : Int) + off = (tgt : Int)) (kt : x ≤ 0 → qG Y w tgt lo st c) (kf : ¬ (x ≤ 0) → qG Y w (pc + 3) lo st c) (hx : iR x := by omega) : qG Y w pc lo (qI x :: st) c := by
  intro p l e R s m args below meth cd D cs B H locs ls C hE hH hS hl hn
  refine lv_if_le (x := Int32.ofInt x) (tgt := tgt) C.1 C.2.1 hd ht (fun q => ?_) (fun q => ?_)
  · exact kt ((q_ile hx q_r0).mp (by rw [← q_i0]; exact q)) p l e R s m args below meth cd D cs B H locs ls C hE hH hS hl hn
  · exact kf (fun z => q (by rw [q_i0]; exact (q_ile hx q_r0).mpr z)) p l e R s m args below meth cd D cs B H locs ls C hE hH hS hl hn
theorem g_lif_eq {x y : Int} {off : Int} (tgt : Nat) (hd : decode Y.1.2.1 pc = .ok (.lcmp, 1)) (hd2 : decode Y.1.2.1 (pc + 1) = .ok (.ifCond .eq off, 3)) (ht : ((pc + 1 : Nat) : Int) + off = (tgt : Int)) (kt : x = y → qG Y w tgt lo st c) (kf : ¬ (x = y) → qG Y w (pc + 1 + 3) lo st c) (hx : lR x := by omega) (hy : lR y := by omega) : qG Y w pc lo (qJ y :: qJ x :: st) c := by
  refine g_lcmp hd hx hy (g_if_eq tgt hd2 ht (fun q => kt ?_) (fun q => kf ?_) ?_)
  · split at q <;> first | omega | (split at q <;> omega)
  · split at q <;> first | omega | (split at q <;> omega)
  · split <;> first | omega | (split <;> omega)
theorem g_lif_ne {x y : Int} {off : Int} (tgt : Nat) (hd : decode Y.1.2.1 pc = .ok (.lcmp, 1)) (hd2 : decode Y.1.2.1 (pc + 1) = .ok (.ifCond .ne off, 3)) (ht : ((pc + 1 : Nat) : Int) + off = (tgt : Int)) (kt : ¬ x = y → qG Y w tgt lo st c) (kf : x = y → qG Y w (pc + 1 + 3) lo st c) (hx : lR x := by omega) (hy : lR y := by omega) : qG Y w pc lo (qJ y :: qJ x :: st) c := by
  refine g_lcmp hd hx hy (g_if_ne tgt hd2 ht (fun q => kt ?_) (fun q => kf ?_) ?_)
  · split at q <;> first | omega | (split at q <;> omega)
  · split at q <;> first | omega | (split at q <;> omega)
  · split <;> first | omega | (split <;> omega)
theorem g_lif_lt {x y : Int} {off : Int} (tgt : Nat) (hd : decode Y.1.2.1 pc = .ok (.lcmp, 1)) (hd2 : decode Y.1.2.1 (pc + 1) = .ok (.ifCond .lt off, 3)) (ht : ((pc + 1 : Nat) : Int) + off = (tgt : Int)) (kt : x < y → qG Y w tgt lo st c) (kf : ¬ (x < y) → qG Y w (pc + 1 + 3) lo st c) (hx : lR x := by omega) (hy : lR y := by omega) : qG Y w pc lo (qJ y :: qJ x :: st) c := by
  refine g_lcmp hd hx hy (g_if_lt tgt hd2 ht (fun q => kt ?_) (fun q => kf ?_) ?_)
  · split at q <;> first | omega | (split at q <;> omega)
  · split at q <;> first | omega | (split at q <;> omega)
  · split <;> first | omega | (split <;> omega)
theorem g_lif_ge {x y : Int} {off : Int} (tgt : Nat) (hd : decode Y.1.2.1 pc = .ok (.lcmp, 1)) (hd2 : decode Y.1.2.1 (pc + 1) = .ok (.ifCond .ge off, 3)) (ht : ((pc + 1 : Nat) : Int) + off = (tgt : Int)) (kt : y ≤ x → qG Y w tgt lo st c) (kf : ¬ (y ≤ x) → qG Y w (pc + 1 + 3) lo st c) (hx : lR x := by omega) (hy : lR y := by omega) : qG Y w pc lo (qJ y :: qJ x :: st) c := by
  refine g_lcmp hd hx hy (g_if_ge tgt hd2 ht (fun q => kt ?_) (fun q => kf ?_) ?_)
  · split at q <;> first | omega | (split at q <;> omega)
  · split at q <;> first | omega | (split at q <;> omega)
  · split <;> first | omega | (split <;> omega)
theorem g_lif_gt {x y : Int} {off : Int} (tgt : Nat) (hd : decode Y.1.2.1 pc = .ok (.lcmp, 1)) (hd2 : decode Y.1.2.1 (pc + 1) = .ok (.ifCond .gt off, 3)) (ht : ((pc + 1 : Nat) : Int) + off = (tgt : Int)) (kt : y < x → qG Y w tgt lo st c) (kf : ¬ (y < x) → qG Y w (pc + 1 + 3) lo st c) (hx : lR x := by omega) (hy : lR y := by omega) : qG Y w pc lo (qJ y :: qJ x :: st) c := by
  refine g_lcmp hd hx hy (g_if_gt tgt hd2 ht (fun q => kt ?_) (fun q => kf ?_) ?_)
  · split at q <;> first | omega | (split at q <;> omega)
  · split at q <;> first | omega | (split at q <;> omega)
  · split <;> first | omega | (split <;> omega)
theorem g_lif_le {x y : Int} {off : Int} (tgt : Nat) (hd : decode Y.1.2.1 pc = .ok (.lcmp, 1)) (hd2 : decode Y.1.2.1 (pc + 1) = .ok (.ifCond .le off, 3)) (ht : ((pc + 1 : Nat) : Int) + off = (tgt : Int)) (kt : x ≤ y → qG Y w tgt lo st c) (kf : ¬ (x ≤ y) → qG Y w (pc + 1 + 3) lo st c) (hx : lR x := by omega) (hy : lR y := by omega) : qG Y w pc lo (qJ y :: qJ x :: st) c := by
  refine g_lcmp hd hx hy (g_if_le tgt hd2 ht (fun q => kt ?_) (fun q => kf ?_) ?_)
  · split at q <;> first | omega | (split at q <;> omega)
  · split at q <;> first | omega | (split at q <;> omega)
  · split <;> first | omega | (split <;> omega)
theorem g_tableOut {x dflt lo0 hi : Int} {offs : Array Int} {len : Nat} (tgt : Nat) (hd : decode Y.1.2.1 pc = .ok (.tableswitch dflt lo0 hi offs, len)) (ho : x < lo0 ∨ hi < x) (ht : (pc : Int) + dflt = (tgt : Int)) (h : qG Y w tgt lo st c) (hx : iR x := by omega) : qG Y w pc lo (qI x :: st) c := by
  intro p l e R s m args below meth cd D cs B H locs ls C hE hH hS hl hn
  refine lv_tableOut (x := Int32.ofInt x) (tgt := tgt) C.1 C.2.1 hd (by rw [q_it hx]; exact ho) ht ?_
  exact h p l e R s m args below meth cd D cs B H locs ls C hE hH hS hl hn
theorem g_tableIn {x dflt lo0 hi off : Int} {offs : Array Int} {len : Nat} (tgt : Nat) (hd : decode Y.1.2.1 pc = .ok (.tableswitch dflt lo0 hi offs, len)) (h1 : ¬ x < lo0) (h2 : ¬ hi < x) (ho : offs[(x - lo0).toNat]? = some off) (ht : (pc : Int) + off = (tgt : Int)) (h : qG Y w tgt lo st c) (hx : iR x := by omega) : qG Y w pc lo (qI x :: st) c := by
  intro p l e R s m args below meth cd D cs B H locs ls C hE hH hS hl hn
  refine lv_tableIn (x := Int32.ofInt x) (tgt := tgt) C.1 C.2.1 hd (by rw [q_it hx]; exact h1) (by rw [q_it hx]; exact h2) (by rw [q_it hx]; exact ho) ht ?_
  exact h p l e R s m args below meth cd D cs B H locs ls C hE hH hS hl hn
theorem g_lookup {x dflt off : Int} {ps : Array (Int × Int)} {len : Nat} (tgt : Nat) (hd : decode Y.1.2.1 pc = .ok (.lookupswitch dflt ps, len)) (hp : (ps.toList.zip (ps.toList.drop 1)).all (fun (a, next) => a.1 < next.1) = true) (ho : Op.lookupswitch.offset ps.toList dflt x = off) (ht : (pc : Int) + off = (tgt : Int)) (h : qG Y w tgt lo st c) (hx : iR x := by omega) : qG Y w pc lo (qI x :: st) c := by
  intro p l e R s m args below meth cd D cs B H locs ls C hE hH hS hl hn
  refine lv_lookup (x := Int32.ofInt x) (tgt := tgt) C.1 C.2.1 hd hp (by rw [q_it hx]; exact ho) ht ?_
  exact h p l e R s m args below meth cd D cs B H locs ls C hE hH hS hl hn
theorem g_iaload {a n : Nat} {i : Int} (hd : decode Y.1.2.1 pc = .ok (.iaload, 1)) (hL : w.1 a = .inl (0, n)) (ha : a < w.2.1) (h : qG Y w (pc + 1) lo (qI (c a i) :: st) c) (h0 : 0 ≤ i := by omega) (h1 : i < (n : Int) := by omega) (hn0 : n < 2147483648 := by decide) : qG Y w pc lo (qI i :: qP a :: st) c := by
  intro p l e R s m args below meth cd D cs B H locs ls C hE hH hS hl hn
  refine va_iald (D := D) (cl := qcl) (tys := qtys cs) C.1 C.2.1 C.2.2.2.2.2.2.2.1 (hH.one ha hL) 0 0 rfl rfl (q_in h0 h1 hn0) hd ?_
  rw [q_cl h0 (by omega)]
  have ei : ((i.toNat : Nat) : Int) = i := by omega
  show W p l e R s m args below meth cd H locs _ _ _ (F0 m (pc + 1) ls (qv B (qI (c a ((i.toNat : Nat) : Int))) :: st.map (qv B)))
  rw [ei]
  exact h p l e R s m args below meth cd D cs B H locs ls C hE hH hS hl hn
theorem g_laload {a n : Nat} {i : Int} (hd : decode Y.1.2.1 pc = .ok (.laload, 1)) (hL : w.1 a = .inl (1, n)) (ha : a < w.2.1) (h : qG Y w (pc + 1) lo (qJ (c a i) :: st) c) (h0 : 0 ≤ i := by omega) (h1 : i < (n : Int) := by omega) (hn0 : n < 2147483648 := by decide) : qG Y w pc lo (qI i :: qP a :: st) c := by
  intro p l e R s m args below meth cd D cs B H locs ls C hE hH hS hl hn
  refine va_lald (D := D) (cl := qcl) (tys := qtys cs) C.1 C.2.1 C.2.2.2.2.2.2.2.1 (hH.one ha hL) 0 1 rfl rfl (q_in h0 h1 hn0) hd ?_
  rw [q_cl h0 (by omega)]
  have ei : ((i.toNat : Nat) : Int) = i := by omega
  show W p l e R s m args below meth cd H locs _ _ _ (F0 m (pc + 1) ls (qv B (qJ (c a ((i.toNat : Nat) : Int))) :: st.map (qv B)))
  rw [ei]
  exact h p l e R s m args below meth cd D cs B H locs ls C hE hH hS hl hn
theorem g_baload {a n : Nat} {i : Int} (hd : decode Y.1.2.1 pc = .ok (.baload, 1)) (hL : w.1 a = .inl (2, n)) (ha : a < w.2.1) (h : qG Y w (pc + 1) lo (qI (c a i) :: st) c) (h0 : 0 ≤ i := by omega) (h1 : i < (n : Int) := by omega) (hn0 : n < 2147483648 := by decide) : qG Y w pc lo (qI i :: qP a :: st) c := by
  intro p l e R s m args below meth cd D cs B H locs ls C hE hH hS hl hn
  refine va_zald (D := D) (cl := qcl) (tys := qtys cs) C.1 C.2.1 C.2.2.2.2.2.2.2.1 (hH.one ha hL) 0 2 rfl rfl (q_in h0 h1 hn0) hd ?_
  rw [q_cl h0 (by omega)]
  have ei : ((i.toNat : Nat) : Int) = i := by omega
  show W p l e R s m args below meth cd H locs _ _ _ (F0 m (pc + 1) ls (qv B (qI (c a ((i.toNat : Nat) : Int))) :: st.map (qv B)))
  rw [ei]
  exact h p l e R s m args below meth cd D cs B H locs ls C hE hH hS hl hn
theorem q_put {A : Nat → Prop} {H0 H H1 : Heap} {locs : List Loc} {a k : Nat} (h : va_S A H0 H locs) (z : H1.size = H.size) (oq : ∀ q : Nat, q ≠ a → H1[q]? = H[q]?) (ha : A a) : va_S A H0 H1 (locs ++ [⟨a, k⟩]) := h.put z oq ha
theorem g_iastore {a n : Nat} {i x : Int} (hd : decode Y.1.2.1 pc = .ok (.iastore, 1)) (hL : w.1 a = .inl (0, n)) (ha : a < w.2.1) (h : qG Y w (pc + 1) lo st (qu c a i x)) (h0 : 0 ≤ i := by omega) (h1 : i < (n : Int) := by omega) (hn0 : n < 2147483648 := by decide) : qG Y w pc lo (qI x :: qI i :: qP a :: st) c := by
  intro p l e R s m args below meth cd D cs B H locs ls C hE hH hS hl hn
  have hc : H[B + a]? = some (arrV cs.1 n (fun j => .int (Int32.ofInt (c a j)))) := by
    have := hH.2 a ha
    rw [hL] at this
    exact this
  refine W.iast (a := B + a) (j := Int32.ofInt i) C.1 C.2.1 hc ((C.2.2.2.2.2.2.2.1.2 0 _ rfl).1 n _) (fun q => by cases q) (by rw [arrV_size]; exact q_in h0 h1 hn0) rfl rfl hd fun H1 e1 z1 o1 => ?_
  refine h p l e R s m args below meth cd D cs B H1 _ ls C hE (hH.set (k := a) z1 o1 ?_ (fun j hj => ⟨qu_ne hj, rfl⟩)) (hS.put z1 o1 (by show B ≤ B + a; omega)) hl hn
  rw [hL]
  show H1[B + a]? = some (arrV cs.1 n (fun j => .int (Int32.ofInt (qu c a i x a j))))
  rw [e1, q_cl h0 (by omega), arrV_store]
  congr 2
  funext j
  by_cases hj : j = i.toNat
  · have ei : (j : Int) = i := by omega
    have ej : i.toNat = j := hj.symm
    simp [updV, qu, ei, ej]
  · have e : ¬ (j : Int) = i := by omega
    simp [updV, hj, qu, e]
theorem g_lastore {a n : Nat} {i x : Int} (hd : decode Y.1.2.1 pc = .ok (.lastore, 1)) (hL : w.1 a = .inl (1, n)) (ha : a < w.2.1) (h : qG Y w (pc + 1) lo st (qu c a i x)) (h0 : 0 ≤ i := by omega) (h1 : i < (n : Int) := by omega) (hn0 : n < 2147483648 := by decide) : qG Y w pc lo (qJ x :: qI i :: qP a :: st) c := by
  intro p l e R s m args below meth cd D cs B H locs ls C hE hH hS hl hn
  have hc : H[B + a]? = some (arrV cs.2.1 n (fun j => .long (Int64.ofInt (c a j)))) := by
    have := hH.2 a ha
    rw [hL] at this
    exact this
  refine W.last (a := B + a) (j := Int32.ofInt i) C.1 C.2.1 hc ((C.2.2.2.2.2.2.2.1.2 1 _ rfl).1 n _) (fun q => by cases q) (by rw [arrV_size]; exact q_in h0 h1 hn0) rfl rfl hd fun H1 e1 z1 o1 => ?_
  refine h p l e R s m args below meth cd D cs B H1 _ ls C hE (hH.set (k := a) z1 o1 ?_ (fun j hj => ⟨qu_ne hj, rfl⟩)) (hS.put z1 o1 (by show B ≤ B + a; omega)) hl hn
  rw [hL]
  show H1[B + a]? = some (arrV cs.2.1 n (fun j => .long (Int64.ofInt (qu c a i x a j))))
  rw [e1, q_cl h0 (by omega), arrV_store]
  congr 2
  funext j
  by_cases hj : j = i.toNat
  · have ei : (j : Int) = i := by omega
    have ej : i.toNat = j := hj.symm
    simp [updV, qu, ei, ej]
  · have e : ¬ (j : Int) = i := by omega
    simp [updV, hj, qu, e]
theorem g_bastore {a n : Nat} {i x : Int} (hd : decode Y.1.2.1 pc = .ok (.bastore, 1)) (hL : w.1 a = .inl (2, n)) (ha : a < w.2.1) (hb : x = 0 ∨ x = 1) (h : qG Y w (pc + 1) lo st (qu c a i x)) (h0 : 0 ≤ i := by omega) (h1 : i < (n : Int) := by omega) (hn0 : n < 2147483648 := by decide) : qG Y w pc lo (qI x :: qI i :: qP a :: st) c := by
  intro p l e R s m args below meth cd D cs B H locs ls C hE hH hS hl hn
  have hnar : narrow .boolean (.int (Int32.ofInt x)) = .int (Int32.ofInt x) := by rcases hb with rfl | rfl <;> decide
  have hc : H[B + a]? = some (arrV cs.2.2.1 n (fun j => .int (Int32.ofInt (c a j)))) := by
    have := hH.2 a ha
    rw [hL] at this
    exact this
  refine W.zast (a := B + a) (j := Int32.ofInt i) C.1 C.2.1 hc ((C.2.2.2.2.2.2.2.1.2 2 _ rfl).1 n _) (fun q => by cases q) (by rw [arrV_size]; exact q_in h0 h1 hn0) rfl rfl hd fun H1 e1 z1 o1 => ?_
  rw [hnar] at e1
  refine h p l e R s m args below meth cd D cs B H1 _ ls C hE (hH.set (k := a) z1 o1 ?_ (fun j hj => ⟨qu_ne hj, rfl⟩)) (hS.put z1 o1 (by show B ≤ B + a; omega)) hl hn
  rw [hL]
  show H1[B + a]? = some (arrV cs.2.2.1 n (fun j => .int (Int32.ofInt (qu c a i x a j))))
  rw [e1, q_cl h0 (by omega), arrV_store]
  congr 2
  funext j
  by_cases hj : j = i.toNat
  · have ei : (j : Int) = i := by omega
    have ej : i.toNat = j := hj.symm
    simp [updV, qu, ei, ej]
  · have e : ¬ (j : Int) = i := by omega
    simp [updV, hj, qu, e]
theorem g_aaload {a n b : Nat} {f : Nat → Option Nat} {i : Int} (hd : decode Y.1.2.1 pc = .ok (.aaload, 1)) (hL : w.1 a = .inr (.inl (n, f))) (ha : a < w.2.1) (hf : f i.toNat = some b) (h : qG Y w (pc + 1) lo (qP b :: st) c) (h0 : 0 ≤ i := by omega) (h1 : i < (n : Int) := by omega) (hn0 : n < 2147483648 := by decide) : qG Y w pc lo (qI i :: qP a :: st) c := by
  intro p l e R s m args below meth cd D cs B H locs ls C hE hH hS hl hn
  refine va_aldq (D := D) (cl := qcl) (tys := qtys cs) (C := qgr) C.1 C.2.1 C.2.2.2.2.2.2.2.1 (hH.one ha hL) 0 3 rfl rfl (q_in h0 h1 hn0) hd ?_
  rw [q_cl h0 (by omega), hf]
  exact h p l e R s m args below meth cd D cs B H locs ls C hE hH hS hl hn
end QG
end
section
section QH
variable {Y : qY} {w : qW} {pc : Nat} {lo : List (Option qV)} {st : List qV} {c : qC}
/-- a field by its link: class number, place -/
def qFl (own : String) (idx ci j : Nat) : Prop := ∃ (C : String) (T : u_T) (N : Nat), qcl[ci]? = some (C, T, N) ∧ j < N ∧ (∀ w ∈ u_ws C T N, w ∈ qALL) ∧ (Cond.fieldLink own idx (T j).1 (T j).2.1 (T j).2.2.1 ∈ qALL ∨ ∃ host : String, Cond.fieldLinkNest own idx (T j).1 (T j).2.1 (T j).2.2.1 host ∈ qNZ)
def qFw (ci j : Nat) (ty : FieldType) (fin : Bool) : Prop := ∃ (C : String) (T : u_T) (N : Nat) (ty0 : Nat → FieldType), qcl[ci]? = some (C, T, N) ∧ (∀ k, k < N → parseFieldDescriptor (T k).2.2.1 = some (ty0 k)) ∧ (∀ a, a < N → ∀ b, b < N → a ≠ b → (T a).2.1 ≠ (T b).2.1) ∧ (T j).2.2.2 = fin ∧ parseFieldDescriptor (T j).2.2.1 = some ty ∧ (T j).1 = C
theorem q_fi {B : Nat} {z : Int} {kd : Nat} (h : kd ≠ 1) : qf B z (.inr kd) = .int (Int32.ofInt z) := by
  match kd, h with
  | 0, _ => rfl
  | 1, h => exact absurd rfl h
  | _ + 2, _ => rfl
theorem q_get {v : Value} {a ci j idx : Nat} {fs : List qF} {f : qF} {p : Program} {l : Launch} {e : Env} {R : Room} {s : State} {m : MethodId} {args : Array Value} {below : List Frame} {meth : Method} {cd : Code} {D : va_G} {cs : qS} {B n k z : Nat} {L : Nat → qL} {H : Heap} {locs : List Loc} {ls : Array Slot} {X : qM} {r : Nat × Nat × Nat} {Q : State → Prop} {rest : List Value}
    (C : qCx X r p R s m args meth cd D cs B) (hH : qH D cs B L n c H) (hd : decode X.2.1 pc = .ok (.getfield idx, 3)) (hf : qFl X.1.cls idx ci j) (hL : L a = .inr (.inr (ci, fs))) (ha : a < n) (hfs : fs[j]? = some f) (hv : qf B (c a j) f = v)
    (h : W p l e R s m args below meth cd H locs k z Q (F0 m (pc + 3) ls (v :: rest))) : W p l e R s m args below meth cd H locs k z Q (F0 m pc ls (.ref (B + a) :: rest)) := by
  obtain ⟨C0, T, N, h1, h2, h3, h4⟩ := hf
  have hP := hH.one ha hL
  have hval : (qfs B (c a) 0 fs)[j]? = some v := by rw [q_fs, hfs, ← hv, Nat.zero_add]; rfl
  rcases h4 with h4 | ⟨host, h4⟩
  · exact va_get (D := D) (cl := qcl) (tys := qtys cs) (C := C0) (T := T) (N := N) (Ts := qALL) (fs := qfs B (c a) 0 fs) C.1 C.2.1 C.2.2.2.2.2.1 h3 C.2.2.2.2.1 C.2.2.2.2.2.2.2.1 hP 0 rfl h1 j h2 (C.2.2.2.2.2.1 _ h4) (fun _ q => q) hval hd h
  · exact va_getN (D := D) (cl := qcl) (tys := qtys cs) (C := C0) (T := T) (N := N) (Ts := qALL) (fs := qfs B (c a) 0 fs) C.1 C.2.1 C.2.2.2.2.2.1 h3 C.2.2.2.2.1 C.2.2.2.2.2.2.2.1 hP 0 rfl h1 j h2 (va_Nw.use rfl (C.2.2.2.2.2.2.1 _ h4)) (fun _ q => q) hval hd h
theorem g_getI {a ci j idx kd : Nat} {fs : List qF} {ji v : Int} (hd : decode Y.1.2.1 pc = .ok (.getfield idx, 3)) (hf : qFl Y.1.1.cls idx ci j) (hL : w.1 a = .inr (.inr (ci, fs))) (ha : a < w.2.1) (hfs : fs[j]? = some (.inr kd)) (hkd : kd ≠ 1) (hj : ji = (j : Int)) (hv : c a ji = v) (h : qG Y w (pc + 3) lo (qI v :: st) c) : qG Y w pc lo (qP a :: st) c := by
  subst hj; subst hv
  intro p l e R s m args below meth cd D cs B H locs ls C hE hH hS hl hn
  exact q_get C hH hd hf hL ha hfs (q_fi hkd) (h p l e R s m args below meth cd D cs B H locs ls C hE hH hS hl hn)
theorem g_getJ {a ci j idx : Nat} {fs : List qF} {ji v : Int} (hd : decode Y.1.2.1 pc = .ok (.getfield idx, 3)) (hf : qFl Y.1.1.cls idx ci j) (hL : w.1 a = .inr (.inr (ci, fs))) (ha : a < w.2.1) (hfs : fs[j]? = some (.inr 1)) (hj : ji = (j : Int)) (hv : c a ji = v) (h : qG Y w (pc + 3) lo (qJ v :: st) c) : qG Y w pc lo (qP a :: st) c := by
  subst hj; subst hv
  intro p l e R s m args below meth cd D cs B H locs ls C hE hH hS hl hn
  exact q_get C hH hd hf hL ha hfs rfl (h p l e R s m args below meth cd D cs B H locs ls C hE hH hS hl hn)
theorem g_getP {a ci j idx b : Nat} {fs : List qF} (hd : decode Y.1.2.1 pc = .ok (.getfield idx, 3)) (hf : qFl Y.1.1.cls idx ci j) (hL : w.1 a = .inr (.inr (ci, fs))) (ha : a < w.2.1) (hfs : fs[j]? = some (.inl (some b))) (h : qG Y w (pc + 3) lo (qP b :: st) c) : qG Y w pc lo (qP a :: st) c := by
  intro p l e R s m args below meth cd D cs B H locs ls C hE hH hS hl hn
  exact q_get C hH hd hf hL ha hfs rfl (h p l e R s m args below meth cd D cs B H locs ls C hE hH hS hl hn)
theorem q_putW {v : Value} {a ci j idx : Nat} {fs : List qF} {ty : FieldType} {fin : Bool} {p : Program} {l : Launch} {e : Env} {R : Room} {s : State} {m : MethodId} {args : Array Value} {below : List Frame} {meth : Method} {cd : Code} {D : va_G} {cs : qS} {B n k z : Nat} {L : Nat → qL} {H : Heap} {locs : List Loc} {ls : Array Slot} {X : qM} {r : Nat × Nat × Nat} {Q : State → Prop} {rest : List Value}
    (C : qCx X r p R s m args meth cd D cs B) (hH : qH D cs B L n c H) (hS : va_S (fun q : Nat => B ≤ q) s.heap H locs) (hd : decode X.2.1 pc = .ok (.putfield idx, 3)) (hf : qFl X.1.cls idx ci j) (hw : qFw ci j ty fin) (hfin : fin = true → X.1.name = "<init>" ∧ (∀ q : vw_C, qcl[ci]? = some q → X.1.cls = q.1) ∧ ∀ (host : String) (T : u_T) (C0 : String) (N : Nat), qcl[ci]? = some (C0, T, N) → Cond.fieldLinkNest X.1.cls idx (T j).1 (T j).2.1 (T j).2.2.1 host ∉ qNZ) (hL : L a = .inr (.inr (ci, fs))) (ha : a < n) (hjl : j < fs.length) (hn : narrow ty v = v) (hfit : fits ty v = true)
    (h : ∀ (H1 : Heap) (locs1 : List Loc), H1.size = H.size → (∀ q, q ≠ B + a → H1[q]? = H[q]?) → va_at D qcl (B + a, .inr (ci, (qfs B (c a) 0 fs).set j v)) H1 → va_S (fun q : Nat => B ≤ q) s.heap H1 locs1 → W p l e R s m args below meth cd H1 locs1 k z Q (F0 m (pc + 3) ls rest)) : W p l e R s m args below meth cd H locs k z Q (F0 m pc ls (v :: .ref (B + a) :: rest)) := by
  obtain ⟨C0, T, N, h1, h2, h3, h4⟩ := hf
  obtain ⟨C1, T1, N1, ty0, g1, g2, g3, g4, g5, g6⟩ := hw
  cases h1.symm.trans g1
  obtain ⟨hx, hb, -, -, hown, hts, hNZ, hK, -, hname, -⟩ := C
  have hap := va_apart (own := X.1.cls) hts h3 ty0 g2 g3 hK h1
  have hat := hH.2 a ha
  rw [hL] at hat
  obtain ⟨r0, q0, cell, q1, q2, q3, q4⟩ := hat
  cases q0.symm.trans h1
  obtain ⟨hSl, hfc, kC, hkC, hkind⟩ := hK.1 ci _ h1
  obtain ⟨cf, kf, fi, f, hi, hsl⟩ := hSl j h2
  have hst := (u_facts hfc hkC (u_lays hts h3 h2) hi).1
  have hlen : j < (qfs B (c a) 0 fs).length := by rw [q_fsl]; exact hjl
  have fin1 : ∀ (H' : Heap), H'[B + a]? = some (cell.setSlot f.slot v) → H'.size = H.size → (∀ q, q ≠ B + a → H'[q]? = H[q]?) → W p l e R s m args below meth cd H' (locs ++ [⟨B + a, f.slot⟩]) k z Q (F0 m (pc + 3) ls rest) := by
    intro H' e1 e2 e3
    rw [hsl] at e1
    refine h H' _ e2 e3 ⟨_, h1, t_OB.to (V := updV (vp_V (qfs B (c a) 0 fs)) j v) ⟨_, e1, q2, q3, t_set q4 hap h2 v⟩ (fun i _ => vp_updV_set hlen v i)⟩ (hS.put e2 e3 (by show B ≤ B + a; omega))
  cases fin with
  | false =>
    have hlay := hts _ (h3 _ (u_in_lay h2))
    unfold u_lay at hlay
    rw [if_neg (by rw [g4]; decide)] at hlay
    have h6 := u_store hfc hkC hkind hlay hi g5 hn hfit
    rcases h4 with h4 | ⟨host, h4⟩
    · exact W.putK hx hb (f := f) ⟨hown, hts _ h4, ⟨_, _, _, hi⟩, hst⟩ (by rw [q2]; exact h6) q1 q3 (by rw [hsl]; exact k2_hasslot (q4 j h2)) rfl rfl hd fin1
    · exact va_WputK hx hb (f := f) hown (va_Nw.use rfl (hNZ _ h4)) hi hst (by rw [q2]; exact h6) q1 q3 (by rw [hsl]; exact k2_hasslot (q4 j h2)) rfl rfl hd fin1
  | true =>
    obtain ⟨f1, f2, f3⟩ := hfin rfl
    have hlay := hts _ (h3 _ (u_in_lay h2))
    unfold u_lay at hlay
    rw [if_pos g4] at hlay
    have hcf : m.cls = cf := by
      obtain ⟨_, _, c', _, _, _, -, -, hf', -, -, -, hown2, -⟩ := Cond.laysFinal_spec hlay
      have e1 : c' = cf := by have := hi.symm.trans hf'; simp at this; exact this.1.symm
      have f2' : X.1.cls = C0 := f2 _ h1
      rw [g6, ← f2'] at hown2
      rw [← e1]; exact Option.some.inj (hown.symm.trans hown2)
    have h6 := u_fits hfc hkC hkind (Or.inr hlay) hi g5 hn hfit
    rcases h4 with h4 | ⟨host, h4⟩
    · exact W.putFinK hx hb hown (hts _ h4) hi hst hcf (hname.trans f1) (by rw [q2]; exact h6) q1 q3 (by rw [hsl]; exact k2_hasslot (q4 j h2)) rfl rfl hd fin1
    · exact absurd h4 (f3 _ _ _ _ h1)
theorem q_fset {B : Nat} {g g' : Int → Int} {fs fs' : List qF} {j : Nat} {f : qF} {v : Value} (hl : fs'.length = fs.length) (hf : fs'[j]? = some f) (hv : qf B (g' j) f = v) (ho : ∀ i : Nat, i ≠ j → fs'[i]? = fs[i]? ∧ g' i = g i) : (qfs B g 0 fs).set j v = qfs B g' 0 fs' := by
  apply List.ext_getElem?
  intro i
  have hj : j < fs'.length := (List.getElem?_eq_some_iff.mp hf).1
  rw [List.getElem?_set, q_fsl]
  by_cases e : j = i
  · subst e
    rw [if_pos rfl, if_pos (by omega), q_fs, hf, Nat.zero_add, ← hv]; rfl
  · rw [if_neg e, q_fs, q_fs, (ho i (fun q => e q.symm)).1, Nat.zero_add, (ho i (fun q => e q.symm)).2]
theorem g_putI {a ci j idx kd : Nat} {fs : List qF} {x : Int} (ji : Int) (hd : decode Y.1.2.1 pc = .ok (.putfield idx, 3)) (hf : qFl Y.1.1.cls idx ci j) (hw : qFw ci j .int false) (hL : w.1 a = .inr (.inr (ci, fs))) (ha : a < w.2.1) (hfs : fs[j]? = some (.inr kd)) (hkd : kd ≠ 1) (hj : ji = (j : Int)) (h : qG Y w (pc + 3) lo st (qu c a ji x)) : qG Y w pc lo (qI x :: qP a :: st) c := by
  subst hj
  intro p l e R s m args below meth cd D cs B H locs ls C hE hH hS hl hn
  have hjl : j < fs.length := (List.getElem?_eq_some_iff.mp hfs).1
  refine q_putW (v := .int (Int32.ofInt x)) C hH hS hd hf hw (fun q => by cases q) hL ha hjl rfl rfl (fun H1 locs1 z1 o1 a1 s1 => ?_)
  refine h p l e R s m args below meth cd D cs B H1 locs1 ls C hE (hH.set (k := a) z1 o1 ?_ (fun i hi => ⟨qu_ne hi, rfl⟩)) s1 hl hn
  rw [hL]
  rw [q_fset (g' := qu c a j x a) (fs' := fs) rfl hfs (by rw [qu_eq]; exact q_fi hkd) (fun i hi => ⟨rfl, qu_off (by omega)⟩)] at a1
  exact a1
theorem g_putZ {a ci j idx kd : Nat} {fs : List qF} {x : Int} (ji : Int) (hd : decode Y.1.2.1 pc = .ok (.putfield idx, 3)) (hf : qFl Y.1.1.cls idx ci j) (hw : qFw ci j .boolean false) (hL : w.1 a = .inr (.inr (ci, fs))) (ha : a < w.2.1) (hfs : fs[j]? = some (.inr kd)) (hkd : kd ≠ 1) (hj : ji = (j : Int)) (hb : x = 0 ∨ x = 1) (h : qG Y w (pc + 3) lo st (qu c a ji x)) : qG Y w pc lo (qI x :: qP a :: st) c := by
  subst hj
  intro p l e R s m args below meth cd D cs B H locs ls C hE hH hS hl hn
  have hjl : j < fs.length := (List.getElem?_eq_some_iff.mp hfs).1
  refine q_putW (v := .int (Int32.ofInt x)) C hH hS hd hf hw (fun q => by cases q) hL ha hjl (by rcases hb with rfl | rfl <;> decide) (by rcases hb with rfl | rfl <;> decide) (fun H1 locs1 z1 o1 a1 s1 => ?_)
  refine h p l e R s m args below meth cd D cs B H1 locs1 ls C hE (hH.set (k := a) z1 o1 ?_ (fun i hi => ⟨qu_ne hi, rfl⟩)) s1 hl hn
  rw [hL]
  rw [q_fset (g' := qu c a j x a) (fs' := fs) rfl hfs (by rw [qu_eq]; exact q_fi hkd) (fun i hi => ⟨rfl, qu_off (by omega)⟩)] at a1
  exact a1
theorem g_putJ {a ci j idx : Nat} {fs : List qF} {x : Int} (ji : Int) (hd : decode Y.1.2.1 pc = .ok (.putfield idx, 3)) (hf : qFl Y.1.1.cls idx ci j) (hw : qFw ci j .long false) (hL : w.1 a = .inr (.inr (ci, fs))) (ha : a < w.2.1) (hfs : fs[j]? = some (.inr 1)) (hj : ji = (j : Int)) (h : qG Y w (pc + 3) lo st (qu c a ji x)) : qG Y w pc lo (qJ x :: qP a :: st) c := by
  subst hj
  intro p l e R s m args below meth cd D cs B H locs ls C hE hH hS hl hn
  have hjl : j < fs.length := (List.getElem?_eq_some_iff.mp hfs).1
  refine q_putW (v := .long (Int64.ofInt x)) C hH hS hd hf hw (fun q => by cases q) hL ha hjl rfl rfl (fun H1 locs1 z1 o1 a1 s1 => ?_)
  refine h p l e R s m args below meth cd D cs B H1 locs1 ls C hE (hH.set (k := a) z1 o1 ?_ (fun i hi => ⟨qu_ne hi, rfl⟩)) s1 hl hn
  rw [hL]
  rw [q_fset (g' := qu c a j x a) (fs' := fs) rfl hfs (by rw [qu_eq]; rfl) (fun i hi => ⟨rfl, qu_off (by omega)⟩)] at a1
  exact a1
-- returns
section RET
variable {X : qM} {r : Nat × Nat × Nat} {E : State → Array Value → Nat → Prop} {post : Option qV → (Nat → qL) → Nat → qC → Prop}
theorem g_iret {v : Int} (hd : decode X.2.1 pc = .ok (.ireturn, 1)) (hr : X.2.2.2 = some .int) (hk : w.2.2.1 ≤ r.2.1) (hz : w.2.2.2 ≤ r.2.2) (hq : post (some (qI v)) w.1 w.2.1 c) : qG (X, r, E, qZm post r.2.1 r.2.2) w pc lo [qI v] c := by
  intro p l e R s m args below meth cd D cs B H locs ls C hE hH hS hl hn
  have hlocks : meth.locks = false := C.2.2.2.2.2.2.2.2.1
  refine W.widen (k := r.2.1) (n := r.2.2) hk hz ?_
  exact W.iret (v := Int32.ofInt v) C.1 C.2.1 (C.2.2.1.trans hr) (fun t ht hW => ⟨⟨some (qI v), w.1, w.2.1, c, rfl, hq, by rw [ht]; exact hH⟩, hS.F ht⟩) hS.2.2 hd
theorem g_zret {v : Int} (hd : decode X.2.1 pc = .ok (.ireturn, 1)) (hr : X.2.2.2 = some .boolean) (hb : v = 0 ∨ v = 1) (hk : w.2.2.1 ≤ r.2.1) (hz : w.2.2.2 ≤ r.2.2) (hq : post (some (qI v)) w.1 w.2.1 c) : qG (X, r, E, qZm post r.2.1 r.2.2) w pc lo [qI v] c := by
  intro p l e R s m args below meth cd D cs B H locs ls C hE hH hS hl hn
  have hlocks : meth.locks = false := C.2.2.2.2.2.2.2.2.1
  refine W.widen (k := r.2.1) (n := r.2.2) hk hz ?_
  exact W.zret (v := Int32.ofInt v) (ty := .boolean) C.1 C.2.1 (C.2.2.1.trans hr) (by rcases hb with rfl | rfl <;> decide) (fun t ht hW => ⟨⟨some (qI v), w.1, w.2.1, c, rfl, hq, by rw [ht]; exact hH⟩, hS.F ht⟩) hS.2.2 hd
theorem g_lret {v : Int} (hd : decode X.2.1 pc = .ok (.lreturn, 1)) (hr : X.2.2.2 = some .long) (hk : w.2.2.1 ≤ r.2.1) (hz : w.2.2.2 ≤ r.2.2) (hq : post (some (qJ v)) w.1 w.2.1 c) : qG (X, r, E, qZm post r.2.1 r.2.2) w pc lo [qJ v] c := by
  intro p l e R s m args below meth cd D cs B H locs ls C hE hH hS hl hn
  have hlocks : meth.locks = false := C.2.2.2.2.2.2.2.2.1
  refine W.widen (k := r.2.1) (n := r.2.2) hk hz ?_
  exact W.lret (v := Int64.ofInt v) C.1 C.2.1 (C.2.2.1.trans hr) (fun t ht hW => ⟨⟨some (qJ v), w.1, w.2.1, c, rfl, hq, by rw [ht]; exact hH⟩, hS.F ht⟩) hS.2.2 hd
theorem g_vret (hd : decode X.2.1 pc = .ok (.return_, 1)) (hr : X.2.2.2 = none) (hk : w.2.2.1 ≤ r.2.1) (hz : w.2.2.2 ≤ r.2.2) (hq : post none w.1 w.2.1 c) : qG (X, r, E, qZm post r.2.1 r.2.2) w pc lo [] c := by
  intro p l e R s m args below meth cd D cs B H locs ls C hE hH hS hl hn
  have hlocks : meth.locks = false := C.2.2.2.2.2.2.2.2.1
  refine W.widen (k := r.2.1) (n := r.2.2) hk hz ?_
  exact W.vret C.1 C.2.1 (C.2.2.1.trans hr) (fun t ht hW => ⟨⟨none, w.1, w.2.1, c, rfl, hq, by rw [ht]; exact hH⟩, hS.F ht⟩) hS.2.2 hd
end RET
-- calls
theorem q_after {post : Option qV → (Nat → qL) → Nat → qC → Prop} {p : Program} {l : Launch} {e : Env} {R : Room} {s : State} {m : MethodId} {args : Array Value} {below : List Frame} {meth : Method} {cd : Code} {D : va_G} {cs : qS} {B k z mc ms : Nat} {H : Heap} {locs : List Loc} {ls : Array Slot} {Q : State → Prop} {st0 rest : List Value} {a : Array Value}
    (hr : va_Run p l e R s m args below meth cd H locs k z mc ms (F0 m pc ls st0) rest (qQ post D cs B a) (fun q : Nat => B ≤ q)) (hS : va_S (fun q : Nat => B ≤ q) s.heap H locs)
    (kk : ∀ (r : Option qV) (L : Nat → qL) (n : Nat) (c' : qC) (H1 : Heap) (locs1 : List Loc), post r L n c' → qH D cs B L n c' H1 → va_S (fun q : Nat => B ≤ q) s.heap H1 locs1 → W p l e R s m args below meth cd H1 locs1 (k + mc) (z + ms) Q (F0 m (pc + 3) ls ((r.map (qv B)).toList ++ rest))) : W p l e R s m args below meth cd H locs k z Q (F0 m pc ls st0) := by
  intro T hT X
  obtain ⟨v, st₀, t, T', L, h0, X', hL, e1, e2, ⟨⟨r, L', n', c', hv, hp, hh⟩, hz, hk⟩, st⟩ := hr T hT X
  cases hv
  rw [h0] at hz hk
  obtain ⟨t2, a1, b1⟩ := kk r L' n' c' T'.heap (locs ++ L) hp (by rw [e1]; exact hh)
    ⟨Nat.le_trans hS.1 (by rw [e1]; exact hz), fun q h1 h2 => by rw [e1, hk q (Nat.lt_of_lt_of_le h1 hS.1) h2]; exact hS.2.1 q h1 h2, fun q hq => by
      rcases List.mem_append.mp hq with h | h
      · exact hS.2.2 q h
      · exact hL q h⟩ T' rfl X'
  exact ⟨t2, st t2 a1, b1⟩
/-- the words of a call -/
def qLk (own : String) (idx np : Nat) (X : qM) : Prop := Cond.code X.1 X.2.1 X.2.2.1 X.2.2.2 ∈ qALL ∧ Cond.initialized X.1.cls ∈ qALL ∧ (X.1.cls ≠ "java/lang/invoke/MethodHandle" ∧ X.1.cls ≠ "java/lang/invoke/VarHandle" ∧ (parseMethodDescriptor X.1.desc).map (fun d => d.parameters.length) = some np) ∧ X.2.2.1 ≤ 29 ∧ (Cond.methodLink own idx X.1 ∈ qALL ∨ ∃ host : String, Cond.methodLinkNest own idx X.1 host ∈ qNZ)
def qIm (X : qM) : Prop := Cond.instanceMethod X.1 ∈ qALL ∧ Cond.selects X.1.cls X.1 X.1 ∈ qALL
theorem q_good {X : qM} (h : Cond.code X.1 X.2.1 X.2.2.1 X.2.2.2 ∈ qALL) : GoodIn qALL (Cond.code X.1 X.2.1 X.2.2.1 X.2.2.2 :: qALL) := by
  intro w hw
  have h1 : w ∈ qALL := by
    rcases List.mem_cons.mp hw with e | e
    · rw [e]; exact h
    · exact e
  exact ⟨h1, good_of_word (List.mem_filter.mp h1).2⟩
theorem q_warm {w : Cond} (hw : w ∈ qNZ) {s U : State} (hW : s.WarmedH U.vm) (h : va_Nw w s) : va_Nw w U := by
  have h2 := (List.mem_filter.mp hw).2
  cases w <;> first | exact va_Nw.warmF hW h | exact va_Nw.warmM hW h | (exact absurd h2 (by simp [qnest]))
theorem q_blind (D : va_G) (cs : qS) (B : Nat) (L : Nat → qL) (n : Nat) (c : qC) (as : List Value) : FrameBlind (va_Pc as (qU D cs B L n c)) := by
  intro a U g mk q
  obtain ⟨q0, q1, qH, qK, qN⟩ := q
  exact ⟨q0, q1, qH, va_K.moved (u := U) (U := U.calling g mk a) (Vm.Alike.refl U.vm) qK, fun w hw => va_Nw.same (q_tab hw) (rfl : U.vm = (U.calling g mk a).vm) (qN w hw)⟩
theorem q_pre {X : qM} {r : Nat × Nat × Nat} {p : Program} {R : Room} {s : State} {m : MethodId} {args : Array Value} {meth : Method} {cd : Code} {D : va_G} {cs : qS} {B n : Nat} {L : Nat → qL} {H : Heap} {locs : List Loc} (C : qCx X r p R s m args meth cd D cs B) (hH : qH D cs B L n c H) (hS : va_S (fun q : Nat => B ≤ q) s.heap H locs) (U : State) (hU : U.heap = H) (hW : s.WarmedH U.vm) : qU D cs B L n c U :=
  ⟨by rw [hU]; exact Nat.le_trans C.2.2.2.2.2.2.2.2.2.2.1 hS.1, by rw [hU]; exact hH, va_K.moved hW.alike C.2.2.2.2.2.2.2.1, fun w hw => q_warm hw hW (C.2.2.2.2.2.2.1 w hw)⟩
theorem q_stk {B : Nat} {As rest : List qV} {a : Nat} {st0 : List qV} (h : st0 = As.reverse ++ qP a :: rest) : st0.map (qv B) = (As.map (qv B)).reverse ++ .ref (B + a) :: rest.map (qv B) := by
  rw [h, List.map_append, List.map_reverse]; rfl
theorem q_stkS {B : Nat} {As rest : List qV} {st0 : List qV} (h : st0 = As.reverse ++ rest) : st0.map (qv B) = (As.map (qv B)).reverse ++ rest.map (qv B) := by
  rw [h, List.map_append, List.map_reverse]
theorem q_ret {B : Nat} {r : Option qV} {rest : List qV} : (r.map (qv B)).toList ++ rest.map (qv B) = (r.toList ++ rest).map (qv B) := by
  cases r <;> rfl
theorem g_callV {X : qM} {r : Nat × Nat × Nat} {As rest st0 : List qV} {a ci idx np : Nat} {fs : List qF} {post : Option qV → (Nat → qL) → Nat → qC → Prop} (hM : qK X r (qP a :: As) w.1 w.2.1 c post) (hd : decode Y.1.2.1 pc = .ok (.invokevirtual idx, 3)) (hk : qLk Y.1.1.cls idx np X) (hi : qIm X) (hL : w.1 a = .inr (.inr (ci, fs))) (ha : a < w.2.1) (hci : (qcl[ci]?).map (fun q => q.1) = some X.1.cls) (hn : As.length = np) (hst : st0 = As.reverse ++ qP a :: rest) (hcs : Nat.ble (qcs rest) 8 = true) (hr : r.1 + 1 ≤ Y.2.1.1) (hmc : w.2.2.1 + r.2.1 ≤ Y.2.1.2.1) (hms : w.2.2.2 + r.2.2 ≤ Y.2.1.2.2)
    (kk : ∀ (v : Option qV) (L : Nat → qL) (n : Nat) (c' : qC), post v L n c' → qG Y (L, n, w.2.2.1 + r.2.1, w.2.2.2 + r.2.2) (pc + 3) lo (v.toList ++ rest) c') : qG Y w pc lo st0 c := by
  intro p l e R s m args below meth cd D cs B H locs ls C hE hH hS hl hnl
  have C' := C
  obtain ⟨hx, hb, -, hml, hown, hts, hNZ, hK, -, hname, hB, hfr, hlc, hce, hso⟩ := C
  obtain ⟨k1, k2, k3, k4, k5⟩ := hk
  have hR : (qrm r).frames + 1 ≤ R.frames ∧ 8 + (X.2.2.1 + 11) + (qrm r).locals ≤ R.locals := ⟨by show r.1 + 1 ≤ _; omega, by show 8 + (X.2.2.1 + 11) + 48 * r.1 ≤ _; omega⟩
  have hsz : ls.size = Y.1.2.2.1 := hnl
  obtain ⟨q, hq, hqc⟩ : ∃ q, qcl[ci]? = some q ∧ q.1 = X.1.cls := by
    cases h : qcl[ci]? with
    | none => rw [h] at hci; cases hci
    | some q => rw [h] at hci; exact ⟨q, rfl, Option.some.inj hci⟩
  have hrecv := va_recv hK (hH.one ha hL) (ci := ci) (q0 := 0) hq rfl
  rw [hqc] at hrecv
  have hpre : PreV s H X.1.cls (B + a) (va_Pc ((qP a :: As).map (qv B)) (qU D cs B w.1 w.2.1 c)) (As.map (qv B)) := ⟨q_blind _ _ _ _ _ _ _, hrecv, fun U hU hW => ⟨rfl, q_pre C' hH hS U hU hW⟩⟩
  have hW0 : 2 * (F0 m pc ls (st0.map (qv B))).monitorRoom + ((rest.map (qv B)).map fun v => v.category).sum ≤ 8 := by
    rw [q_cs]; show 2 * 0 + _ ≤ 8; have := Nat.le_of_ble_eq_true hcs; omega
  have hS2 := hS
  rcases k5 with k5 | ⟨host, k5⟩
  · refine q_after (va_runV (As := As.map (qv B)) (rest := rest.map (qv B)) (b := B + a) (n := np) ⟨hx, hb, hml, hown, hts⟩ (hM l D cs B) ⟨callB_of np hts (q_good k1) rfl rfl rfl (hts _ k2) (hts _ k5) k3 hR, hts _ hi.1, hts _ hi.2⟩ hpre rfl (by rw [List.length_map]; exact hn) hsz (q_stk hst) hW0 hd ⟨by show _ + r.2.1 ≤ _; omega, by show _ + r.2.2 ≤ _; omega⟩) hS (fun v L n c' H1 locs1 hp hH1 hS1 => ?_)
    rw [q_ret]
    exact kk v L n c' hp p l e R s m args below meth cd D cs B H1 locs1 ls C' hE hH1 hS1 hl hnl
  · refine q_after (va_runVN (As := As.map (qv B)) (rest := rest.map (qv B)) (b := B + a) (n := np) ⟨hx, hb, hml, hown, hts⟩ (hM l D cs B) ⟨va_cnB np hts (q_good k1) rfl rfl rfl (hNZ _ k5) (hts _ k2) k3 hR, hts _ hi.1, hts _ hi.2⟩ hpre rfl (by rw [List.length_map]; exact hn) hsz (q_stk hst) hW0 hd ⟨by show _ + r.2.1 ≤ _; omega, by show _ + r.2.2 ≤ _; omega⟩) hS (fun v L n c' H1 locs1 hp hH1 hS1 => ?_)
    rw [q_ret]
    exact kk v L n c' hp p l e R s m args below meth cd D cs B H1 locs1 ls C' hE hH1 hS1 hl hnl
theorem g_callS {X : qM} {r : Nat × Nat × Nat} {As rest st0 : List qV} {idx np : Nat} {post : Option qV → (Nat → qL) → Nat → qC → Prop} (hM : qK X r As w.1 w.2.1 c post) (hd : decode Y.1.2.1 pc = .ok (.invokestatic idx, 3)) (hk : qLk Y.1.1.cls idx np X) (hi : Cond.static X.1 ∈ qALL) (hn : As.length = np) (hst : st0 = As.reverse ++ rest) (hcs : Nat.ble (qcs rest) 8 = true) (hr : r.1 + 1 ≤ Y.2.1.1) (hmc : w.2.2.1 + r.2.1 ≤ Y.2.1.2.1) (hms : w.2.2.2 + r.2.2 ≤ Y.2.1.2.2)
    (kk : ∀ (v : Option qV) (L : Nat → qL) (n : Nat) (c' : qC), post v L n c' → qG Y (L, n, w.2.2.1 + r.2.1, w.2.2.2 + r.2.2) (pc + 3) lo (v.toList ++ rest) c') : qG Y w pc lo st0 c := by
  intro p l e R s m args below meth cd D cs B H locs ls C hE hH hS hl hnl
  have C' := C
  obtain ⟨hx, hb, -, hml, hown, hts, hNZ, hK, -, hname, hB, hfr, hlc, hce, hso⟩ := C
  obtain ⟨k1, k2, k3, k4, k5⟩ := hk
  have hR : (qrm r).frames + 1 ≤ R.frames ∧ 8 + (X.2.2.1 + 11) + (qrm r).locals ≤ R.locals := ⟨by show r.1 + 1 ≤ _; omega, by show 8 + (X.2.2.1 + 11) + 48 * r.1 ≤ _; omega⟩
  have hsz : ls.size = Y.1.2.2.1 := hnl
  have hpre : PreS s H (va_Pc (As.map (qv B)) (qU D cs B w.1 w.2.1 c)) (As.map (qv B)) := ⟨q_blind _ _ _ _ _ _ _, fun U hU hW => ⟨rfl, q_pre C' hH hS U hU hW⟩⟩
  have hW0 : 2 * (F0 m pc ls (st0.map (qv B))).monitorRoom + ((rest.map (qv B)).map fun v => v.category).sum ≤ 8 := by
    rw [q_cs]; show 2 * 0 + _ ≤ 8; have := Nat.le_of_ble_eq_true hcs; omega
  rcases k5 with k5 | ⟨host, k5⟩
  · refine q_after (va_runS (As := As.map (qv B)) (rest := rest.map (qv B)) (n := np) ⟨hx, hb, hml, hown, hts⟩ (hM l D cs B) ⟨callB_of np hts (q_good k1) rfl rfl rfl (hts _ k2) (hts _ k5) k3 hR, hts _ hi⟩ hpre rfl (by rw [List.length_map]; exact hn) hsz (q_stkS hst) hW0 hd ⟨by show _ + r.2.1 ≤ _; omega, by show _ + r.2.2 ≤ _; omega⟩) hS (fun v L n c' H1 locs1 hp hH1 hS1 => ?_)
    rw [q_ret]
    exact kk v L n c' hp p l e R s m args below meth cd D cs B H1 locs1 ls C' hE hH1 hS1 hl hnl
  · refine q_after (va_runSN (As := As.map (qv B)) (rest := rest.map (qv B)) (n := np) ⟨hx, hb, hml, hown, hts⟩ (hM l D cs B) ⟨va_cnB np hts (q_good k1) rfl rfl rfl (hNZ _ k5) (hts _ k2) k3 hR, hts _ hi, trivial⟩ hpre rfl (by rw [List.length_map]; exact hn) hsz (q_stkS hst) hW0 hd ⟨by show _ + r.2.1 ≤ _; omega, by show _ + r.2.2 ≤ _; omega⟩) hS (fun v L n c' H1 locs1 hp hH1 hS1 => ?_)
    rw [q_ret]
    exact kk v L n c' hp p l e R s m args below meth cd D cs B H1 locs1 ls C' hE hH1 hS1 hl hnl
theorem g_callI {X : qM} {r : Nat × Nat × Nat} {As rest st0 : List qV} {a idx np : Nat} {post : Option qV → (Nat → qL) → Nat → qC → Prop} (hM : qK X r (qP a :: As) w.1 w.2.1 c post) (hd : decode Y.1.2.1 pc = .ok (.invokespecial idx, 3)) (hk : qLk Y.1.1.cls idx np X) (hnest : ∀ host : String, Cond.methodLinkNest Y.1.1.cls idx X.1 host ∉ qNZ) (hi : Cond.instanceMethod X.1 ∈ qALL) (hy : X.1.name = "<init>") (hv : X.2.2.2 = none) (hn : As.length = np) (hst : st0 = As.reverse ++ qP a :: rest) (hcs : Nat.ble (qcs rest) 8 = true) (hr : r.1 + 1 ≤ Y.2.1.1) (hmc : w.2.2.1 + r.2.1 ≤ Y.2.1.2.1) (hms : w.2.2.2 + r.2.2 ≤ Y.2.1.2.2)
    (kk : ∀ (v : Option qV) (L : Nat → qL) (n : Nat) (c' : qC), post v L n c' → qG Y (L, n, w.2.2.1 + r.2.1, w.2.2.2 + r.2.2) (pc + 3) lo (v.toList ++ rest) c') : qG Y w pc lo st0 c := by
  intro p l e R s m args below meth cd D cs B H locs ls C hE hH hS hl hnl
  have C' := C
  obtain ⟨hx, hb, -, hml, hown, hts, hNZ, hK, -, hname, hB, hfr, hlc, hce, hso⟩ := C
  obtain ⟨k1, k2, k3, k4, k5⟩ := hk
  have hR : (qrm r).frames + 1 ≤ R.frames ∧ 8 + (X.2.2.1 + 11) + (qrm r).locals ≤ R.locals := ⟨by show r.1 + 1 ≤ _; omega, by show 8 + (X.2.2.1 + 11) + 48 * r.1 ≤ _; omega⟩
  have hsz : ls.size = Y.1.2.2.1 := hnl
  have hpre : PreS s H (va_Pc ((qP a :: As).map (qv B)) (qU D cs B w.1 w.2.1 c)) (.ref (B + a) :: As.map (qv B)) := ⟨q_blind _ _ _ _ _ _ _, fun U hU hW => ⟨rfl, q_pre C' hH hS U hU hW⟩⟩
  have hW0 : 2 * (F0 m pc ls (st0.map (qv B))).monitorRoom + ((rest.map (qv B)).map fun v => v.category).sum ≤ 8 := by
    rw [q_cs]; show 2 * 0 + _ ≤ 8; have := Nat.le_of_ble_eq_true hcs; omega
  have hMl := hM l D cs B
  rw [hv] at hMl k1
  have hg := q_good (X := (X.1, X.2.1, X.2.2.1, none)) k1
  rcases k5 with k5 | ⟨host, k5⟩
  · refine q_after (va_runI (As := As.map (qv B)) (rest := rest.map (qv B)) (b := B + a) (n := np) ⟨hx, hb, hml, hown, hts⟩ hMl ⟨callB_of np hts hg rfl rfl rfl (hts _ k2) (hts _ k5) k3 hR, hy, hts _ hi⟩ hpre rfl (by rw [List.length_map]; exact hn) hsz (q_stk hst) hW0 hd ⟨by show _ + r.2.1 ≤ _; omega, by show _ + r.2.2 ≤ _; omega⟩) hS (fun v L n c' H1 locs1 hp hH1 hS1 => ?_)
    rw [q_ret]
    exact kk v L n c' hp p l e R s m args below meth cd D cs B H1 locs1 ls C' hE hH1 hS1 hl hnl
  · exact absurd k5 (hnest host)
end QH
end
