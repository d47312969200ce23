section
-- ===== PART A: goes FIRST, ahead of the names: the tables' words, and 'selects' of the private methods out of them =====
/-- a private method of a class that the tables say can be made, by its rows of tables_1 -/
def lw_okq (q : MethodName × Nat) : Prop := (q.1.cls ≠ "java/lang/invoke/MethodHandle" ∧ q.1.cls ≠ "java/lang/invoke/VarHandle") ∧ Cond.instantiable q.1.cls q.2 ∈ tables_1 ∧ Cond.privateMethod q.1 ∈ tables_1 ∧ Cond.instanceMethod q.1 ∈ tables_1
theorem lw_p0 : lw_okq (⟨"RingMeets$Scene", "cellsWithAtLeast", "(I)I"⟩, 3) := ⟨⟨by decide +kernel, by decide +kernel⟩, List.mem_of_getElem? (i := 21) (by decide +kernel), List.mem_of_getElem? (i := 143) (by decide +kernel), List.mem_of_getElem? (i := 144) (by decide +kernel)⟩
theorem lw_p1 : lw_okq (⟨"RingMeets$Rules", "fits", "(IIII)Z"⟩, 2) := ⟨⟨by decide +kernel, by decide +kernel⟩, List.mem_of_getElem? (i := 27) (by decide +kernel), List.mem_of_getElem? (i := 257) (by decide +kernel), List.mem_of_getElem? (i := 258) (by decide +kernel)⟩
theorem lw_p2 : lw_okq (⟨"RingMeets$Look", "goalFrom", "(II)I"⟩, 5) := ⟨⟨by decide +kernel, by decide +kernel⟩, List.mem_of_getElem? (i := 54) (by decide +kernel), List.mem_of_getElem? (i := 267) (by decide +kernel), List.mem_of_getElem? (i := 268) (by decide +kernel)⟩
theorem lw_p3 : lw_okq (⟨"RingMeets", "refusalFromNow", "(I)I"⟩, 7) := ⟨⟨by decide +kernel, by decide +kernel⟩, List.mem_of_getElem? (i := 13) (by decide +kernel), List.mem_of_getElem? (i := 284) (by decide +kernel), List.mem_of_getElem? (i := 285) (by decide +kernel)⟩
theorem lw_p4 : lw_okq (⟨"RingMeets", "walksFromNow", "(IZ)LRingMeets$Walks;"⟩, 7) := ⟨⟨by decide +kernel, by decide +kernel⟩, List.mem_of_getElem? (i := 13) (by decide +kernel), List.mem_of_getElem? (i := 291) (by decide +kernel), List.mem_of_getElem? (i := 292) (by decide +kernel)⟩
theorem lw_p5 : lw_okq (⟨"RingMeets", "newWalks", "(IZ)LRingMeets$Walks;"⟩, 7) := ⟨⟨by decide +kernel, by decide +kernel⟩, List.mem_of_getElem? (i := 13) (by decide +kernel), List.mem_of_getElem? (i := 295) (by decide +kernel), List.mem_of_getElem? (i := 296) (by decide +kernel)⟩
theorem lw_p6 : lw_okq (⟨"RingMeets$Walks", "find", "(I)I"⟩, 20) := ⟨⟨by decide +kernel, by decide +kernel⟩, List.mem_of_getElem? (i := 299) (by decide +kernel), List.mem_of_getElem? (i := 402) (by decide +kernel), List.mem_of_getElem? (i := 403) (by decide +kernel)⟩
theorem lw_p7 : lw_okq (⟨"RingMeets$Walks", "isWay", "(I)Z"⟩, 20) := ⟨⟨by decide +kernel, by decide +kernel⟩, List.mem_of_getElem? (i := 299) (by decide +kernel), List.mem_of_getElem? (i := 409) (by decide +kernel), List.mem_of_getElem? (i := 410) (by decide +kernel)⟩
theorem lw_p8 : lw_okq (⟨"RingMeets$Walks", "hasMet", "(I)Z"⟩, 20) := ⟨⟨by decide +kernel, by decide +kernel⟩, List.mem_of_getElem? (i := 299) (by decide +kernel), List.mem_of_getElem? (i := 417) (by decide +kernel), List.mem_of_getElem? (i := 418) (by decide +kernel)⟩
theorem lw_p9 : lw_okq (⟨"RingMeets$Walks", "towersSeen", "(I)I"⟩, 20) := ⟨⟨by decide +kernel, by decide +kernel⟩, List.mem_of_getElem? (i := 299) (by decide +kernel), List.mem_of_getElem? (i := 422) (by decide +kernel), List.mem_of_getElem? (i := 423) (by decide +kernel)⟩
theorem lw_p10 : lw_okq (⟨"RingMeets$Moves", "enter", "(I)V"⟩, 4) := ⟨⟨by decide +kernel, by decide +kernel⟩, List.mem_of_getElem? (i := 305) (by decide +kernel), List.mem_of_getElem? (i := 435) (by decide +kernel), List.mem_of_getElem? (i := 436) (by decide +kernel)⟩
theorem lw_p11 : lw_okq (⟨"RingMeets$Walks", "addStepsFrom", "(I)V"⟩, 20) := ⟨⟨by decide +kernel, by decide +kernel⟩, List.mem_of_getElem? (i := 299) (by decide +kernel), List.mem_of_getElem? (i := 440) (by decide +kernel), List.mem_of_getElem? (i := 441) (by decide +kernel)⟩
theorem lw_p12 : lw_okq (⟨"RingMeets$Walks", "setAfter", "(I)I"⟩, 20) := ⟨⟨by decide +kernel, by decide +kernel⟩, List.mem_of_getElem? (i := 299) (by decide +kernel), List.mem_of_getElem? (i := 448) (by decide +kernel), List.mem_of_getElem? (i := 449) (by decide +kernel)⟩
theorem lw_p13 : lw_okq (⟨"RingMeets$Walks", "addStep", "(II)V"⟩, 20) := ⟨⟨by decide +kernel, by decide +kernel⟩, List.mem_of_getElem? (i := 299) (by decide +kernel), List.mem_of_getElem? (i := 468) (by decide +kernel), List.mem_of_getElem? (i := 469) (by decide +kernel)⟩
theorem lw_p14 : lw_okq (⟨"RingMeets$Walks", "tellBackwards", "([IZ)V"⟩, 20) := ⟨⟨by decide +kernel, by decide +kernel⟩, List.mem_of_getElem? (i := 299) (by decide +kernel), List.mem_of_getElem? (i := 472) (by decide +kernel), List.mem_of_getElem? (i := 473) (by decide +kernel)⟩
theorem lw_p15 : lw_okq (⟨"RingMeets$Walks", "lineUpWhatHasMet", "([I)V"⟩, 20) := ⟨⟨by decide +kernel, by decide +kernel⟩, List.mem_of_getElem? (i := 299) (by decide +kernel), List.mem_of_getElem? (i := 476) (by decide +kernel), List.mem_of_getElem? (i := 477) (by decide +kernel)⟩
def lw_privs_1 : List (MethodName × Nat) := [(⟨"RingMeets$Scene", "cellsWithAtLeast", "(I)I"⟩, 3), (⟨"RingMeets$Rules", "fits", "(IIII)Z"⟩, 2), (⟨"RingMeets$Look", "goalFrom", "(II)I"⟩, 5), (⟨"RingMeets", "refusalFromNow", "(I)I"⟩, 7), (⟨"RingMeets", "walksFromNow", "(IZ)LRingMeets$Walks;"⟩, 7), (⟨"RingMeets", "newWalks", "(IZ)LRingMeets$Walks;"⟩, 7), (⟨"RingMeets$Walks", "find", "(I)I"⟩, 20), (⟨"RingMeets$Walks", "isWay", "(I)Z"⟩, 20), (⟨"RingMeets$Walks", "hasMet", "(I)Z"⟩, 20), (⟨"RingMeets$Walks", "towersSeen", "(I)I"⟩, 20), (⟨"RingMeets$Moves", "enter", "(I)V"⟩, 4), (⟨"RingMeets$Walks", "addStepsFrom", "(I)V"⟩, 20), (⟨"RingMeets$Walks", "setAfter", "(I)I"⟩, 20), (⟨"RingMeets$Walks", "addStep", "(II)V"⟩, 20), (⟨"RingMeets$Walks", "tellBackwards", "([IZ)V"⟩, 20), (⟨"RingMeets$Walks", "lineUpWhatHasMet", "([I)V"⟩, 20)]
theorem lw_r1 : ∀ q ∈ lw_privs_1, lw_okq q := List.forall_mem_cons.mpr ⟨lw_p0, List.forall_mem_cons.mpr ⟨lw_p1, List.forall_mem_cons.mpr ⟨lw_p2, List.forall_mem_cons.mpr ⟨lw_p3, List.forall_mem_cons.mpr ⟨lw_p4, List.forall_mem_cons.mpr ⟨lw_p5, List.forall_mem_cons.mpr ⟨lw_p6, List.forall_mem_cons.mpr ⟨lw_p7, List.forall_mem_cons.mpr ⟨lw_p8, List.forall_mem_cons.mpr ⟨lw_p9, List.forall_mem_cons.mpr ⟨lw_p10, List.forall_mem_cons.mpr ⟨lw_p11, List.forall_mem_cons.mpr ⟨lw_p12, List.forall_mem_cons.mpr ⟨lw_p13, List.forall_mem_cons.mpr ⟨lw_p14, List.forall_mem_cons.mpr ⟨lw_p15, fun _ h => absurd h List.not_mem_nil⟩⟩⟩⟩⟩⟩⟩⟩⟩⟩⟩⟩⟩⟩⟩⟩
theorem lw_p16 : lw_okq (⟨"RingMeets$Walks", "lineUp", "([III)V"⟩, 20) := ⟨⟨by decide +kernel, by decide +kernel⟩, List.mem_of_getElem? (i := 299) (by decide +kernel), List.mem_of_getElem? (i := 480) (by decide +kernel), List.mem_of_getElem? (i := 481) (by decide +kernel)⟩
theorem lw_p17 : lw_okq (⟨"RingMeets$Walks", "isStep", "(I)Z"⟩, 20) := ⟨⟨by decide +kernel, by decide +kernel⟩, List.mem_of_getElem? (i := 299) (by decide +kernel), List.mem_of_getElem? (i := 484) (by decide +kernel), List.mem_of_getElem? (i := 485) (by decide +kernel)⟩
theorem lw_p18 : lw_okq (⟨"RingMeets$Walks", "isLastStepOf", "(I)Z"⟩, 20) := ⟨⟨by decide +kernel, by decide +kernel⟩, List.mem_of_getElem? (i := 299) (by decide +kernel), List.mem_of_getElem? (i := 488) (by decide +kernel), List.mem_of_getElem? (i := 489) (by decide +kernel)⟩
theorem lw_p19 : lw_okq (⟨"RingMeets", "imageOf", "(I)LRingMeets$Scene;"⟩, 7) := ⟨⟨by decide +kernel, by decide +kernel⟩, List.mem_of_getElem? (i := 13) (by decide +kernel), List.mem_of_getElem? (i := 530) (by decide +kernel), List.mem_of_getElem? (i := 531) (by decide +kernel)⟩
theorem lw_p20 : lw_okq (⟨"RingMeetsModel", "cells", "()I"⟩, 14) := ⟨⟨by decide +kernel, by decide +kernel⟩, List.mem_of_getElem? (i := 550) (by decide +kernel), List.mem_of_getElem? (i := 608) (by decide +kernel), List.mem_of_getElem? (i := 609) (by decide +kernel)⟩
theorem lw_p21 : lw_okq (⟨"RingMeetsModel", "isCell", "(I)Z"⟩, 14) := ⟨⟨by decide +kernel, by decide +kernel⟩, List.mem_of_getElem? (i := 550) (by decide +kernel), List.mem_of_getElem? (i := 616) (by decide +kernel), List.mem_of_getElem? (i := 617) (by decide +kernel)⟩
theorem lw_p22 : lw_okq (⟨"RingMeetsModel", "walkers", "()I"⟩, 14) := ⟨⟨by decide +kernel, by decide +kernel⟩, List.mem_of_getElem? (i := 550) (by decide +kernel), List.mem_of_getElem? (i := 620) (by decide +kernel), List.mem_of_getElem? (i := 621) (by decide +kernel)⟩
theorem lw_p23 : lw_okq (⟨"RingMeetsModel", "isStand", "(I)Z"⟩, 14) := ⟨⟨by decide +kernel, by decide +kernel⟩, List.mem_of_getElem? (i := 550) (by decide +kernel), List.mem_of_getElem? (i := 628) (by decide +kernel), List.mem_of_getElem? (i := 629) (by decide +kernel)⟩
theorem lw_p24 : lw_okq (⟨"RingMeetsModel", "now", "()I"⟩, 14) := ⟨⟨by decide +kernel, by decide +kernel⟩, List.mem_of_getElem? (i := 550) (by decide +kernel), List.mem_of_getElem? (i := 632) (by decide +kernel), List.mem_of_getElem? (i := 633) (by decide +kernel)⟩
theorem lw_p25 : lw_okq (⟨"RingMeetsModel", "standsOf", "(I)I"⟩, 14) := ⟨⟨by decide +kernel, by decide +kernel⟩, List.mem_of_getElem? (i := 550) (by decide +kernel), List.mem_of_getElem? (i := 636) (by decide +kernel), List.mem_of_getElem? (i := 637) (by decide +kernel)⟩
theorem lw_p26 : lw_okq (⟨"RingMeetsModel", "viewWay", "(II)I"⟩, 14) := ⟨⟨by decide +kernel, by decide +kernel⟩, List.mem_of_getElem? (i := 550) (by decide +kernel), List.mem_of_getElem? (i := 643) (by decide +kernel), List.mem_of_getElem? (i := 644) (by decide +kernel)⟩
theorem lw_p27 : lw_okq (⟨"RingMeetsModel", "held", "(IIIII)I"⟩, 14) := ⟨⟨by decide +kernel, by decide +kernel⟩, List.mem_of_getElem? (i := 550) (by decide +kernel), List.mem_of_getElem? (i := 647) (by decide +kernel), List.mem_of_getElem? (i := 648) (by decide +kernel)⟩
theorem lw_p28 : lw_okq (⟨"RingMeetsModel", "gapAt", "(IIII)I"⟩, 14) := ⟨⟨by decide +kernel, by decide +kernel⟩, List.mem_of_getElem? (i := 550) (by decide +kernel), List.mem_of_getElem? (i := 651) (by decide +kernel), List.mem_of_getElem? (i := 652) (by decide +kernel)⟩
theorem lw_p29 : lw_okq (⟨"RingMeetsModel", "far", "(III)I"⟩, 14) := ⟨⟨by decide +kernel, by decide +kernel⟩, List.mem_of_getElem? (i := 550) (by decide +kernel), List.mem_of_getElem? (i := 655) (by decide +kernel), List.mem_of_getElem? (i := 656) (by decide +kernel)⟩
theorem lw_p30 : lw_okq (⟨"RingMeetsModel", "beside", "(II)I"⟩, 14) := ⟨⟨by decide +kernel, by decide +kernel⟩, List.mem_of_getElem? (i := 550) (by decide +kernel), List.mem_of_getElem? (i := 659) (by decide +kernel), List.mem_of_getElem? (i := 660) (by decide +kernel)⟩
theorem lw_p31 : lw_okq (⟨"RingMeetsModel", "isTurned", "(I)Z"⟩, 14) := ⟨⟨by decide +kernel, by decide +kernel⟩, List.mem_of_getElem? (i := 550) (by decide +kernel), List.mem_of_getElem? (i := 667) (by decide +kernel), List.mem_of_getElem? (i := 668) (by decide +kernel)⟩
def lw_privs_2 : List (MethodName × Nat) := [(⟨"RingMeets$Walks", "lineUp", "([III)V"⟩, 20), (⟨"RingMeets$Walks", "isStep", "(I)Z"⟩, 20), (⟨"RingMeets$Walks", "isLastStepOf", "(I)Z"⟩, 20), (⟨"RingMeets", "imageOf", "(I)LRingMeets$Scene;"⟩, 7), (⟨"RingMeetsModel", "cells", "()I"⟩, 14), (⟨"RingMeetsModel", "isCell", "(I)Z"⟩, 14), (⟨"RingMeetsModel", "walkers", "()I"⟩, 14), (⟨"RingMeetsModel", "isStand", "(I)Z"⟩, 14), (⟨"RingMeetsModel", "now", "()I"⟩, 14), (⟨"RingMeetsModel", "standsOf", "(I)I"⟩, 14), (⟨"RingMeetsModel", "viewWay", "(II)I"⟩, 14), (⟨"RingMeetsModel", "held", "(IIIII)I"⟩, 14), (⟨"RingMeetsModel", "gapAt", "(IIII)I"⟩, 14), (⟨"RingMeetsModel", "far", "(III)I"⟩, 14), (⟨"RingMeetsModel", "beside", "(II)I"⟩, 14), (⟨"RingMeetsModel", "isTurned", "(I)Z"⟩, 14)]
theorem lw_r2 : ∀ q ∈ lw_privs_2, lw_okq q := List.forall_mem_cons.mpr ⟨lw_p16, List.forall_mem_cons.mpr ⟨lw_p17, List.forall_mem_cons.mpr ⟨lw_p18, List.forall_mem_cons.mpr ⟨lw_p19, List.forall_mem_cons.mpr ⟨lw_p20, List.forall_mem_cons.mpr ⟨lw_p21, List.forall_mem_cons.mpr ⟨lw_p22, List.forall_mem_cons.mpr ⟨lw_p23, List.forall_mem_cons.mpr ⟨lw_p24, List.forall_mem_cons.mpr ⟨lw_p25, List.forall_mem_cons.mpr ⟨lw_p26, List.forall_mem_cons.mpr ⟨lw_p27, List.forall_mem_cons.mpr ⟨lw_p28, List.forall_mem_cons.mpr ⟨lw_p29, List.forall_mem_cons.mpr ⟨lw_p30, List.forall_mem_cons.mpr ⟨lw_p31, fun _ h => absurd h List.not_mem_nil⟩⟩⟩⟩⟩⟩⟩⟩⟩⟩⟩⟩⟩⟩⟩⟩
theorem lw_p32 : lw_okq (⟨"RingMeetsModel", "isMirrored", "(I)Z"⟩, 14) := ⟨⟨by decide +kernel, by decide +kernel⟩, List.mem_of_getElem? (i := 550) (by decide +kernel), List.mem_of_getElem? (i := 674) (by decide +kernel), List.mem_of_getElem? (i := 675) (by decide +kernel)⟩
theorem lw_p33 : lw_okq (⟨"RingMeetsModel", "even", "(I)I"⟩, 14) := ⟨⟨by decide +kernel, by decide +kernel⟩, List.mem_of_getElem? (i := 550) (by decide +kernel), List.mem_of_getElem? (i := 678) (by decide +kernel), List.mem_of_getElem? (i := 679) (by decide +kernel)⟩
theorem lw_p34 : lw_okq (⟨"RingMeetsModel", "views", "(I)I"⟩, 14) := ⟨⟨by decide +kernel, by decide +kernel⟩, List.mem_of_getElem? (i := 550) (by decide +kernel), List.mem_of_getElem? (i := 682) (by decide +kernel), List.mem_of_getElem? (i := 683) (by decide +kernel)⟩
theorem lw_p35 : lw_okq (⟨"RingMeetsModel", "turnedBy", "(I)I"⟩, 14) := ⟨⟨by decide +kernel, by decide +kernel⟩, List.mem_of_getElem? (i := 550) (by decide +kernel), List.mem_of_getElem? (i := 686) (by decide +kernel), List.mem_of_getElem? (i := 687) (by decide +kernel)⟩
theorem lw_p36 : lw_okq (⟨"RingMeetsModel", "isRule", "(I)Z"⟩, 14) := ⟨⟨by decide +kernel, by decide +kernel⟩, List.mem_of_getElem? (i := 550) (by decide +kernel), List.mem_of_getElem? (i := 698) (by decide +kernel), List.mem_of_getElem? (i := 699) (by decide +kernel)⟩
theorem lw_p37 : lw_okq (⟨"RingMeetsModel", "ruleOf", "(IIZ)I"⟩, 14) := ⟨⟨by decide +kernel, by decide +kernel⟩, List.mem_of_getElem? (i := 550) (by decide +kernel), List.mem_of_getElem? (i := 714) (by decide +kernel), List.mem_of_getElem? (i := 715) (by decide +kernel)⟩
theorem lw_p38 : lw_okq (⟨"RingMeetsModel", "fits", "(IIIZ)Z"⟩, 14) := ⟨⟨by decide +kernel, by decide +kernel⟩, List.mem_of_getElem? (i := 550) (by decide +kernel), List.mem_of_getElem? (i := 718) (by decide +kernel), List.mem_of_getElem? (i := 719) (by decide +kernel)⟩
theorem lw_p39 : lw_okq (⟨"RingMeetsModel", "doneBy", "(I)I"⟩, 14) := ⟨⟨by decide +kernel, by decide +kernel⟩, List.mem_of_getElem? (i := 550) (by decide +kernel), List.mem_of_getElem? (i := 722) (by decide +kernel), List.mem_of_getElem? (i := 723) (by decide +kernel)⟩
theorem lw_p40 : lw_okq (⟨"RingMeetsModel", "behind", "(III)I"⟩, 14) := ⟨⟨by decide +kernel, by decide +kernel⟩, List.mem_of_getElem? (i := 550) (by decide +kernel), List.mem_of_getElem? (i := 726) (by decide +kernel), List.mem_of_getElem? (i := 727) (by decide +kernel)⟩
theorem lw_p41 : lw_okq (⟨"RingMeetsModel", "layNow", "(IZ)V"⟩, 14) := ⟨⟨by decide +kernel, by decide +kernel⟩, List.mem_of_getElem? (i := 550) (by decide +kernel), List.mem_of_getElem? (i := 741) (by decide +kernel), List.mem_of_getElem? (i := 742) (by decide +kernel)⟩
theorem lw_p42 : lw_okq (⟨"RingMeetsModel", "begin", "(Z)V"⟩, 14) := ⟨⟨by decide +kernel, by decide +kernel⟩, List.mem_of_getElem? (i := 550) (by decide +kernel), List.mem_of_getElem? (i := 745) (by decide +kernel), List.mem_of_getElem? (i := 746) (by decide +kernel)⟩
theorem lw_p43 : lw_okq (⟨"RingMeetsModel", "note", "(I)V"⟩, 14) := ⟨⟨by decide +kernel, by decide +kernel⟩, List.mem_of_getElem? (i := 550) (by decide +kernel), List.mem_of_getElem? (i := 749) (by decide +kernel), List.mem_of_getElem? (i := 750) (by decide +kernel)⟩
theorem lw_p44 : lw_okq (⟨"RingMeetsModel", "listAll", "(I)V"⟩, 14) := ⟨⟨by decide +kernel, by decide +kernel⟩, List.mem_of_getElem? (i := 550) (by decide +kernel), List.mem_of_getElem? (i := 753) (by decide +kernel), List.mem_of_getElem? (i := 754) (by decide +kernel)⟩
theorem lw_p45 : lw_okq (⟨"RingMeetsModel", "movers", "(I)I"⟩, 14) := ⟨⟨by decide +kernel, by decide +kernel⟩, List.mem_of_getElem? (i := 550) (by decide +kernel), List.mem_of_getElem? (i := 757) (by decide +kernel), List.mem_of_getElem? (i := 758) (by decide +kernel)⟩
theorem lw_p46 : lw_okq (⟨"RingMeetsModel", "behindStep", "(II)I"⟩, 14) := ⟨⟨by decide +kernel, by decide +kernel⟩, List.mem_of_getElem? (i := 550) (by decide +kernel), List.mem_of_getElem? (i := 764) (by decide +kernel), List.mem_of_getElem? (i := 765) (by decide +kernel)⟩
theorem lw_p47 : lw_okq (⟨"RingMeetsModel", "isMet", "(I)Z"⟩, 14) := ⟨⟨by decide +kernel, by decide +kernel⟩, List.mem_of_getElem? (i := 550) (by decide +kernel), List.mem_of_getElem? (i := 768) (by decide +kernel), List.mem_of_getElem? (i := 769) (by decide +kernel)⟩
def lw_privs_3 : List (MethodName × Nat) := [(⟨"RingMeetsModel", "isMirrored", "(I)Z"⟩, 14), (⟨"RingMeetsModel", "even", "(I)I"⟩, 14), (⟨"RingMeetsModel", "views", "(I)I"⟩, 14), (⟨"RingMeetsModel", "turnedBy", "(I)I"⟩, 14), (⟨"RingMeetsModel", "isRule", "(I)Z"⟩, 14), (⟨"RingMeetsModel", "ruleOf", "(IIZ)I"⟩, 14), (⟨"RingMeetsModel", "fits", "(IIIZ)Z"⟩, 14), (⟨"RingMeetsModel", "doneBy", "(I)I"⟩, 14), (⟨"RingMeetsModel", "behind", "(III)I"⟩, 14), (⟨"RingMeetsModel", "layNow", "(IZ)V"⟩, 14), (⟨"RingMeetsModel", "begin", "(Z)V"⟩, 14), (⟨"RingMeetsModel", "note", "(I)V"⟩, 14), (⟨"RingMeetsModel", "listAll", "(I)V"⟩, 14), (⟨"RingMeetsModel", "movers", "(I)I"⟩, 14), (⟨"RingMeetsModel", "behindStep", "(II)I"⟩, 14), (⟨"RingMeetsModel", "isMet", "(I)Z"⟩, 14)]
theorem lw_r3 : ∀ q ∈ lw_privs_3, lw_okq q := List.forall_mem_cons.mpr ⟨lw_p32, List.forall_mem_cons.mpr ⟨lw_p33, List.forall_mem_cons.mpr ⟨lw_p34, List.forall_mem_cons.mpr ⟨lw_p35, List.forall_mem_cons.mpr ⟨lw_p36, List.forall_mem_cons.mpr ⟨lw_p37, List.forall_mem_cons.mpr ⟨lw_p38, List.forall_mem_cons.mpr ⟨lw_p39, List.forall_mem_cons.mpr ⟨lw_p40, List.forall_mem_cons.mpr ⟨lw_p41, List.forall_mem_cons.mpr ⟨lw_p42, List.forall_mem_cons.mpr ⟨lw_p43, List.forall_mem_cons.mpr ⟨lw_p44, List.forall_mem_cons.mpr ⟨lw_p45, List.forall_mem_cons.mpr ⟨lw_p46, List.forall_mem_cons.mpr ⟨lw_p47, fun _ h => absurd h List.not_mem_nil⟩⟩⟩⟩⟩⟩⟩⟩⟩⟩⟩⟩⟩⟩⟩⟩
theorem lw_p48 : lw_okq (⟨"RingMeetsModel", "layRound", "(II)Z"⟩, 14) := ⟨⟨by decide +kernel, by decide +kernel⟩, List.mem_of_getElem? (i := 550) (by decide +kernel), List.mem_of_getElem? (i := 772) (by decide +kernel), List.mem_of_getElem? (i := 773) (by decide +kernel)⟩
theorem lw_p49 : lw_okq (⟨"RingMeetsModel", "look", "(III)Z"⟩, 14) := ⟨⟨by decide +kernel, by decide +kernel⟩, List.mem_of_getElem? (i := 550) (by decide +kernel), List.mem_of_getElem? (i := 776) (by decide +kernel), List.mem_of_getElem? (i := 777) (by decide +kernel)⟩
theorem lw_p50 : lw_okq (⟨"RingMeetsModel", "kindOf", "(I)I"⟩, 14) := ⟨⟨by decide +kernel, by decide +kernel⟩, List.mem_of_getElem? (i := 550) (by decide +kernel), List.mem_of_getElem? (i := 780) (by decide +kernel), List.mem_of_getElem? (i := 781) (by decide +kernel)⟩
theorem lw_p51 : lw_okq (⟨"RingMeetsModel", "stuck", "()I"⟩, 14) := ⟨⟨by decide +kernel, by decide +kernel⟩, List.mem_of_getElem? (i := 550) (by decide +kernel), List.mem_of_getElem? (i := 784) (by decide +kernel), List.mem_of_getElem? (i := 785) (by decide +kernel)⟩
theorem lw_p52 : lw_okq (⟨"RingMeetsModel", "singles", "(I)I"⟩, 14) := ⟨⟨by decide +kernel, by decide +kernel⟩, List.mem_of_getElem? (i := 550) (by decide +kernel), List.mem_of_getElem? (i := 804) (by decide +kernel), List.mem_of_getElem? (i := 805) (by decide +kernel)⟩
theorem lw_p53 : lw_okq (⟨"RingMeetsModel", "towers", "()I"⟩, 14) := ⟨⟨by decide +kernel, by decide +kernel⟩, List.mem_of_getElem? (i := 550) (by decide +kernel), List.mem_of_getElem? (i := 820) (by decide +kernel), List.mem_of_getElem? (i := 821) (by decide +kernel)⟩
def lw_privs_4 : List (MethodName × Nat) := [(⟨"RingMeetsModel", "layRound", "(II)Z"⟩, 14), (⟨"RingMeetsModel", "look", "(III)Z"⟩, 14), (⟨"RingMeetsModel", "kindOf", "(I)I"⟩, 14), (⟨"RingMeetsModel", "stuck", "()I"⟩, 14), (⟨"RingMeetsModel", "singles", "(I)I"⟩, 14), (⟨"RingMeetsModel", "towers", "()I"⟩, 14)]
theorem lw_r4 : ∀ q ∈ lw_privs_4, lw_okq q := List.forall_mem_cons.mpr ⟨lw_p48, List.forall_mem_cons.mpr ⟨lw_p49, List.forall_mem_cons.mpr ⟨lw_p50, List.forall_mem_cons.mpr ⟨lw_p51, List.forall_mem_cons.mpr ⟨lw_p52, List.forall_mem_cons.mpr ⟨lw_p53, fun _ h => absurd h List.not_mem_nil⟩⟩⟩⟩⟩⟩
def lw_privs : List (MethodName × Nat) := lw_privs_1 ++ (lw_privs_2 ++ (lw_privs_3 ++ (lw_privs_4)))
def lw_tbl : List Cond := k2_sels lw_privs ++ tables_1
theorem lw_privs_ok : ∀ q ∈ lw_privs, lw_okq q := by
  show ∀ q ∈ lw_privs_1 ++ (lw_privs_2 ++ (lw_privs_3 ++ (lw_privs_4))), lw_okq q
  exact List.forall_mem_append.mpr ⟨lw_r1, List.forall_mem_append.mpr ⟨lw_r2, List.forall_mem_append.mpr ⟨lw_r3, lw_r4⟩⟩⟩
/-! ===== BEGIN words of one list among another's, by their places ===== -/
theorem goodIn_r {big : List Cond} (ws : List Cond) (ps : List Nat) (hp : ws = ps.filterMap (fun i => big[i]?)) (h : ws.all goodWord = true) : GoodIn big ws := by
  intro w hw
  have h1 := List.all_eq_true.mp h w hw
  rw [hp] at hw
  obtain ⟨i, -, hi⟩ := List.mem_filterMap.mp hw
  have hm : w ∈ big := by first | exact List.mem_of_getElem? hi | exact List.getElem?_mem hi
  exact ⟨hm, good_of_word h1⟩
theorem goodIn_app {big a b : List Cond} (ha : GoodIn big a) (hb : GoodIn big b) : GoodIn big (a ++ b) := fun w h => (List.mem_append.mp h).elim (ha w) (hb w)
theorem goodIn_ca {big a b : List Cond} {c : Cond} (ha : GoodIn big (c :: a)) (hb : GoodIn big b) : GoodIn big (c :: (a ++ b)) := fun w h => (List.mem_cons.mp h).elim (fun e => ha w (List.mem_cons.mpr (Or.inl e))) (fun h => (List.mem_append.mp h).elim (fun h => ha w (List.mem_cons.mpr (Or.inr h))) (hb w))
theorem goodIn_sub {big ws : List Cond} (hm : ∀ w ∈ ws, w ∈ big) (h : ws.all goodWord = true) : GoodIn big ws := fun w hw => ⟨hm w hw, good_of_word (List.all_eq_true.mp h w hw)⟩
/-! ===== END ===== -/

/-! ===== BEGIN printed: names, fields, word lists, decode rows ===== -/
def RX0 : String := "RingMeets$Gaps"
def TX0 : u_T := fun k => match k with
  | _ => ("", "", "", false)
def tyX0 : Nat → FieldType := fun k => match k with
  | _ => .int
abbrev wsX00 : List Cond := u_ws RX0 TX0 0
theorem nmX0 : ∀ a, a < 0 → ∀ b, b < 0 → a ≠ b → (TX0 a).2.1 ≠ (TX0 b).2.1 := by decide +kernel
theorem tyX0_ok : ∀ k, k < 0 → parseFieldDescriptor (TX0 k).2.2.1 = some (tyX0 k) := by decide +kernel
abbrev cX0_row : ByteArray := prog_2_method_2_code
def yX0_row : MethodName := ⟨RX0, "row", "(IIII)I"⟩
abbrev cX0_view : ByteArray := prog_2_method_3_code
def yX0_view : MethodName := ⟨RX0, "view", "(III)I"⟩
abbrev cX0_at : ByteArray := prog_2_method_4_code
def yX0_at : MethodName := ⟨RX0, "at", "(III)I"⟩
abbrev cX0_turned : ByteArray := prog_2_method_5_code
def yX0_turned : MethodName := ⟨RX0, "turned", "(II)Z"⟩
abbrev cX0_mirrored : ByteArray := prog_2_method_6_code
def yX0_mirrored : MethodName := ⟨RX0, "mirrored", "(II)Z"⟩
abbrev cX0_evens : ByteArray := prog_2_method_7_code
def yX0_evens : MethodName := ⟨RX0, "evens", "(II)I"⟩
abbrev cX0_views : ByteArray := prog_2_method_8_code
def yX0_views : MethodName := ⟨RX0, "views", "(II)I"⟩
abbrev cX0_isSeenBelow : ByteArray := prog_2_method_9_code
def yX0_isSeenBelow : MethodName := ⟨RX0, "isSeenBelow", "(III)Z"⟩
abbrev cX0_leastTurn : ByteArray := prog_2_method_10_code
def yX0_leastTurn : MethodName := ⟨RX0, "leastTurn", "(II)I"⟩
def RX1 : String := "RingMeets$Look"
def TX1 : u_T := fun k => match k with
  | 0 => ("RingMeets$Look", "side", "I", false)
  | 1 => ("RingMeets$Look", "rule", "I", false)
  | 2 => ("RingMeets$Look", "done", "I", false)
  | 3 => ("RingMeets$Look", "goal", "I", false)
  | _ => ("RingMeets$Look", "even", "Z", false)
def tyX1 : Nat → FieldType := fun k => match k with
  | 0 => .int
  | 1 => .int
  | 2 => .int
  | 3 => .int
  | _ => .boolean
abbrev wsX10 : List Cond := u_ws RX1 TX1 5
theorem nmX1 : ∀ a, a < 5 → ∀ b, b < 5 → a ≠ b → (TX1 a).2.1 ≠ (TX1 b).2.1 := by decide +kernel
theorem tyX1_ok : ∀ k, k < 5 → parseFieldDescriptor (TX1 k).2.2.1 = some (tyX1 k) := by decide +kernel
abbrev cX1_init : ByteArray := prog_3_method_1_code
def yX1_init : MethodName := ⟨RX1, "<init>", "()V"⟩
abbrev cX1_from : ByteArray := prog_3_method_2_code
def yX1_from : MethodName := ⟨RX1, "from", "(LRingMeets$Rules;IIII)V"⟩
abbrev cX1_goalFrom : ByteArray := prog_3_method_3_code
def yX1_goalFrom : MethodName := ⟨RX1, "goalFrom", "(II)I"⟩
abbrev cX1_sideOfMove : ByteArray := prog_3_method_4_code
def yX1_sideOfMove : MethodName := ⟨RX1, "sideOfMove", "()I"⟩
def RX2 : String := "RingMeets$Moves"
def TX2 : u_T := fun k => match k with
  | 0 => ("RingMeets$Moves", "look", "LRingMeets$Look;", true)
  | 1 => ("RingMeets$Moves", "ups", "I", false)
  | 2 => ("RingMeets$Moves", "downs", "I", false)
  | _ => ("RingMeets$Moves", "rulesUsed", "I", false)
def tyX2 : Nat → FieldType := fun k => match k with
  | 0 => .object "RingMeets$Look"
  | 1 => .int
  | 2 => .int
  | _ => .int
abbrev wsX20 : List Cond := u_ws RX2 TX2 4
theorem nmX2 : ∀ a, a < 4 → ∀ b, b < 4 → a ≠ b → (TX2 a).2.1 ≠ (TX2 b).2.1 := by decide +kernel
theorem tyX2_ok : ∀ k, k < 4 → parseFieldDescriptor (TX2 k).2.2.1 = some (tyX2 k) := by decide +kernel
abbrev cX2_init : ByteArray := prog_4_method_1_code
def yX2_init : MethodName := ⟨RX2, "<init>", "()V"⟩
abbrev cX2_from : ByteArray := prog_4_method_2_code
def yX2_from : MethodName := ⟨RX2, "from", "(LRingMeets$Rules;III)V"⟩
abbrev cX2_enter : ByteArray := prog_4_method_3_code
def yX2_enter : MethodName := ⟨RX2, "enter", "(I)V"⟩
abbrev cX2_movers : ByteArray := prog_4_method_4_code
def yX2_movers : MethodName := ⟨RX2, "movers", "()I"⟩
abbrev cX2_wayBehind : ByteArray := prog_4_method_5_code
def yX2_wayBehind : MethodName := ⟨RX2, "wayBehind", "(III)I"⟩
def RX3 : String := "RingMeets$Rules"
def TX3 : u_T := fun k => match k with
  | 0 => ("RingMeets$Rules", "told", "[I", true)
  | _ => ("RingMeets$Rules", "size", "I", false)
def tyX3 : Nat → FieldType := fun k => match k with
  | 0 => .array .int
  | _ => .int
abbrev wsX30 : List Cond := u_ws RX3 TX3 2
theorem nmX3 : ∀ a, a < 2 → ∀ b, b < 2 → a ≠ b → (TX3 a).2.1 ≠ (TX3 b).2.1 := by decide +kernel
theorem tyX3_ok : ∀ k, k < 2 → parseFieldDescriptor (TX3 k).2.2.1 = some (tyX3 k) := by decide +kernel
abbrev cX3_init : ByteArray := prog_5_method_1_code
def yX3_init : MethodName := ⟨RX3, "<init>", "()V"⟩
abbrev cX3_has : ByteArray := prog_5_method_2_code
def yX3_has : MethodName := ⟨RX3, "has", "(I)Z"⟩
abbrev cX3_part : ByteArray := prog_5_method_3_code
def yX3_part : MethodName := ⟨RX3, "part", "(II)I"⟩
abbrev cX3_setPart : ByteArray := prog_5_method_4_code
def yX3_setPart : MethodName := ⟨RX3, "setPart", "(III)V"⟩
abbrev cX3_append : ByteArray := prog_5_method_5_code
def yX3_append : MethodName := ⟨RX3, "append", "(IIIII)I"⟩
abbrev cX3_remove : ByteArray := prog_5_method_6_code
def yX3_remove : MethodName := ⟨RX3, "remove", "(I)V"⟩
abbrev cX3_copyFrom : ByteArray := prog_5_method_7_code
def yX3_copyFrom : MethodName := ⟨RX3, "copyFrom", "(LRingMeets$Rules;)V"⟩
abbrev cX3_firstThatFits : ByteArray := prog_5_method_8_code
def yX3_firstThatFits : MethodName := ⟨RX3, "firstThatFits", "(III)I"⟩
abbrev cX3_fits : ByteArray := prog_5_method_9_code
def yX3_fits : MethodName := ⟨RX3, "fits", "(IIII)Z"⟩
abbrev cX3_isSo : ByteArray := prog_5_method_10_code
def yX3_isSo : MethodName := ⟨RX3, "isSo", "(III)Z"⟩
def RX4 : String := "RingMeets$Scene"
def TX4 : u_T := fun k => match k with
  | 0 => ("RingMeets$Scene", "walkers", "[I", true)
  | 1 => ("RingMeets$Scene", "rules", "LRingMeets$Rules;", true)
  | _ => ("RingMeets$Scene", "cells", "I", false)
def tyX4 : Nat → FieldType := fun k => match k with
  | 0 => .array .int
  | 1 => .object "RingMeets$Rules"
  | _ => .int
abbrev wsX40 : List Cond := u_ws RX4 TX4 3
theorem nmX4 : ∀ a, a < 3 → ∀ b, b < 3 → a ≠ b → (TX4 a).2.1 ≠ (TX4 b).2.1 := by decide +kernel
theorem tyX4_ok : ∀ k, k < 3 → parseFieldDescriptor (TX4 k).2.2.1 = some (tyX4 k) := by decide +kernel
abbrev cX4_init : ByteArray := prog_6_method_1_code
def yX4_init : MethodName := ⟨RX4, "<init>", "()V"⟩
abbrev cX4_hasCell : ByteArray := prog_6_method_2_code
def yX4_hasCell : MethodName := ⟨RX4, "hasCell", "(I)Z"⟩
abbrev cX4_walkersOn : ByteArray := prog_6_method_3_code
def yX4_walkersOn : MethodName := ⟨RX4, "walkersOn", "(I)I"⟩
abbrev cX4_put : ByteArray := prog_6_method_4_code
def yX4_put : MethodName := ⟨RX4, "put", "(II)V"⟩
abbrev cX4_empty : ByteArray := prog_6_method_5_code
def yX4_empty : MethodName := ⟨RX4, "empty", "(I)V"⟩
abbrev cX4_walkersInAll : ByteArray := prog_6_method_6_code
def yX4_walkersInAll : MethodName := ⟨RX4, "walkersInAll", "()I"⟩
abbrev cX4_stands : ByteArray := prog_6_method_7_code
def yX4_stands : MethodName := ⟨RX4, "stands", "()I"⟩
abbrev cX4_towers : ByteArray := prog_6_method_8_code
def yX4_towers : MethodName := ⟨RX4, "towers", "()I"⟩
abbrev cX4_cellsWithAtLeast : ByteArray := prog_6_method_9_code
def yX4_cellsWithAtLeast : MethodName := ⟨RX4, "cellsWithAtLeast", "(I)I"⟩
abbrev cX4_copyFrom : ByteArray := prog_6_method_10_code
def yX4_copyFrom : MethodName := ⟨RX4, "copyFrom", "(LRingMeets$Scene;)V"⟩
def RX5 : String := "RingMeets$Sets"
def TX5 : u_T := fun k => match k with
  | _ => ("", "", "", false)
def tyX5 : Nat → FieldType := fun k => match k with
  | _ => .int
abbrev wsX50 : List Cond := u_ws RX5 TX5 0
theorem nmX5 : ∀ a, a < 0 → ∀ b, b < 0 → a ≠ b → (TX5 a).2.1 ≠ (TX5 b).2.1 := by decide +kernel
theorem tyX5_ok : ∀ k, k < 0 → parseFieldDescriptor (TX5 k).2.2.1 = some (tyX5 k) := by decide +kernel
abbrev cX5_has : ByteArray := prog_7_method_2_code
def yX5_has : MethodName := ⟨RX5, "has", "(II)Z"⟩
abbrev cX5_way : ByteArray := prog_7_method_3_code
def yX5_way : MethodName := ⟨RX5, "way", "(II)I"⟩
abbrev cX5_standsOf : ByteArray := prog_7_method_4_code
def yX5_standsOf : MethodName := ⟨RX5, "standsOf", "(I)I"⟩
abbrev cX5_towersOf : ByteArray := prog_7_method_5_code
def yX5_towersOf : MethodName := ⟨RX5, "towersOf", "(I)I"⟩
abbrev cX5_cellNextTo : ByteArray := prog_7_method_6_code
def yX5_cellNextTo : MethodName := ⟨RX5, "cellNextTo", "(III)I"⟩
abbrev cX5_turnedUp : ByteArray := prog_7_method_7_code
def yX5_turnedUp : MethodName := ⟨RX5, "turnedUp", "(II)I"⟩
abbrev cX5_turnedDown : ByteArray := prog_7_method_8_code
def yX5_turnedDown : MethodName := ⟨RX5, "turnedDown", "(II)I"⟩
def RX6 : String := "RingMeets$Walks"
def TX6 : u_T := fun k => match k with
  | 0 => ("RingMeets$Walks", "moves", "LRingMeets$Moves;", true)
  | 1 => ("RingMeets$Walks", "ways", "[I", true)
  | 2 => ("RingMeets$Walks", "newest", "[I", true)
  | 3 => ("RingMeets$Walks", "older", "[I", true)
  | 4 => ("RingMeets$Walks", "lastStepTo", "[I", true)
  | 5 => ("RingMeets$Walks", "earlierStep", "[I", true)
  | 6 => ("RingMeets$Walks", "stepFrom", "[I", true)
  | 7 => ("RingMeets$Walks", "stepsLeft", "[I", true)
  | 8 => ("RingMeets$Walks", "soon", "[I", true)
  | 9 => ("RingMeets$Walks", "late", "[I", true)
  | 10 => ("RingMeets$Walks", "line", "[I", true)
  | 11 => ("RingMeets$Walks", "rules", "LRingMeets$Rules;", true)
  | 12 => ("RingMeets$Walks", "cells", "I", false)
  | 13 => ("RingMeets$Walks", "schedule", "I", false)
  | 14 => ("RingMeets$Walks", "size", "I", false)
  | 15 => ("RingMeets$Walks", "steps", "I", false)
  | 16 => ("RingMeets$Walks", "lineSize", "I", false)
  | 17 => ("RingMeets$Walks", "stuck", "I", false)
  | 18 => ("RingMeets$Walks", "rulesUsed", "I", false)
  | _ => ("RingMeets$Walks", "blindly", "Z", false)
def tyX6 : Nat → FieldType := fun k => match k with
  | 0 => .object "RingMeets$Moves"
  | 1 => .array .int
  | 2 => .array .int
  | 3 => .array .int
  | 4 => .array .int
  | 5 => .array .int
  | 6 => .array .int
  | 7 => .array .int
  | 8 => .array .int
  | 9 => .array .int
  | 10 => .array .int
  | 11 => .object "RingMeets$Rules"
  | 12 => .int
  | 13 => .int
  | 14 => .int
  | 15 => .int
  | 16 => .int
  | 17 => .int
  | 18 => .int
  | _ => .boolean
abbrev wsX60 : List Cond := u_ws RX6 TX6 20
theorem nmX6 : ∀ a, a < 20 → ∀ b, b < 20 → a ≠ b → (TX6 a).2.1 ≠ (TX6 b).2.1 := by decide +kernel
theorem tyX6_ok : ∀ k, k < 20 → parseFieldDescriptor (TX6 k).2.2.1 = some (tyX6 k) := by decide +kernel
abbrev cX6_init : ByteArray := prog_8_method_1_code
def yX6_init : MethodName := ⟨RX6, "<init>", "(LRingMeets$Rules;)V"⟩
abbrev cX6_begin : ByteArray := prog_8_method_2_code
def yX6_begin : MethodName := ⟨RX6, "begin", "(IIZ)V"⟩
abbrev cX6_add : ByteArray := prog_8_method_3_code
def yX6_add : MethodName := ⟨RX6, "add", "(I)I"⟩
abbrev cX6_find : ByteArray := prog_8_method_4_code
def yX6_find : MethodName := ⟨RX6, "find", "(I)I"⟩
abbrev cX6_isWay : ByteArray := prog_8_method_5_code
def yX6_isWay : MethodName := ⟨RX6, "isWay", "(I)Z"⟩
abbrev cX6_hasMet : ByteArray := prog_8_method_6_code
def yX6_hasMet : MethodName := ⟨RX6, "hasMet", "(I)Z"⟩
abbrev cX6_walk : ByteArray := prog_8_method_7_code
def yX6_walk : MethodName := ⟨RX6, "walk", "()V"⟩
abbrev cX6_towersSeen : ByteArray := prog_8_method_8_code
def yX6_towersSeen : MethodName := ⟨RX6, "towersSeen", "(I)I"⟩
abbrev cX6_addStepsFrom : ByteArray := prog_8_method_9_code
def yX6_addStepsFrom : MethodName := ⟨RX6, "addStepsFrom", "(I)V"⟩
abbrev cX6_setAfter : ByteArray := prog_8_method_10_code
def yX6_setAfter : MethodName := ⟨RX6, "setAfter", "(I)I"⟩
abbrev cX6_addStep : ByteArray := prog_8_method_11_code
def yX6_addStep : MethodName := ⟨RX6, "addStep", "(II)V"⟩
abbrev cX6_tellBackwards : ByteArray := prog_8_method_12_code
def yX6_tellBackwards : MethodName := ⟨RX6, "tellBackwards", "([IZ)V"⟩
abbrev cX6_isLastStepOf : ByteArray := prog_8_method_13_code
def yX6_isLastStepOf : MethodName := ⟨RX6, "isLastStepOf", "(I)Z"⟩
abbrev cX6_isStep : ByteArray := prog_8_method_14_code
def yX6_isStep : MethodName := ⟨RX6, "isStep", "(I)Z"⟩
abbrev cX6_lineUpWhatHasMet : ByteArray := prog_8_method_15_code
def yX6_lineUpWhatHasMet : MethodName := ⟨RX6, "lineUpWhatHasMet", "([I)V"⟩
abbrev cX6_lineUp : ByteArray := prog_8_method_16_code
def yX6_lineUp : MethodName := ⟨RX6, "lineUp", "([III)V"⟩
abbrev cX6_soonOf : ByteArray := prog_8_method_17_code
def yX6_soonOf : MethodName := ⟨RX6, "soonOf", "(I)I"⟩
abbrev cX6_lateOf : ByteArray := prog_8_method_18_code
def yX6_lateOf : MethodName := ⟨RX6, "lateOf", "(I)I"⟩
abbrev cX6_kindOf : ByteArray := prog_8_method_19_code
def yX6_kindOf : MethodName := ⟨RX6, "kindOf", "(I)I"⟩
abbrev cX6_leastSetTowardsMeeting : ByteArray := prog_8_method_20_code
def yX6_leastSetTowardsMeeting : MethodName := ⟨RX6, "leastSetTowardsMeeting", "(I)I"⟩
def RX7 : String := "RingMeets"
def TX7 : u_T := fun k => match k with
  | 0 => ("RingMeets", "now", "LRingMeets$Scene;", true)
  | 1 => ("RingMeets", "firstImage", "LRingMeets$Scene;", true)
  | 2 => ("RingMeets", "secondImage", "LRingMeets$Scene;", true)
  | 3 => ("RingMeets", "look", "LRingMeets$Look;", true)
  | 4 => ("RingMeets", "behind", "[I", true)
  | 5 => ("RingMeets", "kept", "I", false)
  | _ => ("RingMeets", "walks", "LRingMeets$Walks;", false)
def tyX7 : Nat → FieldType := fun k => match k with
  | 0 => .object "RingMeets$Scene"
  | 1 => .object "RingMeets$Scene"
  | 2 => .object "RingMeets$Scene"
  | 3 => .object "RingMeets$Look"
  | 4 => .array .int
  | 5 => .int
  | _ => .object "RingMeets$Walks"
abbrev wsX70 : List Cond := u_ws RX7 TX7 7
theorem nmX7 : ∀ a, a < 7 → ∀ b, b < 7 → a ≠ b → (TX7 a).2.1 ≠ (TX7 b).2.1 := by decide +kernel
theorem tyX7_ok : ∀ k, k < 7 → parseFieldDescriptor (TX7 k).2.2.1 = some (tyX7 k) := by decide +kernel
abbrev cX7_init : ByteArray := prog_1_method_1_code
def yX7_init : MethodName := ⟨RX7, "<init>", "()V"⟩
abbrev cX7_ring : ByteArray := prog_1_method_2_code
def yX7_ring : MethodName := ⟨RX7, "ring", "(I)I"⟩
abbrev cX7_stand : ByteArray := prog_1_method_3_code
def yX7_stand : MethodName := ⟨RX7, "stand", "(II)I"⟩
abbrev cX7_gap : ByteArray := prog_1_method_4_code
def yX7_gap : MethodName := ⟨RX7, "gap", "(III)I"⟩
abbrev cX7_shape : ByteArray := prog_1_method_5_code
def yX7_shape : MethodName := ⟨RX7, "shape", "(I)I"⟩
abbrev cX7_rule : ByteArray := prog_1_method_6_code
def yX7_rule : MethodName := ⟨RX7, "rule", "(IIIII)I"⟩
abbrev cX7_whom : ByteArray := prog_1_method_7_code
def yX7_whom : MethodName := ⟨RX7, "whom", "(II)I"⟩
abbrev cX7_drop : ByteArray := prog_1_method_8_code
def yX7_drop : MethodName := ⟨RX7, "drop", "(I)I"⟩
abbrev cX7_of : ByteArray := prog_1_method_9_code
def yX7_of : MethodName := ⟨RX7, "of", "(II)I"⟩
abbrev cX7_does : ByteArray := prog_1_method_10_code
def yX7_does : MethodName := ⟨RX7, "does", "(II)I"⟩
abbrev cX7_step : ByteArray := prog_1_method_11_code
def yX7_step : MethodName := ⟨RX7, "step", "(I)I"⟩
abbrev cX7_meets : ByteArray := prog_1_method_12_code
def yX7_meets : MethodName := ⟨RX7, "meets", "(II)I"⟩
abbrev cX7_first : ByteArray := prog_1_method_13_code
def yX7_first : MethodName := ⟨RX7, "first", "(I)I"⟩
abbrev cX7_blind : ByteArray := prog_1_method_14_code
def yX7_blind : MethodName := ⟨RX7, "blind", "(I)I"⟩
abbrev cX7_used : ByteArray := prog_1_method_15_code
def yX7_used : MethodName := ⟨RX7, "used", "(I)I"⟩
abbrev cX7_all : ByteArray := prog_1_method_16_code
def yX7_all : MethodName := ⟨RX7, "all", "(III)I"⟩
abbrev cX7_image : ByteArray := prog_1_method_17_code
def yX7_image : MethodName := ⟨RX7, "image", "(I)I"⟩
abbrev cX7_restore : ByteArray := prog_1_method_18_code
def yX7_restore : MethodName := ⟨RX7, "restore", "(I)I"⟩
abbrev cX7_count : ByteArray := prog_1_method_19_code
def yX7_count : MethodName := ⟨RX7, "count", "(I)I"⟩
abbrev cX7_imageOf : ByteArray := prog_1_method_20_code
def yX7_imageOf : MethodName := ⟨RX7, "imageOf", "(I)LRingMeets$Scene;"⟩
abbrev cX7_isSchedule : ByteArray := prog_1_method_21_code
def yX7_isSchedule : MethodName := ⟨RX7, "isSchedule", "(I)Z"⟩
abbrev cX7_refusalFromNow : ByteArray := prog_1_method_22_code
def yX7_refusalFromNow : MethodName := ⟨RX7, "refusalFromNow", "(I)I"⟩
abbrev cX7_newWalks : ByteArray := prog_1_method_23_code
def yX7_newWalks : MethodName := ⟨RX7, "newWalks", "(IZ)LRingMeets$Walks;"⟩
abbrev cX7_walksFromNow : ByteArray := prog_1_method_24_code
def yX7_walksFromNow : MethodName := ⟨RX7, "walksFromNow", "(IZ)LRingMeets$Walks;"⟩
def RX8 : String := "RingMeetsModel"
def TX8 : u_T := fun k => match k with
  | 0 => ("RingMeetsModel", "state", "[I", true)
  | 1 => ("RingMeetsModel", "images", "[I", true)
  | 2 => ("RingMeetsModel", "isKept", "[Z", true)
  | 3 => ("RingMeetsModel", "power", "[I", true)
  | 4 => ("RingMeetsModel", "next", "[I", true)
  | 5 => ("RingMeetsModel", "list", "[I", true)
  | 6 => ("RingMeetsModel", "listed", "I", false)
  | 7 => ("RingMeetsModel", "isListed", "[Z", true)
  | 8 => ("RingMeetsModel", "moves", "[I", true)
  | 9 => ("RingMeetsModel", "soon", "[I", true)
  | 10 => ("RingMeetsModel", "late", "[I", true)
  | 11 => ("RingMeetsModel", "usedRules", "I", false)
  | 12 => ("RingMeetsModel", "isBlind", "Z", false)
  | _ => ("RingMeetsModel", "come", "[I", true)
def tyX8 : Nat → FieldType := fun k => match k with
  | 0 => .array .int
  | 1 => .array .int
  | 2 => .array .boolean
  | 3 => .array .int
  | 4 => .array .int
  | 5 => .array .int
  | 6 => .int
  | 7 => .array .boolean
  | 8 => .array .int
  | 9 => .array .int
  | 10 => .array .int
  | 11 => .int
  | 12 => .boolean
  | _ => .array .int
abbrev wsX80 : List Cond := u_ws RX8 TX8 14
theorem nmX8 : ∀ a, a < 14 → ∀ b, b < 14 → a ≠ b → (TX8 a).2.1 ≠ (TX8 b).2.1 := by decide +kernel
theorem tyX8_ok : ∀ k, k < 14 → parseFieldDescriptor (TX8 k).2.2.1 = some (tyX8 k) := by decide +kernel
abbrev cX8_init : ByteArray := prog_10_method_1_code
def yX8_init : MethodName := ⟨RX8, "<init>", "()V"⟩
abbrev cX8_in : ByteArray := prog_10_method_2_code
def yX8_in : MethodName := ⟨RX8, "in", "(III)Z"⟩
abbrev cX8_cells : ByteArray := prog_10_method_3_code
def yX8_cells : MethodName := ⟨RX8, "cells", "()I"⟩
abbrev cX8_isCell : ByteArray := prog_10_method_4_code
def yX8_isCell : MethodName := ⟨RX8, "isCell", "(I)Z"⟩
abbrev cX8_isStand : ByteArray := prog_10_method_5_code
def yX8_isStand : MethodName := ⟨RX8, "isStand", "(I)Z"⟩
abbrev cX8_isRule : ByteArray := prog_10_method_6_code
def yX8_isRule : MethodName := ⟨RX8, "isRule", "(I)Z"⟩
abbrev cX8_isSchedule : ByteArray := prog_10_method_7_code
def yX8_isSchedule : MethodName := ⟨RX8, "isSchedule", "(I)Z"⟩
abbrev cX8_walkers : ByteArray := prog_10_method_8_code
def yX8_walkers : MethodName := ⟨RX8, "walkers", "()I"⟩
abbrev cX8_size : ByteArray := prog_10_method_9_code
def yX8_size : MethodName := ⟨RX8, "size", "(I)I"⟩
abbrev cX8_now : ByteArray := prog_10_method_10_code
def yX8_now : MethodName := ⟨RX8, "now", "()I"⟩
abbrev cX8_standsOf : ByteArray := prog_10_method_11_code
def yX8_standsOf : MethodName := ⟨RX8, "standsOf", "(I)I"⟩
abbrev cX8_ring : ByteArray := prog_10_method_12_code
def yX8_ring : MethodName := ⟨RX8, "ring", "(I)I"⟩
abbrev cX8_stand : ByteArray := prog_10_method_13_code
def yX8_stand : MethodName := ⟨RX8, "stand", "(II)I"⟩
abbrev cX8_beside : ByteArray := prog_10_method_14_code
def yX8_beside : MethodName := ⟨RX8, "beside", "(II)I"⟩
abbrev cX8_far : ByteArray := prog_10_method_15_code
def yX8_far : MethodName := ⟨RX8, "far", "(III)I"⟩
abbrev cX8_gapAt : ByteArray := prog_10_method_16_code
def yX8_gapAt : MethodName := ⟨RX8, "gapAt", "(IIII)I"⟩
abbrev cX8_held : ByteArray := prog_10_method_17_code
def yX8_held : MethodName := ⟨RX8, "held", "(IIIII)I"⟩
abbrev cX8_viewWay : ByteArray := prog_10_method_18_code
def yX8_viewWay : MethodName := ⟨RX8, "viewWay", "(II)I"⟩
abbrev cX8_gap : ByteArray := prog_10_method_19_code
def yX8_gap : MethodName := ⟨RX8, "gap", "(III)I"⟩
abbrev cX8_has : ByteArray := prog_10_method_20_code
def yX8_has : MethodName := ⟨RX8, "has", "(II)Z"⟩
abbrev cX8_isTurned : ByteArray := prog_10_method_21_code
def yX8_isTurned : MethodName := ⟨RX8, "isTurned", "(I)Z"⟩
abbrev cX8_isMirrored : ByteArray := prog_10_method_22_code
def yX8_isMirrored : MethodName := ⟨RX8, "isMirrored", "(I)Z"⟩
abbrev cX8_even : ByteArray := prog_10_method_23_code
def yX8_even : MethodName := ⟨RX8, "even", "(I)I"⟩
abbrev cX8_views : ByteArray := prog_10_method_24_code
def yX8_views : MethodName := ⟨RX8, "views", "(I)I"⟩
abbrev cX8_turnedBy : ByteArray := prog_10_method_25_code
def yX8_turnedBy : MethodName := ⟨RX8, "turnedBy", "(I)I"⟩
abbrev cX8_shape : ByteArray := prog_10_method_26_code
def yX8_shape : MethodName := ⟨RX8, "shape", "(I)I"⟩
abbrev cX8_rule : ByteArray := prog_10_method_27_code
def yX8_rule : MethodName := ⟨RX8, "rule", "(IIIII)I"⟩
abbrev cX8_whom : ByteArray := prog_10_method_28_code
def yX8_whom : MethodName := ⟨RX8, "whom", "(II)I"⟩
abbrev cX8_drop : ByteArray := prog_10_method_29_code
def yX8_drop : MethodName := ⟨RX8, "drop", "(I)I"⟩
abbrev cX8_of : ByteArray := prog_10_method_30_code
def yX8_of : MethodName := ⟨RX8, "of", "(II)I"⟩
abbrev cX8_fits : ByteArray := prog_10_method_31_code
def yX8_fits : MethodName := ⟨RX8, "fits", "(IIIZ)Z"⟩
abbrev cX8_ruleOf : ByteArray := prog_10_method_32_code
def yX8_ruleOf : MethodName := ⟨RX8, "ruleOf", "(IIZ)I"⟩
abbrev cX8_doneBy : ByteArray := prog_10_method_33_code
def yX8_doneBy : MethodName := ⟨RX8, "doneBy", "(I)I"⟩
abbrev cX8_behind : ByteArray := prog_10_method_34_code
def yX8_behind : MethodName := ⟨RX8, "behind", "(III)I"⟩
abbrev cX8_does : ByteArray := prog_10_method_35_code
def yX8_does : MethodName := ⟨RX8, "does", "(II)I"⟩
abbrev cX8_step : ByteArray := prog_10_method_36_code
def yX8_step : MethodName := ⟨RX8, "step", "(I)I"⟩
abbrev cX8_note : ByteArray := prog_10_method_37_code
def yX8_note : MethodName := ⟨RX8, "note", "(I)V"⟩
abbrev cX8_movers : ByteArray := prog_10_method_38_code
def yX8_movers : MethodName := ⟨RX8, "movers", "(I)I"⟩
abbrev cX8_behindStep : ByteArray := prog_10_method_39_code
def yX8_behindStep : MethodName := ⟨RX8, "behindStep", "(II)I"⟩
abbrev cX8_mayBe : ByteArray := prog_10_method_40_code
def yX8_mayBe : MethodName := ⟨RX8, "mayBe", "(III)Z"⟩
abbrev cX8_isMet : ByteArray := prog_10_method_41_code
def yX8_isMet : MethodName := ⟨RX8, "isMet", "(I)Z"⟩
abbrev cX8_begin : ByteArray := prog_10_method_42_code
def yX8_begin : MethodName := ⟨RX8, "begin", "(Z)V"⟩
abbrev cX8_listAll : ByteArray := prog_10_method_43_code
def yX8_listAll : MethodName := ⟨RX8, "listAll", "(I)V"⟩
abbrev cX8_layRound : ByteArray := prog_10_method_44_code
def yX8_layRound : MethodName := ⟨RX8, "layRound", "(II)Z"⟩
abbrev cX8_look : ByteArray := prog_10_method_45_code
def yX8_look : MethodName := ⟨RX8, "look", "(III)Z"⟩
abbrev cX8_kindOf : ByteArray := prog_10_method_46_code
def yX8_kindOf : MethodName := ⟨RX8, "kindOf", "(I)I"⟩
abbrev cX8_layNow : ByteArray := prog_10_method_47_code
def yX8_layNow : MethodName := ⟨RX8, "layNow", "(IZ)V"⟩
abbrev cX8_stuck : ByteArray := prog_10_method_48_code
def yX8_stuck : MethodName := ⟨RX8, "stuck", "()I"⟩
abbrev cX8_meets : ByteArray := prog_10_method_49_code
def yX8_meets : MethodName := ⟨RX8, "meets", "(II)I"⟩
abbrev cX8_first : ByteArray := prog_10_method_50_code
def yX8_first : MethodName := ⟨RX8, "first", "(I)I"⟩
abbrev cX8_blind : ByteArray := prog_10_method_51_code
def yX8_blind : MethodName := ⟨RX8, "blind", "(I)I"⟩
abbrev cX8_used : ByteArray := prog_10_method_52_code
def yX8_used : MethodName := ⟨RX8, "used", "(I)I"⟩
abbrev cX8_all : ByteArray := prog_10_method_53_code
def yX8_all : MethodName := ⟨RX8, "all", "(III)I"⟩
abbrev cX8_singles : ByteArray := prog_10_method_54_code
def yX8_singles : MethodName := ⟨RX8, "singles", "(I)I"⟩
abbrev cX8_image : ByteArray := prog_10_method_55_code
def yX8_image : MethodName := ⟨RX8, "image", "(I)I"⟩
abbrev cX8_restore : ByteArray := prog_10_method_56_code
def yX8_restore : MethodName := ⟨RX8, "restore", "(I)I"⟩
abbrev cX8_towers : ByteArray := prog_10_method_57_code
def yX8_towers : MethodName := ⟨RX8, "towers", "()I"⟩
abbrev cX8_count : ByteArray := prog_10_method_58_code
def yX8_count : MethodName := ⟨RX8, "count", "(I)I"⟩
def RJ6 : String := "java/lang/Integer"
def TJ6 : u_T := fun k => match k with
  | _ => ("", "", "", false)
def tyJ6 : Nat → FieldType := fun k => match k with
  | _ => .int
abbrev wsJ60 : List Cond := u_ws RJ6 TJ6 0
theorem nmJ6 : ∀ a, a < 0 → ∀ b, b < 0 → a ≠ b → (TJ6 a).2.1 ≠ (TJ6 b).2.1 := by decide +kernel
theorem tyJ6_ok : ∀ k, k < 0 → parseFieldDescriptor (TJ6 k).2.2.1 = some (tyJ6 k) := by decide +kernel
abbrev cJ6_lowestOneBit_0f7a4 : ByteArray := prog_11_method_46_code
def yJ6_lowestOneBit_0f7a4 : MethodName := ⟨RJ6, "lowestOneBit", "(I)I"⟩
abbrev cJ6_bitCount_0f7a4 : ByteArray := prog_11_method_49_code
def yJ6_bitCount_0f7a4 : MethodName := ⟨RJ6, "bitCount", "(I)I"⟩
def RJ9 : String := "java/lang/Math"
def TJ9 : u_T := fun k => match k with
  | _ => ("", "", "", false)
def tyJ9 : Nat → FieldType := fun k => match k with
  | _ => .int
abbrev wsJ90 : List Cond := u_ws RJ9 TJ9 0
theorem nmJ9 : ∀ a, a < 0 → ∀ b, b < 0 → a ≠ b → (TJ9 a).2.1 ≠ (TJ9 b).2.1 := by decide +kernel
theorem tyJ9_ok : ∀ k, k < 0 → parseFieldDescriptor (TJ9 k).2.2.1 = some (tyJ9 k) := by decide +kernel
abbrev cJ9_min_7cf53 : ByteArray := prog_12_method_69_code
def yJ9_min_7cf53 : MethodName := ⟨RJ9, "min", "(II)I"⟩
def RL : String := "RingMeetsLaw"
abbrev cL_law : ByteArray := code
def yL_law : MethodName := ⟨RL, "law", "([I)Z"⟩
def wsX5_cellNextTo : List Cond := .code yX5_cellNextTo cX5_cellNextTo 3 (some .int) :: ([])
def wsX5_has : List Cond := .code yX5_has cX5_has 2 (some .boolean) :: ([])
def wsX0_row : List Cond := .code yX0_row cX0_row 8 (some .int) :: ([.methodLink RX0 9 yX5_cellNextTo, .static yX5_cellNextTo, .initialized RX5, .code yX5_cellNextTo cX5_cellNextTo 3 (some .int), .methodLink RX0 15 yX5_has, .static yX5_has, .code yX5_has cX5_has 2 (some .boolean)])
def wsX0_view : List Cond := .code yX0_view cX0_view 3 (some .int) :: ([.methodLink RX0 25 Lib.Math.min.name, .static Lib.Math.min.name, .initialized "java/lang/Math", .code Lib.Math.min.name Lib.Math.min.code 2 (some .int), .methodLink RX0 21 yX0_row, .static yX0_row, .initialized RX0, .code yX0_row cX0_row 8 (some .int), .methodLink RX0 9 yX5_cellNextTo, .static yX5_cellNextTo, .initialized RX5, .code yX5_cellNextTo cX5_cellNextTo 3 (some .int), .methodLink RX0 15 yX5_has, .static yX5_has, .code yX5_has cX5_has 2 (some .boolean)])
def wsX0_at : List Cond := .code yX0_at cX0_at 3 (some .int) :: ([])
def wsX0_turned : List Cond := .code yX0_turned cX0_turned 4 (some .boolean) :: ([.methodLink RX0 15 yX5_has, .static yX5_has, .initialized RX5, .code yX5_has cX5_has 2 (some .boolean), .methodLink RX0 21 yX0_row, .static yX0_row, .initialized RX0, .code yX0_row cX0_row 8 (some .int), .methodLink RX0 9 yX5_cellNextTo, .static yX5_cellNextTo, .code yX5_cellNextTo cX5_cellNextTo 3 (some .int)])
def wsX0_mirrored : List Cond := .code yX0_mirrored cX0_mirrored 4 (some .boolean) :: ([.methodLink RX0 15 yX5_has, .static yX5_has, .initialized RX5, .code yX5_has cX5_has 2 (some .boolean), .methodLink RX0 21 yX0_row, .static yX0_row, .initialized RX0, .code yX0_row cX0_row 8 (some .int), .methodLink RX0 9 yX5_cellNextTo, .static yX5_cellNextTo, .code yX5_cellNextTo cX5_cellNextTo 3 (some .int)])
def wsX0_evens : List Cond := .code yX0_evens cX0_evens 4 (some .int) :: ([.methodLink RX0 15 yX5_has, .static yX5_has, .initialized RX5, .code yX5_has cX5_has 2 (some .boolean), .methodLink RX0 21 yX0_row, .static yX0_row, .initialized RX0, .code yX0_row cX0_row 8 (some .int), .methodLink RX0 9 yX5_cellNextTo, .static yX5_cellNextTo, .code yX5_cellNextTo cX5_cellNextTo 3 (some .int)])
def wsX0_isSeenBelow : List Cond := .code yX0_isSeenBelow cX0_isSeenBelow 5 (some .boolean) :: ([.methodLink RX0 35 yX0_view, .static yX0_view, .initialized RX0, .code yX0_view cX0_view 3 (some .int), .methodLink RX0 25 Lib.Math.min.name, .static Lib.Math.min.name, .initialized "java/lang/Math", .code Lib.Math.min.name Lib.Math.min.code 2 (some .int), .methodLink RX0 21 yX0_row, .static yX0_row, .code yX0_row cX0_row 8 (some .int), .methodLink RX0 9 yX5_cellNextTo, .static yX5_cellNextTo, .initialized RX5, .code yX5_cellNextTo cX5_cellNextTo 3 (some .int), .methodLink RX0 15 yX5_has, .static yX5_has, .code yX5_has cX5_has 2 (some .boolean)])
def wsX0_views : List Cond := .code yX0_views cX0_views 4 (some .int) :: ([.methodLink RX0 15 yX5_has, .static yX5_has, .initialized RX5, .code yX5_has cX5_has 2 (some .boolean), .methodLink RX0 31 yX0_isSeenBelow, .static yX0_isSeenBelow, .initialized RX0, .code yX0_isSeenBelow cX0_isSeenBelow 5 (some .boolean), .methodLink RX0 35 yX0_view, .static yX0_view, .code yX0_view cX0_view 3 (some .int), .methodLink RX0 25 Lib.Math.min.name, .static Lib.Math.min.name, .initialized "java/lang/Math", .code Lib.Math.min.name Lib.Math.min.code 2 (some .int), .methodLink RX0 21 yX0_row, .static yX0_row, .code yX0_row cX0_row 8 (some .int), .methodLink RX0 9 yX5_cellNextTo, .static yX5_cellNextTo, .code yX5_cellNextTo cX5_cellNextTo 3 (some .int)])
def wsX5_turnedUp : List Cond := .code yX5_turnedUp cX5_turnedUp 2 (some .int) :: ([])
def wsX0_leastTurn : List Cond := .code yX0_leastTurn cX0_leastTurn 4 (some .int) :: ([.methodLink RX0 38 yX5_turnedUp, .static yX5_turnedUp, .initialized RX5, .code yX5_turnedUp cX5_turnedUp 2 (some .int)])
def wsX1_init : List Cond := .code yX1_init cX1_init 1 none :: ([.methodLink RX1 3 objectInit, .instanceMethod objectInit, .code objectInit ⟨#[0xb1]⟩ 1 none])
def wsJ6_bitCount_0f7a4 : List Cond := .code yJ6_bitCount_0f7a4 cJ6_bitCount_0f7a4 1 (some .int) :: ([.constant RJ6 265 (1431655765), .constant RJ6 266 (858993459), .constant RJ6 267 (252645135)])
def wsX3_isSo : List Cond := .code yX3_isSo cX3_isSo 3 (some .boolean) :: ([])
def wsX3_fits : List Cond := .code yX3_fits cX3_fits 8 (some .boolean) :: ([.fieldLink RX3 9 "RingMeets$Rules" "told" "[I", .methodLink RX3 31 yX0_at, .static yX0_at, .initialized RX0, .code yX0_at cX0_at 3 (some .int), .methodLink RX3 37 yX3_isSo, .static yX3_isSo, .initialized RX3, .code yX3_isSo cX3_isSo 3 (some .boolean)] ++ wsX30)
def wsX3_firstThatFits : List Cond := .code yX3_firstThatFits cX3_firstThatFits 5 (some .int) :: ([.fieldLink RX3 15 "RingMeets$Rules" "size" "I", .methodLink RX3 27 yX3_fits, .instanceMethod yX3_fits, .selects RX3 yX3_fits yX3_fits, .initialized RX3, .code yX3_fits cX3_fits 8 (some .boolean), .fieldLink RX3 9 "RingMeets$Rules" "told" "[I", .methodLink RX3 31 yX0_at, .static yX0_at, .initialized RX0, .code yX0_at cX0_at 3 (some .int), .methodLink RX3 37 yX3_isSo, .static yX3_isSo, .code yX3_isSo cX3_isSo 3 (some .boolean)] ++ wsX30)
def wsX3_has : List Cond := .code yX3_has cX3_has 2 (some .boolean) :: ([.fieldLink RX3 15 "RingMeets$Rules" "size" "I"] ++ wsX30)
def wsX3_part : List Cond := .code yX3_part cX3_part 3 (some .int) :: ([.fieldLink RX3 9 "RingMeets$Rules" "told" "[I", .methodLink RX3 19 yX3_has, .instanceMethod yX3_has, .selects RX3 yX3_has yX3_has, .initialized RX3, .code yX3_has cX3_has 2 (some .boolean), .fieldLink RX3 15 "RingMeets$Rules" "size" "I"] ++ wsX30)
def wsX1_sideOfMove : List Cond := .code yX1_sideOfMove cX1_sideOfMove 1 (some .int) :: ([.fieldLink RX1 58 "RingMeets$Look" "done" "I", .fieldLink RX1 21 "RingMeets$Look" "side" "I"] ++ wsX10)
def wsX1_goalFrom : List Cond := .code yX1_goalFrom cX1_goalFrom 3 (some .int) :: ([.fieldLink RX1 58 "RingMeets$Look" "done" "I", .methodLink RX1 67 yX1_sideOfMove, .instanceMethod yX1_sideOfMove, .selects RX1 yX1_sideOfMove yX1_sideOfMove, .initialized RX1, .code yX1_sideOfMove cX1_sideOfMove 1 (some .int), .fieldLink RX1 21 "RingMeets$Look" "side" "I", .methodLink RX1 71 yX5_cellNextTo, .static yX5_cellNextTo, .initialized RX5, .code yX5_cellNextTo cX5_cellNextTo 3 (some .int)] ++ wsX10)
def wsX1_from_r1 : List Cond := [Cond.fieldLink RX1 15 "RingMeets$Look" "even" "Z", Cond.fieldLink RX1 21 "RingMeets$Look" "side" "I", Cond.methodLink RX1 37 Lib.Math.min.name, Cond.static Lib.Math.min.name, Cond.initialized "java/lang/Math", Cond.code Lib.Math.min.name Lib.Math.min.code 2 (some .int), Cond.fieldLink RX1 49 "RingMeets$Look" "rule" "I", Cond.fieldLink RX1 58 "RingMeets$Look" "done" "I", Cond.fieldLink RX1 64 "RingMeets$Look" "goal" "I", Cond.methodLink RX1 9 yX0_row, Cond.static yX0_row, Cond.initialized RX0, Cond.code yX0_row cX0_row 8 (some .int), Cond.methodLink RX0 9 yX5_cellNextTo, Cond.static yX5_cellNextTo, Cond.initialized RX5, Cond.code yX5_cellNextTo cX5_cellNextTo 3 (some .int), Cond.methodLink RX0 15 yX5_has, Cond.static yX5_has, Cond.code yX5_has cX5_has 2 (some .boolean), Cond.methodLink RX1 25 yX5_has, Cond.methodLink RX1 31 yJ6_bitCount_0f7a4, Cond.static yJ6_bitCount_0f7a4, Cond.initialized RJ6]
def wsX1_from_r2 : List Cond := [Cond.code yJ6_bitCount_0f7a4 cJ6_bitCount_0f7a4 1 (some .int), Cond.constant RJ6 265 (1431655765), Cond.constant RJ6 266 (858993459), Cond.constant RJ6 267 (252645135), Cond.methodLink RX1 43 yX3_firstThatFits, Cond.instanceMethod yX3_firstThatFits, Cond.selects RX3 yX3_firstThatFits yX3_firstThatFits, Cond.initialized RX3, Cond.code yX3_firstThatFits cX3_firstThatFits 5 (some .int), Cond.fieldLink RX3 15 "RingMeets$Rules" "size" "I", Cond.methodLink RX3 27 yX3_fits, Cond.instanceMethod yX3_fits, Cond.selects RX3 yX3_fits yX3_fits, Cond.code yX3_fits cX3_fits 8 (some .boolean), Cond.fieldLink RX3 9 "RingMeets$Rules" "told" "[I", Cond.methodLink RX3 31 yX0_at, Cond.static yX0_at, Cond.code yX0_at cX0_at 3 (some .int), Cond.methodLink RX3 37 yX3_isSo, Cond.static yX3_isSo, Cond.code yX3_isSo cX3_isSo 3 (some .boolean), Cond.methodLink RX1 52 yX3_has, Cond.instanceMethod yX3_has, Cond.selects RX3 yX3_has yX3_has]
def wsX1_from_r3 : List Cond := [Cond.code yX3_has cX3_has 2 (some .boolean), Cond.methodLink RX1 55 yX3_part, Cond.instanceMethod yX3_part, Cond.selects RX3 yX3_part yX3_part, Cond.code yX3_part cX3_part 3 (some .int), Cond.methodLink RX3 19 yX3_has, Cond.methodLink RX1 61 yX1_goalFrom, Cond.instanceMethod yX1_goalFrom, Cond.selects RX1 yX1_goalFrom yX1_goalFrom, Cond.initialized RX1, Cond.code yX1_goalFrom cX1_goalFrom 3 (some .int), Cond.methodLink RX1 67 yX1_sideOfMove, Cond.instanceMethod yX1_sideOfMove, Cond.selects RX1 yX1_sideOfMove yX1_sideOfMove, Cond.code yX1_sideOfMove cX1_sideOfMove 1 (some .int), Cond.methodLink RX1 71 yX5_cellNextTo]
def wsX1_from : List Cond := .code yX1_from cX1_from 9 none :: ((wsX1_from_r1 ++ (wsX1_from_r2 ++ wsX1_from_r3)) ++ wsX10 ++ wsX30)
def wsX2_init : List Cond := .code yX2_init cX2_init 1 none :: ([.methodLink RX2 3 objectInit, .instanceMethod objectInit, .code objectInit ⟨#[0xb1]⟩ 1 none, .classLink RX2 9 RX1, .instantiable RX1 5, .initialized RX1, .fieldLink RX2 12 "RingMeets$Moves" "look" "LRingMeets$Look;", .instanceMethod yX1_init, .code yX1_init cX1_init 1 none, .methodLink RX1 3 objectInit] ++ wsX10 ++ wsX20)
def wsX2_enter : List Cond := .code yX2_enter cX2_enter 2 none :: ([.fieldLink RX2 12 "RingMeets$Moves" "look" "LRingMeets$Look;", .fieldLink RX2 25 "RingMeets$Moves" "rulesUsed" "I", .fieldLink RX2 18 "RingMeets$Moves" "ups" "I", .fieldLink RX2 22 "RingMeets$Moves" "downs" "I", .methodLink RX2 48 yX1_sideOfMove, .instanceMethod yX1_sideOfMove, .selects RX1 yX1_sideOfMove yX1_sideOfMove, .initialized RX1, .code yX1_sideOfMove cX1_sideOfMove 1 (some .int), .fieldLink RX1 58 "RingMeets$Look" "done" "I", .fieldLink RX1 21 "RingMeets$Look" "side" "I"] ++ wsX20 ++ wsX10)
def wsX2_from_r1 : List Cond := [Cond.fieldLink RX2 18 "RingMeets$Moves" "ups" "I", Cond.fieldLink RX2 22 "RingMeets$Moves" "downs" "I", Cond.fieldLink RX2 25 "RingMeets$Moves" "rulesUsed" "I", Cond.fieldLink RX2 12 "RingMeets$Moves" "look" "LRingMeets$Look;", Cond.methodLink RX2 28 yX5_has, Cond.static yX5_has, Cond.initialized RX5, Cond.code yX5_has cX5_has 2 (some .boolean), Cond.methodLink RX2 34 yX1_from, Cond.instanceMethod yX1_from, Cond.selects RX1 yX1_from yX1_from, Cond.initialized RX1, Cond.code yX1_from cX1_from 9 none, Cond.fieldLink RX1 15 "RingMeets$Look" "even" "Z", Cond.fieldLink RX1 21 "RingMeets$Look" "side" "I", Cond.methodLink RX1 37 Lib.Math.min.name, Cond.static Lib.Math.min.name, Cond.initialized "java/lang/Math", Cond.code Lib.Math.min.name Lib.Math.min.code 2 (some .int), Cond.fieldLink RX1 49 "RingMeets$Look" "rule" "I", Cond.fieldLink RX1 58 "RingMeets$Look" "done" "I", Cond.fieldLink RX1 64 "RingMeets$Look" "goal" "I", Cond.methodLink RX1 9 yX0_row, Cond.static yX0_row]
def wsX2_from_r2 : List Cond := [Cond.initialized RX0, Cond.code yX0_row cX0_row 8 (some .int), Cond.methodLink RX0 9 yX5_cellNextTo, Cond.static yX5_cellNextTo, Cond.code yX5_cellNextTo cX5_cellNextTo 3 (some .int), Cond.methodLink RX0 15 yX5_has, Cond.methodLink RX1 25 yX5_has, Cond.methodLink RX1 31 yJ6_bitCount_0f7a4, Cond.static yJ6_bitCount_0f7a4, Cond.initialized RJ6, Cond.code yJ6_bitCount_0f7a4 cJ6_bitCount_0f7a4 1 (some .int), Cond.constant RJ6 265 (1431655765), Cond.constant RJ6 266 (858993459), Cond.constant RJ6 267 (252645135), Cond.methodLink RX1 43 yX3_firstThatFits, Cond.instanceMethod yX3_firstThatFits, Cond.selects RX3 yX3_firstThatFits yX3_firstThatFits, Cond.initialized RX3, Cond.code yX3_firstThatFits cX3_firstThatFits 5 (some .int), Cond.fieldLink RX3 15 "RingMeets$Rules" "size" "I", Cond.methodLink RX3 27 yX3_fits, Cond.instanceMethod yX3_fits, Cond.selects RX3 yX3_fits yX3_fits, Cond.code yX3_fits cX3_fits 8 (some .boolean)]
def wsX2_from_r3 : List Cond := [Cond.fieldLink RX3 9 "RingMeets$Rules" "told" "[I", Cond.methodLink RX3 31 yX0_at, Cond.static yX0_at, Cond.code yX0_at cX0_at 3 (some .int), Cond.methodLink RX3 37 yX3_isSo, Cond.static yX3_isSo, Cond.code yX3_isSo cX3_isSo 3 (some .boolean), Cond.methodLink RX1 52 yX3_has, Cond.instanceMethod yX3_has, Cond.selects RX3 yX3_has yX3_has, Cond.code yX3_has cX3_has 2 (some .boolean), Cond.methodLink RX1 55 yX3_part, Cond.instanceMethod yX3_part, Cond.selects RX3 yX3_part yX3_part, Cond.code yX3_part cX3_part 3 (some .int), Cond.methodLink RX3 19 yX3_has, Cond.methodLink RX1 61 yX1_goalFrom, Cond.instanceMethod yX1_goalFrom, Cond.selects RX1 yX1_goalFrom yX1_goalFrom, Cond.code yX1_goalFrom cX1_goalFrom 3 (some .int), Cond.methodLink RX1 67 yX1_sideOfMove, Cond.instanceMethod yX1_sideOfMove, Cond.selects RX1 yX1_sideOfMove yX1_sideOfMove, Cond.code yX1_sideOfMove cX1_sideOfMove 1 (some .int)]
def wsX2_from_r4 : List Cond := [Cond.methodLink RX1 71 yX5_cellNextTo, Cond.methodLink RX2 38 yX2_enter, Cond.instanceMethod yX2_enter, Cond.selects RX2 yX2_enter yX2_enter, Cond.initialized RX2, Cond.code yX2_enter cX2_enter 2 none, Cond.methodLink RX2 48 yX1_sideOfMove]
def wsX2_from : List Cond := .code yX2_from cX2_from 6 none :: ((wsX2_from_r1 ++ (wsX2_from_r2 ++ (wsX2_from_r3 ++ wsX2_from_r4))) ++ wsX20 ++ wsX10 ++ wsX30)
def wsX2_movers : List Cond := .code yX2_movers cX2_movers 1 (some .int) :: ([.fieldLink RX2 18 "RingMeets$Moves" "ups" "I", .fieldLink RX2 22 "RingMeets$Moves" "downs" "I"] ++ wsX20)
def wsX5_standsOf : List Cond := .code yX5_standsOf cX5_standsOf 1 (some .int) :: ([])
def wsX5_towersOf : List Cond := .code yX5_towersOf cX5_towersOf 1 (some .int) :: ([])
def wsX5_turnedDown : List Cond := .code yX5_turnedDown cX5_turnedDown 2 (some .int) :: ([])
def wsX5_way : List Cond := .code yX5_way cX5_way 2 (some .int) :: ([])
def wsX2_wayBehind : List Cond := .code yX2_wayBehind cX2_wayBehind 10 (some .int) :: ([.fieldLink RX2 18 "RingMeets$Moves" "ups" "I", .fieldLink RX2 22 "RingMeets$Moves" "downs" "I", .methodLink RX2 52 yX5_standsOf, .static yX5_standsOf, .initialized RX5, .code yX5_standsOf cX5_standsOf 1 (some .int), .methodLink RX2 56 yX5_towersOf, .static yX5_towersOf, .code yX5_towersOf cX5_towersOf 1 (some .int), .methodLink RX2 59 yX2_movers, .instanceMethod yX2_movers, .selects RX2 yX2_movers yX2_movers, .initialized RX2, .code yX2_movers cX2_movers 1 (some .int), .methodLink RX2 62 yX5_turnedUp, .static yX5_turnedUp, .code yX5_turnedUp cX5_turnedUp 2 (some .int), .methodLink RX2 66 yX5_turnedDown, .static yX5_turnedDown, .code yX5_turnedDown cX5_turnedDown 2 (some .int), .methodLink RX2 69 yX5_way, .static yX5_way, .code yX5_way cX5_way 2 (some .int)] ++ wsX20)
def wsX3_init : List Cond := .code yX3_init cX3_init 1 none :: ([.methodLink RX3 3 objectInit, .instanceMethod objectInit, .code objectInit ⟨#[0xb1]⟩ 1 none, .arrayClass .int, .fieldLink RX3 9 "RingMeets$Rules" "told" "[I"] ++ wsX30)
def wsX3_setPart : List Cond := .code yX3_setPart cX3_setPart 4 none :: ([.fieldLink RX3 9 "RingMeets$Rules" "told" "[I", .methodLink RX3 19 yX3_has, .instanceMethod yX3_has, .selects RX3 yX3_has yX3_has, .initialized RX3, .code yX3_has cX3_has 2 (some .boolean), .fieldLink RX3 15 "RingMeets$Rules" "size" "I"] ++ wsX30)
def wsX3_append : List Cond := .code yX3_append cX3_append 7 (some .int) :: ([.fieldLink RX3 15 "RingMeets$Rules" "size" "I", .methodLink RX3 23 yX3_setPart, .instanceMethod yX3_setPart, .selects RX3 yX3_setPart yX3_setPart, .initialized RX3, .code yX3_setPart cX3_setPart 4 none, .fieldLink RX3 9 "RingMeets$Rules" "told" "[I", .methodLink RX3 19 yX3_has, .instanceMethod yX3_has, .selects RX3 yX3_has yX3_has, .code yX3_has cX3_has 2 (some .boolean)] ++ wsX30)
def wsX3_remove : List Cond := .code yX3_remove cX3_remove 3 none :: ([.fieldLink RX3 15 "RingMeets$Rules" "size" "I", .fieldLink RX3 9 "RingMeets$Rules" "told" "[I", .methodLink RX3 19 yX3_has, .instanceMethod yX3_has, .selects RX3 yX3_has yX3_has, .initialized RX3, .code yX3_has cX3_has 2 (some .boolean)] ++ wsX30)
def wsX3_copyFrom : List Cond := .code yX3_copyFrom cX3_copyFrom 3 none :: ([.fieldLink RX3 15 "RingMeets$Rules" "size" "I", .fieldLink RX3 9 "RingMeets$Rules" "told" "[I"] ++ wsX30)
def wsX4_init : List Cond := .code yX4_init cX4_init 1 none :: ([.methodLink RX4 3 objectInit, .instanceMethod objectInit, .code objectInit ⟨#[0xb1]⟩ 1 none, .arrayClass .int, .fieldLink RX4 9 "RingMeets$Scene" "walkers" "[I", .classLink RX4 15 RX3, .instantiable RX3 2, .initialized RX3, .fieldLink RX4 18 "RingMeets$Scene" "rules" "LRingMeets$Rules;", .fieldLink RX4 22 "RingMeets$Scene" "cells" "I", .instanceMethod yX3_init, .code yX3_init cX3_init 1 none, .methodLink RX3 3 objectInit, .fieldLink RX3 9 "RingMeets$Rules" "told" "[I"] ++ wsX40 ++ wsX30)
def wsX4_hasCell : List Cond := .code yX4_hasCell cX4_hasCell 2 (some .boolean) :: ([.fieldLink RX4 22 "RingMeets$Scene" "cells" "I"] ++ wsX40)
def wsX4_walkersOn : List Cond := .code yX4_walkersOn cX4_walkersOn 2 (some .int) :: ([.fieldLink RX4 9 "RingMeets$Scene" "walkers" "[I", .methodLink RX4 26 yX4_hasCell, .instanceMethod yX4_hasCell, .selects RX4 yX4_hasCell yX4_hasCell, .initialized RX4, .code yX4_hasCell cX4_hasCell 2 (some .boolean), .fieldLink RX4 22 "RingMeets$Scene" "cells" "I"] ++ wsX40)
def wsX4_put : List Cond := .code yX4_put cX4_put 3 none :: ([.fieldLink RX4 9 "RingMeets$Scene" "walkers" "[I", .methodLink RX4 26 yX4_hasCell, .instanceMethod yX4_hasCell, .selects RX4 yX4_hasCell yX4_hasCell, .initialized RX4, .code yX4_hasCell cX4_hasCell 2 (some .boolean), .fieldLink RX4 22 "RingMeets$Scene" "cells" "I"] ++ wsX40)
def wsX4_empty : List Cond := .code yX4_empty cX4_empty 3 none :: ([.fieldLink RX4 22 "RingMeets$Scene" "cells" "I", .fieldLink RX4 9 "RingMeets$Scene" "walkers" "[I"] ++ wsX40)
def wsX4_walkersInAll : List Cond := .code yX4_walkersInAll cX4_walkersInAll 3 (some .int) :: ([.fieldLink RX4 22 "RingMeets$Scene" "cells" "I", .methodLink RX4 30 yX4_walkersOn, .instanceMethod yX4_walkersOn, .selects RX4 yX4_walkersOn yX4_walkersOn, .initialized RX4, .code yX4_walkersOn cX4_walkersOn 2 (some .int), .fieldLink RX4 9 "RingMeets$Scene" "walkers" "[I", .methodLink RX4 26 yX4_hasCell, .instanceMethod yX4_hasCell, .selects RX4 yX4_hasCell yX4_hasCell, .code yX4_hasCell cX4_hasCell 2 (some .boolean)] ++ wsX40)
def wsX4_cellsWithAtLeast : List Cond := .code yX4_cellsWithAtLeast cX4_cellsWithAtLeast 4 (some .int) :: ([.fieldLink RX4 22 "RingMeets$Scene" "cells" "I", .methodLink RX4 30 yX4_walkersOn, .instanceMethod yX4_walkersOn, .selects RX4 yX4_walkersOn yX4_walkersOn, .initialized RX4, .code yX4_walkersOn cX4_walkersOn 2 (some .int), .fieldLink RX4 9 "RingMeets$Scene" "walkers" "[I", .methodLink RX4 26 yX4_hasCell, .instanceMethod yX4_hasCell, .selects RX4 yX4_hasCell yX4_hasCell, .code yX4_hasCell cX4_hasCell 2 (some .boolean)] ++ wsX40)
def wsX4_stands : List Cond := .code yX4_stands cX4_stands 1 (some .int) :: ([.methodLink RX4 34 yX4_cellsWithAtLeast, .instanceMethod yX4_cellsWithAtLeast, .selects RX4 yX4_cellsWithAtLeast yX4_cellsWithAtLeast, .initialized RX4, .code yX4_cellsWithAtLeast cX4_cellsWithAtLeast 4 (some .int), .fieldLink RX4 22 "RingMeets$Scene" "cells" "I", .methodLink RX4 30 yX4_walkersOn, .instanceMethod yX4_walkersOn, .selects RX4 yX4_walkersOn yX4_walkersOn, .code yX4_walkersOn cX4_walkersOn 2 (some .int), .fieldLink RX4 9 "RingMeets$Scene" "walkers" "[I", .methodLink RX4 26 yX4_hasCell, .instanceMethod yX4_hasCell, .selects RX4 yX4_hasCell yX4_hasCell, .code yX4_hasCell cX4_hasCell 2 (some .boolean)] ++ wsX40)
def wsX4_towers : List Cond := .code yX4_towers cX4_towers 1 (some .int) :: ([.methodLink RX4 34 yX4_cellsWithAtLeast, .instanceMethod yX4_cellsWithAtLeast, .selects RX4 yX4_cellsWithAtLeast yX4_cellsWithAtLeast, .initialized RX4, .code yX4_cellsWithAtLeast cX4_cellsWithAtLeast 4 (some .int), .fieldLink RX4 22 "RingMeets$Scene" "cells" "I", .methodLink RX4 30 yX4_walkersOn, .instanceMethod yX4_walkersOn, .selects RX4 yX4_walkersOn yX4_walkersOn, .code yX4_walkersOn cX4_walkersOn 2 (some .int), .fieldLink RX4 9 "RingMeets$Scene" "walkers" "[I", .methodLink RX4 26 yX4_hasCell, .instanceMethod yX4_hasCell, .selects RX4 yX4_hasCell yX4_hasCell, .code yX4_hasCell cX4_hasCell 2 (some .boolean)] ++ wsX40)
def wsX4_copyFrom : List Cond := .code yX4_copyFrom cX4_copyFrom 3 none :: ([.fieldLink RX4 22 "RingMeets$Scene" "cells" "I", .fieldLink RX4 9 "RingMeets$Scene" "walkers" "[I", .fieldLink RX4 18 "RingMeets$Scene" "rules" "LRingMeets$Rules;", .methodLink RX4 37 yX3_copyFrom, .instanceMethod yX3_copyFrom, .selects RX3 yX3_copyFrom yX3_copyFrom, .initialized RX3, .code yX3_copyFrom cX3_copyFrom 3 none, .fieldLink RX3 15 "RingMeets$Rules" "size" "I", .fieldLink RX3 9 "RingMeets$Rules" "told" "[I"] ++ wsX40 ++ wsX30)
def wsX6_init_r1 : List Cond := [Cond.methodLink RX6 3 objectInit, Cond.instanceMethod objectInit, Cond.code objectInit ⟨#[0xb1]⟩ 1 none, Cond.classLink RX6 9 RX2, Cond.instantiable RX2 4, Cond.initialized RX2, Cond.fieldLink RX6 12 "RingMeets$Walks" "moves" "LRingMeets$Moves;", Cond.arrayClass .int, Cond.fieldLink RX6 18 "RingMeets$Walks" "ways" "[I", Cond.fieldLink RX6 22 "RingMeets$Walks" "newest" "[I", Cond.fieldLink RX6 25 "RingMeets$Walks" "older" "[I", Cond.fieldLink RX6 28 "RingMeets$Walks" "lastStepTo" "[I", Cond.fieldLink RX6 31 "RingMeets$Walks" "earlierStep" "[I", Cond.fieldLink RX6 34 "RingMeets$Walks" "stepFrom" "[I", Cond.fieldLink RX6 37 "RingMeets$Walks" "stepsLeft" "[I", Cond.fieldLink RX6 40 "RingMeets$Walks" "soon" "[I", Cond.fieldLink RX6 43 "RingMeets$Walks" "late" "[I", Cond.fieldLink RX6 46 "RingMeets$Walks" "line" "[I", Cond.fieldLink RX6 49 "RingMeets$Walks" "rules" "LRingMeets$Rules;", Cond.instanceMethod yX2_init, Cond.code yX2_init cX2_init 1 none, Cond.methodLink RX2 3 objectInit, Cond.classLink RX2 9 RX1, Cond.instantiable RX1 5]
def wsX6_init_r2 : List Cond := [Cond.initialized RX1, Cond.fieldLink RX2 12 "RingMeets$Moves" "look" "LRingMeets$Look;", Cond.instanceMethod yX1_init, Cond.code yX1_init cX1_init 1 none, Cond.methodLink RX1 3 objectInit]
def wsX6_init : List Cond := .code yX6_init cX6_init 2 none :: ((wsX6_init_r1 ++ wsX6_init_r2) ++ wsX20 ++ wsX60 ++ wsX10)
def wsX6_begin : List Cond := .code yX6_begin cX6_begin 5 none :: ([.fieldLink RX6 53 "RingMeets$Walks" "cells" "I", .fieldLink RX6 57 "RingMeets$Walks" "schedule" "I", .fieldLink RX6 60 "RingMeets$Walks" "blindly" "Z", .fieldLink RX6 64 "RingMeets$Walks" "size" "I", .fieldLink RX6 67 "RingMeets$Walks" "steps" "I", .fieldLink RX6 70 "RingMeets$Walks" "stuck" "I", .fieldLink RX6 73 "RingMeets$Walks" "rulesUsed" "I", .fieldLink RX6 22 "RingMeets$Walks" "newest" "[I"] ++ wsX60)
def wsX6_isWay : List Cond := .code yX6_isWay cX6_isWay 2 (some .boolean) :: ([.fieldLink RX6 64 "RingMeets$Walks" "size" "I"] ++ wsX60)
def wsX6_find : List Cond := .code yX6_find cX6_find 4 (some .int) :: ([.fieldLink RX6 22 "RingMeets$Walks" "newest" "[I", .fieldLink RX6 64 "RingMeets$Walks" "size" "I", .fieldLink RX6 18 "RingMeets$Walks" "ways" "[I", .fieldLink RX6 25 "RingMeets$Walks" "older" "[I", .methodLink RX6 80 yX5_standsOf, .static yX5_standsOf, .initialized RX5, .code yX5_standsOf cX5_standsOf 1 (some .int), .methodLink RX6 85 yX6_isWay, .instanceMethod yX6_isWay, .selects RX6 yX6_isWay yX6_isWay, .initialized RX6, .code yX6_isWay cX6_isWay 2 (some .boolean)] ++ wsX60)
def wsX6_add : List Cond := .code yX6_add cX6_add 5 (some .int) :: ([.fieldLink RX6 64 "RingMeets$Walks" "size" "I", .fieldLink RX6 18 "RingMeets$Walks" "ways" "[I", .fieldLink RX6 25 "RingMeets$Walks" "older" "[I", .fieldLink RX6 22 "RingMeets$Walks" "newest" "[I", .fieldLink RX6 28 "RingMeets$Walks" "lastStepTo" "[I", .fieldLink RX6 37 "RingMeets$Walks" "stepsLeft" "[I", .methodLink RX6 76 yX6_find, .instanceMethod yX6_find, .selects RX6 yX6_find yX6_find, .initialized RX6, .code yX6_find cX6_find 4 (some .int), .methodLink RX6 80 yX5_standsOf, .static yX5_standsOf, .initialized RX5, .code yX5_standsOf cX5_standsOf 1 (some .int), .methodLink RX6 85 yX6_isWay, .instanceMethod yX6_isWay, .selects RX6 yX6_isWay yX6_isWay, .code yX6_isWay cX6_isWay 2 (some .boolean)] ++ wsX60)
def wsX6_hasMet : List Cond := .code yX6_hasMet cX6_hasMet 2 (some .boolean) :: ([.fieldLink RX6 18 "RingMeets$Walks" "ways" "[I", .methodLink RX6 85 yX6_isWay, .instanceMethod yX6_isWay, .selects RX6 yX6_isWay yX6_isWay, .initialized RX6, .code yX6_isWay cX6_isWay 2 (some .boolean), .fieldLink RX6 64 "RingMeets$Walks" "size" "I", .methodLink RX6 80 yX5_standsOf, .static yX5_standsOf, .initialized RX5, .code yX5_standsOf cX5_standsOf 1 (some .int), .methodLink RX6 89 yJ6_bitCount_0f7a4, .static yJ6_bitCount_0f7a4, .initialized RJ6, .code yJ6_bitCount_0f7a4 cJ6_bitCount_0f7a4 1 (some .int), .constant RJ6 265 (1431655765), .constant RJ6 266 (858993459), .constant RJ6 267 (252645135)] ++ wsX60)
def wsX6_towersSeen : List Cond := .code yX6_towersSeen cX6_towersSeen 2 (some .int) :: ([.fieldLink RX6 60 "RingMeets$Walks" "blindly" "Z", .methodLink RX6 112 yX5_towersOf, .static yX5_towersOf, .initialized RX5, .code yX5_towersOf cX5_towersOf 1 (some .int)] ++ wsX60)
def wsJ6_lowestOneBit_0f7a4 : List Cond := .code yJ6_lowestOneBit_0f7a4 cJ6_lowestOneBit_0f7a4 1 (some .int) :: ([])
def wsX6_setAfter : List Cond := .code yX6_setAfter cX6_setAfter 3 (some .int) :: ([.fieldLink RX6 12 "RingMeets$Walks" "moves" "LRingMeets$Moves;", .fieldLink RX6 57 "RingMeets$Walks" "schedule" "I", .methodLink RX6 116 yX2_movers, .instanceMethod yX2_movers, .selects RX2 yX2_movers yX2_movers, .initialized RX2, .code yX2_movers cX2_movers 1 (some .int), .fieldLink RX2 18 "RingMeets$Moves" "ups" "I", .fieldLink RX2 22 "RingMeets$Moves" "downs" "I", .methodLink RX6 134 yJ6_lowestOneBit_0f7a4, .static yJ6_lowestOneBit_0f7a4, .initialized RJ6, .code yJ6_lowestOneBit_0f7a4 cJ6_lowestOneBit_0f7a4 1 (some .int)] ++ wsX60 ++ wsX20)
def wsX6_addStep : List Cond := .code yX6_addStep cX6_addStep 3 none :: ([.fieldLink RX6 67 "RingMeets$Walks" "steps" "I", .fieldLink RX6 34 "RingMeets$Walks" "stepFrom" "[I", .fieldLink RX6 31 "RingMeets$Walks" "earlierStep" "[I", .fieldLink RX6 28 "RingMeets$Walks" "lastStepTo" "[I", .fieldLink RX6 37 "RingMeets$Walks" "stepsLeft" "[I", .methodLink RX6 85 yX6_isWay, .instanceMethod yX6_isWay, .selects RX6 yX6_isWay yX6_isWay, .initialized RX6, .code yX6_isWay cX6_isWay 2 (some .boolean), .fieldLink RX6 64 "RingMeets$Walks" "size" "I"] ++ wsX60)
def wsX6_addStepsFrom_r1 : List Cond := [Cond.fieldLink RX6 73 "RingMeets$Walks" "rulesUsed" "I", Cond.fieldLink RX6 12 "RingMeets$Walks" "moves" "LRingMeets$Moves;", Cond.fieldLink RX6 70 "RingMeets$Walks" "stuck" "I", Cond.fieldLink RX6 53 "RingMeets$Walks" "cells" "I", Cond.fieldLink RX6 18 "RingMeets$Walks" "ways" "[I", Cond.methodLink RX6 116 yX2_movers, Cond.instanceMethod yX2_movers, Cond.selects RX2 yX2_movers yX2_movers, Cond.initialized RX2, Cond.code yX2_movers cX2_movers 1 (some .int), Cond.fieldLink RX2 18 "RingMeets$Moves" "ups" "I", Cond.fieldLink RX2 22 "RingMeets$Moves" "downs" "I", Cond.methodLink RX6 120 yX6_setAfter, Cond.instanceMethod yX6_setAfter, Cond.selects RX6 yX6_setAfter yX6_setAfter, Cond.initialized RX6, Cond.code yX6_setAfter cX6_setAfter 3 (some .int), Cond.fieldLink RX6 57 "RingMeets$Walks" "schedule" "I", Cond.methodLink RX6 134 yJ6_lowestOneBit_0f7a4, Cond.static yJ6_lowestOneBit_0f7a4, Cond.initialized RJ6, Cond.code yJ6_lowestOneBit_0f7a4 cJ6_lowestOneBit_0f7a4 1 (some .int), Cond.methodLink RX6 123 yX2_wayBehind, Cond.instanceMethod yX2_wayBehind]
def wsX6_addStepsFrom_r2 : List Cond := [Cond.selects RX2 yX2_wayBehind yX2_wayBehind, Cond.code yX2_wayBehind cX2_wayBehind 10 (some .int), Cond.methodLink RX2 52 yX5_standsOf, Cond.static yX5_standsOf, Cond.initialized RX5, Cond.code yX5_standsOf cX5_standsOf 1 (some .int), Cond.methodLink RX2 56 yX5_towersOf, Cond.static yX5_towersOf, Cond.code yX5_towersOf cX5_towersOf 1 (some .int), Cond.methodLink RX2 59 yX2_movers, Cond.methodLink RX2 62 yX5_turnedUp, Cond.static yX5_turnedUp, Cond.code yX5_turnedUp cX5_turnedUp 2 (some .int), Cond.methodLink RX2 66 yX5_turnedDown, Cond.static yX5_turnedDown, Cond.code yX5_turnedDown cX5_turnedDown 2 (some .int), Cond.methodLink RX2 69 yX5_way, Cond.static yX5_way, Cond.code yX5_way cX5_way 2 (some .int), Cond.methodLink RX6 127 yX6_add, Cond.instanceMethod yX6_add, Cond.selects RX6 yX6_add yX6_add, Cond.code yX6_add cX6_add 5 (some .int), Cond.fieldLink RX6 64 "RingMeets$Walks" "size" "I"]
def wsX6_addStepsFrom_r3 : List Cond := [Cond.fieldLink RX6 25 "RingMeets$Walks" "older" "[I", Cond.fieldLink RX6 22 "RingMeets$Walks" "newest" "[I", Cond.fieldLink RX6 28 "RingMeets$Walks" "lastStepTo" "[I", Cond.fieldLink RX6 37 "RingMeets$Walks" "stepsLeft" "[I", Cond.methodLink RX6 76 yX6_find, Cond.instanceMethod yX6_find, Cond.selects RX6 yX6_find yX6_find, Cond.code yX6_find cX6_find 4 (some .int), Cond.methodLink RX6 80 yX5_standsOf, Cond.methodLink RX6 85 yX6_isWay, Cond.instanceMethod yX6_isWay, Cond.selects RX6 yX6_isWay yX6_isWay, Cond.code yX6_isWay cX6_isWay 2 (some .boolean), Cond.methodLink RX6 130 yX6_addStep, Cond.instanceMethod yX6_addStep, Cond.selects RX6 yX6_addStep yX6_addStep, Cond.code yX6_addStep cX6_addStep 3 none, Cond.fieldLink RX6 67 "RingMeets$Walks" "steps" "I", Cond.fieldLink RX6 34 "RingMeets$Walks" "stepFrom" "[I", Cond.fieldLink RX6 31 "RingMeets$Walks" "earlierStep" "[I"]
def wsX6_addStepsFrom : List Cond := .code yX6_addStepsFrom cX6_addStepsFrom 4 none :: ((wsX6_addStepsFrom_r1 ++ (wsX6_addStepsFrom_r2 ++ wsX6_addStepsFrom_r3)) ++ wsX60 ++ wsX20)
def wsX6_lineUp : List Cond := .code yX6_lineUp cX6_lineUp 4 none :: ([.fieldLink RX6 141 "RingMeets$Walks" "lineSize" "I", .fieldLink RX6 46 "RingMeets$Walks" "line" "[I", .methodLink RX6 85 yX6_isWay, .instanceMethod yX6_isWay, .selects RX6 yX6_isWay yX6_isWay, .initialized RX6, .code yX6_isWay cX6_isWay 2 (some .boolean), .fieldLink RX6 64 "RingMeets$Walks" "size" "I"] ++ wsX60)
def wsX6_lineUpWhatHasMet_r1 : List Cond := [Cond.fieldLink RX6 141 "RingMeets$Walks" "lineSize" "I", Cond.fieldLink RX6 64 "RingMeets$Walks" "size" "I", Cond.methodLink RX6 94 yX6_hasMet, Cond.instanceMethod yX6_hasMet, Cond.selects RX6 yX6_hasMet yX6_hasMet, Cond.initialized RX6, Cond.code yX6_hasMet cX6_hasMet 2 (some .boolean), Cond.fieldLink RX6 18 "RingMeets$Walks" "ways" "[I", Cond.methodLink RX6 85 yX6_isWay, Cond.instanceMethod yX6_isWay, Cond.selects RX6 yX6_isWay yX6_isWay, Cond.code yX6_isWay cX6_isWay 2 (some .boolean), Cond.methodLink RX6 80 yX5_standsOf, Cond.static yX5_standsOf, Cond.initialized RX5, Cond.code yX5_standsOf cX5_standsOf 1 (some .int), Cond.methodLink RX6 89 yJ6_bitCount_0f7a4, Cond.static yJ6_bitCount_0f7a4, Cond.initialized RJ6, Cond.code yJ6_bitCount_0f7a4 cJ6_bitCount_0f7a4 1 (some .int), Cond.constant RJ6 265 (1431655765), Cond.constant RJ6 266 (858993459), Cond.constant RJ6 267 (252645135), Cond.methodLink RX6 150 yX6_lineUp]
def wsX6_lineUpWhatHasMet_r2 : List Cond := [Cond.instanceMethod yX6_lineUp, Cond.selects RX6 yX6_lineUp yX6_lineUp, Cond.code yX6_lineUp cX6_lineUp 4 none, Cond.fieldLink RX6 46 "RingMeets$Walks" "line" "[I"]
def wsX6_lineUpWhatHasMet : List Cond := .code yX6_lineUpWhatHasMet cX6_lineUpWhatHasMet 3 none :: ((wsX6_lineUpWhatHasMet_r1 ++ wsX6_lineUpWhatHasMet_r2) ++ wsX60)
def wsX6_isStep : List Cond := .code yX6_isStep cX6_isStep 2 (some .boolean) :: ([.fieldLink RX6 67 "RingMeets$Walks" "steps" "I"] ++ wsX60)
def wsX6_isLastStepOf : List Cond := .code yX6_isLastStepOf cX6_isLastStepOf 2 (some .boolean) :: ([.fieldLink RX6 37 "RingMeets$Walks" "stepsLeft" "[I", .methodLink RX6 85 yX6_isWay, .instanceMethod yX6_isWay, .selects RX6 yX6_isWay yX6_isWay, .initialized RX6, .code yX6_isWay cX6_isWay 2 (some .boolean), .fieldLink RX6 64 "RingMeets$Walks" "size" "I"] ++ wsX60)
def wsX6_tellBackwards_r1 : List Cond := [Cond.fieldLink RX6 141 "RingMeets$Walks" "lineSize" "I", Cond.fieldLink RX6 46 "RingMeets$Walks" "line" "[I", Cond.fieldLink RX6 28 "RingMeets$Walks" "lastStepTo" "[I", Cond.fieldLink RX6 67 "RingMeets$Walks" "steps" "I", Cond.fieldLink RX6 34 "RingMeets$Walks" "stepFrom" "[I", Cond.fieldLink RX6 31 "RingMeets$Walks" "earlierStep" "[I", Cond.methodLink RX6 137 yX6_lineUpWhatHasMet, Cond.instanceMethod yX6_lineUpWhatHasMet, Cond.selects RX6 yX6_lineUpWhatHasMet yX6_lineUpWhatHasMet, Cond.initialized RX6, Cond.code yX6_lineUpWhatHasMet cX6_lineUpWhatHasMet 3 none, Cond.fieldLink RX6 64 "RingMeets$Walks" "size" "I", Cond.methodLink RX6 94 yX6_hasMet, Cond.instanceMethod yX6_hasMet, Cond.selects RX6 yX6_hasMet yX6_hasMet, Cond.code yX6_hasMet cX6_hasMet 2 (some .boolean), Cond.fieldLink RX6 18 "RingMeets$Walks" "ways" "[I", Cond.methodLink RX6 85 yX6_isWay, Cond.instanceMethod yX6_isWay, Cond.selects RX6 yX6_isWay yX6_isWay, Cond.code yX6_isWay cX6_isWay 2 (some .boolean), Cond.methodLink RX6 80 yX5_standsOf, Cond.static yX5_standsOf, Cond.initialized RX5]
def wsX6_tellBackwards_r2 : List Cond := [Cond.code yX5_standsOf cX5_standsOf 1 (some .int), Cond.methodLink RX6 89 yJ6_bitCount_0f7a4, Cond.static yJ6_bitCount_0f7a4, Cond.initialized RJ6, Cond.code yJ6_bitCount_0f7a4 cJ6_bitCount_0f7a4 1 (some .int), Cond.constant RJ6 265 (1431655765), Cond.constant RJ6 266 (858993459), Cond.constant RJ6 267 (252645135), Cond.methodLink RX6 150 yX6_lineUp, Cond.instanceMethod yX6_lineUp, Cond.selects RX6 yX6_lineUp yX6_lineUp, Cond.code yX6_lineUp cX6_lineUp 4 none, Cond.methodLink RX6 144 yX6_isStep, Cond.instanceMethod yX6_isStep, Cond.selects RX6 yX6_isStep yX6_isStep, Cond.code yX6_isStep cX6_isStep 2 (some .boolean), Cond.methodLink RX6 147 yX6_isLastStepOf, Cond.instanceMethod yX6_isLastStepOf, Cond.selects RX6 yX6_isLastStepOf yX6_isLastStepOf, Cond.code yX6_isLastStepOf cX6_isLastStepOf 2 (some .boolean), Cond.fieldLink RX6 37 "RingMeets$Walks" "stepsLeft" "[I"]
def wsX6_tellBackwards : List Cond := .code yX6_tellBackwards cX6_tellBackwards 8 none :: ((wsX6_tellBackwards_r1 ++ wsX6_tellBackwards_r2) ++ wsX60)
def wsX6_walk_r1 : List Cond := [Cond.fieldLink RX6 64 "RingMeets$Walks" "size" "I", Cond.fieldLink RX6 12 "RingMeets$Walks" "moves" "LRingMeets$Moves;", Cond.fieldLink RX6 49 "RingMeets$Walks" "rules" "LRingMeets$Rules;", Cond.fieldLink RX6 53 "RingMeets$Walks" "cells" "I", Cond.fieldLink RX6 18 "RingMeets$Walks" "ways" "[I", Cond.fieldLink RX6 40 "RingMeets$Walks" "soon" "[I", Cond.fieldLink RX6 43 "RingMeets$Walks" "late" "[I", Cond.methodLink RX6 94 yX6_hasMet, Cond.instanceMethod yX6_hasMet, Cond.selects RX6 yX6_hasMet yX6_hasMet, Cond.initialized RX6, Cond.code yX6_hasMet cX6_hasMet 2 (some .boolean), Cond.methodLink RX6 85 yX6_isWay, Cond.instanceMethod yX6_isWay, Cond.selects RX6 yX6_isWay yX6_isWay, Cond.code yX6_isWay cX6_isWay 2 (some .boolean), Cond.methodLink RX6 80 yX5_standsOf, Cond.static yX5_standsOf, Cond.initialized RX5, Cond.code yX5_standsOf cX5_standsOf 1 (some .int), Cond.methodLink RX6 89 yJ6_bitCount_0f7a4, Cond.static yJ6_bitCount_0f7a4, Cond.initialized RJ6, Cond.code yJ6_bitCount_0f7a4 cJ6_bitCount_0f7a4 1 (some .int)]
def wsX6_walk_r2 : List Cond := [Cond.constant RJ6 265 (1431655765), Cond.constant RJ6 266 (858993459), Cond.constant RJ6 267 (252645135), Cond.methodLink RX6 97 yX6_towersSeen, Cond.instanceMethod yX6_towersSeen, Cond.selects RX6 yX6_towersSeen yX6_towersSeen, Cond.code yX6_towersSeen cX6_towersSeen 2 (some .int), Cond.fieldLink RX6 60 "RingMeets$Walks" "blindly" "Z", Cond.methodLink RX6 112 yX5_towersOf, Cond.static yX5_towersOf, Cond.code yX5_towersOf cX5_towersOf 1 (some .int), Cond.methodLink RX6 100 yX2_from, Cond.instanceMethod yX2_from, Cond.selects RX2 yX2_from yX2_from, Cond.initialized RX2, Cond.code yX2_from cX2_from 6 none, Cond.fieldLink RX2 18 "RingMeets$Moves" "ups" "I", Cond.fieldLink RX2 22 "RingMeets$Moves" "downs" "I", Cond.fieldLink RX2 25 "RingMeets$Moves" "rulesUsed" "I", Cond.fieldLink RX2 12 "RingMeets$Moves" "look" "LRingMeets$Look;", Cond.methodLink RX2 28 yX5_has, Cond.static yX5_has, Cond.code yX5_has cX5_has 2 (some .boolean), Cond.methodLink RX2 34 yX1_from]
def wsX6_walk_r3 : List Cond := [Cond.instanceMethod yX1_from, Cond.selects RX1 yX1_from yX1_from, Cond.initialized RX1, Cond.code yX1_from cX1_from 9 none, Cond.fieldLink RX1 15 "RingMeets$Look" "even" "Z", Cond.fieldLink RX1 21 "RingMeets$Look" "side" "I", Cond.methodLink RX1 37 Lib.Math.min.name, Cond.static Lib.Math.min.name, Cond.initialized "java/lang/Math", Cond.code Lib.Math.min.name Lib.Math.min.code 2 (some .int), Cond.fieldLink RX1 49 "RingMeets$Look" "rule" "I", Cond.fieldLink RX1 58 "RingMeets$Look" "done" "I", Cond.fieldLink RX1 64 "RingMeets$Look" "goal" "I", Cond.methodLink RX1 9 yX0_row, Cond.static yX0_row, Cond.initialized RX0, Cond.code yX0_row cX0_row 8 (some .int), Cond.methodLink RX0 9 yX5_cellNextTo, Cond.static yX5_cellNextTo, Cond.code yX5_cellNextTo cX5_cellNextTo 3 (some .int), Cond.methodLink RX0 15 yX5_has, Cond.methodLink RX1 25 yX5_has, Cond.methodLink RX1 31 yJ6_bitCount_0f7a4, Cond.methodLink RX1 43 yX3_firstThatFits]
def wsX6_walk_r4 : List Cond := [Cond.instanceMethod yX3_firstThatFits, Cond.selects RX3 yX3_firstThatFits yX3_firstThatFits, Cond.initialized RX3, Cond.code yX3_firstThatFits cX3_firstThatFits 5 (some .int), Cond.fieldLink RX3 15 "RingMeets$Rules" "size" "I", Cond.methodLink RX3 27 yX3_fits, Cond.instanceMethod yX3_fits, Cond.selects RX3 yX3_fits yX3_fits, Cond.code yX3_fits cX3_fits 8 (some .boolean), Cond.fieldLink RX3 9 "RingMeets$Rules" "told" "[I", Cond.methodLink RX3 31 yX0_at, Cond.static yX0_at, Cond.code yX0_at cX0_at 3 (some .int), Cond.methodLink RX3 37 yX3_isSo, Cond.static yX3_isSo, Cond.code yX3_isSo cX3_isSo 3 (some .boolean), Cond.methodLink RX1 52 yX3_has, Cond.instanceMethod yX3_has, Cond.selects RX3 yX3_has yX3_has, Cond.code yX3_has cX3_has 2 (some .boolean), Cond.methodLink RX1 55 yX3_part, Cond.instanceMethod yX3_part, Cond.selects RX3 yX3_part yX3_part, Cond.code yX3_part cX3_part 3 (some .int)]
def wsX6_walk_r5 : List Cond := [Cond.methodLink RX3 19 yX3_has, Cond.methodLink RX1 61 yX1_goalFrom, Cond.instanceMethod yX1_goalFrom, Cond.selects RX1 yX1_goalFrom yX1_goalFrom, Cond.code yX1_goalFrom cX1_goalFrom 3 (some .int), Cond.methodLink RX1 67 yX1_sideOfMove, Cond.instanceMethod yX1_sideOfMove, Cond.selects RX1 yX1_sideOfMove yX1_sideOfMove, Cond.code yX1_sideOfMove cX1_sideOfMove 1 (some .int), Cond.methodLink RX1 71 yX5_cellNextTo, Cond.methodLink RX2 38 yX2_enter, Cond.instanceMethod yX2_enter, Cond.selects RX2 yX2_enter yX2_enter, Cond.code yX2_enter cX2_enter 2 none, Cond.methodLink RX2 48 yX1_sideOfMove, Cond.methodLink RX6 104 yX6_addStepsFrom, Cond.instanceMethod yX6_addStepsFrom, Cond.selects RX6 yX6_addStepsFrom yX6_addStepsFrom, Cond.code yX6_addStepsFrom cX6_addStepsFrom 4 none, Cond.fieldLink RX6 73 "RingMeets$Walks" "rulesUsed" "I", Cond.fieldLink RX6 70 "RingMeets$Walks" "stuck" "I", Cond.methodLink RX6 116 yX2_movers, Cond.instanceMethod yX2_movers, Cond.selects RX2 yX2_movers yX2_movers]
def wsX6_walk_r6 : List Cond := [Cond.code yX2_movers cX2_movers 1 (some .int), Cond.methodLink RX6 120 yX6_setAfter, Cond.instanceMethod yX6_setAfter, Cond.selects RX6 yX6_setAfter yX6_setAfter, Cond.code yX6_setAfter cX6_setAfter 3 (some .int), Cond.fieldLink RX6 57 "RingMeets$Walks" "schedule" "I", Cond.methodLink RX6 134 yJ6_lowestOneBit_0f7a4, Cond.static yJ6_lowestOneBit_0f7a4, Cond.code yJ6_lowestOneBit_0f7a4 cJ6_lowestOneBit_0f7a4 1 (some .int), Cond.methodLink RX6 123 yX2_wayBehind, Cond.instanceMethod yX2_wayBehind, Cond.selects RX2 yX2_wayBehind yX2_wayBehind, Cond.code yX2_wayBehind cX2_wayBehind 10 (some .int), Cond.methodLink RX2 52 yX5_standsOf, Cond.methodLink RX2 56 yX5_towersOf, Cond.methodLink RX2 59 yX2_movers, Cond.methodLink RX2 62 yX5_turnedUp, Cond.static yX5_turnedUp, Cond.code yX5_turnedUp cX5_turnedUp 2 (some .int), Cond.methodLink RX2 66 yX5_turnedDown, Cond.static yX5_turnedDown, Cond.code yX5_turnedDown cX5_turnedDown 2 (some .int), Cond.methodLink RX2 69 yX5_way, Cond.static yX5_way]
def wsX6_walk_r7 : List Cond := [Cond.code yX5_way cX5_way 2 (some .int), Cond.methodLink RX6 127 yX6_add, Cond.instanceMethod yX6_add, Cond.selects RX6 yX6_add yX6_add, Cond.code yX6_add cX6_add 5 (some .int), Cond.fieldLink RX6 25 "RingMeets$Walks" "older" "[I", Cond.fieldLink RX6 22 "RingMeets$Walks" "newest" "[I", Cond.fieldLink RX6 28 "RingMeets$Walks" "lastStepTo" "[I", Cond.fieldLink RX6 37 "RingMeets$Walks" "stepsLeft" "[I", Cond.methodLink RX6 76 yX6_find, Cond.instanceMethod yX6_find, Cond.selects RX6 yX6_find yX6_find, Cond.code yX6_find cX6_find 4 (some .int), Cond.methodLink RX6 130 yX6_addStep, Cond.instanceMethod yX6_addStep, Cond.selects RX6 yX6_addStep yX6_addStep, Cond.code yX6_addStep cX6_addStep 3 none, Cond.fieldLink RX6 67 "RingMeets$Walks" "steps" "I", Cond.fieldLink RX6 34 "RingMeets$Walks" "stepFrom" "[I", Cond.fieldLink RX6 31 "RingMeets$Walks" "earlierStep" "[I", Cond.methodLink RX6 108 yX6_tellBackwards, Cond.instanceMethod yX6_tellBackwards, Cond.selects RX6 yX6_tellBackwards yX6_tellBackwards, Cond.code yX6_tellBackwards cX6_tellBackwards 8 none]
def wsX6_walk_r8 : List Cond := [Cond.fieldLink RX6 141 "RingMeets$Walks" "lineSize" "I", Cond.fieldLink RX6 46 "RingMeets$Walks" "line" "[I", Cond.methodLink RX6 137 yX6_lineUpWhatHasMet, Cond.instanceMethod yX6_lineUpWhatHasMet, Cond.selects RX6 yX6_lineUpWhatHasMet yX6_lineUpWhatHasMet, Cond.code yX6_lineUpWhatHasMet cX6_lineUpWhatHasMet 3 none, Cond.methodLink RX6 150 yX6_lineUp, Cond.instanceMethod yX6_lineUp, Cond.selects RX6 yX6_lineUp yX6_lineUp, Cond.code yX6_lineUp cX6_lineUp 4 none, Cond.methodLink RX6 144 yX6_isStep, Cond.instanceMethod yX6_isStep, Cond.selects RX6 yX6_isStep yX6_isStep, Cond.code yX6_isStep cX6_isStep 2 (some .boolean), Cond.methodLink RX6 147 yX6_isLastStepOf, Cond.instanceMethod yX6_isLastStepOf, Cond.selects RX6 yX6_isLastStepOf yX6_isLastStepOf, Cond.code yX6_isLastStepOf cX6_isLastStepOf 2 (some .boolean)]
def wsX6_walk : List Cond := .code yX6_walk cX6_walk 2 none :: ((wsX6_walk_r1 ++ (wsX6_walk_r2 ++ (wsX6_walk_r3 ++ (wsX6_walk_r4 ++ (wsX6_walk_r5 ++ (wsX6_walk_r6 ++ (wsX6_walk_r7 ++ wsX6_walk_r8))))))) ++ wsX60 ++ wsX20 ++ wsX10 ++ wsX30)
def wsX6_soonOf : List Cond := .code yX6_soonOf cX6_soonOf 2 (some .int) :: ([.fieldLink RX6 40 "RingMeets$Walks" "soon" "[I", .methodLink RX6 85 yX6_isWay, .instanceMethod yX6_isWay, .selects RX6 yX6_isWay yX6_isWay, .initialized RX6, .code yX6_isWay cX6_isWay 2 (some .boolean), .fieldLink RX6 64 "RingMeets$Walks" "size" "I"] ++ wsX60)
def wsX6_lateOf : List Cond := .code yX6_lateOf cX6_lateOf 2 (some .int) :: ([.fieldLink RX6 43 "RingMeets$Walks" "late" "[I", .methodLink RX6 85 yX6_isWay, .instanceMethod yX6_isWay, .selects RX6 yX6_isWay yX6_isWay, .initialized RX6, .code yX6_isWay cX6_isWay 2 (some .boolean), .fieldLink RX6 64 "RingMeets$Walks" "size" "I"] ++ wsX60)
def wsX6_kindOf_r1 : List Cond := [Cond.methodLink RX6 94 yX6_hasMet, Cond.instanceMethod yX6_hasMet, Cond.selects RX6 yX6_hasMet yX6_hasMet, Cond.initialized RX6, Cond.code yX6_hasMet cX6_hasMet 2 (some .boolean), Cond.fieldLink RX6 18 "RingMeets$Walks" "ways" "[I", Cond.methodLink RX6 85 yX6_isWay, Cond.instanceMethod yX6_isWay, Cond.selects RX6 yX6_isWay yX6_isWay, Cond.code yX6_isWay cX6_isWay 2 (some .boolean), Cond.fieldLink RX6 64 "RingMeets$Walks" "size" "I", Cond.methodLink RX6 80 yX5_standsOf, Cond.static yX5_standsOf, Cond.initialized RX5, Cond.code yX5_standsOf cX5_standsOf 1 (some .int), Cond.methodLink RX6 89 yJ6_bitCount_0f7a4, Cond.static yJ6_bitCount_0f7a4, Cond.initialized RJ6, Cond.code yJ6_bitCount_0f7a4 cJ6_bitCount_0f7a4 1 (some .int), Cond.constant RJ6 265 (1431655765), Cond.constant RJ6 266 (858993459), Cond.constant RJ6 267 (252645135), Cond.methodLink RX6 154 yX6_lateOf, Cond.instanceMethod yX6_lateOf]
def wsX6_kindOf_r2 : List Cond := [Cond.selects RX6 yX6_lateOf yX6_lateOf, Cond.code yX6_lateOf cX6_lateOf 2 (some .int), Cond.fieldLink RX6 43 "RingMeets$Walks" "late" "[I", Cond.methodLink RX6 157 yX6_soonOf, Cond.instanceMethod yX6_soonOf, Cond.selects RX6 yX6_soonOf yX6_soonOf, Cond.code yX6_soonOf cX6_soonOf 2 (some .int), Cond.fieldLink RX6 40 "RingMeets$Walks" "soon" "[I"]
def wsX6_kindOf : List Cond := .code yX6_kindOf cX6_kindOf 2 (some .int) :: ((wsX6_kindOf_r1 ++ wsX6_kindOf_r2) ++ wsX60)
def wsX6_leastSetTowardsMeeting_r1 : List Cond := [Cond.fieldLink RX6 12 "RingMeets$Walks" "moves" "LRingMeets$Moves;", Cond.fieldLink RX6 49 "RingMeets$Walks" "rules" "LRingMeets$Rules;", Cond.fieldLink RX6 53 "RingMeets$Walks" "cells" "I", Cond.fieldLink RX6 18 "RingMeets$Walks" "ways" "[I", Cond.methodLink RX6 157 yX6_soonOf, Cond.instanceMethod yX6_soonOf, Cond.selects RX6 yX6_soonOf yX6_soonOf, Cond.initialized RX6, Cond.code yX6_soonOf cX6_soonOf 2 (some .int), Cond.fieldLink RX6 40 "RingMeets$Walks" "soon" "[I", Cond.methodLink RX6 85 yX6_isWay, Cond.instanceMethod yX6_isWay, Cond.selects RX6 yX6_isWay yX6_isWay, Cond.code yX6_isWay cX6_isWay 2 (some .boolean), Cond.fieldLink RX6 64 "RingMeets$Walks" "size" "I", Cond.methodLink RX6 80 yX5_standsOf, Cond.static yX5_standsOf, Cond.initialized RX5, Cond.code yX5_standsOf cX5_standsOf 1 (some .int), Cond.methodLink RX6 97 yX6_towersSeen, Cond.instanceMethod yX6_towersSeen, Cond.selects RX6 yX6_towersSeen yX6_towersSeen, Cond.code yX6_towersSeen cX6_towersSeen 2 (some .int), Cond.fieldLink RX6 60 "RingMeets$Walks" "blindly" "Z"]
def wsX6_leastSetTowardsMeeting_r2 : List Cond := [Cond.methodLink RX6 112 yX5_towersOf, Cond.static yX5_towersOf, Cond.code yX5_towersOf cX5_towersOf 1 (some .int), Cond.methodLink RX6 100 yX2_from, Cond.instanceMethod yX2_from, Cond.selects RX2 yX2_from yX2_from, Cond.initialized RX2, Cond.code yX2_from cX2_from 6 none, Cond.fieldLink RX2 18 "RingMeets$Moves" "ups" "I", Cond.fieldLink RX2 22 "RingMeets$Moves" "downs" "I", Cond.fieldLink RX2 25 "RingMeets$Moves" "rulesUsed" "I", Cond.fieldLink RX2 12 "RingMeets$Moves" "look" "LRingMeets$Look;", Cond.methodLink RX2 28 yX5_has, Cond.static yX5_has, Cond.code yX5_has cX5_has 2 (some .boolean), Cond.methodLink RX2 34 yX1_from, Cond.instanceMethod yX1_from, Cond.selects RX1 yX1_from yX1_from, Cond.initialized RX1, Cond.code yX1_from cX1_from 9 none, Cond.fieldLink RX1 15 "RingMeets$Look" "even" "Z", Cond.fieldLink RX1 21 "RingMeets$Look" "side" "I", Cond.methodLink RX1 37 Lib.Math.min.name, Cond.static Lib.Math.min.name]
def wsX6_leastSetTowardsMeeting_r3 : List Cond := [Cond.initialized "java/lang/Math", Cond.code Lib.Math.min.name Lib.Math.min.code 2 (some .int), Cond.fieldLink RX1 49 "RingMeets$Look" "rule" "I", Cond.fieldLink RX1 58 "RingMeets$Look" "done" "I", Cond.fieldLink RX1 64 "RingMeets$Look" "goal" "I", Cond.methodLink RX1 9 yX0_row, Cond.static yX0_row, Cond.initialized RX0, Cond.code yX0_row cX0_row 8 (some .int), Cond.methodLink RX0 9 yX5_cellNextTo, Cond.static yX5_cellNextTo, Cond.code yX5_cellNextTo cX5_cellNextTo 3 (some .int), Cond.methodLink RX0 15 yX5_has, Cond.methodLink RX1 25 yX5_has, Cond.methodLink RX1 31 yJ6_bitCount_0f7a4, Cond.static yJ6_bitCount_0f7a4, Cond.initialized RJ6, Cond.code yJ6_bitCount_0f7a4 cJ6_bitCount_0f7a4 1 (some .int), Cond.constant RJ6 265 (1431655765), Cond.constant RJ6 266 (858993459), Cond.constant RJ6 267 (252645135), Cond.methodLink RX1 43 yX3_firstThatFits, Cond.instanceMethod yX3_firstThatFits, Cond.selects RX3 yX3_firstThatFits yX3_firstThatFits]
def wsX6_leastSetTowardsMeeting_r4 : List Cond := [Cond.initialized RX3, Cond.code yX3_firstThatFits cX3_firstThatFits 5 (some .int), Cond.fieldLink RX3 15 "RingMeets$Rules" "size" "I", Cond.methodLink RX3 27 yX3_fits, Cond.instanceMethod yX3_fits, Cond.selects RX3 yX3_fits yX3_fits, Cond.code yX3_fits cX3_fits 8 (some .boolean), Cond.fieldLink RX3 9 "RingMeets$Rules" "told" "[I", Cond.methodLink RX3 31 yX0_at, Cond.static yX0_at, Cond.code yX0_at cX0_at 3 (some .int), Cond.methodLink RX3 37 yX3_isSo, Cond.static yX3_isSo, Cond.code yX3_isSo cX3_isSo 3 (some .boolean), Cond.methodLink RX1 52 yX3_has, Cond.instanceMethod yX3_has, Cond.selects RX3 yX3_has yX3_has, Cond.code yX3_has cX3_has 2 (some .boolean), Cond.methodLink RX1 55 yX3_part, Cond.instanceMethod yX3_part, Cond.selects RX3 yX3_part yX3_part, Cond.code yX3_part cX3_part 3 (some .int), Cond.methodLink RX3 19 yX3_has, Cond.methodLink RX1 61 yX1_goalFrom]
def wsX6_leastSetTowardsMeeting_r5 : List Cond := [Cond.instanceMethod yX1_goalFrom, Cond.selects RX1 yX1_goalFrom yX1_goalFrom, Cond.code yX1_goalFrom cX1_goalFrom 3 (some .int), Cond.methodLink RX1 67 yX1_sideOfMove, Cond.instanceMethod yX1_sideOfMove, Cond.selects RX1 yX1_sideOfMove yX1_sideOfMove, Cond.code yX1_sideOfMove cX1_sideOfMove 1 (some .int), Cond.methodLink RX1 71 yX5_cellNextTo, Cond.methodLink RX2 38 yX2_enter, Cond.instanceMethod yX2_enter, Cond.selects RX2 yX2_enter yX2_enter, Cond.code yX2_enter cX2_enter 2 none, Cond.methodLink RX2 48 yX1_sideOfMove, Cond.methodLink RX6 120 yX6_setAfter, Cond.instanceMethod yX6_setAfter, Cond.selects RX6 yX6_setAfter yX6_setAfter, Cond.code yX6_setAfter cX6_setAfter 3 (some .int), Cond.fieldLink RX6 57 "RingMeets$Walks" "schedule" "I", Cond.methodLink RX6 116 yX2_movers, Cond.instanceMethod yX2_movers, Cond.selects RX2 yX2_movers yX2_movers, Cond.code yX2_movers cX2_movers 1 (some .int), Cond.methodLink RX6 134 yJ6_lowestOneBit_0f7a4, Cond.static yJ6_lowestOneBit_0f7a4]
def wsX6_leastSetTowardsMeeting_r6 : List Cond := [Cond.code yJ6_lowestOneBit_0f7a4 cJ6_lowestOneBit_0f7a4 1 (some .int), Cond.methodLink RX6 123 yX2_wayBehind, Cond.instanceMethod yX2_wayBehind, Cond.selects RX2 yX2_wayBehind yX2_wayBehind, Cond.code yX2_wayBehind cX2_wayBehind 10 (some .int), Cond.methodLink RX2 52 yX5_standsOf, Cond.methodLink RX2 56 yX5_towersOf, Cond.methodLink RX2 59 yX2_movers, Cond.methodLink RX2 62 yX5_turnedUp, Cond.static yX5_turnedUp, Cond.code yX5_turnedUp cX5_turnedUp 2 (some .int), Cond.methodLink RX2 66 yX5_turnedDown, Cond.static yX5_turnedDown, Cond.code yX5_turnedDown cX5_turnedDown 2 (some .int), Cond.methodLink RX2 69 yX5_way, Cond.static yX5_way, Cond.code yX5_way cX5_way 2 (some .int), Cond.methodLink RX6 76 yX6_find, Cond.instanceMethod yX6_find, Cond.selects RX6 yX6_find yX6_find, Cond.code yX6_find cX6_find 4 (some .int), Cond.fieldLink RX6 22 "RingMeets$Walks" "newest" "[I", Cond.fieldLink RX6 25 "RingMeets$Walks" "older" "[I"]
def wsX6_leastSetTowardsMeeting : List Cond := .code yX6_leastSetTowardsMeeting cX6_leastSetTowardsMeeting 5 (some .int) :: ((wsX6_leastSetTowardsMeeting_r1 ++ (wsX6_leastSetTowardsMeeting_r2 ++ (wsX6_leastSetTowardsMeeting_r3 ++ (wsX6_leastSetTowardsMeeting_r4 ++ (wsX6_leastSetTowardsMeeting_r5 ++ wsX6_leastSetTowardsMeeting_r6))))) ++ wsX60 ++ wsX20 ++ wsX10 ++ wsX30)
def wsX7_init_r1 : List Cond := [Cond.methodLink RX7 1 objectInit, Cond.instanceMethod objectInit, Cond.code objectInit ⟨#[0xb1]⟩ 1 none, Cond.classLink RX7 7 RX4, Cond.instantiable RX4 3, Cond.initialized RX4, Cond.fieldLink RX7 10 "RingMeets" "now" "LRingMeets$Scene;", Cond.fieldLink RX7 16 "RingMeets" "firstImage" "LRingMeets$Scene;", Cond.fieldLink RX7 19 "RingMeets" "secondImage" "LRingMeets$Scene;", Cond.classLink RX7 22 RX1, Cond.instantiable RX1 5, Cond.initialized RX1, Cond.fieldLink RX7 25 "RingMeets" "look" "LRingMeets$Look;", Cond.arrayClass .int, Cond.fieldLink RX7 29 "RingMeets" "behind" "[I", Cond.instanceMethod yX4_init, Cond.code yX4_init cX4_init 1 none, Cond.methodLink RX4 3 objectInit, Cond.fieldLink RX4 9 "RingMeets$Scene" "walkers" "[I", Cond.classLink RX4 15 RX3, Cond.instantiable RX3 2, Cond.initialized RX3, Cond.fieldLink RX4 18 "RingMeets$Scene" "rules" "LRingMeets$Rules;", Cond.fieldLink RX4 22 "RingMeets$Scene" "cells" "I"]
def wsX7_init_r2 : List Cond := [Cond.instanceMethod yX3_init, Cond.code yX3_init cX3_init 1 none, Cond.methodLink RX3 3 objectInit, Cond.fieldLink RX3 9 "RingMeets$Rules" "told" "[I", Cond.instanceMethod yX1_init, Cond.code yX1_init cX1_init 1 none, Cond.methodLink RX1 3 objectInit]
def wsX7_init : List Cond := .code yX7_init cX7_init 1 none :: ((wsX7_init_r1 ++ wsX7_init_r2) ++ wsX40 ++ wsX70 ++ wsX10 ++ wsX30)
def wsX7_ring : List Cond := .code yX7_ring cX7_ring 3 (some .int) :: ([.fieldLink RX7 10 "RingMeets" "now" "LRingMeets$Scene;", .methodLink RX7 37 yX4_empty, .instanceMethod yX4_empty, .selects RX4 yX4_empty yX4_empty, .initialized RX4, .code yX4_empty cX4_empty 3 none, .fieldLink RX4 22 "RingMeets$Scene" "cells" "I", .fieldLink RX4 9 "RingMeets$Scene" "walkers" "[I"] ++ wsX70 ++ wsX40)
def wsX7_stand : List Cond := .code yX7_stand cX7_stand 4 (some .int) :: ([.fieldLink RX7 10 "RingMeets" "now" "LRingMeets$Scene;", .methodLink RX7 41 yX4_hasCell, .instanceMethod yX4_hasCell, .selects RX4 yX4_hasCell yX4_hasCell, .initialized RX4, .code yX4_hasCell cX4_hasCell 2 (some .boolean), .fieldLink RX4 22 "RingMeets$Scene" "cells" "I", .methodLink RX7 45 yX4_walkersOn, .instanceMethod yX4_walkersOn, .selects RX4 yX4_walkersOn yX4_walkersOn, .code yX4_walkersOn cX4_walkersOn 2 (some .int), .fieldLink RX4 9 "RingMeets$Scene" "walkers" "[I", .methodLink RX4 26 yX4_hasCell, .methodLink RX7 49 yX4_walkersInAll, .instanceMethod yX4_walkersInAll, .selects RX4 yX4_walkersInAll yX4_walkersInAll, .code yX4_walkersInAll cX4_walkersInAll 3 (some .int), .methodLink RX4 30 yX4_walkersOn, .methodLink RX7 53 yX4_put, .instanceMethod yX4_put, .selects RX4 yX4_put yX4_put, .code yX4_put cX4_put 3 none] ++ wsX70 ++ wsX40)
def wsX7_gap_r1 : List Cond := [Cond.fieldLink RX7 10 "RingMeets" "now" "LRingMeets$Scene;", Cond.methodLink RX7 57 yX4_stands, Cond.instanceMethod yX4_stands, Cond.selects RX4 yX4_stands yX4_stands, Cond.initialized RX4, Cond.code yX4_stands cX4_stands 1 (some .int), Cond.methodLink RX4 34 yX4_cellsWithAtLeast, Cond.instanceMethod yX4_cellsWithAtLeast, Cond.selects RX4 yX4_cellsWithAtLeast yX4_cellsWithAtLeast, Cond.code yX4_cellsWithAtLeast cX4_cellsWithAtLeast 4 (some .int), Cond.fieldLink RX4 22 "RingMeets$Scene" "cells" "I", Cond.methodLink RX4 30 yX4_walkersOn, Cond.instanceMethod yX4_walkersOn, Cond.selects RX4 yX4_walkersOn yX4_walkersOn, Cond.code yX4_walkersOn cX4_walkersOn 2 (some .int), Cond.fieldLink RX4 9 "RingMeets$Scene" "walkers" "[I", Cond.methodLink RX4 26 yX4_hasCell, Cond.instanceMethod yX4_hasCell, Cond.selects RX4 yX4_hasCell yX4_hasCell, Cond.code yX4_hasCell cX4_hasCell 2 (some .boolean), Cond.methodLink RX7 60 yX5_has, Cond.static yX5_has, Cond.initialized RX5, Cond.code yX5_has cX5_has 2 (some .boolean)]
def wsX7_gap_r2 : List Cond := [Cond.methodLink RX7 66 yJ6_bitCount_0f7a4, Cond.static yJ6_bitCount_0f7a4, Cond.initialized RJ6, Cond.code yJ6_bitCount_0f7a4 cJ6_bitCount_0f7a4 1 (some .int), Cond.constant RJ6 265 (1431655765), Cond.constant RJ6 266 (858993459), Cond.constant RJ6 267 (252645135), Cond.methodLink RX7 71 yX0_view, Cond.static yX0_view, Cond.initialized RX0, Cond.code yX0_view cX0_view 3 (some .int), Cond.methodLink RX0 25 Lib.Math.min.name, Cond.static Lib.Math.min.name, Cond.initialized "java/lang/Math", Cond.code Lib.Math.min.name Lib.Math.min.code 2 (some .int), Cond.methodLink RX0 21 yX0_row, Cond.static yX0_row, Cond.code yX0_row cX0_row 8 (some .int), Cond.methodLink RX0 9 yX5_cellNextTo, Cond.static yX5_cellNextTo, Cond.code yX5_cellNextTo cX5_cellNextTo 3 (some .int), Cond.methodLink RX0 15 yX5_has, Cond.methodLink RX7 77 yX0_row, Cond.methodLink RX7 81 yX0_at]
def wsX7_gap_r3 : List Cond := [Cond.static yX0_at, Cond.code yX0_at cX0_at 3 (some .int)]
def wsX7_gap : List Cond := .code yX7_gap cX7_gap 7 (some .int) :: ((wsX7_gap_r1 ++ (wsX7_gap_r2 ++ wsX7_gap_r3)) ++ wsX70 ++ wsX40)
def wsX7_shape_r1 : List Cond := [Cond.fieldLink RX7 10 "RingMeets" "now" "LRingMeets$Scene;", Cond.methodLink RX7 57 yX4_stands, Cond.instanceMethod yX4_stands, Cond.selects RX4 yX4_stands yX4_stands, Cond.initialized RX4, Cond.code yX4_stands cX4_stands 1 (some .int), Cond.methodLink RX4 34 yX4_cellsWithAtLeast, Cond.instanceMethod yX4_cellsWithAtLeast, Cond.selects RX4 yX4_cellsWithAtLeast yX4_cellsWithAtLeast, Cond.code yX4_cellsWithAtLeast cX4_cellsWithAtLeast 4 (some .int), Cond.fieldLink RX4 22 "RingMeets$Scene" "cells" "I", Cond.methodLink RX4 30 yX4_walkersOn, Cond.instanceMethod yX4_walkersOn, Cond.selects RX4 yX4_walkersOn yX4_walkersOn, Cond.code yX4_walkersOn cX4_walkersOn 2 (some .int), Cond.fieldLink RX4 9 "RingMeets$Scene" "walkers" "[I", Cond.methodLink RX4 26 yX4_hasCell, Cond.instanceMethod yX4_hasCell, Cond.selects RX4 yX4_hasCell yX4_hasCell, Cond.code yX4_hasCell cX4_hasCell 2 (some .boolean), Cond.methodLink RX7 84 yX0_turned, Cond.static yX0_turned, Cond.initialized RX0, Cond.code yX0_turned cX0_turned 4 (some .boolean)]
def wsX7_shape_r2 : List Cond := [Cond.methodLink RX0 15 yX5_has, Cond.static yX5_has, Cond.initialized RX5, Cond.code yX5_has cX5_has 2 (some .boolean), Cond.methodLink RX0 21 yX0_row, Cond.static yX0_row, Cond.code yX0_row cX0_row 8 (some .int), Cond.methodLink RX0 9 yX5_cellNextTo, Cond.static yX5_cellNextTo, Cond.code yX5_cellNextTo cX5_cellNextTo 3 (some .int), Cond.methodLink RX7 87 yX0_mirrored, Cond.static yX0_mirrored, Cond.code yX0_mirrored cX0_mirrored 4 (some .boolean), Cond.methodLink RX7 90 yX0_evens, Cond.static yX0_evens, Cond.code yX0_evens cX0_evens 4 (some .int), Cond.methodLink RX7 94 yX0_views, Cond.static yX0_views, Cond.code yX0_views cX0_views 4 (some .int), Cond.methodLink RX0 31 yX0_isSeenBelow, Cond.static yX0_isSeenBelow, Cond.code yX0_isSeenBelow cX0_isSeenBelow 5 (some .boolean), Cond.methodLink RX0 35 yX0_view, Cond.static yX0_view]
def wsX7_shape_r3 : List Cond := [Cond.code yX0_view cX0_view 3 (some .int), Cond.methodLink RX0 25 Lib.Math.min.name, Cond.static Lib.Math.min.name, Cond.initialized "java/lang/Math", Cond.code Lib.Math.min.name Lib.Math.min.code 2 (some .int), Cond.methodLink RX7 97 yX0_leastTurn, Cond.static yX0_leastTurn, Cond.code yX0_leastTurn cX0_leastTurn 4 (some .int), Cond.methodLink RX0 38 yX5_turnedUp, Cond.static yX5_turnedUp, Cond.code yX5_turnedUp cX5_turnedUp 2 (some .int)]
def wsX7_shape : List Cond := .code yX7_shape cX7_shape 4 (some .int) :: ((wsX7_shape_r1 ++ (wsX7_shape_r2 ++ wsX7_shape_r3)) ++ wsX70 ++ wsX40)
def wsX7_rule : List Cond := .code yX7_rule cX7_rule 6 (some .int) :: ([.fieldLink RX7 10 "RingMeets" "now" "LRingMeets$Scene;", .methodLink RX7 104 yX3_append, .instanceMethod yX3_append, .selects RX3 yX3_append yX3_append, .initialized RX3, .code yX3_append cX3_append 7 (some .int), .fieldLink RX3 15 "RingMeets$Rules" "size" "I", .methodLink RX3 23 yX3_setPart, .instanceMethod yX3_setPart, .selects RX3 yX3_setPart yX3_setPart, .code yX3_setPart cX3_setPart 4 none, .fieldLink RX3 9 "RingMeets$Rules" "told" "[I", .methodLink RX3 19 yX3_has, .instanceMethod yX3_has, .selects RX3 yX3_has yX3_has, .code yX3_has cX3_has 2 (some .boolean)] ++ wsX70 ++ wsX40 ++ wsX30)
def wsX7_whom : List Cond := .code yX7_whom cX7_whom 4 (some .int) :: ([.fieldLink RX7 10 "RingMeets" "now" "LRingMeets$Scene;", .methodLink RX7 110 yX3_has, .instanceMethod yX3_has, .selects RX3 yX3_has yX3_has, .initialized RX3, .code yX3_has cX3_has 2 (some .boolean), .fieldLink RX3 15 "RingMeets$Rules" "size" "I", .methodLink RX7 112 yX3_part, .instanceMethod yX3_part, .selects RX3 yX3_part yX3_part, .code yX3_part cX3_part 3 (some .int), .fieldLink RX3 9 "RingMeets$Rules" "told" "[I", .methodLink RX3 19 yX3_has, .methodLink RX7 115 yX3_setPart, .instanceMethod yX3_setPart, .selects RX3 yX3_setPart yX3_setPart, .code yX3_setPart cX3_setPart 4 none] ++ wsX70 ++ wsX40 ++ wsX30)
def wsX7_drop : List Cond := .code yX7_drop cX7_drop 2 (some .int) :: ([.fieldLink RX7 10 "RingMeets" "now" "LRingMeets$Scene;", .methodLink RX7 110 yX3_has, .instanceMethod yX3_has, .selects RX3 yX3_has yX3_has, .initialized RX3, .code yX3_has cX3_has 2 (some .boolean), .fieldLink RX3 15 "RingMeets$Rules" "size" "I", .methodLink RX7 119 yX3_remove, .instanceMethod yX3_remove, .selects RX3 yX3_remove yX3_remove, .code yX3_remove cX3_remove 3 none, .fieldLink RX3 9 "RingMeets$Rules" "told" "[I", .methodLink RX3 19 yX3_has] ++ wsX70 ++ wsX40 ++ wsX30)
def wsX7_of : List Cond := .code yX7_of cX7_of 3 (some .int) :: ([.fieldLink RX7 10 "RingMeets" "now" "LRingMeets$Scene;", .methodLink RX7 110 yX3_has, .instanceMethod yX3_has, .selects RX3 yX3_has yX3_has, .initialized RX3, .code yX3_has cX3_has 2 (some .boolean), .fieldLink RX3 15 "RingMeets$Rules" "size" "I", .methodLink RX7 112 yX3_part, .instanceMethod yX3_part, .selects RX3 yX3_part yX3_part, .code yX3_part cX3_part 3 (some .int), .fieldLink RX3 9 "RingMeets$Rules" "told" "[I", .methodLink RX3 19 yX3_has] ++ wsX70 ++ wsX40 ++ wsX30)
def wsX7_does_r1 : List Cond := [Cond.fieldLink RX7 10 "RingMeets" "now" "LRingMeets$Scene;", Cond.fieldLink RX7 25 "RingMeets" "look" "LRingMeets$Look;", Cond.methodLink RX7 57 yX4_stands, Cond.instanceMethod yX4_stands, Cond.selects RX4 yX4_stands yX4_stands, Cond.initialized RX4, Cond.code yX4_stands cX4_stands 1 (some .int), Cond.methodLink RX4 34 yX4_cellsWithAtLeast, Cond.instanceMethod yX4_cellsWithAtLeast, Cond.selects RX4 yX4_cellsWithAtLeast yX4_cellsWithAtLeast, Cond.code yX4_cellsWithAtLeast cX4_cellsWithAtLeast 4 (some .int), Cond.fieldLink RX4 22 "RingMeets$Scene" "cells" "I", Cond.methodLink RX4 30 yX4_walkersOn, Cond.instanceMethod yX4_walkersOn, Cond.selects RX4 yX4_walkersOn yX4_walkersOn, Cond.code yX4_walkersOn cX4_walkersOn 2 (some .int), Cond.fieldLink RX4 9 "RingMeets$Scene" "walkers" "[I", Cond.methodLink RX4 26 yX4_hasCell, Cond.instanceMethod yX4_hasCell, Cond.selects RX4 yX4_hasCell yX4_hasCell, Cond.code yX4_hasCell cX4_hasCell 2 (some .boolean), Cond.methodLink RX7 60 yX5_has, Cond.static yX5_has, Cond.initialized RX5]
def wsX7_does_r2 : List Cond := [Cond.code yX5_has cX5_has 2 (some .boolean), Cond.methodLink RX7 125 yX4_towers, Cond.instanceMethod yX4_towers, Cond.selects RX4 yX4_towers yX4_towers, Cond.code yX4_towers cX4_towers 1 (some .int), Cond.methodLink RX7 128 yX1_from, Cond.instanceMethod yX1_from, Cond.selects RX1 yX1_from yX1_from, Cond.initialized RX1, Cond.code yX1_from cX1_from 9 none, Cond.fieldLink RX1 15 "RingMeets$Look" "even" "Z", Cond.fieldLink RX1 21 "RingMeets$Look" "side" "I", Cond.methodLink RX1 37 Lib.Math.min.name, Cond.static Lib.Math.min.name, Cond.initialized "java/lang/Math", Cond.code Lib.Math.min.name Lib.Math.min.code 2 (some .int), Cond.fieldLink RX1 49 "RingMeets$Look" "rule" "I", Cond.fieldLink RX1 58 "RingMeets$Look" "done" "I", Cond.fieldLink RX1 64 "RingMeets$Look" "goal" "I", Cond.methodLink RX1 9 yX0_row, Cond.static yX0_row, Cond.initialized RX0, Cond.code yX0_row cX0_row 8 (some .int), Cond.methodLink RX0 9 yX5_cellNextTo]
def wsX7_does_r3 : List Cond := [Cond.static yX5_cellNextTo, Cond.code yX5_cellNextTo cX5_cellNextTo 3 (some .int), Cond.methodLink RX0 15 yX5_has, Cond.methodLink RX1 25 yX5_has, Cond.methodLink RX1 31 yJ6_bitCount_0f7a4, Cond.static yJ6_bitCount_0f7a4, Cond.initialized RJ6, Cond.code yJ6_bitCount_0f7a4 cJ6_bitCount_0f7a4 1 (some .int), Cond.constant RJ6 265 (1431655765), Cond.constant RJ6 266 (858993459), Cond.constant RJ6 267 (252645135), Cond.methodLink RX1 43 yX3_firstThatFits, Cond.instanceMethod yX3_firstThatFits, Cond.selects RX3 yX3_firstThatFits yX3_firstThatFits, Cond.initialized RX3, Cond.code yX3_firstThatFits cX3_firstThatFits 5 (some .int), Cond.fieldLink RX3 15 "RingMeets$Rules" "size" "I", Cond.methodLink RX3 27 yX3_fits, Cond.instanceMethod yX3_fits, Cond.selects RX3 yX3_fits yX3_fits, Cond.code yX3_fits cX3_fits 8 (some .boolean), Cond.fieldLink RX3 9 "RingMeets$Rules" "told" "[I", Cond.methodLink RX3 31 yX0_at, Cond.static yX0_at]
def wsX7_does_r4 : List Cond := [Cond.code yX0_at cX0_at 3 (some .int), Cond.methodLink RX3 37 yX3_isSo, Cond.static yX3_isSo, Cond.code yX3_isSo cX3_isSo 3 (some .boolean), Cond.methodLink RX1 52 yX3_has, Cond.instanceMethod yX3_has, Cond.selects RX3 yX3_has yX3_has, Cond.code yX3_has cX3_has 2 (some .boolean), Cond.methodLink RX1 55 yX3_part, Cond.instanceMethod yX3_part, Cond.selects RX3 yX3_part yX3_part, Cond.code yX3_part cX3_part 3 (some .int), Cond.methodLink RX3 19 yX3_has, Cond.methodLink RX1 61 yX1_goalFrom, Cond.instanceMethod yX1_goalFrom, Cond.selects RX1 yX1_goalFrom yX1_goalFrom, Cond.code yX1_goalFrom cX1_goalFrom 3 (some .int), Cond.methodLink RX1 67 yX1_sideOfMove, Cond.instanceMethod yX1_sideOfMove, Cond.selects RX1 yX1_sideOfMove yX1_sideOfMove, Cond.code yX1_sideOfMove cX1_sideOfMove 1 (some .int), Cond.methodLink RX1 71 yX5_cellNextTo]
def wsX7_does : List Cond := .code yX7_does cX7_does 4 (some .int) :: ((wsX7_does_r1 ++ (wsX7_does_r2 ++ (wsX7_does_r3 ++ wsX7_does_r4))) ++ wsX70 ++ wsX40 ++ wsX10 ++ wsX30)
def wsX7_step_r1 : List Cond := [Cond.fieldLink RX7 10 "RingMeets" "now" "LRingMeets$Scene;", Cond.fieldLink RX7 29 "RingMeets" "behind" "[I", Cond.fieldLink RX7 25 "RingMeets" "look" "LRingMeets$Look;", Cond.methodLink RX7 57 yX4_stands, Cond.instanceMethod yX4_stands, Cond.selects RX4 yX4_stands yX4_stands, Cond.initialized RX4, Cond.code yX4_stands cX4_stands 1 (some .int), Cond.methodLink RX4 34 yX4_cellsWithAtLeast, Cond.instanceMethod yX4_cellsWithAtLeast, Cond.selects RX4 yX4_cellsWithAtLeast yX4_cellsWithAtLeast, Cond.code yX4_cellsWithAtLeast cX4_cellsWithAtLeast 4 (some .int), Cond.fieldLink RX4 22 "RingMeets$Scene" "cells" "I", Cond.methodLink RX4 30 yX4_walkersOn, Cond.instanceMethod yX4_walkersOn, Cond.selects RX4 yX4_walkersOn yX4_walkersOn, Cond.code yX4_walkersOn cX4_walkersOn 2 (some .int), Cond.fieldLink RX4 9 "RingMeets$Scene" "walkers" "[I", Cond.methodLink RX4 26 yX4_hasCell, Cond.instanceMethod yX4_hasCell, Cond.selects RX4 yX4_hasCell yX4_hasCell, Cond.code yX4_hasCell cX4_hasCell 2 (some .boolean), Cond.methodLink RX7 125 yX4_towers, Cond.instanceMethod yX4_towers]
def wsX7_step_r2 : List Cond := [Cond.selects RX4 yX4_towers yX4_towers, Cond.code yX4_towers cX4_towers 1 (some .int), Cond.methodLink RX7 60 yX5_has, Cond.static yX5_has, Cond.initialized RX5, Cond.code yX5_has cX5_has 2 (some .boolean), Cond.methodLink RX7 128 yX1_from, Cond.instanceMethod yX1_from, Cond.selects RX1 yX1_from yX1_from, Cond.initialized RX1, Cond.code yX1_from cX1_from 9 none, Cond.fieldLink RX1 15 "RingMeets$Look" "even" "Z", Cond.fieldLink RX1 21 "RingMeets$Look" "side" "I", Cond.methodLink RX1 37 Lib.Math.min.name, Cond.static Lib.Math.min.name, Cond.initialized "java/lang/Math", Cond.code Lib.Math.min.name Lib.Math.min.code 2 (some .int), Cond.fieldLink RX1 49 "RingMeets$Look" "rule" "I", Cond.fieldLink RX1 58 "RingMeets$Look" "done" "I", Cond.fieldLink RX1 64 "RingMeets$Look" "goal" "I", Cond.methodLink RX1 9 yX0_row, Cond.static yX0_row, Cond.initialized RX0, Cond.code yX0_row cX0_row 8 (some .int)]
def wsX7_step_r3 : List Cond := [Cond.methodLink RX0 9 yX5_cellNextTo, Cond.static yX5_cellNextTo, Cond.code yX5_cellNextTo cX5_cellNextTo 3 (some .int), Cond.methodLink RX0 15 yX5_has, Cond.methodLink RX1 25 yX5_has, Cond.methodLink RX1 31 yJ6_bitCount_0f7a4, Cond.static yJ6_bitCount_0f7a4, Cond.initialized RJ6, Cond.code yJ6_bitCount_0f7a4 cJ6_bitCount_0f7a4 1 (some .int), Cond.constant RJ6 265 (1431655765), Cond.constant RJ6 266 (858993459), Cond.constant RJ6 267 (252645135), Cond.methodLink RX1 43 yX3_firstThatFits, Cond.instanceMethod yX3_firstThatFits, Cond.selects RX3 yX3_firstThatFits yX3_firstThatFits, Cond.initialized RX3, Cond.code yX3_firstThatFits cX3_firstThatFits 5 (some .int), Cond.fieldLink RX3 15 "RingMeets$Rules" "size" "I", Cond.methodLink RX3 27 yX3_fits, Cond.instanceMethod yX3_fits, Cond.selects RX3 yX3_fits yX3_fits, Cond.code yX3_fits cX3_fits 8 (some .boolean), Cond.fieldLink RX3 9 "RingMeets$Rules" "told" "[I", Cond.methodLink RX3 31 yX0_at]
def wsX7_step_r4 : List Cond := [Cond.static yX0_at, Cond.code yX0_at cX0_at 3 (some .int), Cond.methodLink RX3 37 yX3_isSo, Cond.static yX3_isSo, Cond.code yX3_isSo cX3_isSo 3 (some .boolean), Cond.methodLink RX1 52 yX3_has, Cond.instanceMethod yX3_has, Cond.selects RX3 yX3_has yX3_has, Cond.code yX3_has cX3_has 2 (some .boolean), Cond.methodLink RX1 55 yX3_part, Cond.instanceMethod yX3_part, Cond.selects RX3 yX3_part yX3_part, Cond.code yX3_part cX3_part 3 (some .int), Cond.methodLink RX3 19 yX3_has, Cond.methodLink RX1 61 yX1_goalFrom, Cond.instanceMethod yX1_goalFrom, Cond.selects RX1 yX1_goalFrom yX1_goalFrom, Cond.code yX1_goalFrom cX1_goalFrom 3 (some .int), Cond.methodLink RX1 67 yX1_sideOfMove, Cond.instanceMethod yX1_sideOfMove, Cond.selects RX1 yX1_sideOfMove yX1_sideOfMove, Cond.code yX1_sideOfMove cX1_sideOfMove 1 (some .int), Cond.methodLink RX1 71 yX5_cellNextTo, Cond.methodLink RX7 45 yX4_walkersOn]
def wsX7_step_r5 : List Cond := [Cond.methodLink RX7 53 yX4_put, Cond.instanceMethod yX4_put, Cond.selects RX4 yX4_put yX4_put, Cond.code yX4_put cX4_put 3 none, Cond.methodLink RX7 66 yJ6_bitCount_0f7a4]
def wsX7_step : List Cond := .code yX7_step cX7_step 6 (some .int) :: ((wsX7_step_r1 ++ (wsX7_step_r2 ++ (wsX7_step_r3 ++ (wsX7_step_r4 ++ wsX7_step_r5)))) ++ wsX70 ++ wsX40 ++ wsX10 ++ wsX30)
def wsX7_isSchedule : List Cond := .code yX7_isSchedule cX7_isSchedule 1 (some .boolean) :: ([])
def wsX7_refusalFromNow : List Cond := .code yX7_refusalFromNow cX7_refusalFromNow 2 (some .int) :: ([.fieldLink RX7 10 "RingMeets" "now" "LRingMeets$Scene;", .methodLink RX7 179 yX7_isSchedule, .static yX7_isSchedule, .initialized RX7, .code yX7_isSchedule cX7_isSchedule 1 (some .boolean), .methodLink RX7 57 yX4_stands, .instanceMethod yX4_stands, .selects RX4 yX4_stands yX4_stands, .initialized RX4, .code yX4_stands cX4_stands 1 (some .int), .methodLink RX4 34 yX4_cellsWithAtLeast, .instanceMethod yX4_cellsWithAtLeast, .selects RX4 yX4_cellsWithAtLeast yX4_cellsWithAtLeast, .code yX4_cellsWithAtLeast cX4_cellsWithAtLeast 4 (some .int), .fieldLink RX4 22 "RingMeets$Scene" "cells" "I", .methodLink RX4 30 yX4_walkersOn, .instanceMethod yX4_walkersOn, .selects RX4 yX4_walkersOn yX4_walkersOn, .code yX4_walkersOn cX4_walkersOn 2 (some .int), .fieldLink RX4 9 "RingMeets$Scene" "walkers" "[I", .methodLink RX4 26 yX4_hasCell, .instanceMethod yX4_hasCell, .selects RX4 yX4_hasCell yX4_hasCell, .code yX4_hasCell cX4_hasCell 2 (some .boolean)] ++ wsX70 ++ wsX40)
def wsX7_newWalks_r1 : List Cond := [Cond.fieldLink RX7 202 "RingMeets" "walks" "LRingMeets$Walks;", Cond.classLink RX7 156 RX6, Cond.instantiable RX6 20, Cond.initialized RX6, Cond.fieldLink RX7 10 "RingMeets" "now" "LRingMeets$Scene;", Cond.methodLink RX7 206 yX6_init, Cond.instanceMethod yX6_init, Cond.code yX6_init cX6_init 2 none, Cond.methodLink RX6 3 objectInit, Cond.instanceMethod objectInit, Cond.code objectInit ⟨#[0xb1]⟩ 1 none, Cond.classLink RX6 9 RX2, Cond.instantiable RX2 4, Cond.initialized RX2, Cond.fieldLink RX6 12 "RingMeets$Walks" "moves" "LRingMeets$Moves;", Cond.arrayClass .int, Cond.fieldLink RX6 18 "RingMeets$Walks" "ways" "[I", Cond.fieldLink RX6 22 "RingMeets$Walks" "newest" "[I", Cond.fieldLink RX6 25 "RingMeets$Walks" "older" "[I", Cond.fieldLink RX6 28 "RingMeets$Walks" "lastStepTo" "[I", Cond.fieldLink RX6 31 "RingMeets$Walks" "earlierStep" "[I", Cond.fieldLink RX6 34 "RingMeets$Walks" "stepFrom" "[I", Cond.fieldLink RX6 37 "RingMeets$Walks" "stepsLeft" "[I", Cond.fieldLink RX6 40 "RingMeets$Walks" "soon" "[I"]
def wsX7_newWalks_r2 : List Cond := [Cond.fieldLink RX6 43 "RingMeets$Walks" "late" "[I", Cond.fieldLink RX6 46 "RingMeets$Walks" "line" "[I", Cond.fieldLink RX6 49 "RingMeets$Walks" "rules" "LRingMeets$Rules;", Cond.instanceMethod yX2_init, Cond.code yX2_init cX2_init 1 none, Cond.methodLink RX2 3 objectInit, Cond.classLink RX2 9 RX1, Cond.instantiable RX1 5, Cond.initialized RX1, Cond.fieldLink RX2 12 "RingMeets$Moves" "look" "LRingMeets$Look;", Cond.instanceMethod yX1_init, Cond.code yX1_init cX1_init 1 none, Cond.methodLink RX1 3 objectInit, Cond.methodLink RX7 209 yX6_begin, Cond.instanceMethod yX6_begin, Cond.selects RX6 yX6_begin yX6_begin, Cond.code yX6_begin cX6_begin 5 none, Cond.fieldLink RX6 53 "RingMeets$Walks" "cells" "I", Cond.fieldLink RX6 57 "RingMeets$Walks" "schedule" "I", Cond.fieldLink RX6 60 "RingMeets$Walks" "blindly" "Z", Cond.fieldLink RX6 64 "RingMeets$Walks" "size" "I", Cond.fieldLink RX6 67 "RingMeets$Walks" "steps" "I", Cond.fieldLink RX6 70 "RingMeets$Walks" "stuck" "I", Cond.fieldLink RX6 73 "RingMeets$Walks" "rulesUsed" "I"]
def wsX7_newWalks : List Cond := .code yX7_newWalks cX7_newWalks 3 (some (.object "RingMeets$Walks")) :: ((wsX7_newWalks_r1 ++ wsX7_newWalks_r2) ++ wsX70 ++ wsX60 ++ wsX40 ++ wsX20 ++ wsX10)
def wsX7_walksFromNow_r1 : List Cond := [Cond.fieldLink RX7 10 "RingMeets" "now" "LRingMeets$Scene;", Cond.methodLink RX7 182 yX7_newWalks, Cond.instanceMethod yX7_newWalks, Cond.selects RX7 yX7_newWalks yX7_newWalks, Cond.initialized RX7, Cond.code yX7_newWalks cX7_newWalks 3 (some (.object "RingMeets$Walks")), Cond.fieldLink RX7 202 "RingMeets" "walks" "LRingMeets$Walks;", Cond.classLink RX7 156 RX6, Cond.instantiable RX6 20, Cond.initialized RX6, Cond.methodLink RX7 206 yX6_init, Cond.instanceMethod yX6_init, Cond.code yX6_init cX6_init 2 none, Cond.methodLink RX6 3 objectInit, Cond.instanceMethod objectInit, Cond.code objectInit ⟨#[0xb1]⟩ 1 none, Cond.classLink RX6 9 RX2, Cond.instantiable RX2 4, Cond.initialized RX2, Cond.fieldLink RX6 12 "RingMeets$Walks" "moves" "LRingMeets$Moves;", Cond.arrayClass .int, Cond.fieldLink RX6 18 "RingMeets$Walks" "ways" "[I", Cond.fieldLink RX6 22 "RingMeets$Walks" "newest" "[I", Cond.fieldLink RX6 25 "RingMeets$Walks" "older" "[I"]
def wsX7_walksFromNow_r2 : List Cond := [Cond.fieldLink RX6 28 "RingMeets$Walks" "lastStepTo" "[I", Cond.fieldLink RX6 31 "RingMeets$Walks" "earlierStep" "[I", Cond.fieldLink RX6 34 "RingMeets$Walks" "stepFrom" "[I", Cond.fieldLink RX6 37 "RingMeets$Walks" "stepsLeft" "[I", Cond.fieldLink RX6 40 "RingMeets$Walks" "soon" "[I", Cond.fieldLink RX6 43 "RingMeets$Walks" "late" "[I", Cond.fieldLink RX6 46 "RingMeets$Walks" "line" "[I", Cond.fieldLink RX6 49 "RingMeets$Walks" "rules" "LRingMeets$Rules;", Cond.instanceMethod yX2_init, Cond.code yX2_init cX2_init 1 none, Cond.methodLink RX2 3 objectInit, Cond.classLink RX2 9 RX1, Cond.instantiable RX1 5, Cond.initialized RX1, Cond.fieldLink RX2 12 "RingMeets$Moves" "look" "LRingMeets$Look;", Cond.instanceMethod yX1_init, Cond.code yX1_init cX1_init 1 none, Cond.methodLink RX1 3 objectInit, Cond.methodLink RX7 209 yX6_begin, Cond.instanceMethod yX6_begin, Cond.selects RX6 yX6_begin yX6_begin, Cond.code yX6_begin cX6_begin 5 none, Cond.fieldLink RX6 53 "RingMeets$Walks" "cells" "I", Cond.fieldLink RX6 57 "RingMeets$Walks" "schedule" "I"]
def wsX7_walksFromNow_r3 : List Cond := [Cond.fieldLink RX6 60 "RingMeets$Walks" "blindly" "Z", Cond.fieldLink RX6 64 "RingMeets$Walks" "size" "I", Cond.fieldLink RX6 67 "RingMeets$Walks" "steps" "I", Cond.fieldLink RX6 70 "RingMeets$Walks" "stuck" "I", Cond.fieldLink RX6 73 "RingMeets$Walks" "rulesUsed" "I", Cond.methodLink RX7 57 yX4_stands, Cond.instanceMethod yX4_stands, Cond.selects RX4 yX4_stands yX4_stands, Cond.initialized RX4, Cond.code yX4_stands cX4_stands 1 (some .int), Cond.methodLink RX4 34 yX4_cellsWithAtLeast, Cond.instanceMethod yX4_cellsWithAtLeast, Cond.selects RX4 yX4_cellsWithAtLeast yX4_cellsWithAtLeast, Cond.code yX4_cellsWithAtLeast cX4_cellsWithAtLeast 4 (some .int), Cond.fieldLink RX4 22 "RingMeets$Scene" "cells" "I", Cond.methodLink RX4 30 yX4_walkersOn, Cond.instanceMethod yX4_walkersOn, Cond.selects RX4 yX4_walkersOn yX4_walkersOn, Cond.code yX4_walkersOn cX4_walkersOn 2 (some .int), Cond.fieldLink RX4 9 "RingMeets$Scene" "walkers" "[I", Cond.methodLink RX4 26 yX4_hasCell, Cond.instanceMethod yX4_hasCell, Cond.selects RX4 yX4_hasCell yX4_hasCell, Cond.code yX4_hasCell cX4_hasCell 2 (some .boolean)]
def wsX7_walksFromNow_r4 : List Cond := [Cond.methodLink RX7 125 yX4_towers, Cond.instanceMethod yX4_towers, Cond.selects RX4 yX4_towers yX4_towers, Cond.code yX4_towers cX4_towers 1 (some .int), Cond.methodLink RX7 185 yX5_way, Cond.static yX5_way, Cond.initialized RX5, Cond.code yX5_way cX5_way 2 (some .int), Cond.methodLink RX7 188 yX6_add, Cond.instanceMethod yX6_add, Cond.selects RX6 yX6_add yX6_add, Cond.code yX6_add cX6_add 5 (some .int), Cond.methodLink RX6 76 yX6_find, Cond.instanceMethod yX6_find, Cond.selects RX6 yX6_find yX6_find, Cond.code yX6_find cX6_find 4 (some .int), Cond.methodLink RX6 80 yX5_standsOf, Cond.static yX5_standsOf, Cond.code yX5_standsOf cX5_standsOf 1 (some .int), Cond.methodLink RX6 85 yX6_isWay, Cond.instanceMethod yX6_isWay, Cond.selects RX6 yX6_isWay yX6_isWay, Cond.code yX6_isWay cX6_isWay 2 (some .boolean)]
def wsX7_walksFromNow : List Cond := .code yX7_walksFromNow cX7_walksFromNow 4 (some (.object "RingMeets$Walks")) :: ((wsX7_walksFromNow_r1 ++ (wsX7_walksFromNow_r2 ++ (wsX7_walksFromNow_r3 ++ wsX7_walksFromNow_r4))) ++ wsX70 ++ wsX60 ++ wsX40 ++ wsX20 ++ wsX10)
def wsX7_meets_r1 : List Cond := [Cond.methodLink RX7 148 yX7_refusalFromNow, Cond.instanceMethod yX7_refusalFromNow, Cond.selects RX7 yX7_refusalFromNow yX7_refusalFromNow, Cond.initialized RX7, Cond.code yX7_refusalFromNow cX7_refusalFromNow 2 (some .int), Cond.fieldLink RX7 10 "RingMeets" "now" "LRingMeets$Scene;", Cond.methodLink RX7 179 yX7_isSchedule, Cond.static yX7_isSchedule, Cond.code yX7_isSchedule cX7_isSchedule 1 (some .boolean), Cond.methodLink RX7 57 yX4_stands, Cond.instanceMethod yX4_stands, Cond.selects RX4 yX4_stands yX4_stands, Cond.initialized RX4, Cond.code yX4_stands cX4_stands 1 (some .int), Cond.methodLink RX4 34 yX4_cellsWithAtLeast, Cond.instanceMethod yX4_cellsWithAtLeast, Cond.selects RX4 yX4_cellsWithAtLeast yX4_cellsWithAtLeast, Cond.code yX4_cellsWithAtLeast cX4_cellsWithAtLeast 4 (some .int), Cond.fieldLink RX4 22 "RingMeets$Scene" "cells" "I", Cond.methodLink RX4 30 yX4_walkersOn, Cond.instanceMethod yX4_walkersOn, Cond.selects RX4 yX4_walkersOn yX4_walkersOn, Cond.code yX4_walkersOn cX4_walkersOn 2 (some .int), Cond.fieldLink RX4 9 "RingMeets$Scene" "walkers" "[I"]
def wsX7_meets_r2 : List Cond := [Cond.methodLink RX4 26 yX4_hasCell, Cond.instanceMethod yX4_hasCell, Cond.selects RX4 yX4_hasCell yX4_hasCell, Cond.code yX4_hasCell cX4_hasCell 2 (some .boolean), Cond.methodLink RX7 151 yX7_walksFromNow, Cond.instanceMethod yX7_walksFromNow, Cond.selects RX7 yX7_walksFromNow yX7_walksFromNow, Cond.code yX7_walksFromNow cX7_walksFromNow 4 (some (.object "RingMeets$Walks")), Cond.methodLink RX7 182 yX7_newWalks, Cond.instanceMethod yX7_newWalks, Cond.selects RX7 yX7_newWalks yX7_newWalks, Cond.code yX7_newWalks cX7_newWalks 3 (some (.object "RingMeets$Walks")), Cond.fieldLink RX7 202 "RingMeets" "walks" "LRingMeets$Walks;", Cond.classLink RX7 156 RX6, Cond.instantiable RX6 20, Cond.initialized RX6, Cond.methodLink RX7 206 yX6_init, Cond.instanceMethod yX6_init, Cond.code yX6_init cX6_init 2 none, Cond.methodLink RX6 3 objectInit, Cond.instanceMethod objectInit, Cond.code objectInit ⟨#[0xb1]⟩ 1 none, Cond.classLink RX6 9 RX2, Cond.instantiable RX2 4]
def wsX7_meets_r3 : List Cond := [Cond.initialized RX2, Cond.fieldLink RX6 12 "RingMeets$Walks" "moves" "LRingMeets$Moves;", Cond.arrayClass .int, Cond.fieldLink RX6 18 "RingMeets$Walks" "ways" "[I", Cond.fieldLink RX6 22 "RingMeets$Walks" "newest" "[I", Cond.fieldLink RX6 25 "RingMeets$Walks" "older" "[I", Cond.fieldLink RX6 28 "RingMeets$Walks" "lastStepTo" "[I", Cond.fieldLink RX6 31 "RingMeets$Walks" "earlierStep" "[I", Cond.fieldLink RX6 34 "RingMeets$Walks" "stepFrom" "[I", Cond.fieldLink RX6 37 "RingMeets$Walks" "stepsLeft" "[I", Cond.fieldLink RX6 40 "RingMeets$Walks" "soon" "[I", Cond.fieldLink RX6 43 "RingMeets$Walks" "late" "[I", Cond.fieldLink RX6 46 "RingMeets$Walks" "line" "[I", Cond.fieldLink RX6 49 "RingMeets$Walks" "rules" "LRingMeets$Rules;", Cond.instanceMethod yX2_init, Cond.code yX2_init cX2_init 1 none, Cond.methodLink RX2 3 objectInit, Cond.classLink RX2 9 RX1, Cond.instantiable RX1 5, Cond.initialized RX1, Cond.fieldLink RX2 12 "RingMeets$Moves" "look" "LRingMeets$Look;", Cond.instanceMethod yX1_init, Cond.code yX1_init cX1_init 1 none, Cond.methodLink RX1 3 objectInit]
def wsX7_meets_r4 : List Cond := [Cond.methodLink RX7 209 yX6_begin, Cond.instanceMethod yX6_begin, Cond.selects RX6 yX6_begin yX6_begin, Cond.code yX6_begin cX6_begin 5 none, Cond.fieldLink RX6 53 "RingMeets$Walks" "cells" "I", Cond.fieldLink RX6 57 "RingMeets$Walks" "schedule" "I", Cond.fieldLink RX6 60 "RingMeets$Walks" "blindly" "Z", Cond.fieldLink RX6 64 "RingMeets$Walks" "size" "I", Cond.fieldLink RX6 67 "RingMeets$Walks" "steps" "I", Cond.fieldLink RX6 70 "RingMeets$Walks" "stuck" "I", Cond.fieldLink RX6 73 "RingMeets$Walks" "rulesUsed" "I", Cond.methodLink RX7 125 yX4_towers, Cond.instanceMethod yX4_towers, Cond.selects RX4 yX4_towers yX4_towers, Cond.code yX4_towers cX4_towers 1 (some .int), Cond.methodLink RX7 185 yX5_way, Cond.static yX5_way, Cond.initialized RX5, Cond.code yX5_way cX5_way 2 (some .int), Cond.methodLink RX7 188 yX6_add, Cond.instanceMethod yX6_add, Cond.selects RX6 yX6_add yX6_add, Cond.code yX6_add cX6_add 5 (some .int), Cond.methodLink RX6 76 yX6_find]
def wsX7_meets_r5 : List Cond := [Cond.instanceMethod yX6_find, Cond.selects RX6 yX6_find yX6_find, Cond.code yX6_find cX6_find 4 (some .int), Cond.methodLink RX6 80 yX5_standsOf, Cond.static yX5_standsOf, Cond.code yX5_standsOf cX5_standsOf 1 (some .int), Cond.methodLink RX6 85 yX6_isWay, Cond.instanceMethod yX6_isWay, Cond.selects RX6 yX6_isWay yX6_isWay, Cond.code yX6_isWay cX6_isWay 2 (some .boolean), Cond.methodLink RX7 155 yX6_walk, Cond.instanceMethod yX6_walk, Cond.selects RX6 yX6_walk yX6_walk, Cond.code yX6_walk cX6_walk 2 none, Cond.methodLink RX6 94 yX6_hasMet, Cond.instanceMethod yX6_hasMet, Cond.selects RX6 yX6_hasMet yX6_hasMet, Cond.code yX6_hasMet cX6_hasMet 2 (some .boolean), Cond.methodLink RX6 89 yJ6_bitCount_0f7a4, Cond.static yJ6_bitCount_0f7a4, Cond.initialized RJ6, Cond.code yJ6_bitCount_0f7a4 cJ6_bitCount_0f7a4 1 (some .int), Cond.constant RJ6 265 (1431655765), Cond.constant RJ6 266 (858993459)]
def wsX7_meets_r6 : List Cond := [Cond.constant RJ6 267 (252645135), Cond.methodLink RX6 97 yX6_towersSeen, Cond.instanceMethod yX6_towersSeen, Cond.selects RX6 yX6_towersSeen yX6_towersSeen, Cond.code yX6_towersSeen cX6_towersSeen 2 (some .int), Cond.methodLink RX6 112 yX5_towersOf, Cond.static yX5_towersOf, Cond.code yX5_towersOf cX5_towersOf 1 (some .int), Cond.methodLink RX6 100 yX2_from, Cond.instanceMethod yX2_from, Cond.selects RX2 yX2_from yX2_from, Cond.code yX2_from cX2_from 6 none, Cond.fieldLink RX2 18 "RingMeets$Moves" "ups" "I", Cond.fieldLink RX2 22 "RingMeets$Moves" "downs" "I", Cond.fieldLink RX2 25 "RingMeets$Moves" "rulesUsed" "I", Cond.methodLink RX2 28 yX5_has, Cond.static yX5_has, Cond.code yX5_has cX5_has 2 (some .boolean), Cond.methodLink RX2 34 yX1_from, Cond.instanceMethod yX1_from, Cond.selects RX1 yX1_from yX1_from, Cond.code yX1_from cX1_from 9 none, Cond.fieldLink RX1 15 "RingMeets$Look" "even" "Z", Cond.fieldLink RX1 21 "RingMeets$Look" "side" "I"]
def wsX7_meets_r7 : List Cond := [Cond.methodLink RX1 37 Lib.Math.min.name, Cond.static Lib.Math.min.name, Cond.initialized "java/lang/Math", Cond.code Lib.Math.min.name Lib.Math.min.code 2 (some .int), Cond.fieldLink RX1 49 "RingMeets$Look" "rule" "I", Cond.fieldLink RX1 58 "RingMeets$Look" "done" "I", Cond.fieldLink RX1 64 "RingMeets$Look" "goal" "I", Cond.methodLink RX1 9 yX0_row, Cond.static yX0_row, Cond.initialized RX0, Cond.code yX0_row cX0_row 8 (some .int), Cond.methodLink RX0 9 yX5_cellNextTo, Cond.static yX5_cellNextTo, Cond.code yX5_cellNextTo cX5_cellNextTo 3 (some .int), Cond.methodLink RX0 15 yX5_has, Cond.methodLink RX1 25 yX5_has, Cond.methodLink RX1 31 yJ6_bitCount_0f7a4, Cond.methodLink RX1 43 yX3_firstThatFits, Cond.instanceMethod yX3_firstThatFits, Cond.selects RX3 yX3_firstThatFits yX3_firstThatFits, Cond.initialized RX3, Cond.code yX3_firstThatFits cX3_firstThatFits 5 (some .int), Cond.fieldLink RX3 15 "RingMeets$Rules" "size" "I", Cond.methodLink RX3 27 yX3_fits]
def wsX7_meets_r8 : List Cond := [Cond.instanceMethod yX3_fits, Cond.selects RX3 yX3_fits yX3_fits, Cond.code yX3_fits cX3_fits 8 (some .boolean), Cond.fieldLink RX3 9 "RingMeets$Rules" "told" "[I", Cond.methodLink RX3 31 yX0_at, Cond.static yX0_at, Cond.code yX0_at cX0_at 3 (some .int), Cond.methodLink RX3 37 yX3_isSo, Cond.static yX3_isSo, Cond.code yX3_isSo cX3_isSo 3 (some .boolean), Cond.methodLink RX1 52 yX3_has, Cond.instanceMethod yX3_has, Cond.selects RX3 yX3_has yX3_has, Cond.code yX3_has cX3_has 2 (some .boolean), Cond.methodLink RX1 55 yX3_part, Cond.instanceMethod yX3_part, Cond.selects RX3 yX3_part yX3_part, Cond.code yX3_part cX3_part 3 (some .int), Cond.methodLink RX3 19 yX3_has, Cond.methodLink RX1 61 yX1_goalFrom, Cond.instanceMethod yX1_goalFrom, Cond.selects RX1 yX1_goalFrom yX1_goalFrom, Cond.code yX1_goalFrom cX1_goalFrom 3 (some .int), Cond.methodLink RX1 67 yX1_sideOfMove]
def wsX7_meets_r9 : List Cond := [Cond.instanceMethod yX1_sideOfMove, Cond.selects RX1 yX1_sideOfMove yX1_sideOfMove, Cond.code yX1_sideOfMove cX1_sideOfMove 1 (some .int), Cond.methodLink RX1 71 yX5_cellNextTo, Cond.methodLink RX2 38 yX2_enter, Cond.instanceMethod yX2_enter, Cond.selects RX2 yX2_enter yX2_enter, Cond.code yX2_enter cX2_enter 2 none, Cond.methodLink RX2 48 yX1_sideOfMove, Cond.methodLink RX6 104 yX6_addStepsFrom, Cond.instanceMethod yX6_addStepsFrom, Cond.selects RX6 yX6_addStepsFrom yX6_addStepsFrom, Cond.code yX6_addStepsFrom cX6_addStepsFrom 4 none, Cond.methodLink RX6 116 yX2_movers, Cond.instanceMethod yX2_movers, Cond.selects RX2 yX2_movers yX2_movers, Cond.code yX2_movers cX2_movers 1 (some .int), Cond.methodLink RX6 120 yX6_setAfter, Cond.instanceMethod yX6_setAfter, Cond.selects RX6 yX6_setAfter yX6_setAfter, Cond.code yX6_setAfter cX6_setAfter 3 (some .int), Cond.methodLink RX6 134 yJ6_lowestOneBit_0f7a4, Cond.static yJ6_lowestOneBit_0f7a4, Cond.code yJ6_lowestOneBit_0f7a4 cJ6_lowestOneBit_0f7a4 1 (some .int)]
def wsX7_meets_r10 : List Cond := [Cond.methodLink RX6 123 yX2_wayBehind, Cond.instanceMethod yX2_wayBehind, Cond.selects RX2 yX2_wayBehind yX2_wayBehind, Cond.code yX2_wayBehind cX2_wayBehind 10 (some .int), Cond.methodLink RX2 52 yX5_standsOf, Cond.methodLink RX2 56 yX5_towersOf, Cond.methodLink RX2 59 yX2_movers, Cond.methodLink RX2 62 yX5_turnedUp, Cond.static yX5_turnedUp, Cond.code yX5_turnedUp cX5_turnedUp 2 (some .int), Cond.methodLink RX2 66 yX5_turnedDown, Cond.static yX5_turnedDown, Cond.code yX5_turnedDown cX5_turnedDown 2 (some .int), Cond.methodLink RX2 69 yX5_way, Cond.methodLink RX6 127 yX6_add, Cond.methodLink RX6 130 yX6_addStep, Cond.instanceMethod yX6_addStep, Cond.selects RX6 yX6_addStep yX6_addStep, Cond.code yX6_addStep cX6_addStep 3 none, Cond.methodLink RX6 108 yX6_tellBackwards, Cond.instanceMethod yX6_tellBackwards, Cond.selects RX6 yX6_tellBackwards yX6_tellBackwards, Cond.code yX6_tellBackwards cX6_tellBackwards 8 none, Cond.fieldLink RX6 141 "RingMeets$Walks" "lineSize" "I"]
def wsX7_meets_r11 : List Cond := [Cond.methodLink RX6 137 yX6_lineUpWhatHasMet, Cond.instanceMethod yX6_lineUpWhatHasMet, Cond.selects RX6 yX6_lineUpWhatHasMet yX6_lineUpWhatHasMet, Cond.code yX6_lineUpWhatHasMet cX6_lineUpWhatHasMet 3 none, Cond.methodLink RX6 150 yX6_lineUp, Cond.instanceMethod yX6_lineUp, Cond.selects RX6 yX6_lineUp yX6_lineUp, Cond.code yX6_lineUp cX6_lineUp 4 none, Cond.methodLink RX6 144 yX6_isStep, Cond.instanceMethod yX6_isStep, Cond.selects RX6 yX6_isStep yX6_isStep, Cond.code yX6_isStep cX6_isStep 2 (some .boolean), Cond.methodLink RX6 147 yX6_isLastStepOf, Cond.instanceMethod yX6_isLastStepOf, Cond.selects RX6 yX6_isLastStepOf yX6_isLastStepOf, Cond.code yX6_isLastStepOf cX6_isLastStepOf 2 (some .boolean), Cond.methodLink RX7 160 yX6_soonOf, Cond.instanceMethod yX6_soonOf, Cond.selects RX6 yX6_soonOf yX6_soonOf, Cond.code yX6_soonOf cX6_soonOf 2 (some .int), Cond.methodLink RX7 163 yX6_lateOf, Cond.instanceMethod yX6_lateOf, Cond.selects RX6 yX6_lateOf yX6_lateOf, Cond.code yX6_lateOf cX6_lateOf 2 (some .int)]
def wsX7_meets_r12 : List Cond := [Cond.methodLink RX7 166 yX6_kindOf, Cond.instanceMethod yX6_kindOf, Cond.selects RX6 yX6_kindOf yX6_kindOf, Cond.code yX6_kindOf cX6_kindOf 2 (some .int), Cond.methodLink RX6 154 yX6_lateOf, Cond.methodLink RX6 157 yX6_soonOf]
def wsX7_meets : List Cond := .code yX7_meets cX7_meets 5 (some .int) :: ((wsX7_meets_r1 ++ (wsX7_meets_r2 ++ (wsX7_meets_r3 ++ (wsX7_meets_r4 ++ (wsX7_meets_r5 ++ (wsX7_meets_r6 ++ (wsX7_meets_r7 ++ (wsX7_meets_r8 ++ (wsX7_meets_r9 ++ (wsX7_meets_r10 ++ (wsX7_meets_r11 ++ wsX7_meets_r12))))))))))) ++ wsX60 ++ wsX70 ++ wsX40 ++ wsX20 ++ wsX10 ++ wsX30)
def wsX7_first_r1 : List Cond := [Cond.methodLink RX7 148 yX7_refusalFromNow, Cond.instanceMethod yX7_refusalFromNow, Cond.selects RX7 yX7_refusalFromNow yX7_refusalFromNow, Cond.initialized RX7, Cond.code yX7_refusalFromNow cX7_refusalFromNow 2 (some .int), Cond.fieldLink RX7 10 "RingMeets" "now" "LRingMeets$Scene;", Cond.methodLink RX7 179 yX7_isSchedule, Cond.static yX7_isSchedule, Cond.code yX7_isSchedule cX7_isSchedule 1 (some .boolean), Cond.methodLink RX7 57 yX4_stands, Cond.instanceMethod yX4_stands, Cond.selects RX4 yX4_stands yX4_stands, Cond.initialized RX4, Cond.code yX4_stands cX4_stands 1 (some .int), Cond.methodLink RX4 34 yX4_cellsWithAtLeast, Cond.instanceMethod yX4_cellsWithAtLeast, Cond.selects RX4 yX4_cellsWithAtLeast yX4_cellsWithAtLeast, Cond.code yX4_cellsWithAtLeast cX4_cellsWithAtLeast 4 (some .int), Cond.fieldLink RX4 22 "RingMeets$Scene" "cells" "I", Cond.methodLink RX4 30 yX4_walkersOn, Cond.instanceMethod yX4_walkersOn, Cond.selects RX4 yX4_walkersOn yX4_walkersOn, Cond.code yX4_walkersOn cX4_walkersOn 2 (some .int), Cond.fieldLink RX4 9 "RingMeets$Scene" "walkers" "[I"]
def wsX7_first_r2 : List Cond := [Cond.methodLink RX4 26 yX4_hasCell, Cond.instanceMethod yX4_hasCell, Cond.selects RX4 yX4_hasCell yX4_hasCell, Cond.code yX4_hasCell cX4_hasCell 2 (some .boolean), Cond.methodLink RX7 151 yX7_walksFromNow, Cond.instanceMethod yX7_walksFromNow, Cond.selects RX7 yX7_walksFromNow yX7_walksFromNow, Cond.code yX7_walksFromNow cX7_walksFromNow 4 (some (.object "RingMeets$Walks")), Cond.methodLink RX7 182 yX7_newWalks, Cond.instanceMethod yX7_newWalks, Cond.selects RX7 yX7_newWalks yX7_newWalks, Cond.code yX7_newWalks cX7_newWalks 3 (some (.object "RingMeets$Walks")), Cond.fieldLink RX7 202 "RingMeets" "walks" "LRingMeets$Walks;", Cond.classLink RX7 156 RX6, Cond.instantiable RX6 20, Cond.initialized RX6, Cond.methodLink RX7 206 yX6_init, Cond.instanceMethod yX6_init, Cond.code yX6_init cX6_init 2 none, Cond.methodLink RX6 3 objectInit, Cond.instanceMethod objectInit, Cond.code objectInit ⟨#[0xb1]⟩ 1 none, Cond.classLink RX6 9 RX2, Cond.instantiable RX2 4]
def wsX7_first_r3 : List Cond := [Cond.initialized RX2, Cond.fieldLink RX6 12 "RingMeets$Walks" "moves" "LRingMeets$Moves;", Cond.arrayClass .int, Cond.fieldLink RX6 18 "RingMeets$Walks" "ways" "[I", Cond.fieldLink RX6 22 "RingMeets$Walks" "newest" "[I", Cond.fieldLink RX6 25 "RingMeets$Walks" "older" "[I", Cond.fieldLink RX6 28 "RingMeets$Walks" "lastStepTo" "[I", Cond.fieldLink RX6 31 "RingMeets$Walks" "earlierStep" "[I", Cond.fieldLink RX6 34 "RingMeets$Walks" "stepFrom" "[I", Cond.fieldLink RX6 37 "RingMeets$Walks" "stepsLeft" "[I", Cond.fieldLink RX6 40 "RingMeets$Walks" "soon" "[I", Cond.fieldLink RX6 43 "RingMeets$Walks" "late" "[I", Cond.fieldLink RX6 46 "RingMeets$Walks" "line" "[I", Cond.fieldLink RX6 49 "RingMeets$Walks" "rules" "LRingMeets$Rules;", Cond.instanceMethod yX2_init, Cond.code yX2_init cX2_init 1 none, Cond.methodLink RX2 3 objectInit, Cond.classLink RX2 9 RX1, Cond.instantiable RX1 5, Cond.initialized RX1, Cond.fieldLink RX2 12 "RingMeets$Moves" "look" "LRingMeets$Look;", Cond.instanceMethod yX1_init, Cond.code yX1_init cX1_init 1 none, Cond.methodLink RX1 3 objectInit]
def wsX7_first_r4 : List Cond := [Cond.methodLink RX7 209 yX6_begin, Cond.instanceMethod yX6_begin, Cond.selects RX6 yX6_begin yX6_begin, Cond.code yX6_begin cX6_begin 5 none, Cond.fieldLink RX6 53 "RingMeets$Walks" "cells" "I", Cond.fieldLink RX6 57 "RingMeets$Walks" "schedule" "I", Cond.fieldLink RX6 60 "RingMeets$Walks" "blindly" "Z", Cond.fieldLink RX6 64 "RingMeets$Walks" "size" "I", Cond.fieldLink RX6 67 "RingMeets$Walks" "steps" "I", Cond.fieldLink RX6 70 "RingMeets$Walks" "stuck" "I", Cond.fieldLink RX6 73 "RingMeets$Walks" "rulesUsed" "I", Cond.methodLink RX7 125 yX4_towers, Cond.instanceMethod yX4_towers, Cond.selects RX4 yX4_towers yX4_towers, Cond.code yX4_towers cX4_towers 1 (some .int), Cond.methodLink RX7 185 yX5_way, Cond.static yX5_way, Cond.initialized RX5, Cond.code yX5_way cX5_way 2 (some .int), Cond.methodLink RX7 188 yX6_add, Cond.instanceMethod yX6_add, Cond.selects RX6 yX6_add yX6_add, Cond.code yX6_add cX6_add 5 (some .int), Cond.methodLink RX6 76 yX6_find]
def wsX7_first_r5 : List Cond := [Cond.instanceMethod yX6_find, Cond.selects RX6 yX6_find yX6_find, Cond.code yX6_find cX6_find 4 (some .int), Cond.methodLink RX6 80 yX5_standsOf, Cond.static yX5_standsOf, Cond.code yX5_standsOf cX5_standsOf 1 (some .int), Cond.methodLink RX6 85 yX6_isWay, Cond.instanceMethod yX6_isWay, Cond.selects RX6 yX6_isWay yX6_isWay, Cond.code yX6_isWay cX6_isWay 2 (some .boolean), Cond.methodLink RX7 155 yX6_walk, Cond.instanceMethod yX6_walk, Cond.selects RX6 yX6_walk yX6_walk, Cond.code yX6_walk cX6_walk 2 none, Cond.methodLink RX6 94 yX6_hasMet, Cond.instanceMethod yX6_hasMet, Cond.selects RX6 yX6_hasMet yX6_hasMet, Cond.code yX6_hasMet cX6_hasMet 2 (some .boolean), Cond.methodLink RX6 89 yJ6_bitCount_0f7a4, Cond.static yJ6_bitCount_0f7a4, Cond.initialized RJ6, Cond.code yJ6_bitCount_0f7a4 cJ6_bitCount_0f7a4 1 (some .int), Cond.constant RJ6 265 (1431655765), Cond.constant RJ6 266 (858993459)]
def wsX7_first_r6 : List Cond := [Cond.constant RJ6 267 (252645135), Cond.methodLink RX6 97 yX6_towersSeen, Cond.instanceMethod yX6_towersSeen, Cond.selects RX6 yX6_towersSeen yX6_towersSeen, Cond.code yX6_towersSeen cX6_towersSeen 2 (some .int), Cond.methodLink RX6 112 yX5_towersOf, Cond.static yX5_towersOf, Cond.code yX5_towersOf cX5_towersOf 1 (some .int), Cond.methodLink RX6 100 yX2_from, Cond.instanceMethod yX2_from, Cond.selects RX2 yX2_from yX2_from, Cond.code yX2_from cX2_from 6 none, Cond.fieldLink RX2 18 "RingMeets$Moves" "ups" "I", Cond.fieldLink RX2 22 "RingMeets$Moves" "downs" "I", Cond.fieldLink RX2 25 "RingMeets$Moves" "rulesUsed" "I", Cond.methodLink RX2 28 yX5_has, Cond.static yX5_has, Cond.code yX5_has cX5_has 2 (some .boolean), Cond.methodLink RX2 34 yX1_from, Cond.instanceMethod yX1_from, Cond.selects RX1 yX1_from yX1_from, Cond.code yX1_from cX1_from 9 none, Cond.fieldLink RX1 15 "RingMeets$Look" "even" "Z", Cond.fieldLink RX1 21 "RingMeets$Look" "side" "I"]
def wsX7_first_r7 : List Cond := [Cond.methodLink RX1 37 Lib.Math.min.name, Cond.static Lib.Math.min.name, Cond.initialized "java/lang/Math", Cond.code Lib.Math.min.name Lib.Math.min.code 2 (some .int), Cond.fieldLink RX1 49 "RingMeets$Look" "rule" "I", Cond.fieldLink RX1 58 "RingMeets$Look" "done" "I", Cond.fieldLink RX1 64 "RingMeets$Look" "goal" "I", Cond.methodLink RX1 9 yX0_row, Cond.static yX0_row, Cond.initialized RX0, Cond.code yX0_row cX0_row 8 (some .int), Cond.methodLink RX0 9 yX5_cellNextTo, Cond.static yX5_cellNextTo, Cond.code yX5_cellNextTo cX5_cellNextTo 3 (some .int), Cond.methodLink RX0 15 yX5_has, Cond.methodLink RX1 25 yX5_has, Cond.methodLink RX1 31 yJ6_bitCount_0f7a4, Cond.methodLink RX1 43 yX3_firstThatFits, Cond.instanceMethod yX3_firstThatFits, Cond.selects RX3 yX3_firstThatFits yX3_firstThatFits, Cond.initialized RX3, Cond.code yX3_firstThatFits cX3_firstThatFits 5 (some .int), Cond.fieldLink RX3 15 "RingMeets$Rules" "size" "I", Cond.methodLink RX3 27 yX3_fits]
def wsX7_first_r8 : List Cond := [Cond.instanceMethod yX3_fits, Cond.selects RX3 yX3_fits yX3_fits, Cond.code yX3_fits cX3_fits 8 (some .boolean), Cond.fieldLink RX3 9 "RingMeets$Rules" "told" "[I", Cond.methodLink RX3 31 yX0_at, Cond.static yX0_at, Cond.code yX0_at cX0_at 3 (some .int), Cond.methodLink RX3 37 yX3_isSo, Cond.static yX3_isSo, Cond.code yX3_isSo cX3_isSo 3 (some .boolean), Cond.methodLink RX1 52 yX3_has, Cond.instanceMethod yX3_has, Cond.selects RX3 yX3_has yX3_has, Cond.code yX3_has cX3_has 2 (some .boolean), Cond.methodLink RX1 55 yX3_part, Cond.instanceMethod yX3_part, Cond.selects RX3 yX3_part yX3_part, Cond.code yX3_part cX3_part 3 (some .int), Cond.methodLink RX3 19 yX3_has, Cond.methodLink RX1 61 yX1_goalFrom, Cond.instanceMethod yX1_goalFrom, Cond.selects RX1 yX1_goalFrom yX1_goalFrom, Cond.code yX1_goalFrom cX1_goalFrom 3 (some .int), Cond.methodLink RX1 67 yX1_sideOfMove]
def wsX7_first_r9 : List Cond := [Cond.instanceMethod yX1_sideOfMove, Cond.selects RX1 yX1_sideOfMove yX1_sideOfMove, Cond.code yX1_sideOfMove cX1_sideOfMove 1 (some .int), Cond.methodLink RX1 71 yX5_cellNextTo, Cond.methodLink RX2 38 yX2_enter, Cond.instanceMethod yX2_enter, Cond.selects RX2 yX2_enter yX2_enter, Cond.code yX2_enter cX2_enter 2 none, Cond.methodLink RX2 48 yX1_sideOfMove, Cond.methodLink RX6 104 yX6_addStepsFrom, Cond.instanceMethod yX6_addStepsFrom, Cond.selects RX6 yX6_addStepsFrom yX6_addStepsFrom, Cond.code yX6_addStepsFrom cX6_addStepsFrom 4 none, Cond.methodLink RX6 116 yX2_movers, Cond.instanceMethod yX2_movers, Cond.selects RX2 yX2_movers yX2_movers, Cond.code yX2_movers cX2_movers 1 (some .int), Cond.methodLink RX6 120 yX6_setAfter, Cond.instanceMethod yX6_setAfter, Cond.selects RX6 yX6_setAfter yX6_setAfter, Cond.code yX6_setAfter cX6_setAfter 3 (some .int), Cond.methodLink RX6 134 yJ6_lowestOneBit_0f7a4, Cond.static yJ6_lowestOneBit_0f7a4, Cond.code yJ6_lowestOneBit_0f7a4 cJ6_lowestOneBit_0f7a4 1 (some .int)]
def wsX7_first_r10 : List Cond := [Cond.methodLink RX6 123 yX2_wayBehind, Cond.instanceMethod yX2_wayBehind, Cond.selects RX2 yX2_wayBehind yX2_wayBehind, Cond.code yX2_wayBehind cX2_wayBehind 10 (some .int), Cond.methodLink RX2 52 yX5_standsOf, Cond.methodLink RX2 56 yX5_towersOf, Cond.methodLink RX2 59 yX2_movers, Cond.methodLink RX2 62 yX5_turnedUp, Cond.static yX5_turnedUp, Cond.code yX5_turnedUp cX5_turnedUp 2 (some .int), Cond.methodLink RX2 66 yX5_turnedDown, Cond.static yX5_turnedDown, Cond.code yX5_turnedDown cX5_turnedDown 2 (some .int), Cond.methodLink RX2 69 yX5_way, Cond.methodLink RX6 127 yX6_add, Cond.methodLink RX6 130 yX6_addStep, Cond.instanceMethod yX6_addStep, Cond.selects RX6 yX6_addStep yX6_addStep, Cond.code yX6_addStep cX6_addStep 3 none, Cond.methodLink RX6 108 yX6_tellBackwards, Cond.instanceMethod yX6_tellBackwards, Cond.selects RX6 yX6_tellBackwards yX6_tellBackwards, Cond.code yX6_tellBackwards cX6_tellBackwards 8 none, Cond.fieldLink RX6 141 "RingMeets$Walks" "lineSize" "I"]
def wsX7_first_r11 : List Cond := [Cond.methodLink RX6 137 yX6_lineUpWhatHasMet, Cond.instanceMethod yX6_lineUpWhatHasMet, Cond.selects RX6 yX6_lineUpWhatHasMet yX6_lineUpWhatHasMet, Cond.code yX6_lineUpWhatHasMet cX6_lineUpWhatHasMet 3 none, Cond.methodLink RX6 150 yX6_lineUp, Cond.instanceMethod yX6_lineUp, Cond.selects RX6 yX6_lineUp yX6_lineUp, Cond.code yX6_lineUp cX6_lineUp 4 none, Cond.methodLink RX6 144 yX6_isStep, Cond.instanceMethod yX6_isStep, Cond.selects RX6 yX6_isStep yX6_isStep, Cond.code yX6_isStep cX6_isStep 2 (some .boolean), Cond.methodLink RX6 147 yX6_isLastStepOf, Cond.instanceMethod yX6_isLastStepOf, Cond.selects RX6 yX6_isLastStepOf yX6_isLastStepOf, Cond.code yX6_isLastStepOf cX6_isLastStepOf 2 (some .boolean), Cond.methodLink RX7 173 yX6_leastSetTowardsMeeting, Cond.instanceMethod yX6_leastSetTowardsMeeting, Cond.selects RX6 yX6_leastSetTowardsMeeting yX6_leastSetTowardsMeeting, Cond.code yX6_leastSetTowardsMeeting cX6_leastSetTowardsMeeting 5 (some .int), Cond.methodLink RX6 157 yX6_soonOf, Cond.instanceMethod yX6_soonOf, Cond.selects RX6 yX6_soonOf yX6_soonOf, Cond.code yX6_soonOf cX6_soonOf 2 (some .int)]
def wsX7_first : List Cond := .code yX7_first cX7_first 4 (some .int) :: ((wsX7_first_r1 ++ (wsX7_first_r2 ++ (wsX7_first_r3 ++ (wsX7_first_r4 ++ (wsX7_first_r5 ++ (wsX7_first_r6 ++ (wsX7_first_r7 ++ (wsX7_first_r8 ++ (wsX7_first_r9 ++ (wsX7_first_r10 ++ wsX7_first_r11)))))))))) ++ wsX70 ++ wsX40 ++ wsX60 ++ wsX20 ++ wsX10 ++ wsX30)
def wsX7_blind_r1 : List Cond := [Cond.methodLink RX7 148 yX7_refusalFromNow, Cond.instanceMethod yX7_refusalFromNow, Cond.selects RX7 yX7_refusalFromNow yX7_refusalFromNow, Cond.initialized RX7, Cond.code yX7_refusalFromNow cX7_refusalFromNow 2 (some .int), Cond.fieldLink RX7 10 "RingMeets" "now" "LRingMeets$Scene;", Cond.methodLink RX7 179 yX7_isSchedule, Cond.static yX7_isSchedule, Cond.code yX7_isSchedule cX7_isSchedule 1 (some .boolean), Cond.methodLink RX7 57 yX4_stands, Cond.instanceMethod yX4_stands, Cond.selects RX4 yX4_stands yX4_stands, Cond.initialized RX4, Cond.code yX4_stands cX4_stands 1 (some .int), Cond.methodLink RX4 34 yX4_cellsWithAtLeast, Cond.instanceMethod yX4_cellsWithAtLeast, Cond.selects RX4 yX4_cellsWithAtLeast yX4_cellsWithAtLeast, Cond.code yX4_cellsWithAtLeast cX4_cellsWithAtLeast 4 (some .int), Cond.fieldLink RX4 22 "RingMeets$Scene" "cells" "I", Cond.methodLink RX4 30 yX4_walkersOn, Cond.instanceMethod yX4_walkersOn, Cond.selects RX4 yX4_walkersOn yX4_walkersOn, Cond.code yX4_walkersOn cX4_walkersOn 2 (some .int), Cond.fieldLink RX4 9 "RingMeets$Scene" "walkers" "[I"]
def wsX7_blind_r2 : List Cond := [Cond.methodLink RX4 26 yX4_hasCell, Cond.instanceMethod yX4_hasCell, Cond.selects RX4 yX4_hasCell yX4_hasCell, Cond.code yX4_hasCell cX4_hasCell 2 (some .boolean), Cond.methodLink RX7 151 yX7_walksFromNow, Cond.instanceMethod yX7_walksFromNow, Cond.selects RX7 yX7_walksFromNow yX7_walksFromNow, Cond.code yX7_walksFromNow cX7_walksFromNow 4 (some (.object "RingMeets$Walks")), Cond.methodLink RX7 182 yX7_newWalks, Cond.instanceMethod yX7_newWalks, Cond.selects RX7 yX7_newWalks yX7_newWalks, Cond.code yX7_newWalks cX7_newWalks 3 (some (.object "RingMeets$Walks")), Cond.fieldLink RX7 202 "RingMeets" "walks" "LRingMeets$Walks;", Cond.classLink RX7 156 RX6, Cond.instantiable RX6 20, Cond.initialized RX6, Cond.methodLink RX7 206 yX6_init, Cond.instanceMethod yX6_init, Cond.code yX6_init cX6_init 2 none, Cond.methodLink RX6 3 objectInit, Cond.instanceMethod objectInit, Cond.code objectInit ⟨#[0xb1]⟩ 1 none, Cond.classLink RX6 9 RX2, Cond.instantiable RX2 4]
def wsX7_blind_r3 : List Cond := [Cond.initialized RX2, Cond.fieldLink RX6 12 "RingMeets$Walks" "moves" "LRingMeets$Moves;", Cond.arrayClass .int, Cond.fieldLink RX6 18 "RingMeets$Walks" "ways" "[I", Cond.fieldLink RX6 22 "RingMeets$Walks" "newest" "[I", Cond.fieldLink RX6 25 "RingMeets$Walks" "older" "[I", Cond.fieldLink RX6 28 "RingMeets$Walks" "lastStepTo" "[I", Cond.fieldLink RX6 31 "RingMeets$Walks" "earlierStep" "[I", Cond.fieldLink RX6 34 "RingMeets$Walks" "stepFrom" "[I", Cond.fieldLink RX6 37 "RingMeets$Walks" "stepsLeft" "[I", Cond.fieldLink RX6 40 "RingMeets$Walks" "soon" "[I", Cond.fieldLink RX6 43 "RingMeets$Walks" "late" "[I", Cond.fieldLink RX6 46 "RingMeets$Walks" "line" "[I", Cond.fieldLink RX6 49 "RingMeets$Walks" "rules" "LRingMeets$Rules;", Cond.instanceMethod yX2_init, Cond.code yX2_init cX2_init 1 none, Cond.methodLink RX2 3 objectInit, Cond.classLink RX2 9 RX1, Cond.instantiable RX1 5, Cond.initialized RX1, Cond.fieldLink RX2 12 "RingMeets$Moves" "look" "LRingMeets$Look;", Cond.instanceMethod yX1_init, Cond.code yX1_init cX1_init 1 none, Cond.methodLink RX1 3 objectInit]
def wsX7_blind_r4 : List Cond := [Cond.methodLink RX7 209 yX6_begin, Cond.instanceMethod yX6_begin, Cond.selects RX6 yX6_begin yX6_begin, Cond.code yX6_begin cX6_begin 5 none, Cond.fieldLink RX6 53 "RingMeets$Walks" "cells" "I", Cond.fieldLink RX6 57 "RingMeets$Walks" "schedule" "I", Cond.fieldLink RX6 60 "RingMeets$Walks" "blindly" "Z", Cond.fieldLink RX6 64 "RingMeets$Walks" "size" "I", Cond.fieldLink RX6 67 "RingMeets$Walks" "steps" "I", Cond.fieldLink RX6 70 "RingMeets$Walks" "stuck" "I", Cond.fieldLink RX6 73 "RingMeets$Walks" "rulesUsed" "I", Cond.methodLink RX7 125 yX4_towers, Cond.instanceMethod yX4_towers, Cond.selects RX4 yX4_towers yX4_towers, Cond.code yX4_towers cX4_towers 1 (some .int), Cond.methodLink RX7 185 yX5_way, Cond.static yX5_way, Cond.initialized RX5, Cond.code yX5_way cX5_way 2 (some .int), Cond.methodLink RX7 188 yX6_add, Cond.instanceMethod yX6_add, Cond.selects RX6 yX6_add yX6_add, Cond.code yX6_add cX6_add 5 (some .int), Cond.methodLink RX6 76 yX6_find]
def wsX7_blind_r5 : List Cond := [Cond.instanceMethod yX6_find, Cond.selects RX6 yX6_find yX6_find, Cond.code yX6_find cX6_find 4 (some .int), Cond.methodLink RX6 80 yX5_standsOf, Cond.static yX5_standsOf, Cond.code yX5_standsOf cX5_standsOf 1 (some .int), Cond.methodLink RX6 85 yX6_isWay, Cond.instanceMethod yX6_isWay, Cond.selects RX6 yX6_isWay yX6_isWay, Cond.code yX6_isWay cX6_isWay 2 (some .boolean), Cond.methodLink RX7 155 yX6_walk, Cond.instanceMethod yX6_walk, Cond.selects RX6 yX6_walk yX6_walk, Cond.code yX6_walk cX6_walk 2 none, Cond.methodLink RX6 94 yX6_hasMet, Cond.instanceMethod yX6_hasMet, Cond.selects RX6 yX6_hasMet yX6_hasMet, Cond.code yX6_hasMet cX6_hasMet 2 (some .boolean), Cond.methodLink RX6 89 yJ6_bitCount_0f7a4, Cond.static yJ6_bitCount_0f7a4, Cond.initialized RJ6, Cond.code yJ6_bitCount_0f7a4 cJ6_bitCount_0f7a4 1 (some .int), Cond.constant RJ6 265 (1431655765), Cond.constant RJ6 266 (858993459)]
def wsX7_blind_r6 : List Cond := [Cond.constant RJ6 267 (252645135), Cond.methodLink RX6 97 yX6_towersSeen, Cond.instanceMethod yX6_towersSeen, Cond.selects RX6 yX6_towersSeen yX6_towersSeen, Cond.code yX6_towersSeen cX6_towersSeen 2 (some .int), Cond.methodLink RX6 112 yX5_towersOf, Cond.static yX5_towersOf, Cond.code yX5_towersOf cX5_towersOf 1 (some .int), Cond.methodLink RX6 100 yX2_from, Cond.instanceMethod yX2_from, Cond.selects RX2 yX2_from yX2_from, Cond.code yX2_from cX2_from 6 none, Cond.fieldLink RX2 18 "RingMeets$Moves" "ups" "I", Cond.fieldLink RX2 22 "RingMeets$Moves" "downs" "I", Cond.fieldLink RX2 25 "RingMeets$Moves" "rulesUsed" "I", Cond.methodLink RX2 28 yX5_has, Cond.static yX5_has, Cond.code yX5_has cX5_has 2 (some .boolean), Cond.methodLink RX2 34 yX1_from, Cond.instanceMethod yX1_from, Cond.selects RX1 yX1_from yX1_from, Cond.code yX1_from cX1_from 9 none, Cond.fieldLink RX1 15 "RingMeets$Look" "even" "Z", Cond.fieldLink RX1 21 "RingMeets$Look" "side" "I"]
def wsX7_blind_r7 : List Cond := [Cond.methodLink RX1 37 Lib.Math.min.name, Cond.static Lib.Math.min.name, Cond.initialized "java/lang/Math", Cond.code Lib.Math.min.name Lib.Math.min.code 2 (some .int), Cond.fieldLink RX1 49 "RingMeets$Look" "rule" "I", Cond.fieldLink RX1 58 "RingMeets$Look" "done" "I", Cond.fieldLink RX1 64 "RingMeets$Look" "goal" "I", Cond.methodLink RX1 9 yX0_row, Cond.static yX0_row, Cond.initialized RX0, Cond.code yX0_row cX0_row 8 (some .int), Cond.methodLink RX0 9 yX5_cellNextTo, Cond.static yX5_cellNextTo, Cond.code yX5_cellNextTo cX5_cellNextTo 3 (some .int), Cond.methodLink RX0 15 yX5_has, Cond.methodLink RX1 25 yX5_has, Cond.methodLink RX1 31 yJ6_bitCount_0f7a4, Cond.methodLink RX1 43 yX3_firstThatFits, Cond.instanceMethod yX3_firstThatFits, Cond.selects RX3 yX3_firstThatFits yX3_firstThatFits, Cond.initialized RX3, Cond.code yX3_firstThatFits cX3_firstThatFits 5 (some .int), Cond.fieldLink RX3 15 "RingMeets$Rules" "size" "I", Cond.methodLink RX3 27 yX3_fits]
def wsX7_blind_r8 : List Cond := [Cond.instanceMethod yX3_fits, Cond.selects RX3 yX3_fits yX3_fits, Cond.code yX3_fits cX3_fits 8 (some .boolean), Cond.fieldLink RX3 9 "RingMeets$Rules" "told" "[I", Cond.methodLink RX3 31 yX0_at, Cond.static yX0_at, Cond.code yX0_at cX0_at 3 (some .int), Cond.methodLink RX3 37 yX3_isSo, Cond.static yX3_isSo, Cond.code yX3_isSo cX3_isSo 3 (some .boolean), Cond.methodLink RX1 52 yX3_has, Cond.instanceMethod yX3_has, Cond.selects RX3 yX3_has yX3_has, Cond.code yX3_has cX3_has 2 (some .boolean), Cond.methodLink RX1 55 yX3_part, Cond.instanceMethod yX3_part, Cond.selects RX3 yX3_part yX3_part, Cond.code yX3_part cX3_part 3 (some .int), Cond.methodLink RX3 19 yX3_has, Cond.methodLink RX1 61 yX1_goalFrom, Cond.instanceMethod yX1_goalFrom, Cond.selects RX1 yX1_goalFrom yX1_goalFrom, Cond.code yX1_goalFrom cX1_goalFrom 3 (some .int), Cond.methodLink RX1 67 yX1_sideOfMove]
def wsX7_blind_r9 : List Cond := [Cond.instanceMethod yX1_sideOfMove, Cond.selects RX1 yX1_sideOfMove yX1_sideOfMove, Cond.code yX1_sideOfMove cX1_sideOfMove 1 (some .int), Cond.methodLink RX1 71 yX5_cellNextTo, Cond.methodLink RX2 38 yX2_enter, Cond.instanceMethod yX2_enter, Cond.selects RX2 yX2_enter yX2_enter, Cond.code yX2_enter cX2_enter 2 none, Cond.methodLink RX2 48 yX1_sideOfMove, Cond.methodLink RX6 104 yX6_addStepsFrom, Cond.instanceMethod yX6_addStepsFrom, Cond.selects RX6 yX6_addStepsFrom yX6_addStepsFrom, Cond.code yX6_addStepsFrom cX6_addStepsFrom 4 none, Cond.methodLink RX6 116 yX2_movers, Cond.instanceMethod yX2_movers, Cond.selects RX2 yX2_movers yX2_movers, Cond.code yX2_movers cX2_movers 1 (some .int), Cond.methodLink RX6 120 yX6_setAfter, Cond.instanceMethod yX6_setAfter, Cond.selects RX6 yX6_setAfter yX6_setAfter, Cond.code yX6_setAfter cX6_setAfter 3 (some .int), Cond.methodLink RX6 134 yJ6_lowestOneBit_0f7a4, Cond.static yJ6_lowestOneBit_0f7a4, Cond.code yJ6_lowestOneBit_0f7a4 cJ6_lowestOneBit_0f7a4 1 (some .int)]
def wsX7_blind_r10 : List Cond := [Cond.methodLink RX6 123 yX2_wayBehind, Cond.instanceMethod yX2_wayBehind, Cond.selects RX2 yX2_wayBehind yX2_wayBehind, Cond.code yX2_wayBehind cX2_wayBehind 10 (some .int), Cond.methodLink RX2 52 yX5_standsOf, Cond.methodLink RX2 56 yX5_towersOf, Cond.methodLink RX2 59 yX2_movers, Cond.methodLink RX2 62 yX5_turnedUp, Cond.static yX5_turnedUp, Cond.code yX5_turnedUp cX5_turnedUp 2 (some .int), Cond.methodLink RX2 66 yX5_turnedDown, Cond.static yX5_turnedDown, Cond.code yX5_turnedDown cX5_turnedDown 2 (some .int), Cond.methodLink RX2 69 yX5_way, Cond.methodLink RX6 127 yX6_add, Cond.methodLink RX6 130 yX6_addStep, Cond.instanceMethod yX6_addStep, Cond.selects RX6 yX6_addStep yX6_addStep, Cond.code yX6_addStep cX6_addStep 3 none, Cond.methodLink RX6 108 yX6_tellBackwards, Cond.instanceMethod yX6_tellBackwards, Cond.selects RX6 yX6_tellBackwards yX6_tellBackwards, Cond.code yX6_tellBackwards cX6_tellBackwards 8 none, Cond.fieldLink RX6 141 "RingMeets$Walks" "lineSize" "I"]
def wsX7_blind_r11 : List Cond := [Cond.methodLink RX6 137 yX6_lineUpWhatHasMet, Cond.instanceMethod yX6_lineUpWhatHasMet, Cond.selects RX6 yX6_lineUpWhatHasMet yX6_lineUpWhatHasMet, Cond.code yX6_lineUpWhatHasMet cX6_lineUpWhatHasMet 3 none, Cond.methodLink RX6 150 yX6_lineUp, Cond.instanceMethod yX6_lineUp, Cond.selects RX6 yX6_lineUp yX6_lineUp, Cond.code yX6_lineUp cX6_lineUp 4 none, Cond.methodLink RX6 144 yX6_isStep, Cond.instanceMethod yX6_isStep, Cond.selects RX6 yX6_isStep yX6_isStep, Cond.code yX6_isStep cX6_isStep 2 (some .boolean), Cond.methodLink RX6 147 yX6_isLastStepOf, Cond.instanceMethod yX6_isLastStepOf, Cond.selects RX6 yX6_isLastStepOf yX6_isLastStepOf, Cond.code yX6_isLastStepOf cX6_isLastStepOf 2 (some .boolean), Cond.methodLink RX7 166 yX6_kindOf, Cond.instanceMethod yX6_kindOf, Cond.selects RX6 yX6_kindOf yX6_kindOf, Cond.code yX6_kindOf cX6_kindOf 2 (some .int), Cond.methodLink RX6 154 yX6_lateOf, Cond.instanceMethod yX6_lateOf, Cond.selects RX6 yX6_lateOf yX6_lateOf, Cond.code yX6_lateOf cX6_lateOf 2 (some .int)]
def wsX7_blind_r12 : List Cond := [Cond.methodLink RX6 157 yX6_soonOf, Cond.instanceMethod yX6_soonOf, Cond.selects RX6 yX6_soonOf yX6_soonOf, Cond.code yX6_soonOf cX6_soonOf 2 (some .int)]
def wsX7_blind : List Cond := .code yX7_blind cX7_blind 4 (some .int) :: ((wsX7_blind_r1 ++ (wsX7_blind_r2 ++ (wsX7_blind_r3 ++ (wsX7_blind_r4 ++ (wsX7_blind_r5 ++ (wsX7_blind_r6 ++ (wsX7_blind_r7 ++ (wsX7_blind_r8 ++ (wsX7_blind_r9 ++ (wsX7_blind_r10 ++ (wsX7_blind_r11 ++ wsX7_blind_r12))))))))))) ++ wsX70 ++ wsX40 ++ wsX60 ++ wsX20 ++ wsX10 ++ wsX30)
def wsX7_used_r1 : List Cond := [Cond.methodLink RX7 148 yX7_refusalFromNow, Cond.instanceMethod yX7_refusalFromNow, Cond.selects RX7 yX7_refusalFromNow yX7_refusalFromNow, Cond.initialized RX7, Cond.code yX7_refusalFromNow cX7_refusalFromNow 2 (some .int), Cond.fieldLink RX7 10 "RingMeets" "now" "LRingMeets$Scene;", Cond.methodLink RX7 179 yX7_isSchedule, Cond.static yX7_isSchedule, Cond.code yX7_isSchedule cX7_isSchedule 1 (some .boolean), Cond.methodLink RX7 57 yX4_stands, Cond.instanceMethod yX4_stands, Cond.selects RX4 yX4_stands yX4_stands, Cond.initialized RX4, Cond.code yX4_stands cX4_stands 1 (some .int), Cond.methodLink RX4 34 yX4_cellsWithAtLeast, Cond.instanceMethod yX4_cellsWithAtLeast, Cond.selects RX4 yX4_cellsWithAtLeast yX4_cellsWithAtLeast, Cond.code yX4_cellsWithAtLeast cX4_cellsWithAtLeast 4 (some .int), Cond.fieldLink RX4 22 "RingMeets$Scene" "cells" "I", Cond.methodLink RX4 30 yX4_walkersOn, Cond.instanceMethod yX4_walkersOn, Cond.selects RX4 yX4_walkersOn yX4_walkersOn, Cond.code yX4_walkersOn cX4_walkersOn 2 (some .int), Cond.fieldLink RX4 9 "RingMeets$Scene" "walkers" "[I"]
def wsX7_used_r2 : List Cond := [Cond.methodLink RX4 26 yX4_hasCell, Cond.instanceMethod yX4_hasCell, Cond.selects RX4 yX4_hasCell yX4_hasCell, Cond.code yX4_hasCell cX4_hasCell 2 (some .boolean), Cond.methodLink RX7 151 yX7_walksFromNow, Cond.instanceMethod yX7_walksFromNow, Cond.selects RX7 yX7_walksFromNow yX7_walksFromNow, Cond.code yX7_walksFromNow cX7_walksFromNow 4 (some (.object "RingMeets$Walks")), Cond.methodLink RX7 182 yX7_newWalks, Cond.instanceMethod yX7_newWalks, Cond.selects RX7 yX7_newWalks yX7_newWalks, Cond.code yX7_newWalks cX7_newWalks 3 (some (.object "RingMeets$Walks")), Cond.fieldLink RX7 202 "RingMeets" "walks" "LRingMeets$Walks;", Cond.classLink RX7 156 RX6, Cond.instantiable RX6 20, Cond.initialized RX6, Cond.methodLink RX7 206 yX6_init, Cond.instanceMethod yX6_init, Cond.code yX6_init cX6_init 2 none, Cond.methodLink RX6 3 objectInit, Cond.instanceMethod objectInit, Cond.code objectInit ⟨#[0xb1]⟩ 1 none, Cond.classLink RX6 9 RX2, Cond.instantiable RX2 4]
def wsX7_used_r3 : List Cond := [Cond.initialized RX2, Cond.fieldLink RX6 12 "RingMeets$Walks" "moves" "LRingMeets$Moves;", Cond.arrayClass .int, Cond.fieldLink RX6 18 "RingMeets$Walks" "ways" "[I", Cond.fieldLink RX6 22 "RingMeets$Walks" "newest" "[I", Cond.fieldLink RX6 25 "RingMeets$Walks" "older" "[I", Cond.fieldLink RX6 28 "RingMeets$Walks" "lastStepTo" "[I", Cond.fieldLink RX6 31 "RingMeets$Walks" "earlierStep" "[I", Cond.fieldLink RX6 34 "RingMeets$Walks" "stepFrom" "[I", Cond.fieldLink RX6 37 "RingMeets$Walks" "stepsLeft" "[I", Cond.fieldLink RX6 40 "RingMeets$Walks" "soon" "[I", Cond.fieldLink RX6 43 "RingMeets$Walks" "late" "[I", Cond.fieldLink RX6 46 "RingMeets$Walks" "line" "[I", Cond.fieldLink RX6 49 "RingMeets$Walks" "rules" "LRingMeets$Rules;", Cond.instanceMethod yX2_init, Cond.code yX2_init cX2_init 1 none, Cond.methodLink RX2 3 objectInit, Cond.classLink RX2 9 RX1, Cond.instantiable RX1 5, Cond.initialized RX1, Cond.fieldLink RX2 12 "RingMeets$Moves" "look" "LRingMeets$Look;", Cond.instanceMethod yX1_init, Cond.code yX1_init cX1_init 1 none, Cond.methodLink RX1 3 objectInit]
def wsX7_used_r4 : List Cond := [Cond.methodLink RX7 209 yX6_begin, Cond.instanceMethod yX6_begin, Cond.selects RX6 yX6_begin yX6_begin, Cond.code yX6_begin cX6_begin 5 none, Cond.fieldLink RX6 53 "RingMeets$Walks" "cells" "I", Cond.fieldLink RX6 57 "RingMeets$Walks" "schedule" "I", Cond.fieldLink RX6 60 "RingMeets$Walks" "blindly" "Z", Cond.fieldLink RX6 64 "RingMeets$Walks" "size" "I", Cond.fieldLink RX6 67 "RingMeets$Walks" "steps" "I", Cond.fieldLink RX6 70 "RingMeets$Walks" "stuck" "I", Cond.fieldLink RX6 73 "RingMeets$Walks" "rulesUsed" "I", Cond.methodLink RX7 125 yX4_towers, Cond.instanceMethod yX4_towers, Cond.selects RX4 yX4_towers yX4_towers, Cond.code yX4_towers cX4_towers 1 (some .int), Cond.methodLink RX7 185 yX5_way, Cond.static yX5_way, Cond.initialized RX5, Cond.code yX5_way cX5_way 2 (some .int), Cond.methodLink RX7 188 yX6_add, Cond.instanceMethod yX6_add, Cond.selects RX6 yX6_add yX6_add, Cond.code yX6_add cX6_add 5 (some .int), Cond.methodLink RX6 76 yX6_find]
def wsX7_used_r5 : List Cond := [Cond.instanceMethod yX6_find, Cond.selects RX6 yX6_find yX6_find, Cond.code yX6_find cX6_find 4 (some .int), Cond.methodLink RX6 80 yX5_standsOf, Cond.static yX5_standsOf, Cond.code yX5_standsOf cX5_standsOf 1 (some .int), Cond.methodLink RX6 85 yX6_isWay, Cond.instanceMethod yX6_isWay, Cond.selects RX6 yX6_isWay yX6_isWay, Cond.code yX6_isWay cX6_isWay 2 (some .boolean), Cond.methodLink RX7 155 yX6_walk, Cond.instanceMethod yX6_walk, Cond.selects RX6 yX6_walk yX6_walk, Cond.code yX6_walk cX6_walk 2 none, Cond.methodLink RX6 94 yX6_hasMet, Cond.instanceMethod yX6_hasMet, Cond.selects RX6 yX6_hasMet yX6_hasMet, Cond.code yX6_hasMet cX6_hasMet 2 (some .boolean), Cond.methodLink RX6 89 yJ6_bitCount_0f7a4, Cond.static yJ6_bitCount_0f7a4, Cond.initialized RJ6, Cond.code yJ6_bitCount_0f7a4 cJ6_bitCount_0f7a4 1 (some .int), Cond.constant RJ6 265 (1431655765), Cond.constant RJ6 266 (858993459)]
def wsX7_used_r6 : List Cond := [Cond.constant RJ6 267 (252645135), Cond.methodLink RX6 97 yX6_towersSeen, Cond.instanceMethod yX6_towersSeen, Cond.selects RX6 yX6_towersSeen yX6_towersSeen, Cond.code yX6_towersSeen cX6_towersSeen 2 (some .int), Cond.methodLink RX6 112 yX5_towersOf, Cond.static yX5_towersOf, Cond.code yX5_towersOf cX5_towersOf 1 (some .int), Cond.methodLink RX6 100 yX2_from, Cond.instanceMethod yX2_from, Cond.selects RX2 yX2_from yX2_from, Cond.code yX2_from cX2_from 6 none, Cond.fieldLink RX2 18 "RingMeets$Moves" "ups" "I", Cond.fieldLink RX2 22 "RingMeets$Moves" "downs" "I", Cond.fieldLink RX2 25 "RingMeets$Moves" "rulesUsed" "I", Cond.methodLink RX2 28 yX5_has, Cond.static yX5_has, Cond.code yX5_has cX5_has 2 (some .boolean), Cond.methodLink RX2 34 yX1_from, Cond.instanceMethod yX1_from, Cond.selects RX1 yX1_from yX1_from, Cond.code yX1_from cX1_from 9 none, Cond.fieldLink RX1 15 "RingMeets$Look" "even" "Z", Cond.fieldLink RX1 21 "RingMeets$Look" "side" "I"]
def wsX7_used_r7 : List Cond := [Cond.methodLink RX1 37 Lib.Math.min.name, Cond.static Lib.Math.min.name, Cond.initialized "java/lang/Math", Cond.code Lib.Math.min.name Lib.Math.min.code 2 (some .int), Cond.fieldLink RX1 49 "RingMeets$Look" "rule" "I", Cond.fieldLink RX1 58 "RingMeets$Look" "done" "I", Cond.fieldLink RX1 64 "RingMeets$Look" "goal" "I", Cond.methodLink RX1 9 yX0_row, Cond.static yX0_row, Cond.initialized RX0, Cond.code yX0_row cX0_row 8 (some .int), Cond.methodLink RX0 9 yX5_cellNextTo, Cond.static yX5_cellNextTo, Cond.code yX5_cellNextTo cX5_cellNextTo 3 (some .int), Cond.methodLink RX0 15 yX5_has, Cond.methodLink RX1 25 yX5_has, Cond.methodLink RX1 31 yJ6_bitCount_0f7a4, Cond.methodLink RX1 43 yX3_firstThatFits, Cond.instanceMethod yX3_firstThatFits, Cond.selects RX3 yX3_firstThatFits yX3_firstThatFits, Cond.initialized RX3, Cond.code yX3_firstThatFits cX3_firstThatFits 5 (some .int), Cond.fieldLink RX3 15 "RingMeets$Rules" "size" "I", Cond.methodLink RX3 27 yX3_fits]
def wsX7_used_r8 : List Cond := [Cond.instanceMethod yX3_fits, Cond.selects RX3 yX3_fits yX3_fits, Cond.code yX3_fits cX3_fits 8 (some .boolean), Cond.fieldLink RX3 9 "RingMeets$Rules" "told" "[I", Cond.methodLink RX3 31 yX0_at, Cond.static yX0_at, Cond.code yX0_at cX0_at 3 (some .int), Cond.methodLink RX3 37 yX3_isSo, Cond.static yX3_isSo, Cond.code yX3_isSo cX3_isSo 3 (some .boolean), Cond.methodLink RX1 52 yX3_has, Cond.instanceMethod yX3_has, Cond.selects RX3 yX3_has yX3_has, Cond.code yX3_has cX3_has 2 (some .boolean), Cond.methodLink RX1 55 yX3_part, Cond.instanceMethod yX3_part, Cond.selects RX3 yX3_part yX3_part, Cond.code yX3_part cX3_part 3 (some .int), Cond.methodLink RX3 19 yX3_has, Cond.methodLink RX1 61 yX1_goalFrom, Cond.instanceMethod yX1_goalFrom, Cond.selects RX1 yX1_goalFrom yX1_goalFrom, Cond.code yX1_goalFrom cX1_goalFrom 3 (some .int), Cond.methodLink RX1 67 yX1_sideOfMove]
def wsX7_used_r9 : List Cond := [Cond.instanceMethod yX1_sideOfMove, Cond.selects RX1 yX1_sideOfMove yX1_sideOfMove, Cond.code yX1_sideOfMove cX1_sideOfMove 1 (some .int), Cond.methodLink RX1 71 yX5_cellNextTo, Cond.methodLink RX2 38 yX2_enter, Cond.instanceMethod yX2_enter, Cond.selects RX2 yX2_enter yX2_enter, Cond.code yX2_enter cX2_enter 2 none, Cond.methodLink RX2 48 yX1_sideOfMove, Cond.methodLink RX6 104 yX6_addStepsFrom, Cond.instanceMethod yX6_addStepsFrom, Cond.selects RX6 yX6_addStepsFrom yX6_addStepsFrom, Cond.code yX6_addStepsFrom cX6_addStepsFrom 4 none, Cond.methodLink RX6 116 yX2_movers, Cond.instanceMethod yX2_movers, Cond.selects RX2 yX2_movers yX2_movers, Cond.code yX2_movers cX2_movers 1 (some .int), Cond.methodLink RX6 120 yX6_setAfter, Cond.instanceMethod yX6_setAfter, Cond.selects RX6 yX6_setAfter yX6_setAfter, Cond.code yX6_setAfter cX6_setAfter 3 (some .int), Cond.methodLink RX6 134 yJ6_lowestOneBit_0f7a4, Cond.static yJ6_lowestOneBit_0f7a4, Cond.code yJ6_lowestOneBit_0f7a4 cJ6_lowestOneBit_0f7a4 1 (some .int)]
def wsX7_used_r10 : List Cond := [Cond.methodLink RX6 123 yX2_wayBehind, Cond.instanceMethod yX2_wayBehind, Cond.selects RX2 yX2_wayBehind yX2_wayBehind, Cond.code yX2_wayBehind cX2_wayBehind 10 (some .int), Cond.methodLink RX2 52 yX5_standsOf, Cond.methodLink RX2 56 yX5_towersOf, Cond.methodLink RX2 59 yX2_movers, Cond.methodLink RX2 62 yX5_turnedUp, Cond.static yX5_turnedUp, Cond.code yX5_turnedUp cX5_turnedUp 2 (some .int), Cond.methodLink RX2 66 yX5_turnedDown, Cond.static yX5_turnedDown, Cond.code yX5_turnedDown cX5_turnedDown 2 (some .int), Cond.methodLink RX2 69 yX5_way, Cond.methodLink RX6 127 yX6_add, Cond.methodLink RX6 130 yX6_addStep, Cond.instanceMethod yX6_addStep, Cond.selects RX6 yX6_addStep yX6_addStep, Cond.code yX6_addStep cX6_addStep 3 none, Cond.methodLink RX6 108 yX6_tellBackwards, Cond.instanceMethod yX6_tellBackwards, Cond.selects RX6 yX6_tellBackwards yX6_tellBackwards, Cond.code yX6_tellBackwards cX6_tellBackwards 8 none, Cond.fieldLink RX6 141 "RingMeets$Walks" "lineSize" "I"]
def wsX7_used_r11 : List Cond := [Cond.methodLink RX6 137 yX6_lineUpWhatHasMet, Cond.instanceMethod yX6_lineUpWhatHasMet, Cond.selects RX6 yX6_lineUpWhatHasMet yX6_lineUpWhatHasMet, Cond.code yX6_lineUpWhatHasMet cX6_lineUpWhatHasMet 3 none, Cond.methodLink RX6 150 yX6_lineUp, Cond.instanceMethod yX6_lineUp, Cond.selects RX6 yX6_lineUp yX6_lineUp, Cond.code yX6_lineUp cX6_lineUp 4 none, Cond.methodLink RX6 144 yX6_isStep, Cond.instanceMethod yX6_isStep, Cond.selects RX6 yX6_isStep yX6_isStep, Cond.code yX6_isStep cX6_isStep 2 (some .boolean), Cond.methodLink RX6 147 yX6_isLastStepOf, Cond.instanceMethod yX6_isLastStepOf, Cond.selects RX6 yX6_isLastStepOf yX6_isLastStepOf, Cond.code yX6_isLastStepOf cX6_isLastStepOf 2 (some .boolean)]
def wsX7_used : List Cond := .code yX7_used cX7_used 4 (some .int) :: ((wsX7_used_r1 ++ (wsX7_used_r2 ++ (wsX7_used_r3 ++ (wsX7_used_r4 ++ (wsX7_used_r5 ++ (wsX7_used_r6 ++ (wsX7_used_r7 ++ (wsX7_used_r8 ++ (wsX7_used_r9 ++ (wsX7_used_r10 ++ wsX7_used_r11)))))))))) ++ wsX60 ++ wsX70 ++ wsX40 ++ wsX20 ++ wsX10 ++ wsX30)
def wsX7_all_r1 : List Cond := [Cond.fieldLink RX7 10 "RingMeets" "now" "LRingMeets$Scene;", Cond.methodLink RX7 179 yX7_isSchedule, Cond.static yX7_isSchedule, Cond.initialized RX7, Cond.code yX7_isSchedule cX7_isSchedule 1 (some .boolean), Cond.methodLink RX7 182 yX7_newWalks, Cond.instanceMethod yX7_newWalks, Cond.selects RX7 yX7_newWalks yX7_newWalks, Cond.code yX7_newWalks cX7_newWalks 3 (some (.object "RingMeets$Walks")), Cond.fieldLink RX7 202 "RingMeets" "walks" "LRingMeets$Walks;", Cond.classLink RX7 156 RX6, Cond.instantiable RX6 20, Cond.initialized RX6, Cond.methodLink RX7 206 yX6_init, Cond.instanceMethod yX6_init, Cond.code yX6_init cX6_init 2 none, Cond.methodLink RX6 3 objectInit, Cond.instanceMethod objectInit, Cond.code objectInit ⟨#[0xb1]⟩ 1 none, Cond.classLink RX6 9 RX2, Cond.instantiable RX2 4, Cond.initialized RX2, Cond.fieldLink RX6 12 "RingMeets$Walks" "moves" "LRingMeets$Moves;", Cond.arrayClass .int]
def wsX7_all_r2 : List Cond := [Cond.fieldLink RX6 18 "RingMeets$Walks" "ways" "[I", Cond.fieldLink RX6 22 "RingMeets$Walks" "newest" "[I", Cond.fieldLink RX6 25 "RingMeets$Walks" "older" "[I", Cond.fieldLink RX6 28 "RingMeets$Walks" "lastStepTo" "[I", Cond.fieldLink RX6 31 "RingMeets$Walks" "earlierStep" "[I", Cond.fieldLink RX6 34 "RingMeets$Walks" "stepFrom" "[I", Cond.fieldLink RX6 37 "RingMeets$Walks" "stepsLeft" "[I", Cond.fieldLink RX6 40 "RingMeets$Walks" "soon" "[I", Cond.fieldLink RX6 43 "RingMeets$Walks" "late" "[I", Cond.fieldLink RX6 46 "RingMeets$Walks" "line" "[I", Cond.fieldLink RX6 49 "RingMeets$Walks" "rules" "LRingMeets$Rules;", Cond.instanceMethod yX2_init, Cond.code yX2_init cX2_init 1 none, Cond.methodLink RX2 3 objectInit, Cond.classLink RX2 9 RX1, Cond.instantiable RX1 5, Cond.initialized RX1, Cond.fieldLink RX2 12 "RingMeets$Moves" "look" "LRingMeets$Look;", Cond.instanceMethod yX1_init, Cond.code yX1_init cX1_init 1 none, Cond.methodLink RX1 3 objectInit, Cond.methodLink RX7 209 yX6_begin, Cond.instanceMethod yX6_begin, Cond.selects RX6 yX6_begin yX6_begin]
def wsX7_all_r3 : List Cond := [Cond.code yX6_begin cX6_begin 5 none, Cond.fieldLink RX6 53 "RingMeets$Walks" "cells" "I", Cond.fieldLink RX6 57 "RingMeets$Walks" "schedule" "I", Cond.fieldLink RX6 60 "RingMeets$Walks" "blindly" "Z", Cond.fieldLink RX6 64 "RingMeets$Walks" "size" "I", Cond.fieldLink RX6 67 "RingMeets$Walks" "steps" "I", Cond.fieldLink RX6 70 "RingMeets$Walks" "stuck" "I", Cond.fieldLink RX6 73 "RingMeets$Walks" "rulesUsed" "I", Cond.methodLink RX7 66 yJ6_bitCount_0f7a4, Cond.static yJ6_bitCount_0f7a4, Cond.initialized RJ6, Cond.code yJ6_bitCount_0f7a4 cJ6_bitCount_0f7a4 1 (some .int), Cond.constant RJ6 265 (1431655765), Cond.constant RJ6 266 (858993459), Cond.constant RJ6 267 (252645135), Cond.methodLink RX7 185 yX5_way, Cond.static yX5_way, Cond.initialized RX5, Cond.code yX5_way cX5_way 2 (some .int), Cond.methodLink RX7 188 yX6_add, Cond.instanceMethod yX6_add, Cond.selects RX6 yX6_add yX6_add, Cond.code yX6_add cX6_add 5 (some .int), Cond.methodLink RX6 76 yX6_find]
def wsX7_all_r4 : List Cond := [Cond.instanceMethod yX6_find, Cond.selects RX6 yX6_find yX6_find, Cond.code yX6_find cX6_find 4 (some .int), Cond.methodLink RX6 80 yX5_standsOf, Cond.static yX5_standsOf, Cond.code yX5_standsOf cX5_standsOf 1 (some .int), Cond.methodLink RX6 85 yX6_isWay, Cond.instanceMethod yX6_isWay, Cond.selects RX6 yX6_isWay yX6_isWay, Cond.code yX6_isWay cX6_isWay 2 (some .boolean), Cond.methodLink RX7 155 yX6_walk, Cond.instanceMethod yX6_walk, Cond.selects RX6 yX6_walk yX6_walk, Cond.code yX6_walk cX6_walk 2 none, Cond.methodLink RX6 94 yX6_hasMet, Cond.instanceMethod yX6_hasMet, Cond.selects RX6 yX6_hasMet yX6_hasMet, Cond.code yX6_hasMet cX6_hasMet 2 (some .boolean), Cond.methodLink RX6 89 yJ6_bitCount_0f7a4, Cond.methodLink RX6 97 yX6_towersSeen, Cond.instanceMethod yX6_towersSeen, Cond.selects RX6 yX6_towersSeen yX6_towersSeen, Cond.code yX6_towersSeen cX6_towersSeen 2 (some .int), Cond.methodLink RX6 112 yX5_towersOf]
def wsX7_all_r5 : List Cond := [Cond.static yX5_towersOf, Cond.code yX5_towersOf cX5_towersOf 1 (some .int), Cond.methodLink RX6 100 yX2_from, Cond.instanceMethod yX2_from, Cond.selects RX2 yX2_from yX2_from, Cond.code yX2_from cX2_from 6 none, Cond.fieldLink RX2 18 "RingMeets$Moves" "ups" "I", Cond.fieldLink RX2 22 "RingMeets$Moves" "downs" "I", Cond.fieldLink RX2 25 "RingMeets$Moves" "rulesUsed" "I", Cond.methodLink RX2 28 yX5_has, Cond.static yX5_has, Cond.code yX5_has cX5_has 2 (some .boolean), Cond.methodLink RX2 34 yX1_from, Cond.instanceMethod yX1_from, Cond.selects RX1 yX1_from yX1_from, Cond.code yX1_from cX1_from 9 none, Cond.fieldLink RX1 15 "RingMeets$Look" "even" "Z", Cond.fieldLink RX1 21 "RingMeets$Look" "side" "I", Cond.methodLink RX1 37 Lib.Math.min.name, Cond.static Lib.Math.min.name, Cond.initialized "java/lang/Math", Cond.code Lib.Math.min.name Lib.Math.min.code 2 (some .int), Cond.fieldLink RX1 49 "RingMeets$Look" "rule" "I", Cond.fieldLink RX1 58 "RingMeets$Look" "done" "I"]
def wsX7_all_r6 : List Cond := [Cond.fieldLink RX1 64 "RingMeets$Look" "goal" "I", Cond.methodLink RX1 9 yX0_row, Cond.static yX0_row, Cond.initialized RX0, Cond.code yX0_row cX0_row 8 (some .int), Cond.methodLink RX0 9 yX5_cellNextTo, Cond.static yX5_cellNextTo, Cond.code yX5_cellNextTo cX5_cellNextTo 3 (some .int), Cond.methodLink RX0 15 yX5_has, Cond.methodLink RX1 25 yX5_has, Cond.methodLink RX1 31 yJ6_bitCount_0f7a4, Cond.methodLink RX1 43 yX3_firstThatFits, Cond.instanceMethod yX3_firstThatFits, Cond.selects RX3 yX3_firstThatFits yX3_firstThatFits, Cond.initialized RX3, Cond.code yX3_firstThatFits cX3_firstThatFits 5 (some .int), Cond.fieldLink RX3 15 "RingMeets$Rules" "size" "I", Cond.methodLink RX3 27 yX3_fits, Cond.instanceMethod yX3_fits, Cond.selects RX3 yX3_fits yX3_fits, Cond.code yX3_fits cX3_fits 8 (some .boolean), Cond.fieldLink RX3 9 "RingMeets$Rules" "told" "[I", Cond.methodLink RX3 31 yX0_at, Cond.static yX0_at]
def wsX7_all_r7 : List Cond := [Cond.code yX0_at cX0_at 3 (some .int), Cond.methodLink RX3 37 yX3_isSo, Cond.static yX3_isSo, Cond.code yX3_isSo cX3_isSo 3 (some .boolean), Cond.methodLink RX1 52 yX3_has, Cond.instanceMethod yX3_has, Cond.selects RX3 yX3_has yX3_has, Cond.code yX3_has cX3_has 2 (some .boolean), Cond.methodLink RX1 55 yX3_part, Cond.instanceMethod yX3_part, Cond.selects RX3 yX3_part yX3_part, Cond.code yX3_part cX3_part 3 (some .int), Cond.methodLink RX3 19 yX3_has, Cond.methodLink RX1 61 yX1_goalFrom, Cond.instanceMethod yX1_goalFrom, Cond.selects RX1 yX1_goalFrom yX1_goalFrom, Cond.code yX1_goalFrom cX1_goalFrom 3 (some .int), Cond.methodLink RX1 67 yX1_sideOfMove, Cond.instanceMethod yX1_sideOfMove, Cond.selects RX1 yX1_sideOfMove yX1_sideOfMove, Cond.code yX1_sideOfMove cX1_sideOfMove 1 (some .int), Cond.methodLink RX1 71 yX5_cellNextTo, Cond.methodLink RX2 38 yX2_enter, Cond.instanceMethod yX2_enter]
def wsX7_all_r8 : List Cond := [Cond.selects RX2 yX2_enter yX2_enter, Cond.code yX2_enter cX2_enter 2 none, Cond.methodLink RX2 48 yX1_sideOfMove, Cond.methodLink RX6 104 yX6_addStepsFrom, Cond.instanceMethod yX6_addStepsFrom, Cond.selects RX6 yX6_addStepsFrom yX6_addStepsFrom, Cond.code yX6_addStepsFrom cX6_addStepsFrom 4 none, Cond.methodLink RX6 116 yX2_movers, Cond.instanceMethod yX2_movers, Cond.selects RX2 yX2_movers yX2_movers, Cond.code yX2_movers cX2_movers 1 (some .int), Cond.methodLink RX6 120 yX6_setAfter, Cond.instanceMethod yX6_setAfter, Cond.selects RX6 yX6_setAfter yX6_setAfter, Cond.code yX6_setAfter cX6_setAfter 3 (some .int), Cond.methodLink RX6 134 yJ6_lowestOneBit_0f7a4, Cond.static yJ6_lowestOneBit_0f7a4, Cond.code yJ6_lowestOneBit_0f7a4 cJ6_lowestOneBit_0f7a4 1 (some .int), Cond.methodLink RX6 123 yX2_wayBehind, Cond.instanceMethod yX2_wayBehind, Cond.selects RX2 yX2_wayBehind yX2_wayBehind, Cond.code yX2_wayBehind cX2_wayBehind 10 (some .int), Cond.methodLink RX2 52 yX5_standsOf, Cond.methodLink RX2 56 yX5_towersOf]
def wsX7_all_r9 : List Cond := [Cond.methodLink RX2 59 yX2_movers, Cond.methodLink RX2 62 yX5_turnedUp, Cond.static yX5_turnedUp, Cond.code yX5_turnedUp cX5_turnedUp 2 (some .int), Cond.methodLink RX2 66 yX5_turnedDown, Cond.static yX5_turnedDown, Cond.code yX5_turnedDown cX5_turnedDown 2 (some .int), Cond.methodLink RX2 69 yX5_way, Cond.methodLink RX6 127 yX6_add, Cond.methodLink RX6 130 yX6_addStep, Cond.instanceMethod yX6_addStep, Cond.selects RX6 yX6_addStep yX6_addStep, Cond.code yX6_addStep cX6_addStep 3 none, Cond.methodLink RX6 108 yX6_tellBackwards, Cond.instanceMethod yX6_tellBackwards, Cond.selects RX6 yX6_tellBackwards yX6_tellBackwards, Cond.code yX6_tellBackwards cX6_tellBackwards 8 none, Cond.fieldLink RX6 141 "RingMeets$Walks" "lineSize" "I", Cond.methodLink RX6 137 yX6_lineUpWhatHasMet, Cond.instanceMethod yX6_lineUpWhatHasMet, Cond.selects RX6 yX6_lineUpWhatHasMet yX6_lineUpWhatHasMet, Cond.code yX6_lineUpWhatHasMet cX6_lineUpWhatHasMet 3 none, Cond.methodLink RX6 150 yX6_lineUp, Cond.instanceMethod yX6_lineUp]
def wsX7_all_r10 : List Cond := [Cond.selects RX6 yX6_lineUp yX6_lineUp, Cond.code yX6_lineUp cX6_lineUp 4 none, Cond.methodLink RX6 144 yX6_isStep, Cond.instanceMethod yX6_isStep, Cond.selects RX6 yX6_isStep yX6_isStep, Cond.code yX6_isStep cX6_isStep 2 (some .boolean), Cond.methodLink RX6 147 yX6_isLastStepOf, Cond.instanceMethod yX6_isLastStepOf, Cond.selects RX6 yX6_isLastStepOf yX6_isLastStepOf, Cond.code yX6_isLastStepOf cX6_isLastStepOf 2 (some .boolean), Cond.methodLink RX7 166 yX6_kindOf, Cond.instanceMethod yX6_kindOf, Cond.selects RX6 yX6_kindOf yX6_kindOf, Cond.code yX6_kindOf cX6_kindOf 2 (some .int), Cond.methodLink RX6 154 yX6_lateOf, Cond.instanceMethod yX6_lateOf, Cond.selects RX6 yX6_lateOf yX6_lateOf, Cond.code yX6_lateOf cX6_lateOf 2 (some .int), Cond.methodLink RX6 157 yX6_soonOf, Cond.instanceMethod yX6_soonOf, Cond.selects RX6 yX6_soonOf yX6_soonOf, Cond.code yX6_soonOf cX6_soonOf 2 (some .int)]
def wsX7_all : List Cond := .code yX7_all cX7_all 8 (some .int) :: ((wsX7_all_r1 ++ (wsX7_all_r2 ++ (wsX7_all_r3 ++ (wsX7_all_r4 ++ (wsX7_all_r5 ++ (wsX7_all_r6 ++ (wsX7_all_r7 ++ (wsX7_all_r8 ++ (wsX7_all_r9 ++ wsX7_all_r10))))))))) ++ wsX70 ++ wsX40 ++ wsX60 ++ wsX20 ++ wsX10 ++ wsX30)
def wsX7_imageOf : List Cond := .code yX7_imageOf cX7_imageOf 2 (some (.object "RingMeets$Scene")) :: ([.fieldLink RX7 16 "RingMeets" "firstImage" "LRingMeets$Scene;", .fieldLink RX7 19 "RingMeets" "secondImage" "LRingMeets$Scene;"] ++ wsX70)
def wsX7_image : List Cond := .code yX7_image cX7_image 2 (some .int) :: ([.fieldLink RX7 10 "RingMeets" "now" "LRingMeets$Scene;", .fieldLink RX7 199 "RingMeets" "kept" "I", .methodLink RX7 191 yX7_imageOf, .instanceMethod yX7_imageOf, .selects RX7 yX7_imageOf yX7_imageOf, .initialized RX7, .code yX7_imageOf cX7_imageOf 2 (some (.object "RingMeets$Scene")), .fieldLink RX7 16 "RingMeets" "firstImage" "LRingMeets$Scene;", .fieldLink RX7 19 "RingMeets" "secondImage" "LRingMeets$Scene;", .methodLink RX7 195 yX4_copyFrom, .instanceMethod yX4_copyFrom, .selects RX4 yX4_copyFrom yX4_copyFrom, .initialized RX4, .code yX4_copyFrom cX4_copyFrom 3 none, .fieldLink RX4 22 "RingMeets$Scene" "cells" "I", .fieldLink RX4 9 "RingMeets$Scene" "walkers" "[I", .fieldLink RX4 18 "RingMeets$Scene" "rules" "LRingMeets$Rules;", .methodLink RX4 37 yX3_copyFrom, .instanceMethod yX3_copyFrom, .selects RX3 yX3_copyFrom yX3_copyFrom, .initialized RX3, .code yX3_copyFrom cX3_copyFrom 3 none, .fieldLink RX3 15 "RingMeets$Rules" "size" "I", .fieldLink RX3 9 "RingMeets$Rules" "told" "[I"] ++ wsX70 ++ wsX40 ++ wsX30)
def wsX7_restore_r1 : List Cond := [Cond.fieldLink RX7 199 "RingMeets" "kept" "I", Cond.fieldLink RX7 10 "RingMeets" "now" "LRingMeets$Scene;", Cond.methodLink RX7 60 yX5_has, Cond.static yX5_has, Cond.initialized RX5, Cond.code yX5_has cX5_has 2 (some .boolean), Cond.methodLink RX7 191 yX7_imageOf, Cond.instanceMethod yX7_imageOf, Cond.selects RX7 yX7_imageOf yX7_imageOf, Cond.initialized RX7, Cond.code yX7_imageOf cX7_imageOf 2 (some (.object "RingMeets$Scene")), Cond.fieldLink RX7 16 "RingMeets" "firstImage" "LRingMeets$Scene;", Cond.fieldLink RX7 19 "RingMeets" "secondImage" "LRingMeets$Scene;", Cond.methodLink RX7 195 yX4_copyFrom, Cond.instanceMethod yX4_copyFrom, Cond.selects RX4 yX4_copyFrom yX4_copyFrom, Cond.initialized RX4, Cond.code yX4_copyFrom cX4_copyFrom 3 none, Cond.fieldLink RX4 22 "RingMeets$Scene" "cells" "I", Cond.fieldLink RX4 9 "RingMeets$Scene" "walkers" "[I", Cond.fieldLink RX4 18 "RingMeets$Scene" "rules" "LRingMeets$Rules;", Cond.methodLink RX4 37 yX3_copyFrom, Cond.instanceMethod yX3_copyFrom, Cond.selects RX3 yX3_copyFrom yX3_copyFrom]
def wsX7_restore_r2 : List Cond := [Cond.initialized RX3, Cond.code yX3_copyFrom cX3_copyFrom 3 none, Cond.fieldLink RX3 15 "RingMeets$Rules" "size" "I", Cond.fieldLink RX3 9 "RingMeets$Rules" "told" "[I"]
def wsX7_restore : List Cond := .code yX7_restore cX7_restore 2 (some .int) :: ((wsX7_restore_r1 ++ wsX7_restore_r2) ++ wsX70 ++ wsX40 ++ wsX30)
def wsX7_count_r1 : List Cond := [Cond.fieldLink RX7 10 "RingMeets" "now" "LRingMeets$Scene;", Cond.fieldLink RX7 199 "RingMeets" "kept" "I", Cond.methodLink RX7 45 yX4_walkersOn, Cond.instanceMethod yX4_walkersOn, Cond.selects RX4 yX4_walkersOn yX4_walkersOn, Cond.initialized RX4, Cond.code yX4_walkersOn cX4_walkersOn 2 (some .int), Cond.fieldLink RX4 9 "RingMeets$Scene" "walkers" "[I", Cond.methodLink RX4 26 yX4_hasCell, Cond.instanceMethod yX4_hasCell, Cond.selects RX4 yX4_hasCell yX4_hasCell, Cond.code yX4_hasCell cX4_hasCell 2 (some .boolean), Cond.fieldLink RX4 22 "RingMeets$Scene" "cells" "I", Cond.methodLink RX7 49 yX4_walkersInAll, Cond.instanceMethod yX4_walkersInAll, Cond.selects RX4 yX4_walkersInAll yX4_walkersInAll, Cond.code yX4_walkersInAll cX4_walkersInAll 3 (some .int), Cond.methodLink RX4 30 yX4_walkersOn, Cond.methodLink RX7 57 yX4_stands, Cond.instanceMethod yX4_stands, Cond.selects RX4 yX4_stands yX4_stands, Cond.code yX4_stands cX4_stands 1 (some .int), Cond.methodLink RX4 34 yX4_cellsWithAtLeast, Cond.instanceMethod yX4_cellsWithAtLeast]
def wsX7_count_r2 : List Cond := [Cond.selects RX4 yX4_cellsWithAtLeast yX4_cellsWithAtLeast, Cond.code yX4_cellsWithAtLeast cX4_cellsWithAtLeast 4 (some .int), Cond.methodLink RX7 125 yX4_towers, Cond.instanceMethod yX4_towers, Cond.selects RX4 yX4_towers yX4_towers, Cond.code yX4_towers cX4_towers 1 (some .int)]
def wsX7_count : List Cond := .code yX7_count cX7_count 2 (some .int) :: ((wsX7_count_r1 ++ wsX7_count_r2) ++ wsX70 ++ wsX40 ++ wsX30)
def wsX8_init : List Cond := .code yX8_init cX8_init 2 none :: ([.methodLink RX8 1 objectInit, .instanceMethod objectInit, .code objectInit ⟨#[0xb1]⟩ 1 none, .arrayClass .int, .fieldLink RX8 7 "RingMeetsModel" "state" "[I", .fieldLink RX8 13 "RingMeetsModel" "images" "[I", .arrayClass .boolean, .fieldLink RX8 16 "RingMeetsModel" "isKept" "[Z", .fieldLink RX8 20 "RingMeetsModel" "power" "[I", .fieldLink RX8 23 "RingMeetsModel" "next" "[I", .constant RX8 26 (59049), .fieldLink RX8 27 "RingMeetsModel" "list" "[I", .fieldLink RX8 30 "RingMeetsModel" "isListed" "[Z", .fieldLink RX8 33 "RingMeetsModel" "moves" "[I", .fieldLink RX8 36 "RingMeetsModel" "soon" "[I", .fieldLink RX8 39 "RingMeetsModel" "late" "[I", .fieldLink RX8 42 "RingMeetsModel" "come" "[I"] ++ wsX80)
def wsX8_in : List Cond := .code yX8_in cX8_in 3 (some .boolean) :: ([])
def wsX8_cells : List Cond := .code yX8_cells cX8_cells 1 (some .int) :: ([.fieldLink RX8 7 "RingMeetsModel" "state" "[I"] ++ wsX80)
def wsX8_isCell : List Cond := .code yX8_isCell cX8_isCell 2 (some .boolean) :: ([.methodLink RX8 45 yX8_cells, .instanceMethod yX8_cells, .selects RX8 yX8_cells yX8_cells, .initialized RX8, .code yX8_cells cX8_cells 1 (some .int), .fieldLink RX8 7 "RingMeetsModel" "state" "[I", .methodLink RX8 49 yX8_in, .static yX8_in, .code yX8_in cX8_in 3 (some .boolean)] ++ wsX80)
def wsX8_isStand : List Cond := .code yX8_isStand cX8_isStand 2 (some .boolean) :: ([.fieldLink RX8 7 "RingMeetsModel" "state" "[I", .methodLink RX8 53 yX8_isCell, .instanceMethod yX8_isCell, .selects RX8 yX8_isCell yX8_isCell, .initialized RX8, .code yX8_isCell cX8_isCell 2 (some .boolean), .methodLink RX8 45 yX8_cells, .instanceMethod yX8_cells, .selects RX8 yX8_cells yX8_cells, .code yX8_cells cX8_cells 1 (some .int), .methodLink RX8 49 yX8_in, .static yX8_in, .code yX8_in cX8_in 3 (some .boolean)] ++ wsX80)
def wsX8_isRule : List Cond := .code yX8_isRule cX8_isRule 2 (some .boolean) :: ([.fieldLink RX8 7 "RingMeetsModel" "state" "[I", .methodLink RX8 49 yX8_in, .static yX8_in, .initialized RX8, .code yX8_in cX8_in 3 (some .boolean)] ++ wsX80)
def wsX8_isSchedule : List Cond := .code yX8_isSchedule cX8_isSchedule 1 (some .boolean) :: ([.methodLink RX8 49 yX8_in, .static yX8_in, .initialized RX8, .code yX8_in cX8_in 3 (some .boolean)])
def wsX8_walkers : List Cond := .code yX8_walkers cX8_walkers 3 (some .int) :: ([.fieldLink RX8 7 "RingMeetsModel" "state" "[I"] ++ wsX80)
def wsX8_size : List Cond := .code yX8_size cX8_size 3 (some .int) :: ([])
def wsX8_now : List Cond := .code yX8_now cX8_now 4 (some .int) :: ([.fieldLink RX8 7 "RingMeetsModel" "state" "[I", .fieldLink RX8 20 "RingMeetsModel" "power" "[I", .methodLink RX8 45 yX8_cells, .instanceMethod yX8_cells, .selects RX8 yX8_cells yX8_cells, .initialized RX8, .code yX8_cells cX8_cells 1 (some .int)] ++ wsX80)
def wsX8_standsOf : List Cond := .code yX8_standsOf cX8_standsOf 4 (some .int) :: ([.fieldLink RX8 20 "RingMeetsModel" "power" "[I", .methodLink RX8 45 yX8_cells, .instanceMethod yX8_cells, .selects RX8 yX8_cells yX8_cells, .initialized RX8, .code yX8_cells cX8_cells 1 (some .int), .fieldLink RX8 7 "RingMeetsModel" "state" "[I"] ++ wsX80)
def wsX8_ring : List Cond := .code yX8_ring cX8_ring 4 (some .int) :: ([.fieldLink RX8 7 "RingMeetsModel" "state" "[I", .methodLink RX8 49 yX8_in, .static yX8_in, .initialized RX8, .code yX8_in cX8_in 3 (some .boolean), .methodLink RX8 45 yX8_cells, .instanceMethod yX8_cells, .selects RX8 yX8_cells yX8_cells, .code yX8_cells cX8_cells 1 (some .int)] ++ wsX80)
def wsX8_stand : List Cond := .code yX8_stand cX8_stand 4 (some .int) :: ([.fieldLink RX8 7 "RingMeetsModel" "state" "[I", .methodLink RX8 53 yX8_isCell, .instanceMethod yX8_isCell, .selects RX8 yX8_isCell yX8_isCell, .initialized RX8, .code yX8_isCell cX8_isCell 2 (some .boolean), .methodLink RX8 45 yX8_cells, .instanceMethod yX8_cells, .selects RX8 yX8_cells yX8_cells, .code yX8_cells cX8_cells 1 (some .int), .methodLink RX8 49 yX8_in, .static yX8_in, .code yX8_in cX8_in 3 (some .boolean), .methodLink RX8 57 yX8_walkers, .instanceMethod yX8_walkers, .selects RX8 yX8_walkers yX8_walkers, .code yX8_walkers cX8_walkers 3 (some .int)] ++ wsX80)
def wsX8_beside : List Cond := .code yX8_beside cX8_beside 3 (some .int) :: ([.methodLink RX8 45 yX8_cells, .instanceMethod yX8_cells, .selects RX8 yX8_cells yX8_cells, .initialized RX8, .code yX8_cells cX8_cells 1 (some .int), .fieldLink RX8 7 "RingMeetsModel" "state" "[I"] ++ wsX80)
def wsX8_far : List Cond := .code yX8_far cX8_far 6 (some .int) :: ([.methodLink RX8 60 yX8_beside, .instanceMethod yX8_beside, .selects RX8 yX8_beside yX8_beside, .initialized RX8, .code yX8_beside cX8_beside 3 (some .int), .methodLink RX8 45 yX8_cells, .instanceMethod yX8_cells, .selects RX8 yX8_cells yX8_cells, .code yX8_cells cX8_cells 1 (some .int), .fieldLink RX8 7 "RingMeetsModel" "state" "[I"] ++ wsX80)
def wsX8_gapAt : List Cond := .code yX8_gapAt cX8_gapAt 7 (some .int) :: ([.methodLink RX8 64 yX8_far, .instanceMethod yX8_far, .selects RX8 yX8_far yX8_far, .initialized RX8, .code yX8_far cX8_far 6 (some .int), .methodLink RX8 60 yX8_beside, .instanceMethod yX8_beside, .selects RX8 yX8_beside yX8_beside, .code yX8_beside cX8_beside 3 (some .int), .methodLink RX8 45 yX8_cells, .instanceMethod yX8_cells, .selects RX8 yX8_cells yX8_cells, .code yX8_cells cX8_cells 1 (some .int), .fieldLink RX8 7 "RingMeetsModel" "state" "[I"] ++ wsX80)
def wsX8_held : List Cond := .code yX8_held cX8_held 9 (some .int) :: ([.methodLink RX8 68 yX8_size, .static yX8_size, .initialized RX8, .code yX8_size cX8_size 3 (some .int), .methodLink RX8 72 yX8_gapAt, .instanceMethod yX8_gapAt, .selects RX8 yX8_gapAt yX8_gapAt, .code yX8_gapAt cX8_gapAt 7 (some .int), .methodLink RX8 64 yX8_far, .instanceMethod yX8_far, .selects RX8 yX8_far yX8_far, .code yX8_far cX8_far 6 (some .int), .methodLink RX8 60 yX8_beside, .instanceMethod yX8_beside, .selects RX8 yX8_beside yX8_beside, .code yX8_beside cX8_beside 3 (some .int), .methodLink RX8 45 yX8_cells, .instanceMethod yX8_cells, .selects RX8 yX8_cells yX8_cells, .code yX8_cells cX8_cells 1 (some .int), .fieldLink RX8 7 "RingMeetsModel" "state" "[I"] ++ wsX80)
def wsX8_viewWay_r1 : List Cond := [Cond.methodLink RX8 76 yX8_held, Cond.instanceMethod yX8_held, Cond.selects RX8 yX8_held yX8_held, Cond.initialized RX8, Cond.code yX8_held cX8_held 9 (some .int), Cond.methodLink RX8 68 yX8_size, Cond.static yX8_size, Cond.code yX8_size cX8_size 3 (some .int), Cond.methodLink RX8 72 yX8_gapAt, Cond.instanceMethod yX8_gapAt, Cond.selects RX8 yX8_gapAt yX8_gapAt, Cond.code yX8_gapAt cX8_gapAt 7 (some .int), Cond.methodLink RX8 64 yX8_far, Cond.instanceMethod yX8_far, Cond.selects RX8 yX8_far yX8_far, Cond.code yX8_far cX8_far 6 (some .int), Cond.methodLink RX8 60 yX8_beside, Cond.instanceMethod yX8_beside, Cond.selects RX8 yX8_beside yX8_beside, Cond.code yX8_beside cX8_beside 3 (some .int), Cond.methodLink RX8 45 yX8_cells, Cond.instanceMethod yX8_cells, Cond.selects RX8 yX8_cells yX8_cells, Cond.code yX8_cells cX8_cells 1 (some .int)]
def wsX8_viewWay_r2 : List Cond := [Cond.fieldLink RX8 7 "RingMeetsModel" "state" "[I"]
def wsX8_viewWay : List Cond := .code yX8_viewWay cX8_viewWay 3 (some .int) :: ((wsX8_viewWay_r1 ++ wsX8_viewWay_r2) ++ wsX80)
def wsX8_gap_r1 : List Cond := [Cond.methodLink RX8 80 yX8_isStand, Cond.instanceMethod yX8_isStand, Cond.selects RX8 yX8_isStand yX8_isStand, Cond.initialized RX8, Cond.code yX8_isStand cX8_isStand 2 (some .boolean), Cond.fieldLink RX8 7 "RingMeetsModel" "state" "[I", Cond.methodLink RX8 53 yX8_isCell, Cond.instanceMethod yX8_isCell, Cond.selects RX8 yX8_isCell yX8_isCell, Cond.code yX8_isCell cX8_isCell 2 (some .boolean), Cond.methodLink RX8 45 yX8_cells, Cond.instanceMethod yX8_cells, Cond.selects RX8 yX8_cells yX8_cells, Cond.code yX8_cells cX8_cells 1 (some .int), Cond.methodLink RX8 49 yX8_in, Cond.static yX8_in, Cond.code yX8_in cX8_in 3 (some .boolean), Cond.methodLink RX8 83 yX8_now, Cond.instanceMethod yX8_now, Cond.selects RX8 yX8_now yX8_now, Cond.code yX8_now cX8_now 4 (some .int), Cond.fieldLink RX8 20 "RingMeetsModel" "power" "[I", Cond.methodLink RX8 86 yX8_standsOf, Cond.instanceMethod yX8_standsOf]
def wsX8_gap_r2 : List Cond := [Cond.selects RX8 yX8_standsOf yX8_standsOf, Cond.code yX8_standsOf cX8_standsOf 4 (some .int), Cond.methodLink RX8 68 yX8_size, Cond.static yX8_size, Cond.code yX8_size cX8_size 3 (some .int), Cond.methodLink RX8 89 yX8_viewWay, Cond.instanceMethod yX8_viewWay, Cond.selects RX8 yX8_viewWay yX8_viewWay, Cond.code yX8_viewWay cX8_viewWay 3 (some .int), Cond.methodLink RX8 76 yX8_held, Cond.instanceMethod yX8_held, Cond.selects RX8 yX8_held yX8_held, Cond.code yX8_held cX8_held 9 (some .int), Cond.methodLink RX8 72 yX8_gapAt, Cond.instanceMethod yX8_gapAt, Cond.selects RX8 yX8_gapAt yX8_gapAt, Cond.code yX8_gapAt cX8_gapAt 7 (some .int), Cond.methodLink RX8 64 yX8_far, Cond.instanceMethod yX8_far, Cond.selects RX8 yX8_far yX8_far, Cond.code yX8_far cX8_far 6 (some .int), Cond.methodLink RX8 60 yX8_beside, Cond.instanceMethod yX8_beside, Cond.selects RX8 yX8_beside yX8_beside]
def wsX8_gap_r3 : List Cond := [Cond.code yX8_beside cX8_beside 3 (some .int)]
def wsX8_gap : List Cond := .code yX8_gap cX8_gap 7 (some .int) :: ((wsX8_gap_r1 ++ (wsX8_gap_r2 ++ wsX8_gap_r3)) ++ wsX80)
def wsX8_has : List Cond := .code yX8_has cX8_has 2 (some .boolean) :: ([])
def wsX8_isTurned_r1 : List Cond := [Cond.methodLink RX8 45 yX8_cells, Cond.instanceMethod yX8_cells, Cond.selects RX8 yX8_cells yX8_cells, Cond.initialized RX8, Cond.code yX8_cells cX8_cells 1 (some .int), Cond.fieldLink RX8 7 "RingMeetsModel" "state" "[I", Cond.methodLink RX8 92 yX8_has, Cond.static yX8_has, Cond.code yX8_has cX8_has 2 (some .boolean), Cond.methodLink RX8 76 yX8_held, Cond.instanceMethod yX8_held, Cond.selects RX8 yX8_held yX8_held, Cond.code yX8_held cX8_held 9 (some .int), Cond.methodLink RX8 68 yX8_size, Cond.static yX8_size, Cond.code yX8_size cX8_size 3 (some .int), Cond.methodLink RX8 72 yX8_gapAt, Cond.instanceMethod yX8_gapAt, Cond.selects RX8 yX8_gapAt yX8_gapAt, Cond.code yX8_gapAt cX8_gapAt 7 (some .int), Cond.methodLink RX8 64 yX8_far, Cond.instanceMethod yX8_far, Cond.selects RX8 yX8_far yX8_far, Cond.code yX8_far cX8_far 6 (some .int)]
def wsX8_isTurned_r2 : List Cond := [Cond.methodLink RX8 60 yX8_beside, Cond.instanceMethod yX8_beside, Cond.selects RX8 yX8_beside yX8_beside, Cond.code yX8_beside cX8_beside 3 (some .int)]
def wsX8_isTurned : List Cond := .code yX8_isTurned cX8_isTurned 5 (some .boolean) :: ((wsX8_isTurned_r1 ++ wsX8_isTurned_r2) ++ wsX80)
def wsX8_isMirrored_r1 : List Cond := [Cond.methodLink RX8 45 yX8_cells, Cond.instanceMethod yX8_cells, Cond.selects RX8 yX8_cells yX8_cells, Cond.initialized RX8, Cond.code yX8_cells cX8_cells 1 (some .int), Cond.fieldLink RX8 7 "RingMeetsModel" "state" "[I", Cond.methodLink RX8 92 yX8_has, Cond.static yX8_has, Cond.code yX8_has cX8_has 2 (some .boolean), Cond.methodLink RX8 76 yX8_held, Cond.instanceMethod yX8_held, Cond.selects RX8 yX8_held yX8_held, Cond.code yX8_held cX8_held 9 (some .int), Cond.methodLink RX8 68 yX8_size, Cond.static yX8_size, Cond.code yX8_size cX8_size 3 (some .int), Cond.methodLink RX8 72 yX8_gapAt, Cond.instanceMethod yX8_gapAt, Cond.selects RX8 yX8_gapAt yX8_gapAt, Cond.code yX8_gapAt cX8_gapAt 7 (some .int), Cond.methodLink RX8 64 yX8_far, Cond.instanceMethod yX8_far, Cond.selects RX8 yX8_far yX8_far, Cond.code yX8_far cX8_far 6 (some .int)]
def wsX8_isMirrored_r2 : List Cond := [Cond.methodLink RX8 60 yX8_beside, Cond.instanceMethod yX8_beside, Cond.selects RX8 yX8_beside yX8_beside, Cond.code yX8_beside cX8_beside 3 (some .int)]
def wsX8_isMirrored : List Cond := .code yX8_isMirrored cX8_isMirrored 5 (some .boolean) :: ((wsX8_isMirrored_r1 ++ wsX8_isMirrored_r2) ++ wsX80)
def wsX8_even_r1 : List Cond := [Cond.methodLink RX8 45 yX8_cells, Cond.instanceMethod yX8_cells, Cond.selects RX8 yX8_cells yX8_cells, Cond.initialized RX8, Cond.code yX8_cells cX8_cells 1 (some .int), Cond.fieldLink RX8 7 "RingMeetsModel" "state" "[I", Cond.methodLink RX8 92 yX8_has, Cond.static yX8_has, Cond.code yX8_has cX8_has 2 (some .boolean), Cond.methodLink RX8 76 yX8_held, Cond.instanceMethod yX8_held, Cond.selects RX8 yX8_held yX8_held, Cond.code yX8_held cX8_held 9 (some .int), Cond.methodLink RX8 68 yX8_size, Cond.static yX8_size, Cond.code yX8_size cX8_size 3 (some .int), Cond.methodLink RX8 72 yX8_gapAt, Cond.instanceMethod yX8_gapAt, Cond.selects RX8 yX8_gapAt yX8_gapAt, Cond.code yX8_gapAt cX8_gapAt 7 (some .int), Cond.methodLink RX8 64 yX8_far, Cond.instanceMethod yX8_far, Cond.selects RX8 yX8_far yX8_far, Cond.code yX8_far cX8_far 6 (some .int)]
def wsX8_even_r2 : List Cond := [Cond.methodLink RX8 60 yX8_beside, Cond.instanceMethod yX8_beside, Cond.selects RX8 yX8_beside yX8_beside, Cond.code yX8_beside cX8_beside 3 (some .int)]
def wsX8_even : List Cond := .code yX8_even cX8_even 4 (some .int) :: ((wsX8_even_r1 ++ wsX8_even_r2) ++ wsX80)
def wsX8_views_r1 : List Cond := [Cond.methodLink RX8 45 yX8_cells, Cond.instanceMethod yX8_cells, Cond.selects RX8 yX8_cells yX8_cells, Cond.initialized RX8, Cond.code yX8_cells cX8_cells 1 (some .int), Cond.fieldLink RX8 7 "RingMeetsModel" "state" "[I", Cond.methodLink RX8 92 yX8_has, Cond.static yX8_has, Cond.code yX8_has cX8_has 2 (some .boolean), Cond.methodLink RX8 89 yX8_viewWay, Cond.instanceMethod yX8_viewWay, Cond.selects RX8 yX8_viewWay yX8_viewWay, Cond.code yX8_viewWay cX8_viewWay 3 (some .int), Cond.methodLink RX8 76 yX8_held, Cond.instanceMethod yX8_held, Cond.selects RX8 yX8_held yX8_held, Cond.code yX8_held cX8_held 9 (some .int), Cond.methodLink RX8 68 yX8_size, Cond.static yX8_size, Cond.code yX8_size cX8_size 3 (some .int), Cond.methodLink RX8 72 yX8_gapAt, Cond.instanceMethod yX8_gapAt, Cond.selects RX8 yX8_gapAt yX8_gapAt, Cond.code yX8_gapAt cX8_gapAt 7 (some .int)]
def wsX8_views_r2 : List Cond := [Cond.methodLink RX8 64 yX8_far, Cond.instanceMethod yX8_far, Cond.selects RX8 yX8_far yX8_far, Cond.code yX8_far cX8_far 6 (some .int), Cond.methodLink RX8 60 yX8_beside, Cond.instanceMethod yX8_beside, Cond.selects RX8 yX8_beside yX8_beside, Cond.code yX8_beside cX8_beside 3 (some .int)]
def wsX8_views : List Cond := .code yX8_views cX8_views 6 (some .int) :: ((wsX8_views_r1 ++ wsX8_views_r2) ++ wsX80)
def wsX8_turnedBy : List Cond := .code yX8_turnedBy cX8_turnedBy 5 (some .int) :: ([.methodLink RX8 45 yX8_cells, .instanceMethod yX8_cells, .selects RX8 yX8_cells yX8_cells, .initialized RX8, .code yX8_cells cX8_cells 1 (some .int), .fieldLink RX8 7 "RingMeetsModel" "state" "[I", .methodLink RX8 92 yX8_has, .static yX8_has, .code yX8_has cX8_has 2 (some .boolean)] ++ wsX80)
def wsX8_shape_r1 : List Cond := [Cond.methodLink RX8 83 yX8_now, Cond.instanceMethod yX8_now, Cond.selects RX8 yX8_now yX8_now, Cond.initialized RX8, Cond.code yX8_now cX8_now 4 (some .int), Cond.fieldLink RX8 7 "RingMeetsModel" "state" "[I", Cond.fieldLink RX8 20 "RingMeetsModel" "power" "[I", Cond.methodLink RX8 45 yX8_cells, Cond.instanceMethod yX8_cells, Cond.selects RX8 yX8_cells yX8_cells, Cond.code yX8_cells cX8_cells 1 (some .int), Cond.methodLink RX8 86 yX8_standsOf, Cond.instanceMethod yX8_standsOf, Cond.selects RX8 yX8_standsOf yX8_standsOf, Cond.code yX8_standsOf cX8_standsOf 4 (some .int), Cond.methodLink RX8 96 yX8_isTurned, Cond.instanceMethod yX8_isTurned, Cond.selects RX8 yX8_isTurned yX8_isTurned, Cond.code yX8_isTurned cX8_isTurned 5 (some .boolean), Cond.methodLink RX8 92 yX8_has, Cond.static yX8_has, Cond.code yX8_has cX8_has 2 (some .boolean), Cond.methodLink RX8 76 yX8_held, Cond.instanceMethod yX8_held]
def wsX8_shape_r2 : List Cond := [Cond.selects RX8 yX8_held yX8_held, Cond.code yX8_held cX8_held 9 (some .int), Cond.methodLink RX8 68 yX8_size, Cond.static yX8_size, Cond.code yX8_size cX8_size 3 (some .int), Cond.methodLink RX8 72 yX8_gapAt, Cond.instanceMethod yX8_gapAt, Cond.selects RX8 yX8_gapAt yX8_gapAt, Cond.code yX8_gapAt cX8_gapAt 7 (some .int), Cond.methodLink RX8 64 yX8_far, Cond.instanceMethod yX8_far, Cond.selects RX8 yX8_far yX8_far, Cond.code yX8_far cX8_far 6 (some .int), Cond.methodLink RX8 60 yX8_beside, Cond.instanceMethod yX8_beside, Cond.selects RX8 yX8_beside yX8_beside, Cond.code yX8_beside cX8_beside 3 (some .int), Cond.methodLink RX8 99 yX8_isMirrored, Cond.instanceMethod yX8_isMirrored, Cond.selects RX8 yX8_isMirrored yX8_isMirrored, Cond.code yX8_isMirrored cX8_isMirrored 5 (some .boolean), Cond.methodLink RX8 102 yX8_even, Cond.instanceMethod yX8_even, Cond.selects RX8 yX8_even yX8_even]
def wsX8_shape_r3 : List Cond := [Cond.code yX8_even cX8_even 4 (some .int), Cond.methodLink RX8 105 yX8_views, Cond.instanceMethod yX8_views, Cond.selects RX8 yX8_views yX8_views, Cond.code yX8_views cX8_views 6 (some .int), Cond.methodLink RX8 89 yX8_viewWay, Cond.instanceMethod yX8_viewWay, Cond.selects RX8 yX8_viewWay yX8_viewWay, Cond.code yX8_viewWay cX8_viewWay 3 (some .int), Cond.methodLink RX8 108 yX8_turnedBy, Cond.instanceMethod yX8_turnedBy, Cond.selects RX8 yX8_turnedBy yX8_turnedBy, Cond.code yX8_turnedBy cX8_turnedBy 5 (some .int)]
def wsX8_shape : List Cond := .code yX8_shape cX8_shape 3 (some .int) :: ((wsX8_shape_r1 ++ (wsX8_shape_r2 ++ wsX8_shape_r3)) ++ wsX80)
def wsX8_rule : List Cond := .code yX8_rule cX8_rule 7 (some .int) :: ([.fieldLink RX8 7 "RingMeetsModel" "state" "[I", .methodLink RX8 49 yX8_in, .static yX8_in, .initialized RX8, .code yX8_in cX8_in 3 (some .boolean)] ++ wsX80)
def wsX8_whom : List Cond := .code yX8_whom cX8_whom 4 (some .int) :: ([.fieldLink RX8 7 "RingMeetsModel" "state" "[I", .methodLink RX8 111 yX8_isRule, .instanceMethod yX8_isRule, .selects RX8 yX8_isRule yX8_isRule, .initialized RX8, .code yX8_isRule cX8_isRule 2 (some .boolean), .methodLink RX8 49 yX8_in, .static yX8_in, .code yX8_in cX8_in 3 (some .boolean)] ++ wsX80)
def wsX8_drop : List Cond := .code yX8_drop cX8_drop 3 (some .int) :: ([.fieldLink RX8 7 "RingMeetsModel" "state" "[I", .methodLink RX8 111 yX8_isRule, .instanceMethod yX8_isRule, .selects RX8 yX8_isRule yX8_isRule, .initialized RX8, .code yX8_isRule cX8_isRule 2 (some .boolean), .methodLink RX8 49 yX8_in, .static yX8_in, .code yX8_in cX8_in 3 (some .boolean)] ++ wsX80)
def wsX8_of : List Cond := .code yX8_of cX8_of 3 (some .int) :: ([.fieldLink RX8 7 "RingMeetsModel" "state" "[I", .methodLink RX8 111 yX8_isRule, .instanceMethod yX8_isRule, .selects RX8 yX8_isRule yX8_isRule, .initialized RX8, .code yX8_isRule cX8_isRule 2 (some .boolean), .methodLink RX8 49 yX8_in, .static yX8_in, .code yX8_in cX8_in 3 (some .boolean)] ++ wsX80)
def wsX8_fits_r1 : List Cond := [Cond.fieldLink RX8 7 "RingMeetsModel" "state" "[I", Cond.methodLink RX8 68 yX8_size, Cond.static yX8_size, Cond.initialized RX8, Cond.code yX8_size cX8_size 3 (some .int), Cond.methodLink RX8 89 yX8_viewWay, Cond.instanceMethod yX8_viewWay, Cond.selects RX8 yX8_viewWay yX8_viewWay, Cond.code yX8_viewWay cX8_viewWay 3 (some .int), Cond.methodLink RX8 76 yX8_held, Cond.instanceMethod yX8_held, Cond.selects RX8 yX8_held yX8_held, Cond.code yX8_held cX8_held 9 (some .int), Cond.methodLink RX8 72 yX8_gapAt, Cond.instanceMethod yX8_gapAt, Cond.selects RX8 yX8_gapAt yX8_gapAt, Cond.code yX8_gapAt cX8_gapAt 7 (some .int), Cond.methodLink RX8 64 yX8_far, Cond.instanceMethod yX8_far, Cond.selects RX8 yX8_far yX8_far, Cond.code yX8_far cX8_far 6 (some .int), Cond.methodLink RX8 60 yX8_beside, Cond.instanceMethod yX8_beside, Cond.selects RX8 yX8_beside yX8_beside]
def wsX8_fits_r2 : List Cond := [Cond.code yX8_beside cX8_beside 3 (some .int), Cond.methodLink RX8 45 yX8_cells, Cond.instanceMethod yX8_cells, Cond.selects RX8 yX8_cells yX8_cells, Cond.code yX8_cells cX8_cells 1 (some .int)]
def wsX8_fits : List Cond := .code yX8_fits cX8_fits 8 (some .boolean) :: ((wsX8_fits_r1 ++ wsX8_fits_r2) ++ wsX80)
def wsX8_ruleOf_r1 : List Cond := [Cond.fieldLink RX8 7 "RingMeetsModel" "state" "[I", Cond.methodLink RX8 114 yX8_fits, Cond.instanceMethod yX8_fits, Cond.selects RX8 yX8_fits yX8_fits, Cond.initialized RX8, Cond.code yX8_fits cX8_fits 8 (some .boolean), Cond.methodLink RX8 68 yX8_size, Cond.static yX8_size, Cond.code yX8_size cX8_size 3 (some .int), Cond.methodLink RX8 89 yX8_viewWay, Cond.instanceMethod yX8_viewWay, Cond.selects RX8 yX8_viewWay yX8_viewWay, Cond.code yX8_viewWay cX8_viewWay 3 (some .int), Cond.methodLink RX8 76 yX8_held, Cond.instanceMethod yX8_held, Cond.selects RX8 yX8_held yX8_held, Cond.code yX8_held cX8_held 9 (some .int), Cond.methodLink RX8 72 yX8_gapAt, Cond.instanceMethod yX8_gapAt, Cond.selects RX8 yX8_gapAt yX8_gapAt, Cond.code yX8_gapAt cX8_gapAt 7 (some .int), Cond.methodLink RX8 64 yX8_far, Cond.instanceMethod yX8_far, Cond.selects RX8 yX8_far yX8_far]
def wsX8_ruleOf_r2 : List Cond := [Cond.code yX8_far cX8_far 6 (some .int), Cond.methodLink RX8 60 yX8_beside, Cond.instanceMethod yX8_beside, Cond.selects RX8 yX8_beside yX8_beside, Cond.code yX8_beside cX8_beside 3 (some .int), Cond.methodLink RX8 45 yX8_cells, Cond.instanceMethod yX8_cells, Cond.selects RX8 yX8_cells yX8_cells, Cond.code yX8_cells cX8_cells 1 (some .int)]
def wsX8_ruleOf : List Cond := .code yX8_ruleOf cX8_ruleOf 5 (some .int) :: ((wsX8_ruleOf_r1 ++ wsX8_ruleOf_r2) ++ wsX80)
def wsX8_doneBy : List Cond := .code yX8_doneBy cX8_doneBy 2 (some .int) :: ([.fieldLink RX8 7 "RingMeetsModel" "state" "[I"] ++ wsX80)
def wsX8_behind_r1 : List Cond := [Cond.methodLink RX8 89 yX8_viewWay, Cond.instanceMethod yX8_viewWay, Cond.selects RX8 yX8_viewWay yX8_viewWay, Cond.initialized RX8, Cond.code yX8_viewWay cX8_viewWay 3 (some .int), Cond.methodLink RX8 76 yX8_held, Cond.instanceMethod yX8_held, Cond.selects RX8 yX8_held yX8_held, Cond.code yX8_held cX8_held 9 (some .int), Cond.methodLink RX8 68 yX8_size, Cond.static yX8_size, Cond.code yX8_size cX8_size 3 (some .int), Cond.methodLink RX8 72 yX8_gapAt, Cond.instanceMethod yX8_gapAt, Cond.selects RX8 yX8_gapAt yX8_gapAt, Cond.code yX8_gapAt cX8_gapAt 7 (some .int), Cond.methodLink RX8 64 yX8_far, Cond.instanceMethod yX8_far, Cond.selects RX8 yX8_far yX8_far, Cond.code yX8_far cX8_far 6 (some .int), Cond.methodLink RX8 60 yX8_beside, Cond.instanceMethod yX8_beside, Cond.selects RX8 yX8_beside yX8_beside, Cond.code yX8_beside cX8_beside 3 (some .int)]
def wsX8_behind_r2 : List Cond := [Cond.methodLink RX8 45 yX8_cells, Cond.instanceMethod yX8_cells, Cond.selects RX8 yX8_cells yX8_cells, Cond.code yX8_cells cX8_cells 1 (some .int), Cond.fieldLink RX8 7 "RingMeetsModel" "state" "[I"]
def wsX8_behind : List Cond := .code yX8_behind cX8_behind 5 (some .int) :: ((wsX8_behind_r1 ++ wsX8_behind_r2) ++ wsX80)
def wsX8_does_r1 : List Cond := [Cond.fieldLink RX8 7 "RingMeetsModel" "state" "[I", Cond.methodLink RX8 80 yX8_isStand, Cond.instanceMethod yX8_isStand, Cond.selects RX8 yX8_isStand yX8_isStand, Cond.initialized RX8, Cond.code yX8_isStand cX8_isStand 2 (some .boolean), Cond.methodLink RX8 53 yX8_isCell, Cond.instanceMethod yX8_isCell, Cond.selects RX8 yX8_isCell yX8_isCell, Cond.code yX8_isCell cX8_isCell 2 (some .boolean), Cond.methodLink RX8 45 yX8_cells, Cond.instanceMethod yX8_cells, Cond.selects RX8 yX8_cells yX8_cells, Cond.code yX8_cells cX8_cells 1 (some .int), Cond.methodLink RX8 49 yX8_in, Cond.static yX8_in, Cond.code yX8_in cX8_in 3 (some .boolean), Cond.methodLink RX8 83 yX8_now, Cond.instanceMethod yX8_now, Cond.selects RX8 yX8_now yX8_now, Cond.code yX8_now cX8_now 4 (some .int), Cond.fieldLink RX8 20 "RingMeetsModel" "power" "[I", Cond.methodLink RX8 86 yX8_standsOf, Cond.instanceMethod yX8_standsOf]
def wsX8_does_r2 : List Cond := [Cond.selects RX8 yX8_standsOf yX8_standsOf, Cond.code yX8_standsOf cX8_standsOf 4 (some .int), Cond.methodLink RX8 118 yX8_ruleOf, Cond.instanceMethod yX8_ruleOf, Cond.selects RX8 yX8_ruleOf yX8_ruleOf, Cond.code yX8_ruleOf cX8_ruleOf 5 (some .int), Cond.methodLink RX8 114 yX8_fits, Cond.instanceMethod yX8_fits, Cond.selects RX8 yX8_fits yX8_fits, Cond.code yX8_fits cX8_fits 8 (some .boolean), Cond.methodLink RX8 68 yX8_size, Cond.static yX8_size, Cond.code yX8_size cX8_size 3 (some .int), Cond.methodLink RX8 89 yX8_viewWay, Cond.instanceMethod yX8_viewWay, Cond.selects RX8 yX8_viewWay yX8_viewWay, Cond.code yX8_viewWay cX8_viewWay 3 (some .int), Cond.methodLink RX8 76 yX8_held, Cond.instanceMethod yX8_held, Cond.selects RX8 yX8_held yX8_held, Cond.code yX8_held cX8_held 9 (some .int), Cond.methodLink RX8 72 yX8_gapAt, Cond.instanceMethod yX8_gapAt, Cond.selects RX8 yX8_gapAt yX8_gapAt]
def wsX8_does_r3 : List Cond := [Cond.code yX8_gapAt cX8_gapAt 7 (some .int), Cond.methodLink RX8 64 yX8_far, Cond.instanceMethod yX8_far, Cond.selects RX8 yX8_far yX8_far, Cond.code yX8_far cX8_far 6 (some .int), Cond.methodLink RX8 60 yX8_beside, Cond.instanceMethod yX8_beside, Cond.selects RX8 yX8_beside yX8_beside, Cond.code yX8_beside cX8_beside 3 (some .int), Cond.methodLink RX8 122 yX8_doneBy, Cond.instanceMethod yX8_doneBy, Cond.selects RX8 yX8_doneBy yX8_doneBy, Cond.code yX8_doneBy cX8_doneBy 2 (some .int), Cond.methodLink RX8 125 yX8_behind, Cond.instanceMethod yX8_behind, Cond.selects RX8 yX8_behind yX8_behind, Cond.code yX8_behind cX8_behind 5 (some .int)]
def wsX8_does : List Cond := .code yX8_does cX8_does 5 (some .int) :: ((wsX8_does_r1 ++ (wsX8_does_r2 ++ wsX8_does_r3)) ++ wsX80)
def wsX8_step_r1 : List Cond := [Cond.fieldLink RX8 23 "RingMeetsModel" "next" "[I", Cond.fieldLink RX8 7 "RingMeetsModel" "state" "[I", Cond.methodLink RX8 83 yX8_now, Cond.instanceMethod yX8_now, Cond.selects RX8 yX8_now yX8_now, Cond.initialized RX8, Cond.code yX8_now cX8_now 4 (some .int), Cond.fieldLink RX8 20 "RingMeetsModel" "power" "[I", Cond.methodLink RX8 45 yX8_cells, Cond.instanceMethod yX8_cells, Cond.selects RX8 yX8_cells yX8_cells, Cond.code yX8_cells cX8_cells 1 (some .int), Cond.methodLink RX8 86 yX8_standsOf, Cond.instanceMethod yX8_standsOf, Cond.selects RX8 yX8_standsOf yX8_standsOf, Cond.code yX8_standsOf cX8_standsOf 4 (some .int), Cond.methodLink RX8 92 yX8_has, Cond.static yX8_has, Cond.code yX8_has cX8_has 2 (some .boolean), Cond.methodLink RX8 118 yX8_ruleOf, Cond.instanceMethod yX8_ruleOf, Cond.selects RX8 yX8_ruleOf yX8_ruleOf, Cond.code yX8_ruleOf cX8_ruleOf 5 (some .int), Cond.methodLink RX8 114 yX8_fits]
def wsX8_step_r2 : List Cond := [Cond.instanceMethod yX8_fits, Cond.selects RX8 yX8_fits yX8_fits, Cond.code yX8_fits cX8_fits 8 (some .boolean), Cond.methodLink RX8 68 yX8_size, Cond.static yX8_size, Cond.code yX8_size cX8_size 3 (some .int), Cond.methodLink RX8 89 yX8_viewWay, Cond.instanceMethod yX8_viewWay, Cond.selects RX8 yX8_viewWay yX8_viewWay, Cond.code yX8_viewWay cX8_viewWay 3 (some .int), Cond.methodLink RX8 76 yX8_held, Cond.instanceMethod yX8_held, Cond.selects RX8 yX8_held yX8_held, Cond.code yX8_held cX8_held 9 (some .int), Cond.methodLink RX8 72 yX8_gapAt, Cond.instanceMethod yX8_gapAt, Cond.selects RX8 yX8_gapAt yX8_gapAt, Cond.code yX8_gapAt cX8_gapAt 7 (some .int), Cond.methodLink RX8 64 yX8_far, Cond.instanceMethod yX8_far, Cond.selects RX8 yX8_far yX8_far, Cond.code yX8_far cX8_far 6 (some .int), Cond.methodLink RX8 60 yX8_beside, Cond.instanceMethod yX8_beside]
def wsX8_step_r3 : List Cond := [Cond.selects RX8 yX8_beside yX8_beside, Cond.code yX8_beside cX8_beside 3 (some .int), Cond.methodLink RX8 122 yX8_doneBy, Cond.instanceMethod yX8_doneBy, Cond.selects RX8 yX8_doneBy yX8_doneBy, Cond.code yX8_doneBy cX8_doneBy 2 (some .int), Cond.methodLink RX8 125 yX8_behind, Cond.instanceMethod yX8_behind, Cond.selects RX8 yX8_behind yX8_behind, Cond.code yX8_behind cX8_behind 5 (some .int)]
def wsX8_step : List Cond := .code yX8_step cX8_step 5 (some .int) :: ((wsX8_step_r1 ++ (wsX8_step_r2 ++ wsX8_step_r3)) ++ wsX80)
def wsX8_note_r1 : List Cond := [Cond.fieldLink RX8 30 "RingMeetsModel" "isListed" "[Z", Cond.fieldLink RX8 27 "RingMeetsModel" "list" "[I", Cond.fieldLink RX8 128 "RingMeetsModel" "listed" "I", Cond.fieldLink RX8 132 "RingMeetsModel" "isBlind" "Z", Cond.fieldLink RX8 20 "RingMeetsModel" "power" "[I", Cond.fieldLink RX8 136 "RingMeetsModel" "usedRules" "I", Cond.fieldLink RX8 33 "RingMeetsModel" "moves" "[I", Cond.methodLink RX8 86 yX8_standsOf, Cond.instanceMethod yX8_standsOf, Cond.selects RX8 yX8_standsOf yX8_standsOf, Cond.initialized RX8, Cond.code yX8_standsOf cX8_standsOf 4 (some .int), Cond.methodLink RX8 45 yX8_cells, Cond.instanceMethod yX8_cells, Cond.selects RX8 yX8_cells yX8_cells, Cond.code yX8_cells cX8_cells 1 (some .int), Cond.fieldLink RX8 7 "RingMeetsModel" "state" "[I", Cond.methodLink RX8 92 yX8_has, Cond.static yX8_has, Cond.code yX8_has cX8_has 2 (some .boolean), Cond.methodLink RX8 118 yX8_ruleOf, Cond.instanceMethod yX8_ruleOf, Cond.selects RX8 yX8_ruleOf yX8_ruleOf, Cond.code yX8_ruleOf cX8_ruleOf 5 (some .int)]
def wsX8_note_r2 : List Cond := [Cond.methodLink RX8 114 yX8_fits, Cond.instanceMethod yX8_fits, Cond.selects RX8 yX8_fits yX8_fits, Cond.code yX8_fits cX8_fits 8 (some .boolean), Cond.methodLink RX8 68 yX8_size, Cond.static yX8_size, Cond.code yX8_size cX8_size 3 (some .int), Cond.methodLink RX8 89 yX8_viewWay, Cond.instanceMethod yX8_viewWay, Cond.selects RX8 yX8_viewWay yX8_viewWay, Cond.code yX8_viewWay cX8_viewWay 3 (some .int), Cond.methodLink RX8 76 yX8_held, Cond.instanceMethod yX8_held, Cond.selects RX8 yX8_held yX8_held, Cond.code yX8_held cX8_held 9 (some .int), Cond.methodLink RX8 72 yX8_gapAt, Cond.instanceMethod yX8_gapAt, Cond.selects RX8 yX8_gapAt yX8_gapAt, Cond.code yX8_gapAt cX8_gapAt 7 (some .int), Cond.methodLink RX8 64 yX8_far, Cond.instanceMethod yX8_far, Cond.selects RX8 yX8_far yX8_far, Cond.code yX8_far cX8_far 6 (some .int), Cond.methodLink RX8 60 yX8_beside]
def wsX8_note_r3 : List Cond := [Cond.instanceMethod yX8_beside, Cond.selects RX8 yX8_beside yX8_beside, Cond.code yX8_beside cX8_beside 3 (some .int), Cond.methodLink RX8 122 yX8_doneBy, Cond.instanceMethod yX8_doneBy, Cond.selects RX8 yX8_doneBy yX8_doneBy, Cond.code yX8_doneBy cX8_doneBy 2 (some .int), Cond.methodLink RX8 125 yX8_behind, Cond.instanceMethod yX8_behind, Cond.selects RX8 yX8_behind yX8_behind, Cond.code yX8_behind cX8_behind 5 (some .int)]
def wsX8_note : List Cond := .code yX8_note cX8_note 7 none :: ((wsX8_note_r1 ++ (wsX8_note_r2 ++ wsX8_note_r3)) ++ wsX80)
def wsX8_movers : List Cond := .code yX8_movers cX8_movers 2 (some .int) :: ([.fieldLink RX8 33 "RingMeetsModel" "moves" "[I", .methodLink RX8 86 yX8_standsOf, .instanceMethod yX8_standsOf, .selects RX8 yX8_standsOf yX8_standsOf, .initialized RX8, .code yX8_standsOf cX8_standsOf 4 (some .int), .fieldLink RX8 20 "RingMeetsModel" "power" "[I", .methodLink RX8 45 yX8_cells, .instanceMethod yX8_cells, .selects RX8 yX8_cells yX8_cells, .code yX8_cells cX8_cells 1 (some .int), .fieldLink RX8 7 "RingMeetsModel" "state" "[I"] ++ wsX80)
def wsX8_behindStep : List Cond := .code yX8_behindStep cX8_behindStep 7 (some .int) :: ([.fieldLink RX8 42 "RingMeetsModel" "come" "[I", .fieldLink RX8 20 "RingMeetsModel" "power" "[I", .fieldLink RX8 33 "RingMeetsModel" "moves" "[I", .methodLink RX8 45 yX8_cells, .instanceMethod yX8_cells, .selects RX8 yX8_cells yX8_cells, .initialized RX8, .code yX8_cells cX8_cells 1 (some .int), .fieldLink RX8 7 "RingMeetsModel" "state" "[I", .methodLink RX8 92 yX8_has, .static yX8_has, .code yX8_has cX8_has 2 (some .boolean), .methodLink RX8 60 yX8_beside, .instanceMethod yX8_beside, .selects RX8 yX8_beside yX8_beside, .code yX8_beside cX8_beside 3 (some .int)] ++ wsX80)
def wsX8_mayBe : List Cond := .code yX8_mayBe cX8_mayBe 3 (some .boolean) :: ([])
def wsX8_isMet : List Cond := .code yX8_isMet cX8_isMet 2 (some .boolean) :: ([.methodLink RX8 86 yX8_standsOf, .instanceMethod yX8_standsOf, .selects RX8 yX8_standsOf yX8_standsOf, .initialized RX8, .code yX8_standsOf cX8_standsOf 4 (some .int), .fieldLink RX8 20 "RingMeetsModel" "power" "[I", .methodLink RX8 45 yX8_cells, .instanceMethod yX8_cells, .selects RX8 yX8_cells yX8_cells, .code yX8_cells cX8_cells 1 (some .int), .fieldLink RX8 7 "RingMeetsModel" "state" "[I", .methodLink RX8 68 yX8_size, .static yX8_size, .code yX8_size cX8_size 3 (some .int)] ++ wsX80)
def wsX8_begin : List Cond := .code yX8_begin cX8_begin 3 none :: ([.constant RX8 26 (59049), .fieldLink RX8 30 "RingMeetsModel" "isListed" "[Z", .fieldLink RX8 128 "RingMeetsModel" "listed" "I", .fieldLink RX8 136 "RingMeetsModel" "usedRules" "I", .fieldLink RX8 132 "RingMeetsModel" "isBlind" "Z"] ++ wsX80)
def wsX8_look_r1 : List Cond := [Cond.fieldLink RX8 36 "RingMeetsModel" "soon" "[I", Cond.fieldLink RX8 39 "RingMeetsModel" "late" "[I", Cond.methodLink RX8 139 yX8_movers, Cond.instanceMethod yX8_movers, Cond.selects RX8 yX8_movers yX8_movers, Cond.initialized RX8, Cond.code yX8_movers cX8_movers 2 (some .int), Cond.fieldLink RX8 33 "RingMeetsModel" "moves" "[I", Cond.methodLink RX8 86 yX8_standsOf, Cond.instanceMethod yX8_standsOf, Cond.selects RX8 yX8_standsOf yX8_standsOf, Cond.code yX8_standsOf cX8_standsOf 4 (some .int), Cond.fieldLink RX8 20 "RingMeetsModel" "power" "[I", Cond.methodLink RX8 45 yX8_cells, Cond.instanceMethod yX8_cells, Cond.selects RX8 yX8_cells yX8_cells, Cond.code yX8_cells cX8_cells 1 (some .int), Cond.fieldLink RX8 7 "RingMeetsModel" "state" "[I", Cond.methodLink RX8 142 yX8_mayBe, Cond.static yX8_mayBe, Cond.code yX8_mayBe cX8_mayBe 3 (some .boolean), Cond.methodLink RX8 145 yX8_behindStep, Cond.instanceMethod yX8_behindStep, Cond.selects RX8 yX8_behindStep yX8_behindStep]
def wsX8_look_r2 : List Cond := [Cond.code yX8_behindStep cX8_behindStep 7 (some .int), Cond.fieldLink RX8 42 "RingMeetsModel" "come" "[I", Cond.methodLink RX8 92 yX8_has, Cond.static yX8_has, Cond.code yX8_has cX8_has 2 (some .boolean), Cond.methodLink RX8 60 yX8_beside, Cond.instanceMethod yX8_beside, Cond.selects RX8 yX8_beside yX8_beside, Cond.code yX8_beside cX8_beside 3 (some .int), Cond.methodLink RX8 49 yX8_in, Cond.static yX8_in, Cond.code yX8_in cX8_in 3 (some .boolean)]
def wsX8_look : List Cond := .code yX8_look cX8_look 9 (some .boolean) :: ((wsX8_look_r1 ++ wsX8_look_r2) ++ wsX80)
def wsX8_layRound_r1 : List Cond := [Cond.fieldLink RX8 128 "RingMeetsModel" "listed" "I", Cond.fieldLink RX8 27 "RingMeetsModel" "list" "[I", Cond.fieldLink RX8 36 "RingMeetsModel" "soon" "[I", Cond.fieldLink RX8 39 "RingMeetsModel" "late" "[I", Cond.methodLink RX8 158 yX8_look, Cond.instanceMethod yX8_look, Cond.selects RX8 yX8_look yX8_look, Cond.initialized RX8, Cond.code yX8_look cX8_look 9 (some .boolean), Cond.methodLink RX8 139 yX8_movers, Cond.instanceMethod yX8_movers, Cond.selects RX8 yX8_movers yX8_movers, Cond.code yX8_movers cX8_movers 2 (some .int), Cond.fieldLink RX8 33 "RingMeetsModel" "moves" "[I", Cond.methodLink RX8 86 yX8_standsOf, Cond.instanceMethod yX8_standsOf, Cond.selects RX8 yX8_standsOf yX8_standsOf, Cond.code yX8_standsOf cX8_standsOf 4 (some .int), Cond.fieldLink RX8 20 "RingMeetsModel" "power" "[I", Cond.methodLink RX8 45 yX8_cells, Cond.instanceMethod yX8_cells, Cond.selects RX8 yX8_cells yX8_cells, Cond.code yX8_cells cX8_cells 1 (some .int), Cond.fieldLink RX8 7 "RingMeetsModel" "state" "[I"]
def wsX8_layRound_r2 : List Cond := [Cond.methodLink RX8 142 yX8_mayBe, Cond.static yX8_mayBe, Cond.code yX8_mayBe cX8_mayBe 3 (some .boolean), Cond.methodLink RX8 145 yX8_behindStep, Cond.instanceMethod yX8_behindStep, Cond.selects RX8 yX8_behindStep yX8_behindStep, Cond.code yX8_behindStep cX8_behindStep 7 (some .int), Cond.fieldLink RX8 42 "RingMeetsModel" "come" "[I", Cond.methodLink RX8 92 yX8_has, Cond.static yX8_has, Cond.code yX8_has cX8_has 2 (some .boolean), Cond.methodLink RX8 60 yX8_beside, Cond.instanceMethod yX8_beside, Cond.selects RX8 yX8_beside yX8_beside, Cond.code yX8_beside cX8_beside 3 (some .int), Cond.methodLink RX8 49 yX8_in, Cond.static yX8_in, Cond.code yX8_in cX8_in 3 (some .boolean)]
def wsX8_layRound : List Cond := .code yX8_layRound cX8_layRound 6 (some .boolean) :: ((wsX8_layRound_r1 ++ wsX8_layRound_r2) ++ wsX80)
def wsX8_listAll_r1 : List Cond := [Cond.fieldLink RX8 128 "RingMeetsModel" "listed" "I", Cond.fieldLink RX8 27 "RingMeetsModel" "list" "[I", Cond.fieldLink RX8 36 "RingMeetsModel" "soon" "[I", Cond.fieldLink RX8 39 "RingMeetsModel" "late" "[I", Cond.methodLink RX8 139 yX8_movers, Cond.instanceMethod yX8_movers, Cond.selects RX8 yX8_movers yX8_movers, Cond.initialized RX8, Cond.code yX8_movers cX8_movers 2 (some .int), Cond.fieldLink RX8 33 "RingMeetsModel" "moves" "[I", Cond.methodLink RX8 86 yX8_standsOf, Cond.instanceMethod yX8_standsOf, Cond.selects RX8 yX8_standsOf yX8_standsOf, Cond.code yX8_standsOf cX8_standsOf 4 (some .int), Cond.fieldLink RX8 20 "RingMeetsModel" "power" "[I", Cond.methodLink RX8 45 yX8_cells, Cond.instanceMethod yX8_cells, Cond.selects RX8 yX8_cells yX8_cells, Cond.code yX8_cells cX8_cells 1 (some .int), Cond.fieldLink RX8 7 "RingMeetsModel" "state" "[I", Cond.methodLink RX8 142 yX8_mayBe, Cond.static yX8_mayBe, Cond.code yX8_mayBe cX8_mayBe 3 (some .boolean), Cond.methodLink RX8 145 yX8_behindStep]
def wsX8_listAll_r2 : List Cond := [Cond.instanceMethod yX8_behindStep, Cond.selects RX8 yX8_behindStep yX8_behindStep, Cond.code yX8_behindStep cX8_behindStep 7 (some .int), Cond.fieldLink RX8 42 "RingMeetsModel" "come" "[I", Cond.methodLink RX8 92 yX8_has, Cond.static yX8_has, Cond.code yX8_has cX8_has 2 (some .boolean), Cond.methodLink RX8 60 yX8_beside, Cond.instanceMethod yX8_beside, Cond.selects RX8 yX8_beside yX8_beside, Cond.code yX8_beside cX8_beside 3 (some .int), Cond.methodLink RX8 148 yX8_note, Cond.instanceMethod yX8_note, Cond.selects RX8 yX8_note yX8_note, Cond.code yX8_note cX8_note 7 none, Cond.fieldLink RX8 30 "RingMeetsModel" "isListed" "[Z", Cond.fieldLink RX8 132 "RingMeetsModel" "isBlind" "Z", Cond.fieldLink RX8 136 "RingMeetsModel" "usedRules" "I", Cond.methodLink RX8 118 yX8_ruleOf, Cond.instanceMethod yX8_ruleOf, Cond.selects RX8 yX8_ruleOf yX8_ruleOf, Cond.code yX8_ruleOf cX8_ruleOf 5 (some .int), Cond.methodLink RX8 114 yX8_fits, Cond.instanceMethod yX8_fits]
def wsX8_listAll_r3 : List Cond := [Cond.selects RX8 yX8_fits yX8_fits, Cond.code yX8_fits cX8_fits 8 (some .boolean), Cond.methodLink RX8 68 yX8_size, Cond.static yX8_size, Cond.code yX8_size cX8_size 3 (some .int), Cond.methodLink RX8 89 yX8_viewWay, Cond.instanceMethod yX8_viewWay, Cond.selects RX8 yX8_viewWay yX8_viewWay, Cond.code yX8_viewWay cX8_viewWay 3 (some .int), Cond.methodLink RX8 76 yX8_held, Cond.instanceMethod yX8_held, Cond.selects RX8 yX8_held yX8_held, Cond.code yX8_held cX8_held 9 (some .int), Cond.methodLink RX8 72 yX8_gapAt, Cond.instanceMethod yX8_gapAt, Cond.selects RX8 yX8_gapAt yX8_gapAt, Cond.code yX8_gapAt cX8_gapAt 7 (some .int), Cond.methodLink RX8 64 yX8_far, Cond.instanceMethod yX8_far, Cond.selects RX8 yX8_far yX8_far, Cond.code yX8_far cX8_far 6 (some .int), Cond.methodLink RX8 122 yX8_doneBy, Cond.instanceMethod yX8_doneBy, Cond.selects RX8 yX8_doneBy yX8_doneBy]
def wsX8_listAll_r4 : List Cond := [Cond.code yX8_doneBy cX8_doneBy 2 (some .int), Cond.methodLink RX8 125 yX8_behind, Cond.instanceMethod yX8_behind, Cond.selects RX8 yX8_behind yX8_behind, Cond.code yX8_behind cX8_behind 5 (some .int), Cond.methodLink RX8 152 yX8_isMet, Cond.instanceMethod yX8_isMet, Cond.selects RX8 yX8_isMet yX8_isMet, Cond.code yX8_isMet cX8_isMet 2 (some .boolean), Cond.methodLink RX8 155 yX8_layRound, Cond.instanceMethod yX8_layRound, Cond.selects RX8 yX8_layRound yX8_layRound, Cond.code yX8_layRound cX8_layRound 6 (some .boolean), Cond.methodLink RX8 158 yX8_look, Cond.instanceMethod yX8_look, Cond.selects RX8 yX8_look yX8_look, Cond.code yX8_look cX8_look 9 (some .boolean), Cond.methodLink RX8 49 yX8_in, Cond.static yX8_in, Cond.code yX8_in cX8_in 3 (some .boolean)]
def wsX8_listAll : List Cond := .code yX8_listAll cX8_listAll 6 none :: ((wsX8_listAll_r1 ++ (wsX8_listAll_r2 ++ (wsX8_listAll_r3 ++ wsX8_listAll_r4))) ++ wsX80)
def wsX8_kindOf : List Cond := .code yX8_kindOf cX8_kindOf 2 (some .int) :: ([.fieldLink RX8 39 "RingMeetsModel" "late" "[I", .fieldLink RX8 36 "RingMeetsModel" "soon" "[I", .methodLink RX8 152 yX8_isMet, .instanceMethod yX8_isMet, .selects RX8 yX8_isMet yX8_isMet, .initialized RX8, .code yX8_isMet cX8_isMet 2 (some .boolean), .methodLink RX8 86 yX8_standsOf, .instanceMethod yX8_standsOf, .selects RX8 yX8_standsOf yX8_standsOf, .code yX8_standsOf cX8_standsOf 4 (some .int), .fieldLink RX8 20 "RingMeetsModel" "power" "[I", .methodLink RX8 45 yX8_cells, .instanceMethod yX8_cells, .selects RX8 yX8_cells yX8_cells, .code yX8_cells cX8_cells 1 (some .int), .fieldLink RX8 7 "RingMeetsModel" "state" "[I", .methodLink RX8 68 yX8_size, .static yX8_size, .code yX8_size cX8_size 3 (some .int)] ++ wsX80)
def wsX8_layNow_r1 : List Cond := [Cond.methodLink RX8 161 yX8_begin, Cond.instanceMethod yX8_begin, Cond.selects RX8 yX8_begin yX8_begin, Cond.initialized RX8, Cond.code yX8_begin cX8_begin 3 none, Cond.constant RX8 26 (59049), Cond.fieldLink RX8 30 "RingMeetsModel" "isListed" "[Z", Cond.fieldLink RX8 128 "RingMeetsModel" "listed" "I", Cond.fieldLink RX8 136 "RingMeetsModel" "usedRules" "I", Cond.fieldLink RX8 132 "RingMeetsModel" "isBlind" "Z", Cond.methodLink RX8 83 yX8_now, Cond.instanceMethod yX8_now, Cond.selects RX8 yX8_now yX8_now, Cond.code yX8_now cX8_now 4 (some .int), Cond.fieldLink RX8 7 "RingMeetsModel" "state" "[I", Cond.fieldLink RX8 20 "RingMeetsModel" "power" "[I", Cond.methodLink RX8 45 yX8_cells, Cond.instanceMethod yX8_cells, Cond.selects RX8 yX8_cells yX8_cells, Cond.code yX8_cells cX8_cells 1 (some .int), Cond.methodLink RX8 148 yX8_note, Cond.instanceMethod yX8_note, Cond.selects RX8 yX8_note yX8_note, Cond.code yX8_note cX8_note 7 none]
def wsX8_layNow_r2 : List Cond := [Cond.fieldLink RX8 27 "RingMeetsModel" "list" "[I", Cond.fieldLink RX8 33 "RingMeetsModel" "moves" "[I", Cond.methodLink RX8 86 yX8_standsOf, Cond.instanceMethod yX8_standsOf, Cond.selects RX8 yX8_standsOf yX8_standsOf, Cond.code yX8_standsOf cX8_standsOf 4 (some .int), Cond.methodLink RX8 92 yX8_has, Cond.static yX8_has, Cond.code yX8_has cX8_has 2 (some .boolean), Cond.methodLink RX8 118 yX8_ruleOf, Cond.instanceMethod yX8_ruleOf, Cond.selects RX8 yX8_ruleOf yX8_ruleOf, Cond.code yX8_ruleOf cX8_ruleOf 5 (some .int), Cond.methodLink RX8 114 yX8_fits, Cond.instanceMethod yX8_fits, Cond.selects RX8 yX8_fits yX8_fits, Cond.code yX8_fits cX8_fits 8 (some .boolean), Cond.methodLink RX8 68 yX8_size, Cond.static yX8_size, Cond.code yX8_size cX8_size 3 (some .int), Cond.methodLink RX8 89 yX8_viewWay, Cond.instanceMethod yX8_viewWay, Cond.selects RX8 yX8_viewWay yX8_viewWay, Cond.code yX8_viewWay cX8_viewWay 3 (some .int)]
def wsX8_layNow_r3 : List Cond := [Cond.methodLink RX8 76 yX8_held, Cond.instanceMethod yX8_held, Cond.selects RX8 yX8_held yX8_held, Cond.code yX8_held cX8_held 9 (some .int), Cond.methodLink RX8 72 yX8_gapAt, Cond.instanceMethod yX8_gapAt, Cond.selects RX8 yX8_gapAt yX8_gapAt, Cond.code yX8_gapAt cX8_gapAt 7 (some .int), Cond.methodLink RX8 64 yX8_far, Cond.instanceMethod yX8_far, Cond.selects RX8 yX8_far yX8_far, Cond.code yX8_far cX8_far 6 (some .int), Cond.methodLink RX8 60 yX8_beside, Cond.instanceMethod yX8_beside, Cond.selects RX8 yX8_beside yX8_beside, Cond.code yX8_beside cX8_beside 3 (some .int), Cond.methodLink RX8 122 yX8_doneBy, Cond.instanceMethod yX8_doneBy, Cond.selects RX8 yX8_doneBy yX8_doneBy, Cond.code yX8_doneBy cX8_doneBy 2 (some .int), Cond.methodLink RX8 125 yX8_behind, Cond.instanceMethod yX8_behind, Cond.selects RX8 yX8_behind yX8_behind, Cond.code yX8_behind cX8_behind 5 (some .int)]
def wsX8_layNow_r4 : List Cond := [Cond.methodLink RX8 165 yX8_listAll, Cond.instanceMethod yX8_listAll, Cond.selects RX8 yX8_listAll yX8_listAll, Cond.code yX8_listAll cX8_listAll 6 none, Cond.fieldLink RX8 36 "RingMeetsModel" "soon" "[I", Cond.fieldLink RX8 39 "RingMeetsModel" "late" "[I", Cond.methodLink RX8 139 yX8_movers, Cond.instanceMethod yX8_movers, Cond.selects RX8 yX8_movers yX8_movers, Cond.code yX8_movers cX8_movers 2 (some .int), Cond.methodLink RX8 142 yX8_mayBe, Cond.static yX8_mayBe, Cond.code yX8_mayBe cX8_mayBe 3 (some .boolean), Cond.methodLink RX8 145 yX8_behindStep, Cond.instanceMethod yX8_behindStep, Cond.selects RX8 yX8_behindStep yX8_behindStep, Cond.code yX8_behindStep cX8_behindStep 7 (some .int), Cond.fieldLink RX8 42 "RingMeetsModel" "come" "[I", Cond.methodLink RX8 152 yX8_isMet, Cond.instanceMethod yX8_isMet, Cond.selects RX8 yX8_isMet yX8_isMet, Cond.code yX8_isMet cX8_isMet 2 (some .boolean), Cond.methodLink RX8 155 yX8_layRound, Cond.instanceMethod yX8_layRound]
def wsX8_layNow_r5 : List Cond := [Cond.selects RX8 yX8_layRound yX8_layRound, Cond.code yX8_layRound cX8_layRound 6 (some .boolean), Cond.methodLink RX8 158 yX8_look, Cond.instanceMethod yX8_look, Cond.selects RX8 yX8_look yX8_look, Cond.code yX8_look cX8_look 9 (some .boolean), Cond.methodLink RX8 49 yX8_in, Cond.static yX8_in, Cond.code yX8_in cX8_in 3 (some .boolean)]
def wsX8_layNow : List Cond := .code yX8_layNow cX8_layNow 3 none :: ((wsX8_layNow_r1 ++ (wsX8_layNow_r2 ++ (wsX8_layNow_r3 ++ (wsX8_layNow_r4 ++ wsX8_layNow_r5)))) ++ wsX80)
def wsX8_stuck_r1 : List Cond := [Cond.fieldLink RX8 128 "RingMeetsModel" "listed" "I", Cond.fieldLink RX8 27 "RingMeetsModel" "list" "[I", Cond.methodLink RX8 152 yX8_isMet, Cond.instanceMethod yX8_isMet, Cond.selects RX8 yX8_isMet yX8_isMet, Cond.initialized RX8, Cond.code yX8_isMet cX8_isMet 2 (some .boolean), Cond.methodLink RX8 86 yX8_standsOf, Cond.instanceMethod yX8_standsOf, Cond.selects RX8 yX8_standsOf yX8_standsOf, Cond.code yX8_standsOf cX8_standsOf 4 (some .int), Cond.fieldLink RX8 20 "RingMeetsModel" "power" "[I", Cond.methodLink RX8 45 yX8_cells, Cond.instanceMethod yX8_cells, Cond.selects RX8 yX8_cells yX8_cells, Cond.code yX8_cells cX8_cells 1 (some .int), Cond.fieldLink RX8 7 "RingMeetsModel" "state" "[I", Cond.methodLink RX8 68 yX8_size, Cond.static yX8_size, Cond.code yX8_size cX8_size 3 (some .int), Cond.methodLink RX8 139 yX8_movers, Cond.instanceMethod yX8_movers, Cond.selects RX8 yX8_movers yX8_movers, Cond.code yX8_movers cX8_movers 2 (some .int)]
def wsX8_stuck_r2 : List Cond := [Cond.fieldLink RX8 33 "RingMeetsModel" "moves" "[I"]
def wsX8_stuck : List Cond := .code yX8_stuck cX8_stuck 3 (some .int) :: ((wsX8_stuck_r1 ++ wsX8_stuck_r2) ++ wsX80)
def wsX8_meets_r1 : List Cond := [Cond.fieldLink RX8 36 "RingMeetsModel" "soon" "[I", Cond.fieldLink RX8 39 "RingMeetsModel" "late" "[I", Cond.fieldLink RX8 128 "RingMeetsModel" "listed" "I", Cond.methodLink RX8 168 yX8_isSchedule, Cond.static yX8_isSchedule, Cond.initialized RX8, Cond.code yX8_isSchedule cX8_isSchedule 1 (some .boolean), Cond.methodLink RX8 49 yX8_in, Cond.static yX8_in, Cond.code yX8_in cX8_in 3 (some .boolean), Cond.methodLink RX8 83 yX8_now, Cond.instanceMethod yX8_now, Cond.selects RX8 yX8_now yX8_now, Cond.code yX8_now cX8_now 4 (some .int), Cond.fieldLink RX8 7 "RingMeetsModel" "state" "[I", Cond.fieldLink RX8 20 "RingMeetsModel" "power" "[I", Cond.methodLink RX8 45 yX8_cells, Cond.instanceMethod yX8_cells, Cond.selects RX8 yX8_cells yX8_cells, Cond.code yX8_cells cX8_cells 1 (some .int), Cond.methodLink RX8 171 yX8_layNow, Cond.instanceMethod yX8_layNow, Cond.selects RX8 yX8_layNow yX8_layNow, Cond.code yX8_layNow cX8_layNow 3 none]
def wsX8_meets_r2 : List Cond := [Cond.methodLink RX8 161 yX8_begin, Cond.instanceMethod yX8_begin, Cond.selects RX8 yX8_begin yX8_begin, Cond.code yX8_begin cX8_begin 3 none, Cond.constant RX8 26 (59049), Cond.fieldLink RX8 30 "RingMeetsModel" "isListed" "[Z", Cond.fieldLink RX8 136 "RingMeetsModel" "usedRules" "I", Cond.fieldLink RX8 132 "RingMeetsModel" "isBlind" "Z", Cond.methodLink RX8 148 yX8_note, Cond.instanceMethod yX8_note, Cond.selects RX8 yX8_note yX8_note, Cond.code yX8_note cX8_note 7 none, Cond.fieldLink RX8 27 "RingMeetsModel" "list" "[I", Cond.fieldLink RX8 33 "RingMeetsModel" "moves" "[I", Cond.methodLink RX8 86 yX8_standsOf, Cond.instanceMethod yX8_standsOf, Cond.selects RX8 yX8_standsOf yX8_standsOf, Cond.code yX8_standsOf cX8_standsOf 4 (some .int), Cond.methodLink RX8 92 yX8_has, Cond.static yX8_has, Cond.code yX8_has cX8_has 2 (some .boolean), Cond.methodLink RX8 118 yX8_ruleOf, Cond.instanceMethod yX8_ruleOf, Cond.selects RX8 yX8_ruleOf yX8_ruleOf]
def wsX8_meets_r3 : List Cond := [Cond.code yX8_ruleOf cX8_ruleOf 5 (some .int), Cond.methodLink RX8 114 yX8_fits, Cond.instanceMethod yX8_fits, Cond.selects RX8 yX8_fits yX8_fits, Cond.code yX8_fits cX8_fits 8 (some .boolean), Cond.methodLink RX8 68 yX8_size, Cond.static yX8_size, Cond.code yX8_size cX8_size 3 (some .int), Cond.methodLink RX8 89 yX8_viewWay, Cond.instanceMethod yX8_viewWay, Cond.selects RX8 yX8_viewWay yX8_viewWay, Cond.code yX8_viewWay cX8_viewWay 3 (some .int), Cond.methodLink RX8 76 yX8_held, Cond.instanceMethod yX8_held, Cond.selects RX8 yX8_held yX8_held, Cond.code yX8_held cX8_held 9 (some .int), Cond.methodLink RX8 72 yX8_gapAt, Cond.instanceMethod yX8_gapAt, Cond.selects RX8 yX8_gapAt yX8_gapAt, Cond.code yX8_gapAt cX8_gapAt 7 (some .int), Cond.methodLink RX8 64 yX8_far, Cond.instanceMethod yX8_far, Cond.selects RX8 yX8_far yX8_far, Cond.code yX8_far cX8_far 6 (some .int)]
def wsX8_meets_r4 : List Cond := [Cond.methodLink RX8 60 yX8_beside, Cond.instanceMethod yX8_beside, Cond.selects RX8 yX8_beside yX8_beside, Cond.code yX8_beside cX8_beside 3 (some .int), Cond.methodLink RX8 122 yX8_doneBy, Cond.instanceMethod yX8_doneBy, Cond.selects RX8 yX8_doneBy yX8_doneBy, Cond.code yX8_doneBy cX8_doneBy 2 (some .int), Cond.methodLink RX8 125 yX8_behind, Cond.instanceMethod yX8_behind, Cond.selects RX8 yX8_behind yX8_behind, Cond.code yX8_behind cX8_behind 5 (some .int), Cond.methodLink RX8 165 yX8_listAll, Cond.instanceMethod yX8_listAll, Cond.selects RX8 yX8_listAll yX8_listAll, Cond.code yX8_listAll cX8_listAll 6 none, Cond.methodLink RX8 139 yX8_movers, Cond.instanceMethod yX8_movers, Cond.selects RX8 yX8_movers yX8_movers, Cond.code yX8_movers cX8_movers 2 (some .int), Cond.methodLink RX8 142 yX8_mayBe, Cond.static yX8_mayBe, Cond.code yX8_mayBe cX8_mayBe 3 (some .boolean), Cond.methodLink RX8 145 yX8_behindStep]
def wsX8_meets_r5 : List Cond := [Cond.instanceMethod yX8_behindStep, Cond.selects RX8 yX8_behindStep yX8_behindStep, Cond.code yX8_behindStep cX8_behindStep 7 (some .int), Cond.fieldLink RX8 42 "RingMeetsModel" "come" "[I", Cond.methodLink RX8 152 yX8_isMet, Cond.instanceMethod yX8_isMet, Cond.selects RX8 yX8_isMet yX8_isMet, Cond.code yX8_isMet cX8_isMet 2 (some .boolean), Cond.methodLink RX8 155 yX8_layRound, Cond.instanceMethod yX8_layRound, Cond.selects RX8 yX8_layRound yX8_layRound, Cond.code yX8_layRound cX8_layRound 6 (some .boolean), Cond.methodLink RX8 158 yX8_look, Cond.instanceMethod yX8_look, Cond.selects RX8 yX8_look yX8_look, Cond.code yX8_look cX8_look 9 (some .boolean), Cond.methodLink RX8 175 yX8_kindOf, Cond.instanceMethod yX8_kindOf, Cond.selects RX8 yX8_kindOf yX8_kindOf, Cond.code yX8_kindOf cX8_kindOf 2 (some .int), Cond.methodLink RX8 178 yX8_stuck, Cond.instanceMethod yX8_stuck, Cond.selects RX8 yX8_stuck yX8_stuck, Cond.code yX8_stuck cX8_stuck 3 (some .int)]
def wsX8_meets : List Cond := .code yX8_meets cX8_meets 4 (some .int) :: ((wsX8_meets_r1 ++ (wsX8_meets_r2 ++ (wsX8_meets_r3 ++ (wsX8_meets_r4 ++ wsX8_meets_r5)))) ++ wsX80)
def wsX8_first_r1 : List Cond := [Cond.fieldLink RX8 36 "RingMeetsModel" "soon" "[I", Cond.methodLink RX8 168 yX8_isSchedule, Cond.static yX8_isSchedule, Cond.initialized RX8, Cond.code yX8_isSchedule cX8_isSchedule 1 (some .boolean), Cond.methodLink RX8 49 yX8_in, Cond.static yX8_in, Cond.code yX8_in cX8_in 3 (some .boolean), Cond.methodLink RX8 83 yX8_now, Cond.instanceMethod yX8_now, Cond.selects RX8 yX8_now yX8_now, Cond.code yX8_now cX8_now 4 (some .int), Cond.fieldLink RX8 7 "RingMeetsModel" "state" "[I", Cond.fieldLink RX8 20 "RingMeetsModel" "power" "[I", Cond.methodLink RX8 45 yX8_cells, Cond.instanceMethod yX8_cells, Cond.selects RX8 yX8_cells yX8_cells, Cond.code yX8_cells cX8_cells 1 (some .int), Cond.methodLink RX8 171 yX8_layNow, Cond.instanceMethod yX8_layNow, Cond.selects RX8 yX8_layNow yX8_layNow, Cond.code yX8_layNow cX8_layNow 3 none, Cond.methodLink RX8 161 yX8_begin, Cond.instanceMethod yX8_begin]
def wsX8_first_r2 : List Cond := [Cond.selects RX8 yX8_begin yX8_begin, Cond.code yX8_begin cX8_begin 3 none, Cond.constant RX8 26 (59049), Cond.fieldLink RX8 30 "RingMeetsModel" "isListed" "[Z", Cond.fieldLink RX8 128 "RingMeetsModel" "listed" "I", Cond.fieldLink RX8 136 "RingMeetsModel" "usedRules" "I", Cond.fieldLink RX8 132 "RingMeetsModel" "isBlind" "Z", Cond.methodLink RX8 148 yX8_note, Cond.instanceMethod yX8_note, Cond.selects RX8 yX8_note yX8_note, Cond.code yX8_note cX8_note 7 none, Cond.fieldLink RX8 27 "RingMeetsModel" "list" "[I", Cond.fieldLink RX8 33 "RingMeetsModel" "moves" "[I", Cond.methodLink RX8 86 yX8_standsOf, Cond.instanceMethod yX8_standsOf, Cond.selects RX8 yX8_standsOf yX8_standsOf, Cond.code yX8_standsOf cX8_standsOf 4 (some .int), Cond.methodLink RX8 92 yX8_has, Cond.static yX8_has, Cond.code yX8_has cX8_has 2 (some .boolean), Cond.methodLink RX8 118 yX8_ruleOf, Cond.instanceMethod yX8_ruleOf, Cond.selects RX8 yX8_ruleOf yX8_ruleOf, Cond.code yX8_ruleOf cX8_ruleOf 5 (some .int)]
def wsX8_first_r3 : List Cond := [Cond.methodLink RX8 114 yX8_fits, Cond.instanceMethod yX8_fits, Cond.selects RX8 yX8_fits yX8_fits, Cond.code yX8_fits cX8_fits 8 (some .boolean), Cond.methodLink RX8 68 yX8_size, Cond.static yX8_size, Cond.code yX8_size cX8_size 3 (some .int), Cond.methodLink RX8 89 yX8_viewWay, Cond.instanceMethod yX8_viewWay, Cond.selects RX8 yX8_viewWay yX8_viewWay, Cond.code yX8_viewWay cX8_viewWay 3 (some .int), Cond.methodLink RX8 76 yX8_held, Cond.instanceMethod yX8_held, Cond.selects RX8 yX8_held yX8_held, Cond.code yX8_held cX8_held 9 (some .int), Cond.methodLink RX8 72 yX8_gapAt, Cond.instanceMethod yX8_gapAt, Cond.selects RX8 yX8_gapAt yX8_gapAt, Cond.code yX8_gapAt cX8_gapAt 7 (some .int), Cond.methodLink RX8 64 yX8_far, Cond.instanceMethod yX8_far, Cond.selects RX8 yX8_far yX8_far, Cond.code yX8_far cX8_far 6 (some .int), Cond.methodLink RX8 60 yX8_beside]
def wsX8_first_r4 : List Cond := [Cond.instanceMethod yX8_beside, Cond.selects RX8 yX8_beside yX8_beside, Cond.code yX8_beside cX8_beside 3 (some .int), Cond.methodLink RX8 122 yX8_doneBy, Cond.instanceMethod yX8_doneBy, Cond.selects RX8 yX8_doneBy yX8_doneBy, Cond.code yX8_doneBy cX8_doneBy 2 (some .int), Cond.methodLink RX8 125 yX8_behind, Cond.instanceMethod yX8_behind, Cond.selects RX8 yX8_behind yX8_behind, Cond.code yX8_behind cX8_behind 5 (some .int), Cond.methodLink RX8 165 yX8_listAll, Cond.instanceMethod yX8_listAll, Cond.selects RX8 yX8_listAll yX8_listAll, Cond.code yX8_listAll cX8_listAll 6 none, Cond.fieldLink RX8 39 "RingMeetsModel" "late" "[I", Cond.methodLink RX8 139 yX8_movers, Cond.instanceMethod yX8_movers, Cond.selects RX8 yX8_movers yX8_movers, Cond.code yX8_movers cX8_movers 2 (some .int), Cond.methodLink RX8 142 yX8_mayBe, Cond.static yX8_mayBe, Cond.code yX8_mayBe cX8_mayBe 3 (some .boolean), Cond.methodLink RX8 145 yX8_behindStep]
def wsX8_first_r5 : List Cond := [Cond.instanceMethod yX8_behindStep, Cond.selects RX8 yX8_behindStep yX8_behindStep, Cond.code yX8_behindStep cX8_behindStep 7 (some .int), Cond.fieldLink RX8 42 "RingMeetsModel" "come" "[I", Cond.methodLink RX8 152 yX8_isMet, Cond.instanceMethod yX8_isMet, Cond.selects RX8 yX8_isMet yX8_isMet, Cond.code yX8_isMet cX8_isMet 2 (some .boolean), Cond.methodLink RX8 155 yX8_layRound, Cond.instanceMethod yX8_layRound, Cond.selects RX8 yX8_layRound yX8_layRound, Cond.code yX8_layRound cX8_layRound 6 (some .boolean), Cond.methodLink RX8 158 yX8_look, Cond.instanceMethod yX8_look, Cond.selects RX8 yX8_look yX8_look, Cond.code yX8_look cX8_look 9 (some .boolean)]
def wsX8_first : List Cond := .code yX8_first cX8_first 5 (some .int) :: ((wsX8_first_r1 ++ (wsX8_first_r2 ++ (wsX8_first_r3 ++ (wsX8_first_r4 ++ wsX8_first_r5)))) ++ wsX80)
def wsX8_blind_r1 : List Cond := [Cond.methodLink RX8 168 yX8_isSchedule, Cond.static yX8_isSchedule, Cond.initialized RX8, Cond.code yX8_isSchedule cX8_isSchedule 1 (some .boolean), Cond.methodLink RX8 49 yX8_in, Cond.static yX8_in, Cond.code yX8_in cX8_in 3 (some .boolean), Cond.methodLink RX8 83 yX8_now, Cond.instanceMethod yX8_now, Cond.selects RX8 yX8_now yX8_now, Cond.code yX8_now cX8_now 4 (some .int), Cond.fieldLink RX8 7 "RingMeetsModel" "state" "[I", Cond.fieldLink RX8 20 "RingMeetsModel" "power" "[I", Cond.methodLink RX8 45 yX8_cells, Cond.instanceMethod yX8_cells, Cond.selects RX8 yX8_cells yX8_cells, Cond.code yX8_cells cX8_cells 1 (some .int), Cond.methodLink RX8 171 yX8_layNow, Cond.instanceMethod yX8_layNow, Cond.selects RX8 yX8_layNow yX8_layNow, Cond.code yX8_layNow cX8_layNow 3 none, Cond.methodLink RX8 161 yX8_begin, Cond.instanceMethod yX8_begin, Cond.selects RX8 yX8_begin yX8_begin]
def wsX8_blind_r2 : List Cond := [Cond.code yX8_begin cX8_begin 3 none, Cond.constant RX8 26 (59049), Cond.fieldLink RX8 30 "RingMeetsModel" "isListed" "[Z", Cond.fieldLink RX8 128 "RingMeetsModel" "listed" "I", Cond.fieldLink RX8 136 "RingMeetsModel" "usedRules" "I", Cond.fieldLink RX8 132 "RingMeetsModel" "isBlind" "Z", Cond.methodLink RX8 148 yX8_note, Cond.instanceMethod yX8_note, Cond.selects RX8 yX8_note yX8_note, Cond.code yX8_note cX8_note 7 none, Cond.fieldLink RX8 27 "RingMeetsModel" "list" "[I", Cond.fieldLink RX8 33 "RingMeetsModel" "moves" "[I", Cond.methodLink RX8 86 yX8_standsOf, Cond.instanceMethod yX8_standsOf, Cond.selects RX8 yX8_standsOf yX8_standsOf, Cond.code yX8_standsOf cX8_standsOf 4 (some .int), Cond.methodLink RX8 92 yX8_has, Cond.static yX8_has, Cond.code yX8_has cX8_has 2 (some .boolean), Cond.methodLink RX8 118 yX8_ruleOf, Cond.instanceMethod yX8_ruleOf, Cond.selects RX8 yX8_ruleOf yX8_ruleOf, Cond.code yX8_ruleOf cX8_ruleOf 5 (some .int), Cond.methodLink RX8 114 yX8_fits]
def wsX8_blind_r3 : List Cond := [Cond.instanceMethod yX8_fits, Cond.selects RX8 yX8_fits yX8_fits, Cond.code yX8_fits cX8_fits 8 (some .boolean), Cond.methodLink RX8 68 yX8_size, Cond.static yX8_size, Cond.code yX8_size cX8_size 3 (some .int), Cond.methodLink RX8 89 yX8_viewWay, Cond.instanceMethod yX8_viewWay, Cond.selects RX8 yX8_viewWay yX8_viewWay, Cond.code yX8_viewWay cX8_viewWay 3 (some .int), Cond.methodLink RX8 76 yX8_held, Cond.instanceMethod yX8_held, Cond.selects RX8 yX8_held yX8_held, Cond.code yX8_held cX8_held 9 (some .int), Cond.methodLink RX8 72 yX8_gapAt, Cond.instanceMethod yX8_gapAt, Cond.selects RX8 yX8_gapAt yX8_gapAt, Cond.code yX8_gapAt cX8_gapAt 7 (some .int), Cond.methodLink RX8 64 yX8_far, Cond.instanceMethod yX8_far, Cond.selects RX8 yX8_far yX8_far, Cond.code yX8_far cX8_far 6 (some .int), Cond.methodLink RX8 60 yX8_beside, Cond.instanceMethod yX8_beside]
def wsX8_blind_r4 : List Cond := [Cond.selects RX8 yX8_beside yX8_beside, Cond.code yX8_beside cX8_beside 3 (some .int), Cond.methodLink RX8 122 yX8_doneBy, Cond.instanceMethod yX8_doneBy, Cond.selects RX8 yX8_doneBy yX8_doneBy, Cond.code yX8_doneBy cX8_doneBy 2 (some .int), Cond.methodLink RX8 125 yX8_behind, Cond.instanceMethod yX8_behind, Cond.selects RX8 yX8_behind yX8_behind, Cond.code yX8_behind cX8_behind 5 (some .int), Cond.methodLink RX8 165 yX8_listAll, Cond.instanceMethod yX8_listAll, Cond.selects RX8 yX8_listAll yX8_listAll, Cond.code yX8_listAll cX8_listAll 6 none, Cond.fieldLink RX8 36 "RingMeetsModel" "soon" "[I", Cond.fieldLink RX8 39 "RingMeetsModel" "late" "[I", Cond.methodLink RX8 139 yX8_movers, Cond.instanceMethod yX8_movers, Cond.selects RX8 yX8_movers yX8_movers, Cond.code yX8_movers cX8_movers 2 (some .int), Cond.methodLink RX8 142 yX8_mayBe, Cond.static yX8_mayBe, Cond.code yX8_mayBe cX8_mayBe 3 (some .boolean), Cond.methodLink RX8 145 yX8_behindStep]
def wsX8_blind_r5 : List Cond := [Cond.instanceMethod yX8_behindStep, Cond.selects RX8 yX8_behindStep yX8_behindStep, Cond.code yX8_behindStep cX8_behindStep 7 (some .int), Cond.fieldLink RX8 42 "RingMeetsModel" "come" "[I", Cond.methodLink RX8 152 yX8_isMet, Cond.instanceMethod yX8_isMet, Cond.selects RX8 yX8_isMet yX8_isMet, Cond.code yX8_isMet cX8_isMet 2 (some .boolean), Cond.methodLink RX8 155 yX8_layRound, Cond.instanceMethod yX8_layRound, Cond.selects RX8 yX8_layRound yX8_layRound, Cond.code yX8_layRound cX8_layRound 6 (some .boolean), Cond.methodLink RX8 158 yX8_look, Cond.instanceMethod yX8_look, Cond.selects RX8 yX8_look yX8_look, Cond.code yX8_look cX8_look 9 (some .boolean), Cond.methodLink RX8 175 yX8_kindOf, Cond.instanceMethod yX8_kindOf, Cond.selects RX8 yX8_kindOf yX8_kindOf, Cond.code yX8_kindOf cX8_kindOf 2 (some .int)]
def wsX8_blind : List Cond := .code yX8_blind cX8_blind 3 (some .int) :: ((wsX8_blind_r1 ++ (wsX8_blind_r2 ++ (wsX8_blind_r3 ++ (wsX8_blind_r4 ++ wsX8_blind_r5)))) ++ wsX80)
def wsX8_used_r1 : List Cond := [Cond.fieldLink RX8 136 "RingMeetsModel" "usedRules" "I", Cond.methodLink RX8 168 yX8_isSchedule, Cond.static yX8_isSchedule, Cond.initialized RX8, Cond.code yX8_isSchedule cX8_isSchedule 1 (some .boolean), Cond.methodLink RX8 49 yX8_in, Cond.static yX8_in, Cond.code yX8_in cX8_in 3 (some .boolean), Cond.methodLink RX8 83 yX8_now, Cond.instanceMethod yX8_now, Cond.selects RX8 yX8_now yX8_now, Cond.code yX8_now cX8_now 4 (some .int), Cond.fieldLink RX8 7 "RingMeetsModel" "state" "[I", Cond.fieldLink RX8 20 "RingMeetsModel" "power" "[I", Cond.methodLink RX8 45 yX8_cells, Cond.instanceMethod yX8_cells, Cond.selects RX8 yX8_cells yX8_cells, Cond.code yX8_cells cX8_cells 1 (some .int), Cond.methodLink RX8 171 yX8_layNow, Cond.instanceMethod yX8_layNow, Cond.selects RX8 yX8_layNow yX8_layNow, Cond.code yX8_layNow cX8_layNow 3 none, Cond.methodLink RX8 161 yX8_begin, Cond.instanceMethod yX8_begin]
def wsX8_used_r2 : List Cond := [Cond.selects RX8 yX8_begin yX8_begin, Cond.code yX8_begin cX8_begin 3 none, Cond.constant RX8 26 (59049), Cond.fieldLink RX8 30 "RingMeetsModel" "isListed" "[Z", Cond.fieldLink RX8 128 "RingMeetsModel" "listed" "I", Cond.fieldLink RX8 132 "RingMeetsModel" "isBlind" "Z", Cond.methodLink RX8 148 yX8_note, Cond.instanceMethod yX8_note, Cond.selects RX8 yX8_note yX8_note, Cond.code yX8_note cX8_note 7 none, Cond.fieldLink RX8 27 "RingMeetsModel" "list" "[I", Cond.fieldLink RX8 33 "RingMeetsModel" "moves" "[I", Cond.methodLink RX8 86 yX8_standsOf, Cond.instanceMethod yX8_standsOf, Cond.selects RX8 yX8_standsOf yX8_standsOf, Cond.code yX8_standsOf cX8_standsOf 4 (some .int), Cond.methodLink RX8 92 yX8_has, Cond.static yX8_has, Cond.code yX8_has cX8_has 2 (some .boolean), Cond.methodLink RX8 118 yX8_ruleOf, Cond.instanceMethod yX8_ruleOf, Cond.selects RX8 yX8_ruleOf yX8_ruleOf, Cond.code yX8_ruleOf cX8_ruleOf 5 (some .int), Cond.methodLink RX8 114 yX8_fits]
def wsX8_used_r3 : List Cond := [Cond.instanceMethod yX8_fits, Cond.selects RX8 yX8_fits yX8_fits, Cond.code yX8_fits cX8_fits 8 (some .boolean), Cond.methodLink RX8 68 yX8_size, Cond.static yX8_size, Cond.code yX8_size cX8_size 3 (some .int), Cond.methodLink RX8 89 yX8_viewWay, Cond.instanceMethod yX8_viewWay, Cond.selects RX8 yX8_viewWay yX8_viewWay, Cond.code yX8_viewWay cX8_viewWay 3 (some .int), Cond.methodLink RX8 76 yX8_held, Cond.instanceMethod yX8_held, Cond.selects RX8 yX8_held yX8_held, Cond.code yX8_held cX8_held 9 (some .int), Cond.methodLink RX8 72 yX8_gapAt, Cond.instanceMethod yX8_gapAt, Cond.selects RX8 yX8_gapAt yX8_gapAt, Cond.code yX8_gapAt cX8_gapAt 7 (some .int), Cond.methodLink RX8 64 yX8_far, Cond.instanceMethod yX8_far, Cond.selects RX8 yX8_far yX8_far, Cond.code yX8_far cX8_far 6 (some .int), Cond.methodLink RX8 60 yX8_beside, Cond.instanceMethod yX8_beside]
def wsX8_used_r4 : List Cond := [Cond.selects RX8 yX8_beside yX8_beside, Cond.code yX8_beside cX8_beside 3 (some .int), Cond.methodLink RX8 122 yX8_doneBy, Cond.instanceMethod yX8_doneBy, Cond.selects RX8 yX8_doneBy yX8_doneBy, Cond.code yX8_doneBy cX8_doneBy 2 (some .int), Cond.methodLink RX8 125 yX8_behind, Cond.instanceMethod yX8_behind, Cond.selects RX8 yX8_behind yX8_behind, Cond.code yX8_behind cX8_behind 5 (some .int), Cond.methodLink RX8 165 yX8_listAll, Cond.instanceMethod yX8_listAll, Cond.selects RX8 yX8_listAll yX8_listAll, Cond.code yX8_listAll cX8_listAll 6 none, Cond.fieldLink RX8 36 "RingMeetsModel" "soon" "[I", Cond.fieldLink RX8 39 "RingMeetsModel" "late" "[I", Cond.methodLink RX8 139 yX8_movers, Cond.instanceMethod yX8_movers, Cond.selects RX8 yX8_movers yX8_movers, Cond.code yX8_movers cX8_movers 2 (some .int), Cond.methodLink RX8 142 yX8_mayBe, Cond.static yX8_mayBe, Cond.code yX8_mayBe cX8_mayBe 3 (some .boolean), Cond.methodLink RX8 145 yX8_behindStep]
def wsX8_used_r5 : List Cond := [Cond.instanceMethod yX8_behindStep, Cond.selects RX8 yX8_behindStep yX8_behindStep, Cond.code yX8_behindStep cX8_behindStep 7 (some .int), Cond.fieldLink RX8 42 "RingMeetsModel" "come" "[I", Cond.methodLink RX8 152 yX8_isMet, Cond.instanceMethod yX8_isMet, Cond.selects RX8 yX8_isMet yX8_isMet, Cond.code yX8_isMet cX8_isMet 2 (some .boolean), Cond.methodLink RX8 155 yX8_layRound, Cond.instanceMethod yX8_layRound, Cond.selects RX8 yX8_layRound yX8_layRound, Cond.code yX8_layRound cX8_layRound 6 (some .boolean), Cond.methodLink RX8 158 yX8_look, Cond.instanceMethod yX8_look, Cond.selects RX8 yX8_look yX8_look, Cond.code yX8_look cX8_look 9 (some .boolean)]
def wsX8_used : List Cond := .code yX8_used cX8_used 2 (some .int) :: ((wsX8_used_r1 ++ (wsX8_used_r2 ++ (wsX8_used_r3 ++ (wsX8_used_r4 ++ wsX8_used_r5)))) ++ wsX80)
def wsX8_singles : List Cond := .code yX8_singles cX8_singles 4 (some .int) :: ([.fieldLink RX8 20 "RingMeetsModel" "power" "[I", .methodLink RX8 45 yX8_cells, .instanceMethod yX8_cells, .selects RX8 yX8_cells yX8_cells, .initialized RX8, .code yX8_cells cX8_cells 1 (some .int), .fieldLink RX8 7 "RingMeetsModel" "state" "[I", .methodLink RX8 92 yX8_has, .static yX8_has, .code yX8_has cX8_has 2 (some .boolean)] ++ wsX80)
def wsX8_all_r1 : List Cond := [Cond.methodLink RX8 49 yX8_in, Cond.static yX8_in, Cond.initialized RX8, Cond.code yX8_in cX8_in 3 (some .boolean), Cond.methodLink RX8 45 yX8_cells, Cond.instanceMethod yX8_cells, Cond.selects RX8 yX8_cells yX8_cells, Cond.code yX8_cells cX8_cells 1 (some .int), Cond.fieldLink RX8 7 "RingMeetsModel" "state" "[I", Cond.methodLink RX8 168 yX8_isSchedule, Cond.static yX8_isSchedule, Cond.code yX8_isSchedule cX8_isSchedule 1 (some .boolean), Cond.methodLink RX8 161 yX8_begin, Cond.instanceMethod yX8_begin, Cond.selects RX8 yX8_begin yX8_begin, Cond.code yX8_begin cX8_begin 3 none, Cond.constant RX8 26 (59049), Cond.fieldLink RX8 30 "RingMeetsModel" "isListed" "[Z", Cond.fieldLink RX8 128 "RingMeetsModel" "listed" "I", Cond.fieldLink RX8 136 "RingMeetsModel" "usedRules" "I", Cond.fieldLink RX8 132 "RingMeetsModel" "isBlind" "Z", Cond.methodLink RX8 68 yX8_size, Cond.static yX8_size, Cond.code yX8_size cX8_size 3 (some .int)]
def wsX8_all_r2 : List Cond := [Cond.methodLink RX8 181 yX8_singles, Cond.instanceMethod yX8_singles, Cond.selects RX8 yX8_singles yX8_singles, Cond.code yX8_singles cX8_singles 4 (some .int), Cond.fieldLink RX8 20 "RingMeetsModel" "power" "[I", Cond.methodLink RX8 92 yX8_has, Cond.static yX8_has, Cond.code yX8_has cX8_has 2 (some .boolean), Cond.methodLink RX8 148 yX8_note, Cond.instanceMethod yX8_note, Cond.selects RX8 yX8_note yX8_note, Cond.code yX8_note cX8_note 7 none, Cond.fieldLink RX8 27 "RingMeetsModel" "list" "[I", Cond.fieldLink RX8 33 "RingMeetsModel" "moves" "[I", Cond.methodLink RX8 86 yX8_standsOf, Cond.instanceMethod yX8_standsOf, Cond.selects RX8 yX8_standsOf yX8_standsOf, Cond.code yX8_standsOf cX8_standsOf 4 (some .int), Cond.methodLink RX8 118 yX8_ruleOf, Cond.instanceMethod yX8_ruleOf, Cond.selects RX8 yX8_ruleOf yX8_ruleOf, Cond.code yX8_ruleOf cX8_ruleOf 5 (some .int), Cond.methodLink RX8 114 yX8_fits, Cond.instanceMethod yX8_fits]
def wsX8_all_r3 : List Cond := [Cond.selects RX8 yX8_fits yX8_fits, Cond.code yX8_fits cX8_fits 8 (some .boolean), Cond.methodLink RX8 89 yX8_viewWay, Cond.instanceMethod yX8_viewWay, Cond.selects RX8 yX8_viewWay yX8_viewWay, Cond.code yX8_viewWay cX8_viewWay 3 (some .int), Cond.methodLink RX8 76 yX8_held, Cond.instanceMethod yX8_held, Cond.selects RX8 yX8_held yX8_held, Cond.code yX8_held cX8_held 9 (some .int), Cond.methodLink RX8 72 yX8_gapAt, Cond.instanceMethod yX8_gapAt, Cond.selects RX8 yX8_gapAt yX8_gapAt, Cond.code yX8_gapAt cX8_gapAt 7 (some .int), Cond.methodLink RX8 64 yX8_far, Cond.instanceMethod yX8_far, Cond.selects RX8 yX8_far yX8_far, Cond.code yX8_far cX8_far 6 (some .int), Cond.methodLink RX8 60 yX8_beside, Cond.instanceMethod yX8_beside, Cond.selects RX8 yX8_beside yX8_beside, Cond.code yX8_beside cX8_beside 3 (some .int), Cond.methodLink RX8 122 yX8_doneBy, Cond.instanceMethod yX8_doneBy]
def wsX8_all_r4 : List Cond := [Cond.selects RX8 yX8_doneBy yX8_doneBy, Cond.code yX8_doneBy cX8_doneBy 2 (some .int), Cond.methodLink RX8 125 yX8_behind, Cond.instanceMethod yX8_behind, Cond.selects RX8 yX8_behind yX8_behind, Cond.code yX8_behind cX8_behind 5 (some .int), Cond.methodLink RX8 165 yX8_listAll, Cond.instanceMethod yX8_listAll, Cond.selects RX8 yX8_listAll yX8_listAll, Cond.code yX8_listAll cX8_listAll 6 none, Cond.fieldLink RX8 36 "RingMeetsModel" "soon" "[I", Cond.fieldLink RX8 39 "RingMeetsModel" "late" "[I", Cond.methodLink RX8 139 yX8_movers, Cond.instanceMethod yX8_movers, Cond.selects RX8 yX8_movers yX8_movers, Cond.code yX8_movers cX8_movers 2 (some .int), Cond.methodLink RX8 142 yX8_mayBe, Cond.static yX8_mayBe, Cond.code yX8_mayBe cX8_mayBe 3 (some .boolean), Cond.methodLink RX8 145 yX8_behindStep, Cond.instanceMethod yX8_behindStep, Cond.selects RX8 yX8_behindStep yX8_behindStep, Cond.code yX8_behindStep cX8_behindStep 7 (some .int), Cond.fieldLink RX8 42 "RingMeetsModel" "come" "[I"]
def wsX8_all_r5 : List Cond := [Cond.methodLink RX8 152 yX8_isMet, Cond.instanceMethod yX8_isMet, Cond.selects RX8 yX8_isMet yX8_isMet, Cond.code yX8_isMet cX8_isMet 2 (some .boolean), Cond.methodLink RX8 155 yX8_layRound, Cond.instanceMethod yX8_layRound, Cond.selects RX8 yX8_layRound yX8_layRound, Cond.code yX8_layRound cX8_layRound 6 (some .boolean), Cond.methodLink RX8 158 yX8_look, Cond.instanceMethod yX8_look, Cond.selects RX8 yX8_look yX8_look, Cond.code yX8_look cX8_look 9 (some .boolean), Cond.methodLink RX8 175 yX8_kindOf, Cond.instanceMethod yX8_kindOf, Cond.selects RX8 yX8_kindOf yX8_kindOf, Cond.code yX8_kindOf cX8_kindOf 2 (some .int)]
def wsX8_all : List Cond := .code yX8_all cX8_all 6 (some .int) :: ((wsX8_all_r1 ++ (wsX8_all_r2 ++ (wsX8_all_r3 ++ (wsX8_all_r4 ++ wsX8_all_r5)))) ++ wsX80)
def wsX8_image : List Cond := .code yX8_image cX8_image 3 (some .int) :: ([.fieldLink RX8 13 "RingMeetsModel" "images" "[I", .fieldLink RX8 7 "RingMeetsModel" "state" "[I", .fieldLink RX8 16 "RingMeetsModel" "isKept" "[Z", .methodLink RX8 49 yX8_in, .static yX8_in, .initialized RX8, .code yX8_in cX8_in 3 (some .boolean)] ++ wsX80)
def wsX8_restore : List Cond := .code yX8_restore cX8_restore 3 (some .int) :: ([.fieldLink RX8 16 "RingMeetsModel" "isKept" "[Z", .fieldLink RX8 7 "RingMeetsModel" "state" "[I", .fieldLink RX8 13 "RingMeetsModel" "images" "[I", .methodLink RX8 49 yX8_in, .static yX8_in, .initialized RX8, .code yX8_in cX8_in 3 (some .boolean)] ++ wsX80)
def wsX8_towers : List Cond := .code yX8_towers cX8_towers 3 (some .int) :: ([.fieldLink RX8 7 "RingMeetsModel" "state" "[I", .methodLink RX8 45 yX8_cells, .instanceMethod yX8_cells, .selects RX8 yX8_cells yX8_cells, .initialized RX8, .code yX8_cells cX8_cells 1 (some .int)] ++ wsX80)
def wsX8_count_r1 : List Cond := [Cond.fieldLink RX8 7 "RingMeetsModel" "state" "[I", Cond.fieldLink RX8 16 "RingMeetsModel" "isKept" "[Z", Cond.methodLink RX8 49 yX8_in, Cond.static yX8_in, Cond.initialized RX8, Cond.code yX8_in cX8_in 3 (some .boolean), Cond.methodLink RX8 45 yX8_cells, Cond.instanceMethod yX8_cells, Cond.selects RX8 yX8_cells yX8_cells, Cond.code yX8_cells cX8_cells 1 (some .int), Cond.methodLink RX8 57 yX8_walkers, Cond.instanceMethod yX8_walkers, Cond.selects RX8 yX8_walkers yX8_walkers, Cond.code yX8_walkers cX8_walkers 3 (some .int), Cond.methodLink RX8 83 yX8_now, Cond.instanceMethod yX8_now, Cond.selects RX8 yX8_now yX8_now, Cond.code yX8_now cX8_now 4 (some .int), Cond.fieldLink RX8 20 "RingMeetsModel" "power" "[I", Cond.methodLink RX8 86 yX8_standsOf, Cond.instanceMethod yX8_standsOf, Cond.selects RX8 yX8_standsOf yX8_standsOf, Cond.code yX8_standsOf cX8_standsOf 4 (some .int), Cond.methodLink RX8 184 yX8_towers]
def wsX8_count_r2 : List Cond := [Cond.instanceMethod yX8_towers, Cond.selects RX8 yX8_towers yX8_towers, Cond.code yX8_towers cX8_towers 3 (some .int)]
def wsX8_count : List Cond := .code yX8_count cX8_count 2 (some .int) :: ((wsX8_count_r1 ++ wsX8_count_r2) ++ wsX80)
def wsJ9_min_7cf53 : List Cond := .code yJ9_min_7cf53 cJ9_min_7cf53 2 (some .int) :: ([])
abbrev vwCl : List vw_C := [(RX1, TX1, 5), (RX2, TX2, 4), (RX3, TX3, 2), (RX4, TX4, 3), (RX6, TX6, 20), (RX7, TX7, 7), (RX8, TX8, 14)]
end
section
set_option maxRecDepth 20000 in
theorem ggX0_row_X5_cellNextTo : GoodIn wsX0_row wsX5_cellNextTo := goodIn_r _ [4] (by decide +kernel) (by decide +kernel)
set_option maxRecDepth 20000 in
theorem gX0_row_X5_cellNextTo : GoodIn wsX0_row (va_wsS RX0 9 yX5_cellNextTo wsX5_cellNextTo) := goodIn_app (goodIn_of _ (by decide +kernel)) ggX0_row_X5_cellNextTo
set_option maxRecDepth 20000 in
theorem ggX0_row_X5_has : GoodIn wsX0_row wsX5_has := goodIn_r _ [7] (by decide +kernel) (by decide +kernel)
set_option maxRecDepth 20000 in
theorem gX0_row_X5_has : GoodIn wsX0_row (va_wsS RX0 15 yX5_has wsX5_has) := goodIn_app (goodIn_of _ (by decide +kernel)) ggX0_row_X5_has
theorem dX0_row_0 : decode cX0_row 0 = .ok (.iconst 0, 1) := by decide +kernel
theorem dX0_row_1 : decode cX0_row 1 = .ok (.istore 4, 2) := by decide +kernel
theorem dX0_row_3 : decode cX0_row 3 = .ok (.iconst 0, 1) := by decide +kernel
theorem dX0_row_4 : decode cX0_row 4 = .ok (.istore 5, 2) := by decide +kernel
theorem dX0_row_6 : decode cX0_row 6 = .ok (.iload_n 2, 1) := by decide +kernel
theorem dX0_row_7 : decode cX0_row 7 = .ok (.istore 6, 2) := by decide +kernel
theorem dX0_row_9 : decode cX0_row 9 = .ok (.iconst 0, 1) := by decide +kernel
theorem dX0_row_10 : decode cX0_row 10 = .ok (.istore 7, 2) := by decide +kernel
theorem dX0_row_12 : decode cX0_row 12 = .ok (.iload 7, 2) := by decide +kernel
theorem dX0_row_14 : decode cX0_row 14 = .ok (.iload_n 0, 1) := by decide +kernel
theorem dX0_row_15 : decode cX0_row 15 = .ok (.if_icmp .ge 42, 3) := by decide +kernel
theorem dX0_row_18 : decode cX0_row 18 = .ok (.iload_n 0, 1) := by decide +kernel
theorem dX0_row_19 : decode cX0_row 19 = .ok (.iload 6, 2) := by decide +kernel
theorem dX0_row_21 : decode cX0_row 21 = .ok (.iload_n 3, 1) := by decide +kernel
theorem dX0_row_22 : decode cX0_row 22 = .ok (.invokestatic 9, 3) := by decide +kernel
theorem dX0_row_25 : decode cX0_row 25 = .ok (.istore 6, 2) := by decide +kernel
theorem dX0_row_27 : decode cX0_row 27 = .ok (.iinc 5 1, 3) := by decide +kernel
theorem dX0_row_30 : decode cX0_row 30 = .ok (.iload_n 1, 1) := by decide +kernel
theorem dX0_row_31 : decode cX0_row 31 = .ok (.iload 6, 2) := by decide +kernel
theorem dX0_row_33 : decode cX0_row 33 = .ok (.invokestatic 15, 3) := by decide +kernel
theorem dX0_row_36 : decode cX0_row 36 = .ok (.ifCond .eq 15, 3) := by decide +kernel
theorem dX0_row_39 : decode cX0_row 39 = .ok (.iload 4, 2) := by decide +kernel
theorem dX0_row_41 : decode cX0_row 41 = .ok (.iconst 4, 1) := by decide +kernel
theorem dX0_row_42 : decode cX0_row 42 = .ok (.ishl, 1) := by decide +kernel
theorem dX0_row_43 : decode cX0_row 43 = .ok (.iload 5, 2) := by decide +kernel
theorem dX0_row_45 : decode cX0_row 45 = .ok (.ior, 1) := by decide +kernel
theorem dX0_row_46 : decode cX0_row 46 = .ok (.istore 4, 2) := by decide +kernel
theorem dX0_row_48 : decode cX0_row 48 = .ok (.iconst 0, 1) := by decide +kernel
theorem dX0_row_49 : decode cX0_row 49 = .ok (.istore 5, 2) := by decide +kernel
theorem dX0_row_51 : decode cX0_row 51 = .ok (.iinc 7 1, 3) := by decide +kernel
theorem dX0_row_54 : decode cX0_row 54 = .ok (.goto (-42), 3) := by decide +kernel
theorem dX0_row_57 : decode cX0_row 57 = .ok (.iload 4, 2) := by decide +kernel
theorem dX0_row_59 : decode cX0_row 59 = .ok (.ireturn, 1) := by decide +kernel
set_option maxRecDepth 20000 in
theorem ggX0_view_X0_row : GoodIn wsX0_view wsX0_row := goodIn_r _ [8, 9, 10, 11, 12, 13, 14, 15] (by decide +kernel) (by decide +kernel)
set_option maxRecDepth 20000 in
theorem gX0_view_X0_row : GoodIn wsX0_view (va_wsS RX0 21 yX0_row wsX0_row) := goodIn_app (goodIn_of _ (by decide +kernel)) ggX0_view_X0_row
theorem dX0_view_0 : decode cX0_view 0 = .ok (.iload_n 0, 1) := by decide +kernel
theorem dX0_view_1 : decode cX0_view 1 = .ok (.iload_n 1, 1) := by decide +kernel
theorem dX0_view_2 : decode cX0_view 2 = .ok (.iload_n 2, 1) := by decide +kernel
theorem dX0_view_3 : decode cX0_view 3 = .ok (.iconst 0, 1) := by decide +kernel
theorem dX0_view_4 : decode cX0_view 4 = .ok (.invokestatic 21, 3) := by decide +kernel
theorem dX0_view_7 : decode cX0_view 7 = .ok (.iload_n 0, 1) := by decide +kernel
theorem dX0_view_8 : decode cX0_view 8 = .ok (.iload_n 1, 1) := by decide +kernel
theorem dX0_view_9 : decode cX0_view 9 = .ok (.iload_n 2, 1) := by decide +kernel
theorem dX0_view_10 : decode cX0_view 10 = .ok (.iconst 1, 1) := by decide +kernel
theorem dX0_view_11 : decode cX0_view 11 = .ok (.invokestatic 21, 3) := by decide +kernel
theorem dX0_view_14 : decode cX0_view 14 = .ok (.invokestatic 25, 3) := by decide +kernel
theorem dX0_view_17 : decode cX0_view 17 = .ok (.ireturn, 1) := by decide +kernel
theorem dX0_at_0 : decode cX0_at 0 = .ok (.iload_n 0, 1) := by decide +kernel
theorem dX0_at_1 : decode cX0_at 1 = .ok (.iconst 4, 1) := by decide +kernel
theorem dX0_at_2 : decode cX0_at 2 = .ok (.iload_n 1, 1) := by decide +kernel
theorem dX0_at_3 : decode cX0_at 3 = .ok (.iconst 1, 1) := by decide +kernel
theorem dX0_at_4 : decode cX0_at 4 = .ok (.isub, 1) := by decide +kernel
theorem dX0_at_5 : decode cX0_at 5 = .ok (.iload_n 2, 1) := by decide +kernel
theorem dX0_at_6 : decode cX0_at 6 = .ok (.isub, 1) := by decide +kernel
theorem dX0_at_7 : decode cX0_at 7 = .ok (.imul, 1) := by decide +kernel
theorem dX0_at_8 : decode cX0_at 8 = .ok (.ishr, 1) := by decide +kernel
theorem dX0_at_9 : decode cX0_at 9 = .ok (.bipush 15, 2) := by decide +kernel
theorem dX0_at_11 : decode cX0_at 11 = .ok (.iand, 1) := by decide +kernel
theorem dX0_at_12 : decode cX0_at 12 = .ok (.ireturn, 1) := by decide +kernel
set_option maxRecDepth 20000 in
theorem ggX0_turned_X5_has : GoodIn wsX0_turned wsX5_has := goodIn_r _ [4] (by decide +kernel) (by decide +kernel)
set_option maxRecDepth 20000 in
theorem gX0_turned_X5_has : GoodIn wsX0_turned (va_wsS RX0 15 yX5_has wsX5_has) := goodIn_app (goodIn_of _ (by decide +kernel)) ggX0_turned_X5_has
set_option maxRecDepth 20000 in
theorem ggX0_turned_X0_row : GoodIn wsX0_turned wsX0_row := goodIn_r _ [8, 9, 10, 3, 11, 1, 2, 4] (by decide +kernel) (by decide +kernel)
set_option maxRecDepth 20000 in
theorem gX0_turned_X0_row : GoodIn wsX0_turned (va_wsS RX0 21 yX0_row wsX0_row) := goodIn_app (goodIn_of _ (by decide +kernel)) ggX0_turned_X0_row
theorem dX0_turned_0 : decode cX0_turned 0 = .ok (.iconst 0, 1) := by decide +kernel
theorem dX0_turned_1 : decode cX0_turned 1 = .ok (.istore_n 2, 1) := by decide +kernel
theorem dX0_turned_2 : decode cX0_turned 2 = .ok (.iload_n 2, 1) := by decide +kernel
theorem dX0_turned_3 : decode cX0_turned 3 = .ok (.iload_n 0, 1) := by decide +kernel
theorem dX0_turned_4 : decode cX0_turned 4 = .ok (.if_icmp .ge 57, 3) := by decide +kernel
theorem dX0_turned_7 : decode cX0_turned 7 = .ok (.iconst 0, 1) := by decide +kernel
theorem dX0_turned_8 : decode cX0_turned 8 = .ok (.istore_n 3, 1) := by decide +kernel
theorem dX0_turned_9 : decode cX0_turned 9 = .ok (.iload_n 3, 1) := by decide +kernel
theorem dX0_turned_10 : decode cX0_turned 10 = .ok (.iload_n 2, 1) := by decide +kernel
theorem dX0_turned_11 : decode cX0_turned 11 = .ok (.if_icmp .ge 44, 3) := by decide +kernel
theorem dX0_turned_14 : decode cX0_turned 14 = .ok (.iload_n 1, 1) := by decide +kernel
theorem dX0_turned_15 : decode cX0_turned 15 = .ok (.iload_n 2, 1) := by decide +kernel
theorem dX0_turned_16 : decode cX0_turned 16 = .ok (.invokestatic 15, 3) := by decide +kernel
theorem dX0_turned_19 : decode cX0_turned 19 = .ok (.ifCond .eq 30, 3) := by decide +kernel
theorem dX0_turned_22 : decode cX0_turned 22 = .ok (.iload_n 1, 1) := by decide +kernel
theorem dX0_turned_23 : decode cX0_turned 23 = .ok (.iload_n 3, 1) := by decide +kernel
theorem dX0_turned_24 : decode cX0_turned 24 = .ok (.invokestatic 15, 3) := by decide +kernel
theorem dX0_turned_27 : decode cX0_turned 27 = .ok (.ifCond .eq 22, 3) := by decide +kernel
theorem dX0_turned_30 : decode cX0_turned 30 = .ok (.iload_n 0, 1) := by decide +kernel
theorem dX0_turned_31 : decode cX0_turned 31 = .ok (.iload_n 1, 1) := by decide +kernel
theorem dX0_turned_32 : decode cX0_turned 32 = .ok (.iload_n 2, 1) := by decide +kernel
theorem dX0_turned_33 : decode cX0_turned 33 = .ok (.iconst 0, 1) := by decide +kernel
theorem dX0_turned_34 : decode cX0_turned 34 = .ok (.invokestatic 21, 3) := by decide +kernel
theorem dX0_turned_37 : decode cX0_turned 37 = .ok (.iload_n 0, 1) := by decide +kernel
theorem dX0_turned_38 : decode cX0_turned 38 = .ok (.iload_n 1, 1) := by decide +kernel
theorem dX0_turned_39 : decode cX0_turned 39 = .ok (.iload_n 3, 1) := by decide +kernel
theorem dX0_turned_40 : decode cX0_turned 40 = .ok (.iconst 0, 1) := by decide +kernel
theorem dX0_turned_41 : decode cX0_turned 41 = .ok (.invokestatic 21, 3) := by decide +kernel
theorem dX0_turned_44 : decode cX0_turned 44 = .ok (.if_icmp .ne 5, 3) := by decide +kernel
theorem dX0_turned_47 : decode cX0_turned 47 = .ok (.iconst 1, 1) := by decide +kernel
theorem dX0_turned_48 : decode cX0_turned 48 = .ok (.ireturn, 1) := by decide +kernel
theorem dX0_turned_49 : decode cX0_turned 49 = .ok (.iinc 3 1, 3) := by decide +kernel
theorem dX0_turned_52 : decode cX0_turned 52 = .ok (.goto (-43), 3) := by decide +kernel
theorem dX0_turned_55 : decode cX0_turned 55 = .ok (.iinc 2 1, 3) := by decide +kernel
theorem dX0_turned_58 : decode cX0_turned 58 = .ok (.goto (-56), 3) := by decide +kernel
theorem dX0_turned_61 : decode cX0_turned 61 = .ok (.iconst 0, 1) := by decide +kernel
theorem dX0_turned_62 : decode cX0_turned 62 = .ok (.ireturn, 1) := by decide +kernel
set_option maxRecDepth 20000 in
theorem ggX0_mirrored_X5_has : GoodIn wsX0_mirrored wsX5_has := goodIn_r _ [4] (by decide +kernel) (by decide +kernel)
set_option maxRecDepth 20000 in
theorem gX0_mirrored_X5_has : GoodIn wsX0_mirrored (va_wsS RX0 15 yX5_has wsX5_has) := goodIn_app (goodIn_of _ (by decide +kernel)) ggX0_mirrored_X5_has
set_option maxRecDepth 20000 in
theorem ggX0_mirrored_X0_row : GoodIn wsX0_mirrored wsX0_row := goodIn_r _ [8, 9, 10, 3, 11, 1, 2, 4] (by decide +kernel) (by decide +kernel)
set_option maxRecDepth 20000 in
theorem gX0_mirrored_X0_row : GoodIn wsX0_mirrored (va_wsS RX0 21 yX0_row wsX0_row) := goodIn_app (goodIn_of _ (by decide +kernel)) ggX0_mirrored_X0_row
theorem dX0_mirrored_0 : decode cX0_mirrored 0 = .ok (.iconst 0, 1) := by decide +kernel
theorem dX0_mirrored_1 : decode cX0_mirrored 1 = .ok (.istore_n 2, 1) := by decide +kernel
theorem dX0_mirrored_2 : decode cX0_mirrored 2 = .ok (.iload_n 2, 1) := by decide +kernel
theorem dX0_mirrored_3 : decode cX0_mirrored 3 = .ok (.iload_n 0, 1) := by decide +kernel
theorem dX0_mirrored_4 : decode cX0_mirrored 4 = .ok (.if_icmp .ge 57, 3) := by decide +kernel
theorem dX0_mirrored_7 : decode cX0_mirrored 7 = .ok (.iconst 0, 1) := by decide +kernel
theorem dX0_mirrored_8 : decode cX0_mirrored 8 = .ok (.istore_n 3, 1) := by decide +kernel
theorem dX0_mirrored_9 : decode cX0_mirrored 9 = .ok (.iload_n 3, 1) := by decide +kernel
theorem dX0_mirrored_10 : decode cX0_mirrored 10 = .ok (.iload_n 0, 1) := by decide +kernel
theorem dX0_mirrored_11 : decode cX0_mirrored 11 = .ok (.if_icmp .ge 44, 3) := by decide +kernel
theorem dX0_mirrored_14 : decode cX0_mirrored 14 = .ok (.iload_n 1, 1) := by decide +kernel
theorem dX0_mirrored_15 : decode cX0_mirrored 15 = .ok (.iload_n 2, 1) := by decide +kernel
theorem dX0_mirrored_16 : decode cX0_mirrored 16 = .ok (.invokestatic 15, 3) := by decide +kernel
theorem dX0_mirrored_19 : decode cX0_mirrored 19 = .ok (.ifCond .eq 30, 3) := by decide +kernel
theorem dX0_mirrored_22 : decode cX0_mirrored 22 = .ok (.iload_n 1, 1) := by decide +kernel
theorem dX0_mirrored_23 : decode cX0_mirrored 23 = .ok (.iload_n 3, 1) := by decide +kernel
theorem dX0_mirrored_24 : decode cX0_mirrored 24 = .ok (.invokestatic 15, 3) := by decide +kernel
theorem dX0_mirrored_27 : decode cX0_mirrored 27 = .ok (.ifCond .eq 22, 3) := by decide +kernel
theorem dX0_mirrored_30 : decode cX0_mirrored 30 = .ok (.iload_n 0, 1) := by decide +kernel
theorem dX0_mirrored_31 : decode cX0_mirrored 31 = .ok (.iload_n 1, 1) := by decide +kernel
theorem dX0_mirrored_32 : decode cX0_mirrored 32 = .ok (.iload_n 2, 1) := by decide +kernel
theorem dX0_mirrored_33 : decode cX0_mirrored 33 = .ok (.iconst 0, 1) := by decide +kernel
theorem dX0_mirrored_34 : decode cX0_mirrored 34 = .ok (.invokestatic 21, 3) := by decide +kernel
theorem dX0_mirrored_37 : decode cX0_mirrored 37 = .ok (.iload_n 0, 1) := by decide +kernel
theorem dX0_mirrored_38 : decode cX0_mirrored 38 = .ok (.iload_n 1, 1) := by decide +kernel
theorem dX0_mirrored_39 : decode cX0_mirrored 39 = .ok (.iload_n 3, 1) := by decide +kernel
theorem dX0_mirrored_40 : decode cX0_mirrored 40 = .ok (.iconst 1, 1) := by decide +kernel
theorem dX0_mirrored_41 : decode cX0_mirrored 41 = .ok (.invokestatic 21, 3) := by decide +kernel
theorem dX0_mirrored_44 : decode cX0_mirrored 44 = .ok (.if_icmp .ne 5, 3) := by decide +kernel
theorem dX0_mirrored_47 : decode cX0_mirrored 47 = .ok (.iconst 1, 1) := by decide +kernel
theorem dX0_mirrored_48 : decode cX0_mirrored 48 = .ok (.ireturn, 1) := by decide +kernel
theorem dX0_mirrored_49 : decode cX0_mirrored 49 = .ok (.iinc 3 1, 3) := by decide +kernel
theorem dX0_mirrored_52 : decode cX0_mirrored 52 = .ok (.goto (-43), 3) := by decide +kernel
theorem dX0_mirrored_55 : decode cX0_mirrored 55 = .ok (.iinc 2 1, 3) := by decide +kernel
theorem dX0_mirrored_58 : decode cX0_mirrored 58 = .ok (.goto (-56), 3) := by decide +kernel
theorem dX0_mirrored_61 : decode cX0_mirrored 61 = .ok (.iconst 0, 1) := by decide +kernel
theorem dX0_mirrored_62 : decode cX0_mirrored 62 = .ok (.ireturn, 1) := by decide +kernel
set_option maxRecDepth 20000 in
theorem ggX0_evens_X5_has : GoodIn wsX0_evens wsX5_has := goodIn_r _ [4] (by decide +kernel) (by decide +kernel)
set_option maxRecDepth 20000 in
theorem gX0_evens_X5_has : GoodIn wsX0_evens (va_wsS RX0 15 yX5_has wsX5_has) := goodIn_app (goodIn_of _ (by decide +kernel)) ggX0_evens_X5_has
set_option maxRecDepth 20000 in
theorem ggX0_evens_X0_row : GoodIn wsX0_evens wsX0_row := goodIn_r _ [8, 9, 10, 3, 11, 1, 2, 4] (by decide +kernel) (by decide +kernel)
set_option maxRecDepth 20000 in
theorem gX0_evens_X0_row : GoodIn wsX0_evens (va_wsS RX0 21 yX0_row wsX0_row) := goodIn_app (goodIn_of _ (by decide +kernel)) ggX0_evens_X0_row
theorem dX0_evens_0 : decode cX0_evens 0 = .ok (.iconst 0, 1) := by decide +kernel
theorem dX0_evens_1 : decode cX0_evens 1 = .ok (.istore_n 2, 1) := by decide +kernel
theorem dX0_evens_2 : decode cX0_evens 2 = .ok (.iconst 0, 1) := by decide +kernel
theorem dX0_evens_3 : decode cX0_evens 3 = .ok (.istore_n 3, 1) := by decide +kernel
theorem dX0_evens_4 : decode cX0_evens 4 = .ok (.iload_n 3, 1) := by decide +kernel
theorem dX0_evens_5 : decode cX0_evens 5 = .ok (.iload_n 0, 1) := by decide +kernel
theorem dX0_evens_6 : decode cX0_evens 6 = .ok (.if_icmp .ge 37, 3) := by decide +kernel
theorem dX0_evens_9 : decode cX0_evens 9 = .ok (.iload_n 1, 1) := by decide +kernel
theorem dX0_evens_10 : decode cX0_evens 10 = .ok (.iload_n 3, 1) := by decide +kernel
theorem dX0_evens_11 : decode cX0_evens 11 = .ok (.invokestatic 15, 3) := by decide +kernel
theorem dX0_evens_14 : decode cX0_evens 14 = .ok (.ifCond .eq 23, 3) := by decide +kernel
theorem dX0_evens_17 : decode cX0_evens 17 = .ok (.iload_n 0, 1) := by decide +kernel
theorem dX0_evens_18 : decode cX0_evens 18 = .ok (.iload_n 1, 1) := by decide +kernel
theorem dX0_evens_19 : decode cX0_evens 19 = .ok (.iload_n 3, 1) := by decide +kernel
theorem dX0_evens_20 : decode cX0_evens 20 = .ok (.iconst 0, 1) := by decide +kernel
theorem dX0_evens_21 : decode cX0_evens 21 = .ok (.invokestatic 21, 3) := by decide +kernel
theorem dX0_evens_24 : decode cX0_evens 24 = .ok (.iload_n 0, 1) := by decide +kernel
theorem dX0_evens_25 : decode cX0_evens 25 = .ok (.iload_n 1, 1) := by decide +kernel
theorem dX0_evens_26 : decode cX0_evens 26 = .ok (.iload_n 3, 1) := by decide +kernel
theorem dX0_evens_27 : decode cX0_evens 27 = .ok (.iconst 1, 1) := by decide +kernel
theorem dX0_evens_28 : decode cX0_evens 28 = .ok (.invokestatic 21, 3) := by decide +kernel
theorem dX0_evens_31 : decode cX0_evens 31 = .ok (.if_icmp .ne 6, 3) := by decide +kernel
theorem dX0_evens_34 : decode cX0_evens 34 = .ok (.iinc 2 1, 3) := by decide +kernel
theorem dX0_evens_37 : decode cX0_evens 37 = .ok (.iinc 3 1, 3) := by decide +kernel
theorem dX0_evens_40 : decode cX0_evens 40 = .ok (.goto (-36), 3) := by decide +kernel
theorem dX0_evens_43 : decode cX0_evens 43 = .ok (.iload_n 2, 1) := by decide +kernel
theorem dX0_evens_44 : decode cX0_evens 44 = .ok (.ireturn, 1) := by decide +kernel
set_option maxRecDepth 20000 in
theorem ggX0_views_X5_has : GoodIn wsX0_views wsX5_has := goodIn_r _ [4] (by decide +kernel) (by decide +kernel)
set_option maxRecDepth 20000 in
theorem gX0_views_X5_has : GoodIn wsX0_views (va_wsS RX0 15 yX5_has wsX5_has) := goodIn_app (goodIn_of _ (by decide +kernel)) ggX0_views_X5_has
set_option maxRecDepth 20000 in
theorem ggX0_views_X0_isSeenBelow : GoodIn wsX0_views wsX0_isSeenBelow := goodIn_r _ [8, 9, 10, 7, 11, 12, 13, 14, 15, 16, 17, 18, 19, 20, 3, 21, 1, 2, 4] (by decide +kernel) (by decide +kernel)
set_option maxRecDepth 20000 in
theorem gX0_views_X0_isSeenBelow : GoodIn wsX0_views (va_wsS RX0 31 yX0_isSeenBelow wsX0_isSeenBelow) := goodIn_app (goodIn_of _ (by decide +kernel)) ggX0_views_X0_isSeenBelow
theorem dX0_views_0 : decode cX0_views 0 = .ok (.iconst 0, 1) := by decide +kernel
theorem dX0_views_1 : decode cX0_views 1 = .ok (.istore_n 2, 1) := by decide +kernel
theorem dX0_views_2 : decode cX0_views 2 = .ok (.iconst 0, 1) := by decide +kernel
theorem dX0_views_3 : decode cX0_views 3 = .ok (.istore_n 3, 1) := by decide +kernel
theorem dX0_views_4 : decode cX0_views 4 = .ok (.iload_n 3, 1) := by decide +kernel
theorem dX0_views_5 : decode cX0_views 5 = .ok (.iload_n 0, 1) := by decide +kernel
theorem dX0_views_6 : decode cX0_views 6 = .ok (.if_icmp .ge 29, 3) := by decide +kernel
theorem dX0_views_9 : decode cX0_views 9 = .ok (.iload_n 1, 1) := by decide +kernel
theorem dX0_views_10 : decode cX0_views 10 = .ok (.iload_n 3, 1) := by decide +kernel
theorem dX0_views_11 : decode cX0_views 11 = .ok (.invokestatic 15, 3) := by decide +kernel
theorem dX0_views_14 : decode cX0_views 14 = .ok (.ifCond .eq 15, 3) := by decide +kernel
theorem dX0_views_17 : decode cX0_views 17 = .ok (.iload_n 0, 1) := by decide +kernel
theorem dX0_views_18 : decode cX0_views 18 = .ok (.iload_n 1, 1) := by decide +kernel
theorem dX0_views_19 : decode cX0_views 19 = .ok (.iload_n 3, 1) := by decide +kernel
theorem dX0_views_20 : decode cX0_views 20 = .ok (.invokestatic 31, 3) := by decide +kernel
theorem dX0_views_23 : decode cX0_views 23 = .ok (.ifCond .ne 6, 3) := by decide +kernel
theorem dX0_views_26 : decode cX0_views 26 = .ok (.iinc 2 1, 3) := by decide +kernel
theorem dX0_views_29 : decode cX0_views 29 = .ok (.iinc 3 1, 3) := by decide +kernel
theorem dX0_views_32 : decode cX0_views 32 = .ok (.goto (-28), 3) := by decide +kernel
theorem dX0_views_35 : decode cX0_views 35 = .ok (.iload_n 2, 1) := by decide +kernel
theorem dX0_views_36 : decode cX0_views 36 = .ok (.ireturn, 1) := by decide +kernel
set_option maxRecDepth 20000 in
theorem ggX0_isSeenBelow_X0_view : GoodIn wsX0_isSeenBelow wsX0_view := goodIn_r _ [4, 5, 6, 7, 8, 9, 10, 3, 11, 12, 13, 14, 15, 16, 17, 18] (by decide +kernel) (by decide +kernel)
set_option maxRecDepth 20000 in
theorem gX0_isSeenBelow_X0_view : GoodIn wsX0_isSeenBelow (va_wsS RX0 35 yX0_view wsX0_view) := goodIn_app (goodIn_of _ (by decide +kernel)) ggX0_isSeenBelow_X0_view
set_option maxRecDepth 20000 in
theorem ggX0_isSeenBelow_X5_has : GoodIn wsX0_isSeenBelow wsX5_has := goodIn_r _ [18] (by decide +kernel) (by decide +kernel)
set_option maxRecDepth 20000 in
theorem gX0_isSeenBelow_X5_has : GoodIn wsX0_isSeenBelow (va_wsS RX0 15 yX5_has wsX5_has) := goodIn_app (goodIn_of _ (by decide +kernel)) ggX0_isSeenBelow_X5_has
theorem dX0_isSeenBelow_0 : decode cX0_isSeenBelow 0 = .ok (.iload_n 0, 1) := by decide +kernel
theorem dX0_isSeenBelow_1 : decode cX0_isSeenBelow 1 = .ok (.iload_n 1, 1) := by decide +kernel
theorem dX0_isSeenBelow_2 : decode cX0_isSeenBelow 2 = .ok (.iload_n 2, 1) := by decide +kernel
theorem dX0_isSeenBelow_3 : decode cX0_isSeenBelow 3 = .ok (.invokestatic 35, 3) := by decide +kernel
theorem dX0_isSeenBelow_6 : decode cX0_isSeenBelow 6 = .ok (.istore_n 3, 1) := by decide +kernel
theorem dX0_isSeenBelow_7 : decode cX0_isSeenBelow 7 = .ok (.iconst 0, 1) := by decide +kernel
theorem dX0_isSeenBelow_8 : decode cX0_isSeenBelow 8 = .ok (.istore 4, 2) := by decide +kernel
theorem dX0_isSeenBelow_10 : decode cX0_isSeenBelow 10 = .ok (.iload 4, 2) := by decide +kernel
theorem dX0_isSeenBelow_12 : decode cX0_isSeenBelow 12 = .ok (.iload_n 2, 1) := by decide +kernel
theorem dX0_isSeenBelow_13 : decode cX0_isSeenBelow 13 = .ok (.if_icmp .ge 31, 3) := by decide +kernel
theorem dX0_isSeenBelow_16 : decode cX0_isSeenBelow 16 = .ok (.iload_n 1, 1) := by decide +kernel
theorem dX0_isSeenBelow_17 : decode cX0_isSeenBelow 17 = .ok (.iload 4, 2) := by decide +kernel
theorem dX0_isSeenBelow_19 : decode cX0_isSeenBelow 19 = .ok (.invokestatic 15, 3) := by decide +kernel
theorem dX0_isSeenBelow_22 : decode cX0_isSeenBelow 22 = .ok (.ifCond .eq 16, 3) := by decide +kernel
theorem dX0_isSeenBelow_25 : decode cX0_isSeenBelow 25 = .ok (.iload_n 0, 1) := by decide +kernel
theorem dX0_isSeenBelow_26 : decode cX0_isSeenBelow 26 = .ok (.iload_n 1, 1) := by decide +kernel
theorem dX0_isSeenBelow_27 : decode cX0_isSeenBelow 27 = .ok (.iload 4, 2) := by decide +kernel
theorem dX0_isSeenBelow_29 : decode cX0_isSeenBelow 29 = .ok (.invokestatic 35, 3) := by decide +kernel
theorem dX0_isSeenBelow_32 : decode cX0_isSeenBelow 32 = .ok (.iload_n 3, 1) := by decide +kernel
theorem dX0_isSeenBelow_33 : decode cX0_isSeenBelow 33 = .ok (.if_icmp .ne 5, 3) := by decide +kernel
theorem dX0_isSeenBelow_36 : decode cX0_isSeenBelow 36 = .ok (.iconst 1, 1) := by decide +kernel
theorem dX0_isSeenBelow_37 : decode cX0_isSeenBelow 37 = .ok (.ireturn, 1) := by decide +kernel
theorem dX0_isSeenBelow_38 : decode cX0_isSeenBelow 38 = .ok (.iinc 4 1, 3) := by decide +kernel
theorem dX0_isSeenBelow_41 : decode cX0_isSeenBelow 41 = .ok (.goto (-31), 3) := by decide +kernel
theorem dX0_isSeenBelow_44 : decode cX0_isSeenBelow 44 = .ok (.iconst 0, 1) := by decide +kernel
theorem dX0_isSeenBelow_45 : decode cX0_isSeenBelow 45 = .ok (.ireturn, 1) := by decide +kernel
set_option maxRecDepth 20000 in
theorem ggX0_leastTurn_X5_turnedUp : GoodIn wsX0_leastTurn wsX5_turnedUp := goodIn_r _ [4] (by decide +kernel) (by decide +kernel)
set_option maxRecDepth 20000 in
theorem gX0_leastTurn_X5_turnedUp : GoodIn wsX0_leastTurn (va_wsS RX0 38 yX5_turnedUp wsX5_turnedUp) := goodIn_app (goodIn_of _ (by decide +kernel)) ggX0_leastTurn_X5_turnedUp
theorem dX0_leastTurn_0 : decode cX0_leastTurn 0 = .ok (.iload_n 1, 1) := by decide +kernel
theorem dX0_leastTurn_1 : decode cX0_leastTurn 1 = .ok (.istore_n 2, 1) := by decide +kernel
theorem dX0_leastTurn_2 : decode cX0_leastTurn 2 = .ok (.iconst 1, 1) := by decide +kernel
theorem dX0_leastTurn_3 : decode cX0_leastTurn 3 = .ok (.istore_n 3, 1) := by decide +kernel
theorem dX0_leastTurn_4 : decode cX0_leastTurn 4 = .ok (.iload_n 1, 1) := by decide +kernel
theorem dX0_leastTurn_5 : decode cX0_leastTurn 5 = .ok (.ifCond .eq 27, 3) := by decide +kernel
theorem dX0_leastTurn_8 : decode cX0_leastTurn 8 = .ok (.iload_n 3, 1) := by decide +kernel
theorem dX0_leastTurn_9 : decode cX0_leastTurn 9 = .ok (.iload_n 0, 1) := by decide +kernel
theorem dX0_leastTurn_10 : decode cX0_leastTurn 10 = .ok (.if_icmp .gt 22, 3) := by decide +kernel
theorem dX0_leastTurn_13 : decode cX0_leastTurn 13 = .ok (.iload_n 0, 1) := by decide +kernel
theorem dX0_leastTurn_14 : decode cX0_leastTurn 14 = .ok (.iload_n 2, 1) := by decide +kernel
theorem dX0_leastTurn_15 : decode cX0_leastTurn 15 = .ok (.invokestatic 38, 3) := by decide +kernel
theorem dX0_leastTurn_18 : decode cX0_leastTurn 18 = .ok (.istore_n 2, 1) := by decide +kernel
theorem dX0_leastTurn_19 : decode cX0_leastTurn 19 = .ok (.iload_n 2, 1) := by decide +kernel
theorem dX0_leastTurn_20 : decode cX0_leastTurn 20 = .ok (.iload_n 1, 1) := by decide +kernel
theorem dX0_leastTurn_21 : decode cX0_leastTurn 21 = .ok (.if_icmp .ne 5, 3) := by decide +kernel
theorem dX0_leastTurn_24 : decode cX0_leastTurn 24 = .ok (.iload_n 3, 1) := by decide +kernel
theorem dX0_leastTurn_25 : decode cX0_leastTurn 25 = .ok (.ireturn, 1) := by decide +kernel
theorem dX0_leastTurn_26 : decode cX0_leastTurn 26 = .ok (.iinc 3 1, 3) := by decide +kernel
theorem dX0_leastTurn_29 : decode cX0_leastTurn 29 = .ok (.goto (-25), 3) := by decide +kernel
theorem dX0_leastTurn_32 : decode cX0_leastTurn 32 = .ok (.bipush (-6), 2) := by decide +kernel
theorem dX0_leastTurn_34 : decode cX0_leastTurn 34 = .ok (.ireturn, 1) := by decide +kernel
theorem dX1_init_0 : decode cX1_init 0 = .ok (.aload_n 0, 1) := by decide +kernel
theorem dX1_init_1 : decode cX1_init 1 = .ok (.invokespecial 3, 3) := by decide +kernel
theorem dX1_init_4 : decode cX1_init 4 = .ok (.return_, 1) := by decide +kernel
set_option maxRecDepth 20000 in
theorem ggX1_from_X0_row : GoodIn wsX1_from wsX0_row := goodIn_r _ [13, 14, 15, 16, 17, 18, 19, 20] (by decide +kernel) (by decide +kernel)
set_option maxRecDepth 20000 in
theorem gX1_from_X0_row : GoodIn wsX1_from (va_wsS RX1 9 yX0_row wsX0_row) := goodIn_app (goodIn_of _ (by decide +kernel)) ggX1_from_X0_row
set_option maxRecDepth 20000 in
theorem ggX1_from_X5_has : GoodIn wsX1_from wsX5_has := goodIn_r _ [20] (by decide +kernel) (by decide +kernel)
set_option maxRecDepth 20000 in
theorem gX1_from_X5_has : GoodIn wsX1_from (va_wsS RX1 25 yX5_has wsX5_has) := goodIn_app (goodIn_of _ (by decide +kernel)) ggX1_from_X5_has
set_option maxRecDepth 20000 in
theorem ggX1_from_J6_bitCount_0f7a4 : GoodIn wsX1_from wsJ6_bitCount_0f7a4 := goodIn_r _ [25, 26, 27, 28] (by decide +kernel) (by decide +kernel)
set_option maxRecDepth 20000 in
theorem gX1_from_J6_bitCount_0f7a4 : GoodIn wsX1_from (va_wsS RX1 31 yJ6_bitCount_0f7a4 wsJ6_bitCount_0f7a4) := goodIn_app (goodIn_of _ (by decide +kernel)) ggX1_from_J6_bitCount_0f7a4
set_option maxRecDepth 20000 in
theorem ggX1_from_X3_firstThatFits : GoodIn wsX1_from wsX3_firstThatFits := goodIn_r _ [33, 34, 35, 36, 37, 32, 38, 39, 40, 41, 12, 42, 43, 44, 45, 70, 71] (by decide +kernel) (by decide +kernel)
set_option maxRecDepth 20000 in
theorem gX1_from_X3_firstThatFits : GoodIn wsX1_from (wsV RX1 43 RX3 yX3_firstThatFits wsX3_firstThatFits) := goodIn_app (goodIn_of _ (by decide +kernel)) ggX1_from_X3_firstThatFits
set_option maxRecDepth 20000 in
theorem ggX1_from_X3_has : GoodIn wsX1_from wsX3_has := goodIn_r _ [49, 34, 70, 71] (by decide +kernel) (by decide +kernel)
set_option maxRecDepth 20000 in
theorem gX1_from_X3_has : GoodIn wsX1_from (wsV RX1 52 RX3 yX3_has wsX3_has) := goodIn_app (goodIn_of _ (by decide +kernel)) ggX1_from_X3_has
set_option maxRecDepth 20000 in
theorem ggX1_from_X3_part : GoodIn wsX1_from wsX3_part := goodIn_r _ [53, 39, 54, 47, 48, 32, 49, 34, 70, 71] (by decide +kernel) (by decide +kernel)
set_option maxRecDepth 20000 in
theorem gX1_from_X3_part : GoodIn wsX1_from (wsV RX1 55 RX3 yX3_part wsX3_part) := goodIn_app (goodIn_of _ (by decide +kernel)) ggX1_from_X3_part
set_option maxRecDepth 20000 in
theorem ggX1_from_X1_goalFrom : GoodIn wsX1_from wsX1_goalFrom := goodIn_r _ [59, 8, 60, 61, 62, 58, 63, 2, 64, 15, 16, 17, 65, 66, 67, 68, 69] (by decide +kernel) (by decide +kernel)
set_option maxRecDepth 20000 in
theorem gX1_from_X1_goalFrom : GoodIn wsX1_from (wsV RX1 61 RX1 yX1_goalFrom wsX1_goalFrom) := goodIn_app (goodIn_of _ (by decide +kernel)) ggX1_from_X1_goalFrom
theorem dX1_from_0 : decode cX1_from 0 = .ok (.iload_n 2, 1) := by decide +kernel
theorem dX1_from_1 : decode cX1_from 1 = .ok (.iload_n 3, 1) := by decide +kernel
theorem dX1_from_2 : decode cX1_from 2 = .ok (.iload 5, 2) := by decide +kernel
theorem dX1_from_4 : decode cX1_from 4 = .ok (.iconst 0, 1) := by decide +kernel
theorem dX1_from_5 : decode cX1_from 5 = .ok (.invokestatic 9, 3) := by decide +kernel
theorem dX1_from_8 : decode cX1_from 8 = .ok (.istore 6, 2) := by decide +kernel
theorem dX1_from_10 : decode cX1_from 10 = .ok (.iload_n 2, 1) := by decide +kernel
theorem dX1_from_11 : decode cX1_from 11 = .ok (.iload_n 3, 1) := by decide +kernel
theorem dX1_from_12 : decode cX1_from 12 = .ok (.iload 5, 2) := by decide +kernel
theorem dX1_from_14 : decode cX1_from 14 = .ok (.iconst 1, 1) := by decide +kernel
theorem dX1_from_15 : decode cX1_from 15 = .ok (.invokestatic 9, 3) := by decide +kernel
theorem dX1_from_18 : decode cX1_from 18 = .ok (.istore 7, 2) := by decide +kernel
theorem dX1_from_20 : decode cX1_from 20 = .ok (.aload_n 0, 1) := by decide +kernel
theorem dX1_from_21 : decode cX1_from 21 = .ok (.iload 6, 2) := by decide +kernel
theorem dX1_from_23 : decode cX1_from 23 = .ok (.iload 7, 2) := by decide +kernel
theorem dX1_from_25 : decode cX1_from 25 = .ok (.if_icmp .ne 7, 3) := by decide +kernel
theorem dX1_from_28 : decode cX1_from 28 = .ok (.iconst 1, 1) := by decide +kernel
theorem dX1_from_29 : decode cX1_from 29 = .ok (.goto 4, 3) := by decide +kernel
theorem dX1_from_32 : decode cX1_from 32 = .ok (.iconst 0, 1) := by decide +kernel
theorem dX1_from_33 : decode cX1_from 33 = .ok (.putfield 15, 3) := by decide +kernel
theorem dX1_from_36 : decode cX1_from 36 = .ok (.aload_n 0, 1) := by decide +kernel
theorem dX1_from_37 : decode cX1_from 37 = .ok (.iload 6, 2) := by decide +kernel
theorem dX1_from_39 : decode cX1_from 39 = .ok (.iload 7, 2) := by decide +kernel
theorem dX1_from_41 : decode cX1_from 41 = .ok (.if_icmp .gt 7, 3) := by decide +kernel
theorem dX1_from_44 : decode cX1_from 44 = .ok (.iconst 0, 1) := by decide +kernel
theorem dX1_from_45 : decode cX1_from 45 = .ok (.goto 4, 3) := by decide +kernel
theorem dX1_from_48 : decode cX1_from 48 = .ok (.iconst 1, 1) := by decide +kernel
theorem dX1_from_49 : decode cX1_from 49 = .ok (.putfield 21, 3) := by decide +kernel
theorem dX1_from_52 : decode cX1_from 52 = .ok (.iload 4, 2) := by decide +kernel
theorem dX1_from_54 : decode cX1_from 54 = .ok (.iload 5, 2) := by decide +kernel
theorem dX1_from_56 : decode cX1_from 56 = .ok (.invokestatic 25, 3) := by decide +kernel
theorem dX1_from_59 : decode cX1_from 59 = .ok (.ifCond .eq 7, 3) := by decide +kernel
theorem dX1_from_62 : decode cX1_from 62 = .ok (.iconst 1, 1) := by decide +kernel
theorem dX1_from_63 : decode cX1_from 63 = .ok (.goto 4, 3) := by decide +kernel
theorem dX1_from_66 : decode cX1_from 66 = .ok (.iconst 0, 1) := by decide +kernel
theorem dX1_from_67 : decode cX1_from 67 = .ok (.istore 8, 2) := by decide +kernel
theorem dX1_from_69 : decode cX1_from 69 = .ok (.aload_n 0, 1) := by decide +kernel
theorem dX1_from_70 : decode cX1_from 70 = .ok (.aload_n 1, 1) := by decide +kernel
theorem dX1_from_71 : decode cX1_from 71 = .ok (.iload_n 3, 1) := by decide +kernel
theorem dX1_from_72 : decode cX1_from 72 = .ok (.invokestatic 31, 3) := by decide +kernel
theorem dX1_from_75 : decode cX1_from 75 = .ok (.iload 6, 2) := by decide +kernel
theorem dX1_from_77 : decode cX1_from 77 = .ok (.iload 7, 2) := by decide +kernel
theorem dX1_from_79 : decode cX1_from 79 = .ok (.invokestatic 37, 3) := by decide +kernel
theorem dX1_from_82 : decode cX1_from 82 = .ok (.iload 8, 2) := by decide +kernel
theorem dX1_from_84 : decode cX1_from 84 = .ok (.invokevirtual 43, 3) := by decide +kernel
theorem dX1_from_87 : decode cX1_from 87 = .ok (.putfield 49, 3) := by decide +kernel
theorem dX1_from_90 : decode cX1_from 90 = .ok (.aload_n 0, 1) := by decide +kernel
theorem dX1_from_91 : decode cX1_from 91 = .ok (.aload_n 1, 1) := by decide +kernel
theorem dX1_from_92 : decode cX1_from 92 = .ok (.aload_n 0, 1) := by decide +kernel
theorem dX1_from_93 : decode cX1_from 93 = .ok (.getfield 49, 3) := by decide +kernel
theorem dX1_from_96 : decode cX1_from 96 = .ok (.invokevirtual 52, 3) := by decide +kernel
theorem dX1_from_99 : decode cX1_from 99 = .ok (.ifCond .eq 15, 3) := by decide +kernel
theorem dX1_from_102 : decode cX1_from 102 = .ok (.aload_n 1, 1) := by decide +kernel
theorem dX1_from_103 : decode cX1_from 103 = .ok (.aload_n 0, 1) := by decide +kernel
theorem dX1_from_104 : decode cX1_from 104 = .ok (.getfield 49, 3) := by decide +kernel
theorem dX1_from_107 : decode cX1_from 107 = .ok (.iconst 4, 1) := by decide +kernel
theorem dX1_from_108 : decode cX1_from 108 = .ok (.invokevirtual 55, 3) := by decide +kernel
theorem dX1_from_111 : decode cX1_from 111 = .ok (.goto 4, 3) := by decide +kernel
theorem dX1_from_114 : decode cX1_from 114 = .ok (.iconst 0, 1) := by decide +kernel
theorem dX1_from_115 : decode cX1_from 115 = .ok (.putfield 58, 3) := by decide +kernel
theorem dX1_from_118 : decode cX1_from 118 = .ok (.aload_n 0, 1) := by decide +kernel
theorem dX1_from_119 : decode cX1_from 119 = .ok (.aload_n 0, 1) := by decide +kernel
theorem dX1_from_120 : decode cX1_from 120 = .ok (.iload_n 2, 1) := by decide +kernel
theorem dX1_from_121 : decode cX1_from 121 = .ok (.iload 5, 2) := by decide +kernel
theorem dX1_from_123 : decode cX1_from 123 = .ok (.invokevirtual 61, 3) := by decide +kernel
theorem dX1_from_126 : decode cX1_from 126 = .ok (.putfield 64, 3) := by decide +kernel
theorem dX1_from_129 : decode cX1_from 129 = .ok (.return_, 1) := by decide +kernel
set_option maxRecDepth 20000 in
theorem ggX1_goalFrom_X1_sideOfMove : GoodIn wsX1_goalFrom wsX1_sideOfMove := goodIn_r _ [6, 1, 7, 12, 13, 14, 15, 16] (by decide +kernel) (by decide +kernel)
set_option maxRecDepth 20000 in
theorem gX1_goalFrom_X1_sideOfMove : GoodIn wsX1_goalFrom (wsV RX1 67 RX1 yX1_sideOfMove wsX1_sideOfMove) := goodIn_app (goodIn_of _ (by decide +kernel)) ggX1_goalFrom_X1_sideOfMove
set_option maxRecDepth 20000 in
theorem ggX1_goalFrom_X5_cellNextTo : GoodIn wsX1_goalFrom wsX5_cellNextTo := goodIn_r _ [11] (by decide +kernel) (by decide +kernel)
set_option maxRecDepth 20000 in
theorem gX1_goalFrom_X5_cellNextTo : GoodIn wsX1_goalFrom (va_wsS RX1 71 yX5_cellNextTo wsX5_cellNextTo) := goodIn_app (goodIn_of _ (by decide +kernel)) ggX1_goalFrom_X5_cellNextTo
theorem dX1_goalFrom_0 : decode cX1_goalFrom 0 = .ok (.aload_n 0, 1) := by decide +kernel
theorem dX1_goalFrom_1 : decode cX1_goalFrom 1 = .ok (.getfield 58, 3) := by decide +kernel
theorem dX1_goalFrom_4 : decode cX1_goalFrom 4 = .ok (.ifCond .ne 5, 3) := by decide +kernel
theorem dX1_goalFrom_7 : decode cX1_goalFrom 7 = .ok (.iload_n 2, 1) := by decide +kernel
theorem dX1_goalFrom_8 : decode cX1_goalFrom 8 = .ok (.ireturn, 1) := by decide +kernel
theorem dX1_goalFrom_9 : decode cX1_goalFrom 9 = .ok (.iload_n 1, 1) := by decide +kernel
theorem dX1_goalFrom_10 : decode cX1_goalFrom 10 = .ok (.iload_n 2, 1) := by decide +kernel
theorem dX1_goalFrom_11 : decode cX1_goalFrom 11 = .ok (.aload_n 0, 1) := by decide +kernel
theorem dX1_goalFrom_12 : decode cX1_goalFrom 12 = .ok (.invokevirtual 67, 3) := by decide +kernel
theorem dX1_goalFrom_15 : decode cX1_goalFrom 15 = .ok (.invokestatic 71, 3) := by decide +kernel
theorem dX1_goalFrom_18 : decode cX1_goalFrom 18 = .ok (.ireturn, 1) := by decide +kernel
theorem dX1_sideOfMove_0 : decode cX1_sideOfMove 0 = .ok (.aload_n 0, 1) := by decide +kernel
theorem dX1_sideOfMove_1 : decode cX1_sideOfMove 1 = .ok (.getfield 58, 3) := by decide +kernel
theorem dX1_sideOfMove_4 : decode cX1_sideOfMove 4 = .ok (.iconst 1, 1) := by decide +kernel
theorem dX1_sideOfMove_5 : decode cX1_sideOfMove 5 = .ok (.if_icmp .ne 8, 3) := by decide +kernel
theorem dX1_sideOfMove_8 : decode cX1_sideOfMove 8 = .ok (.aload_n 0, 1) := by decide +kernel
theorem dX1_sideOfMove_9 : decode cX1_sideOfMove 9 = .ok (.getfield 21, 3) := by decide +kernel
theorem dX1_sideOfMove_12 : decode cX1_sideOfMove 12 = .ok (.ireturn, 1) := by decide +kernel
theorem dX1_sideOfMove_13 : decode cX1_sideOfMove 13 = .ok (.aload_n 0, 1) := by decide +kernel
theorem dX1_sideOfMove_14 : decode cX1_sideOfMove 14 = .ok (.getfield 21, 3) := by decide +kernel
theorem dX1_sideOfMove_17 : decode cX1_sideOfMove 17 = .ok (.ifCond .ne 7, 3) := by decide +kernel
theorem dX1_sideOfMove_20 : decode cX1_sideOfMove 20 = .ok (.iconst 1, 1) := by decide +kernel
theorem dX1_sideOfMove_21 : decode cX1_sideOfMove 21 = .ok (.goto 4, 3) := by decide +kernel
theorem dX1_sideOfMove_24 : decode cX1_sideOfMove 24 = .ok (.iconst 0, 1) := by decide +kernel
theorem dX1_sideOfMove_25 : decode cX1_sideOfMove 25 = .ok (.ireturn, 1) := by decide +kernel
set_option maxRecDepth 20000 in
theorem ggX2_init_X1_init : GoodIn wsX2_init wsX1_init := goodIn_r _ [9, 10, 2, 3] (by decide +kernel) (by decide +kernel)
set_option maxRecDepth 20000 in
theorem gX2_init_X1_init_n11 : GoodIn wsX2_init (wsX1_init) := ggX2_init_X1_init
theorem dX2_init_0 : decode cX2_init 0 = .ok (.aload_n 0, 1) := by decide +kernel
theorem dX2_init_1 : decode cX2_init 1 = .ok (.invokespecial 3, 3) := by decide +kernel
theorem dX2_init_4 : decode cX2_init 4 = .ok (.aload_n 0, 1) := by decide +kernel
theorem dX2_init_5 : decode cX2_init 5 = .ok (.new 9, 3) := by decide +kernel
theorem dX2_init_8 : decode cX2_init 8 = .ok (.dup, 1) := by decide +kernel
theorem dX2_init_9 : decode cX2_init 9 = .ok (.invokespecial 11, 3) := by decide +kernel
theorem dX2_init_12 : decode cX2_init 12 = .ok (.putfield 12, 3) := by decide +kernel
theorem dX2_init_15 : decode cX2_init 15 = .ok (.return_, 1) := by decide +kernel
set_option maxRecDepth 20000 in
theorem ggX2_from_X5_has : GoodIn wsX2_from wsX5_has := goodIn_r _ [8] (by decide +kernel) (by decide +kernel)
set_option maxRecDepth 20000 in
theorem gX2_from_X5_has : GoodIn wsX2_from (va_wsS RX2 28 yX5_has wsX5_has) := goodIn_app (goodIn_of _ (by decide +kernel)) ggX2_from_X5_has
set_option maxRecDepth 20000 in
theorem ggX2_from_X1_from : GoodIn wsX2_from wsX1_from := goodIn_r _ [13, 14, 15, 16, 17, 18, 19, 20, 21, 22, 23, 24, 25, 26, 27, 28, 7, 29, 30, 6, 8, 31, 32, 33, 34, 35, 36, 37, 38, 39, 40, 41, 42, 43, 44, 45, 46, 47, 48, 49, 50, 51, 52, 53, 54, 55, 56, 57, 58, 59, 60, 61, 62, 63, 64, 65, 66, 67, 12, 68, 69, 70, 71, 72, 73, 84, 85, 86, 87, 88, 89, 90] (by decide +kernel) (by decide +kernel)
set_option maxRecDepth 20000 in
theorem gX2_from_X1_from : GoodIn wsX2_from (wsV RX2 34 RX1 yX1_from wsX1_from) := goodIn_app (goodIn_of _ (by decide +kernel)) ggX2_from_X1_from
set_option maxRecDepth 20000 in
theorem ggX2_from_X2_enter : GoodIn wsX2_from wsX2_enter := goodIn_r _ [78, 4, 3, 1, 2, 79, 70, 71, 12, 72, 21, 15, 80, 81, 82, 83, 84, 85, 86, 87, 88] (by decide +kernel) (by decide +kernel)
set_option maxRecDepth 20000 in
theorem gX2_from_X2_enter : GoodIn wsX2_from (wsV RX2 38 RX2 yX2_enter wsX2_enter) := goodIn_app (goodIn_of _ (by decide +kernel)) ggX2_from_X2_enter
theorem dX2_from_0 : decode cX2_from 0 = .ok (.aload_n 0, 1) := by decide +kernel
theorem dX2_from_1 : decode cX2_from 1 = .ok (.iconst 0, 1) := by decide +kernel
theorem dX2_from_2 : decode cX2_from 2 = .ok (.putfield 18, 3) := by decide +kernel
theorem dX2_from_5 : decode cX2_from 5 = .ok (.aload_n 0, 1) := by decide +kernel
theorem dX2_from_6 : decode cX2_from 6 = .ok (.iconst 0, 1) := by decide +kernel
theorem dX2_from_7 : decode cX2_from 7 = .ok (.putfield 22, 3) := by decide +kernel
theorem dX2_from_10 : decode cX2_from 10 = .ok (.aload_n 0, 1) := by decide +kernel
theorem dX2_from_11 : decode cX2_from 11 = .ok (.iconst 0, 1) := by decide +kernel
theorem dX2_from_12 : decode cX2_from 12 = .ok (.putfield 25, 3) := by decide +kernel
theorem dX2_from_15 : decode cX2_from 15 = .ok (.iconst 0, 1) := by decide +kernel
theorem dX2_from_16 : decode cX2_from 16 = .ok (.istore 5, 2) := by decide +kernel
theorem dX2_from_18 : decode cX2_from 18 = .ok (.iload 5, 2) := by decide +kernel
theorem dX2_from_20 : decode cX2_from 20 = .ok (.iload_n 2, 1) := by decide +kernel
theorem dX2_from_21 : decode cX2_from 21 = .ok (.if_icmp .ge 38, 3) := by decide +kernel
theorem dX2_from_24 : decode cX2_from 24 = .ok (.iload_n 3, 1) := by decide +kernel
theorem dX2_from_25 : decode cX2_from 25 = .ok (.iload 5, 2) := by decide +kernel
theorem dX2_from_27 : decode cX2_from 27 = .ok (.invokestatic 28, 3) := by decide +kernel
theorem dX2_from_30 : decode cX2_from 30 = .ok (.ifCond .eq 23, 3) := by decide +kernel
theorem dX2_from_33 : decode cX2_from 33 = .ok (.aload_n 0, 1) := by decide +kernel
theorem dX2_from_34 : decode cX2_from 34 = .ok (.getfield 12, 3) := by decide +kernel
theorem dX2_from_37 : decode cX2_from 37 = .ok (.aload_n 1, 1) := by decide +kernel
theorem dX2_from_38 : decode cX2_from 38 = .ok (.iload_n 2, 1) := by decide +kernel
theorem dX2_from_39 : decode cX2_from 39 = .ok (.iload_n 3, 1) := by decide +kernel
theorem dX2_from_40 : decode cX2_from 40 = .ok (.iload 4, 2) := by decide +kernel
theorem dX2_from_42 : decode cX2_from 42 = .ok (.iload 5, 2) := by decide +kernel
theorem dX2_from_44 : decode cX2_from 44 = .ok (.invokevirtual 34, 3) := by decide +kernel
theorem dX2_from_47 : decode cX2_from 47 = .ok (.aload_n 0, 1) := by decide +kernel
theorem dX2_from_48 : decode cX2_from 48 = .ok (.iload 5, 2) := by decide +kernel
theorem dX2_from_50 : decode cX2_from 50 = .ok (.invokevirtual 38, 3) := by decide +kernel
theorem dX2_from_53 : decode cX2_from 53 = .ok (.iinc 5 1, 3) := by decide +kernel
theorem dX2_from_56 : decode cX2_from 56 = .ok (.goto (-38), 3) := by decide +kernel
theorem dX2_from_59 : decode cX2_from 59 = .ok (.return_, 1) := by decide +kernel
set_option maxRecDepth 20000 in
theorem ggX2_enter_X1_sideOfMove : GoodIn wsX2_enter wsX1_sideOfMove := goodIn_r _ [9, 10, 11, 16, 17, 18, 19, 20] (by decide +kernel) (by decide +kernel)
set_option maxRecDepth 20000 in
theorem gX2_enter_X1_sideOfMove : GoodIn wsX2_enter (wsV RX2 48 RX1 yX1_sideOfMove wsX1_sideOfMove) := goodIn_app (goodIn_of _ (by decide +kernel)) ggX2_enter_X1_sideOfMove
theorem dX2_enter_0 : decode cX2_enter 0 = .ok (.aload_n 0, 1) := by decide +kernel
theorem dX2_enter_1 : decode cX2_enter 1 = .ok (.getfield 12, 3) := by decide +kernel
theorem dX2_enter_4 : decode cX2_enter 4 = .ok (.getfield 42, 3) := by decide +kernel
theorem dX2_enter_7 : decode cX2_enter 7 = .ok (.ifCond .lt 21, 3) := by decide +kernel
theorem dX2_enter_10 : decode cX2_enter 10 = .ok (.aload_n 0, 1) := by decide +kernel
theorem dX2_enter_11 : decode cX2_enter 11 = .ok (.dup, 1) := by decide +kernel
theorem dX2_enter_12 : decode cX2_enter 12 = .ok (.getfield 25, 3) := by decide +kernel
theorem dX2_enter_15 : decode cX2_enter 15 = .ok (.iconst 1, 1) := by decide +kernel
theorem dX2_enter_16 : decode cX2_enter 16 = .ok (.aload_n 0, 1) := by decide +kernel
theorem dX2_enter_17 : decode cX2_enter 17 = .ok (.getfield 12, 3) := by decide +kernel
theorem dX2_enter_20 : decode cX2_enter 20 = .ok (.getfield 42, 3) := by decide +kernel
theorem dX2_enter_23 : decode cX2_enter 23 = .ok (.ishl, 1) := by decide +kernel
theorem dX2_enter_24 : decode cX2_enter 24 = .ok (.ior, 1) := by decide +kernel
theorem dX2_enter_25 : decode cX2_enter 25 = .ok (.putfield 25, 3) := by decide +kernel
theorem dX2_enter_28 : decode cX2_enter 28 = .ok (.aload_n 0, 1) := by decide +kernel
theorem dX2_enter_29 : decode cX2_enter 29 = .ok (.getfield 12, 3) := by decide +kernel
theorem dX2_enter_32 : decode cX2_enter 32 = .ok (.getfield 45, 3) := by decide +kernel
theorem dX2_enter_35 : decode cX2_enter 35 = .ok (.ifCond .ne 4, 3) := by decide +kernel
theorem dX2_enter_38 : decode cX2_enter 38 = .ok (.return_, 1) := by decide +kernel
theorem dX2_enter_39 : decode cX2_enter 39 = .ok (.aload_n 0, 1) := by decide +kernel
theorem dX2_enter_40 : decode cX2_enter 40 = .ok (.getfield 12, 3) := by decide +kernel
theorem dX2_enter_43 : decode cX2_enter 43 = .ok (.invokevirtual 48, 3) := by decide +kernel
theorem dX2_enter_46 : decode cX2_enter 46 = .ok (.ifCond .ne 18, 3) := by decide +kernel
theorem dX2_enter_49 : decode cX2_enter 49 = .ok (.aload_n 0, 1) := by decide +kernel
theorem dX2_enter_50 : decode cX2_enter 50 = .ok (.dup, 1) := by decide +kernel
theorem dX2_enter_51 : decode cX2_enter 51 = .ok (.getfield 18, 3) := by decide +kernel
theorem dX2_enter_54 : decode cX2_enter 54 = .ok (.iconst 1, 1) := by decide +kernel
theorem dX2_enter_55 : decode cX2_enter 55 = .ok (.iload_n 1, 1) := by decide +kernel
theorem dX2_enter_56 : decode cX2_enter 56 = .ok (.ishl, 1) := by decide +kernel
theorem dX2_enter_57 : decode cX2_enter 57 = .ok (.ior, 1) := by decide +kernel
theorem dX2_enter_58 : decode cX2_enter 58 = .ok (.putfield 18, 3) := by decide +kernel
theorem dX2_enter_61 : decode cX2_enter 61 = .ok (.goto 15, 3) := by decide +kernel
theorem dX2_enter_64 : decode cX2_enter 64 = .ok (.aload_n 0, 1) := by decide +kernel
theorem dX2_enter_65 : decode cX2_enter 65 = .ok (.dup, 1) := by decide +kernel
theorem dX2_enter_66 : decode cX2_enter 66 = .ok (.getfield 22, 3) := by decide +kernel
theorem dX2_enter_69 : decode cX2_enter 69 = .ok (.iconst 1, 1) := by decide +kernel
theorem dX2_enter_70 : decode cX2_enter 70 = .ok (.iload_n 1, 1) := by decide +kernel
theorem dX2_enter_71 : decode cX2_enter 71 = .ok (.ishl, 1) := by decide +kernel
theorem dX2_enter_72 : decode cX2_enter 72 = .ok (.ior, 1) := by decide +kernel
theorem dX2_enter_73 : decode cX2_enter 73 = .ok (.putfield 22, 3) := by decide +kernel
theorem dX2_enter_76 : decode cX2_enter 76 = .ok (.return_, 1) := by decide +kernel
theorem dX2_movers_0 : decode cX2_movers 0 = .ok (.aload_n 0, 1) := by decide +kernel
theorem dX2_movers_1 : decode cX2_movers 1 = .ok (.getfield 18, 3) := by decide +kernel
theorem dX2_movers_4 : decode cX2_movers 4 = .ok (.aload_n 0, 1) := by decide +kernel
theorem dX2_movers_5 : decode cX2_movers 5 = .ok (.getfield 22, 3) := by decide +kernel
theorem dX2_movers_8 : decode cX2_movers 8 = .ok (.ior, 1) := by decide +kernel
theorem dX2_movers_9 : decode cX2_movers 9 = .ok (.ireturn, 1) := by decide +kernel
set_option maxRecDepth 20000 in
theorem ggX2_wayBehind_X5_standsOf : GoodIn wsX2_wayBehind wsX5_standsOf := goodIn_r _ [6] (by decide +kernel) (by decide +kernel)
set_option maxRecDepth 20000 in
theorem gX2_wayBehind_X5_standsOf : GoodIn wsX2_wayBehind (va_wsS RX2 52 yX5_standsOf wsX5_standsOf) := goodIn_app (goodIn_of _ (by decide +kernel)) ggX2_wayBehind_X5_standsOf
set_option maxRecDepth 20000 in
theorem ggX2_wayBehind_X5_towersOf : GoodIn wsX2_wayBehind wsX5_towersOf := goodIn_r _ [9] (by decide +kernel) (by decide +kernel)
set_option maxRecDepth 20000 in
theorem gX2_wayBehind_X5_towersOf : GoodIn wsX2_wayBehind (va_wsS RX2 56 yX5_towersOf wsX5_towersOf) := goodIn_app (goodIn_of _ (by decide +kernel)) ggX2_wayBehind_X5_towersOf
set_option maxRecDepth 20000 in
theorem ggX2_wayBehind_X2_movers : GoodIn wsX2_wayBehind wsX2_movers := goodIn_r _ [14, 1, 2, 24, 25, 26, 27] (by decide +kernel) (by decide +kernel)
set_option maxRecDepth 20000 in
theorem gX2_wayBehind_X2_movers : GoodIn wsX2_wayBehind (wsV RX2 59 RX2 yX2_movers wsX2_movers) := goodIn_app (goodIn_of _ (by decide +kernel)) ggX2_wayBehind_X2_movers
set_option maxRecDepth 20000 in
theorem ggX2_wayBehind_X5_turnedUp : GoodIn wsX2_wayBehind wsX5_turnedUp := goodIn_r _ [17] (by decide +kernel) (by decide +kernel)
set_option maxRecDepth 20000 in
theorem gX2_wayBehind_X5_turnedUp : GoodIn wsX2_wayBehind (va_wsS RX2 62 yX5_turnedUp wsX5_turnedUp) := goodIn_app (goodIn_of _ (by decide +kernel)) ggX2_wayBehind_X5_turnedUp
set_option maxRecDepth 20000 in
theorem ggX2_wayBehind_X5_turnedDown : GoodIn wsX2_wayBehind wsX5_turnedDown := goodIn_r _ [20] (by decide +kernel) (by decide +kernel)
set_option maxRecDepth 20000 in
theorem gX2_wayBehind_X5_turnedDown : GoodIn wsX2_wayBehind (va_wsS RX2 66 yX5_turnedDown wsX5_turnedDown) := goodIn_app (goodIn_of _ (by decide +kernel)) ggX2_wayBehind_X5_turnedDown
set_option maxRecDepth 20000 in
theorem ggX2_wayBehind_X5_way : GoodIn wsX2_wayBehind wsX5_way := goodIn_r _ [23] (by decide +kernel) (by decide +kernel)
set_option maxRecDepth 20000 in
theorem gX2_wayBehind_X5_way : GoodIn wsX2_wayBehind (va_wsS RX2 69 yX5_way wsX5_way) := goodIn_app (goodIn_of _ (by decide +kernel)) ggX2_wayBehind_X5_way
theorem dX2_wayBehind_0 : decode cX2_wayBehind 0 = .ok (.iload_n 2, 1) := by decide +kernel
theorem dX2_wayBehind_1 : decode cX2_wayBehind 1 = .ok (.invokestatic 52, 3) := by decide +kernel
theorem dX2_wayBehind_4 : decode cX2_wayBehind 4 = .ok (.istore 4, 2) := by decide +kernel
theorem dX2_wayBehind_6 : decode cX2_wayBehind 6 = .ok (.iload_n 2, 1) := by decide +kernel
theorem dX2_wayBehind_7 : decode cX2_wayBehind 7 = .ok (.invokestatic 56, 3) := by decide +kernel
theorem dX2_wayBehind_10 : decode cX2_wayBehind 10 = .ok (.istore 5, 2) := by decide +kernel
theorem dX2_wayBehind_12 : decode cX2_wayBehind 12 = .ok (.iload 4, 2) := by decide +kernel
theorem dX2_wayBehind_14 : decode cX2_wayBehind 14 = .ok (.iload_n 3, 1) := by decide +kernel
theorem dX2_wayBehind_15 : decode cX2_wayBehind 15 = .ok (.aload_n 0, 1) := by decide +kernel
theorem dX2_wayBehind_16 : decode cX2_wayBehind 16 = .ok (.invokevirtual 59, 3) := by decide +kernel
theorem dX2_wayBehind_19 : decode cX2_wayBehind 19 = .ok (.iand, 1) := by decide +kernel
theorem dX2_wayBehind_20 : decode cX2_wayBehind 20 = .ok (.iconst (-1), 1) := by decide +kernel
theorem dX2_wayBehind_21 : decode cX2_wayBehind 21 = .ok (.ixor, 1) := by decide +kernel
theorem dX2_wayBehind_22 : decode cX2_wayBehind 22 = .ok (.iand, 1) := by decide +kernel
theorem dX2_wayBehind_23 : decode cX2_wayBehind 23 = .ok (.istore 6, 2) := by decide +kernel
theorem dX2_wayBehind_25 : decode cX2_wayBehind 25 = .ok (.iload_n 1, 1) := by decide +kernel
theorem dX2_wayBehind_26 : decode cX2_wayBehind 26 = .ok (.iload 4, 2) := by decide +kernel
theorem dX2_wayBehind_28 : decode cX2_wayBehind 28 = .ok (.iload_n 3, 1) := by decide +kernel
theorem dX2_wayBehind_29 : decode cX2_wayBehind 29 = .ok (.iand, 1) := by decide +kernel
theorem dX2_wayBehind_30 : decode cX2_wayBehind 30 = .ok (.aload_n 0, 1) := by decide +kernel
theorem dX2_wayBehind_31 : decode cX2_wayBehind 31 = .ok (.getfield 18, 3) := by decide +kernel
theorem dX2_wayBehind_34 : decode cX2_wayBehind 34 = .ok (.iand, 1) := by decide +kernel
theorem dX2_wayBehind_35 : decode cX2_wayBehind 35 = .ok (.invokestatic 62, 3) := by decide +kernel
theorem dX2_wayBehind_38 : decode cX2_wayBehind 38 = .ok (.istore 7, 2) := by decide +kernel
theorem dX2_wayBehind_40 : decode cX2_wayBehind 40 = .ok (.iload_n 1, 1) := by decide +kernel
theorem dX2_wayBehind_41 : decode cX2_wayBehind 41 = .ok (.iload 4, 2) := by decide +kernel
theorem dX2_wayBehind_43 : decode cX2_wayBehind 43 = .ok (.iload_n 3, 1) := by decide +kernel
theorem dX2_wayBehind_44 : decode cX2_wayBehind 44 = .ok (.iand, 1) := by decide +kernel
theorem dX2_wayBehind_45 : decode cX2_wayBehind 45 = .ok (.aload_n 0, 1) := by decide +kernel
theorem dX2_wayBehind_46 : decode cX2_wayBehind 46 = .ok (.getfield 22, 3) := by decide +kernel
theorem dX2_wayBehind_49 : decode cX2_wayBehind 49 = .ok (.iand, 1) := by decide +kernel
theorem dX2_wayBehind_50 : decode cX2_wayBehind 50 = .ok (.invokestatic 66, 3) := by decide +kernel
theorem dX2_wayBehind_53 : decode cX2_wayBehind 53 = .ok (.istore 8, 2) := by decide +kernel
theorem dX2_wayBehind_55 : decode cX2_wayBehind 55 = .ok (.iload 5, 2) := by decide +kernel
theorem dX2_wayBehind_57 : decode cX2_wayBehind 57 = .ok (.iload 6, 2) := by decide +kernel
theorem dX2_wayBehind_59 : decode cX2_wayBehind 59 = .ok (.iand, 1) := by decide +kernel
theorem dX2_wayBehind_60 : decode cX2_wayBehind 60 = .ok (.iload_n 1, 1) := by decide +kernel
theorem dX2_wayBehind_61 : decode cX2_wayBehind 61 = .ok (.iload 5, 2) := by decide +kernel
theorem dX2_wayBehind_63 : decode cX2_wayBehind 63 = .ok (.iload_n 3, 1) := by decide +kernel
theorem dX2_wayBehind_64 : decode cX2_wayBehind 64 = .ok (.iand, 1) := by decide +kernel
theorem dX2_wayBehind_65 : decode cX2_wayBehind 65 = .ok (.aload_n 0, 1) := by decide +kernel
theorem dX2_wayBehind_66 : decode cX2_wayBehind 66 = .ok (.getfield 18, 3) := by decide +kernel
theorem dX2_wayBehind_69 : decode cX2_wayBehind 69 = .ok (.iand, 1) := by decide +kernel
theorem dX2_wayBehind_70 : decode cX2_wayBehind 70 = .ok (.invokestatic 62, 3) := by decide +kernel
theorem dX2_wayBehind_73 : decode cX2_wayBehind 73 = .ok (.ior, 1) := by decide +kernel
theorem dX2_wayBehind_74 : decode cX2_wayBehind 74 = .ok (.iload_n 1, 1) := by decide +kernel
theorem dX2_wayBehind_75 : decode cX2_wayBehind 75 = .ok (.iload 5, 2) := by decide +kernel
theorem dX2_wayBehind_77 : decode cX2_wayBehind 77 = .ok (.iload_n 3, 1) := by decide +kernel
theorem dX2_wayBehind_78 : decode cX2_wayBehind 78 = .ok (.iand, 1) := by decide +kernel
theorem dX2_wayBehind_79 : decode cX2_wayBehind 79 = .ok (.aload_n 0, 1) := by decide +kernel
theorem dX2_wayBehind_80 : decode cX2_wayBehind 80 = .ok (.getfield 22, 3) := by decide +kernel
theorem dX2_wayBehind_83 : decode cX2_wayBehind 83 = .ok (.iand, 1) := by decide +kernel
theorem dX2_wayBehind_84 : decode cX2_wayBehind 84 = .ok (.invokestatic 66, 3) := by decide +kernel
theorem dX2_wayBehind_87 : decode cX2_wayBehind 87 = .ok (.ior, 1) := by decide +kernel
theorem dX2_wayBehind_88 : decode cX2_wayBehind 88 = .ok (.iload 6, 2) := by decide +kernel
theorem dX2_wayBehind_90 : decode cX2_wayBehind 90 = .ok (.iload 7, 2) := by decide +kernel
theorem dX2_wayBehind_92 : decode cX2_wayBehind 92 = .ok (.iand, 1) := by decide +kernel
theorem dX2_wayBehind_93 : decode cX2_wayBehind 93 = .ok (.ior, 1) := by decide +kernel
theorem dX2_wayBehind_94 : decode cX2_wayBehind 94 = .ok (.iload 6, 2) := by decide +kernel
theorem dX2_wayBehind_96 : decode cX2_wayBehind 96 = .ok (.iload 8, 2) := by decide +kernel
theorem dX2_wayBehind_98 : decode cX2_wayBehind 98 = .ok (.iand, 1) := by decide +kernel
theorem dX2_wayBehind_99 : decode cX2_wayBehind 99 = .ok (.ior, 1) := by decide +kernel
theorem dX2_wayBehind_100 : decode cX2_wayBehind 100 = .ok (.iload 7, 2) := by decide +kernel
theorem dX2_wayBehind_102 : decode cX2_wayBehind 102 = .ok (.iload 8, 2) := by decide +kernel
theorem dX2_wayBehind_104 : decode cX2_wayBehind 104 = .ok (.iand, 1) := by decide +kernel
theorem dX2_wayBehind_105 : decode cX2_wayBehind 105 = .ok (.ior, 1) := by decide +kernel
theorem dX2_wayBehind_106 : decode cX2_wayBehind 106 = .ok (.istore 9, 2) := by decide +kernel
theorem dX2_wayBehind_108 : decode cX2_wayBehind 108 = .ok (.iload 6, 2) := by decide +kernel
theorem dX2_wayBehind_110 : decode cX2_wayBehind 110 = .ok (.iload 7, 2) := by decide +kernel
theorem dX2_wayBehind_112 : decode cX2_wayBehind 112 = .ok (.ior, 1) := by decide +kernel
theorem dX2_wayBehind_113 : decode cX2_wayBehind 113 = .ok (.iload 8, 2) := by decide +kernel
theorem dX2_wayBehind_115 : decode cX2_wayBehind 115 = .ok (.ior, 1) := by decide +kernel
theorem dX2_wayBehind_116 : decode cX2_wayBehind 116 = .ok (.iload 9, 2) := by decide +kernel
theorem dX2_wayBehind_118 : decode cX2_wayBehind 118 = .ok (.invokestatic 69, 3) := by decide +kernel
theorem dX2_wayBehind_121 : decode cX2_wayBehind 121 = .ok (.ireturn, 1) := by decide +kernel
theorem dX3_init_0 : decode cX3_init 0 = .ok (.aload_n 0, 1) := by decide +kernel
theorem dX3_init_1 : decode cX3_init 1 = .ok (.invokespecial 3, 3) := by decide +kernel
theorem dX3_init_4 : decode cX3_init 4 = .ok (.aload_n 0, 1) := by decide +kernel
theorem dX3_init_5 : decode cX3_init 5 = .ok (.bipush 60, 2) := by decide +kernel
theorem dX3_init_7 : decode cX3_init 7 = .ok (.newarray .int, 2) := by decide +kernel
theorem dX3_init_9 : decode cX3_init 9 = .ok (.putfield 9, 3) := by decide +kernel
theorem dX3_init_12 : decode cX3_init 12 = .ok (.return_, 1) := by decide +kernel
theorem dX3_has_0 : decode cX3_has 0 = .ok (.iload_n 1, 1) := by decide +kernel
theorem dX3_has_1 : decode cX3_has 1 = .ok (.ifCond .lt 21, 3) := by decide +kernel
theorem dX3_has_4 : decode cX3_has 4 = .ok (.iload_n 1, 1) := by decide +kernel
theorem dX3_has_5 : decode cX3_has 5 = .ok (.aload_n 0, 1) := by decide +kernel
theorem dX3_has_6 : decode cX3_has 6 = .ok (.getfield 15, 3) := by decide +kernel
theorem dX3_has_9 : decode cX3_has 9 = .ok (.if_icmp .ge 13, 3) := by decide +kernel
theorem dX3_has_12 : decode cX3_has 12 = .ok (.iload_n 1, 1) := by decide +kernel
theorem dX3_has_13 : decode cX3_has 13 = .ok (.bipush 10, 2) := by decide +kernel
theorem dX3_has_15 : decode cX3_has 15 = .ok (.if_icmp .ge 7, 3) := by decide +kernel
theorem dX3_has_18 : decode cX3_has 18 = .ok (.iconst 1, 1) := by decide +kernel
theorem dX3_has_19 : decode cX3_has 19 = .ok (.goto 4, 3) := by decide +kernel
theorem dX3_has_22 : decode cX3_has 22 = .ok (.iconst 0, 1) := by decide +kernel
theorem dX3_has_23 : decode cX3_has 23 = .ok (.ireturn, 1) := by decide +kernel
set_option maxRecDepth 20000 in
theorem ggX3_part_X3_has : GoodIn wsX3_part wsX3_has := goodIn_r _ [6, 7, 8, 9] (by decide +kernel) (by decide +kernel)
set_option maxRecDepth 20000 in
theorem gX3_part_X3_has : GoodIn wsX3_part (wsV RX3 19 RX3 yX3_has wsX3_has) := goodIn_app (goodIn_of _ (by decide +kernel)) ggX3_part_X3_has
theorem dX3_part_0 : decode cX3_part 0 = .ok (.aload_n 0, 1) := by decide +kernel
theorem dX3_part_1 : decode cX3_part 1 = .ok (.iload_n 1, 1) := by decide +kernel
theorem dX3_part_2 : decode cX3_part 2 = .ok (.invokevirtual 19, 3) := by decide +kernel
theorem dX3_part_5 : decode cX3_part 5 = .ok (.ifCond .eq 27, 3) := by decide +kernel
theorem dX3_part_8 : decode cX3_part 8 = .ok (.iload_n 2, 1) := by decide +kernel
theorem dX3_part_9 : decode cX3_part 9 = .ok (.ifCond .lt 23, 3) := by decide +kernel
theorem dX3_part_12 : decode cX3_part 12 = .ok (.iload_n 2, 1) := by decide +kernel
theorem dX3_part_13 : decode cX3_part 13 = .ok (.bipush 6, 2) := by decide +kernel
theorem dX3_part_15 : decode cX3_part 15 = .ok (.if_icmp .ge 17, 3) := by decide +kernel
theorem dX3_part_18 : decode cX3_part 18 = .ok (.aload_n 0, 1) := by decide +kernel
theorem dX3_part_19 : decode cX3_part 19 = .ok (.getfield 9, 3) := by decide +kernel
theorem dX3_part_22 : decode cX3_part 22 = .ok (.iload_n 1, 1) := by decide +kernel
theorem dX3_part_23 : decode cX3_part 23 = .ok (.bipush 6, 2) := by decide +kernel
theorem dX3_part_25 : decode cX3_part 25 = .ok (.imul, 1) := by decide +kernel
theorem dX3_part_26 : decode cX3_part 26 = .ok (.iload_n 2, 1) := by decide +kernel
theorem dX3_part_27 : decode cX3_part 27 = .ok (.iadd, 1) := by decide +kernel
theorem dX3_part_28 : decode cX3_part 28 = .ok (.iaload, 1) := by decide +kernel
theorem dX3_part_29 : decode cX3_part 29 = .ok (.goto 4, 3) := by decide +kernel
theorem dX3_part_32 : decode cX3_part 32 = .ok (.iconst 0, 1) := by decide +kernel
theorem dX3_part_33 : decode cX3_part 33 = .ok (.ireturn, 1) := by decide +kernel
set_option maxRecDepth 20000 in
theorem ggX3_setPart_X3_has : GoodIn wsX3_setPart wsX3_has := goodIn_r _ [6, 7, 8, 9] (by decide +kernel) (by decide +kernel)
set_option maxRecDepth 20000 in
theorem gX3_setPart_X3_has : GoodIn wsX3_setPart (wsV RX3 19 RX3 yX3_has wsX3_has) := goodIn_app (goodIn_of _ (by decide +kernel)) ggX3_setPart_X3_has
theorem dX3_setPart_0 : decode cX3_setPart 0 = .ok (.aload_n 0, 1) := by decide +kernel
theorem dX3_setPart_1 : decode cX3_setPart 1 = .ok (.iload_n 1, 1) := by decide +kernel
theorem dX3_setPart_2 : decode cX3_setPart 2 = .ok (.invokevirtual 19, 3) := by decide +kernel
theorem dX3_setPart_5 : decode cX3_setPart 5 = .ok (.ifCond .eq 25, 3) := by decide +kernel
theorem dX3_setPart_8 : decode cX3_setPart 8 = .ok (.iload_n 2, 1) := by decide +kernel
theorem dX3_setPart_9 : decode cX3_setPart 9 = .ok (.ifCond .lt 21, 3) := by decide +kernel
theorem dX3_setPart_12 : decode cX3_setPart 12 = .ok (.iload_n 2, 1) := by decide +kernel
theorem dX3_setPart_13 : decode cX3_setPart 13 = .ok (.bipush 6, 2) := by decide +kernel
theorem dX3_setPart_15 : decode cX3_setPart 15 = .ok (.if_icmp .ge 15, 3) := by decide +kernel
theorem dX3_setPart_18 : decode cX3_setPart 18 = .ok (.aload_n 0, 1) := by decide +kernel
theorem dX3_setPart_19 : decode cX3_setPart 19 = .ok (.getfield 9, 3) := by decide +kernel
theorem dX3_setPart_22 : decode cX3_setPart 22 = .ok (.iload_n 1, 1) := by decide +kernel
theorem dX3_setPart_23 : decode cX3_setPart 23 = .ok (.bipush 6, 2) := by decide +kernel
theorem dX3_setPart_25 : decode cX3_setPart 25 = .ok (.imul, 1) := by decide +kernel
theorem dX3_setPart_26 : decode cX3_setPart 26 = .ok (.iload_n 2, 1) := by decide +kernel
theorem dX3_setPart_27 : decode cX3_setPart 27 = .ok (.iadd, 1) := by decide +kernel
theorem dX3_setPart_28 : decode cX3_setPart 28 = .ok (.iload_n 3, 1) := by decide +kernel
theorem dX3_setPart_29 : decode cX3_setPart 29 = .ok (.iastore, 1) := by decide +kernel
theorem dX3_setPart_30 : decode cX3_setPart 30 = .ok (.return_, 1) := by decide +kernel
set_option maxRecDepth 20000 in
theorem ggX3_append_X3_setPart : GoodIn wsX3_append wsX3_setPart := goodIn_r _ [6, 7, 8, 9, 10, 5, 11, 1, 12, 13] (by decide +kernel) (by decide +kernel)
set_option maxRecDepth 20000 in
theorem gX3_append_X3_setPart : GoodIn wsX3_append (wsV RX3 23 RX3 yX3_setPart wsX3_setPart) := goodIn_app (goodIn_of _ (by decide +kernel)) ggX3_append_X3_setPart
theorem dX3_append_0 : decode cX3_append 0 = .ok (.aload_n 0, 1) := by decide +kernel
theorem dX3_append_1 : decode cX3_append 1 = .ok (.getfield 15, 3) := by decide +kernel
theorem dX3_append_4 : decode cX3_append 4 = .ok (.bipush 10, 2) := by decide +kernel
theorem dX3_append_6 : decode cX3_append 6 = .ok (.if_icmp .lt 6, 3) := by decide +kernel
theorem dX3_append_9 : decode cX3_append 9 = .ok (.bipush (-4), 2) := by decide +kernel
theorem dX3_append_11 : decode cX3_append 11 = .ok (.ireturn, 1) := by decide +kernel
theorem dX3_append_12 : decode cX3_append 12 = .ok (.aload_n 0, 1) := by decide +kernel
theorem dX3_append_13 : decode cX3_append 13 = .ok (.getfield 15, 3) := by decide +kernel
theorem dX3_append_16 : decode cX3_append 16 = .ok (.istore 6, 2) := by decide +kernel
theorem dX3_append_18 : decode cX3_append 18 = .ok (.aload_n 0, 1) := by decide +kernel
theorem dX3_append_19 : decode cX3_append 19 = .ok (.dup, 1) := by decide +kernel
theorem dX3_append_20 : decode cX3_append 20 = .ok (.getfield 15, 3) := by decide +kernel
theorem dX3_append_23 : decode cX3_append 23 = .ok (.iconst 1, 1) := by decide +kernel
theorem dX3_append_24 : decode cX3_append 24 = .ok (.iadd, 1) := by decide +kernel
theorem dX3_append_25 : decode cX3_append 25 = .ok (.putfield 15, 3) := by decide +kernel
theorem dX3_append_28 : decode cX3_append 28 = .ok (.aload_n 0, 1) := by decide +kernel
theorem dX3_append_29 : decode cX3_append 29 = .ok (.iload 6, 2) := by decide +kernel
theorem dX3_append_31 : decode cX3_append 31 = .ok (.iconst 0, 1) := by decide +kernel
theorem dX3_append_32 : decode cX3_append 32 = .ok (.iload_n 1, 1) := by decide +kernel
theorem dX3_append_33 : decode cX3_append 33 = .ok (.invokevirtual 23, 3) := by decide +kernel
theorem dX3_append_36 : decode cX3_append 36 = .ok (.aload_n 0, 1) := by decide +kernel
theorem dX3_append_37 : decode cX3_append 37 = .ok (.iload 6, 2) := by decide +kernel
theorem dX3_append_39 : decode cX3_append 39 = .ok (.iconst 1, 1) := by decide +kernel
theorem dX3_append_40 : decode cX3_append 40 = .ok (.iload_n 2, 1) := by decide +kernel
theorem dX3_append_41 : decode cX3_append 41 = .ok (.invokevirtual 23, 3) := by decide +kernel
theorem dX3_append_44 : decode cX3_append 44 = .ok (.aload_n 0, 1) := by decide +kernel
theorem dX3_append_45 : decode cX3_append 45 = .ok (.iload 6, 2) := by decide +kernel
theorem dX3_append_47 : decode cX3_append 47 = .ok (.iconst 2, 1) := by decide +kernel
theorem dX3_append_48 : decode cX3_append 48 = .ok (.iload_n 3, 1) := by decide +kernel
theorem dX3_append_49 : decode cX3_append 49 = .ok (.invokevirtual 23, 3) := by decide +kernel
theorem dX3_append_52 : decode cX3_append 52 = .ok (.aload_n 0, 1) := by decide +kernel
theorem dX3_append_53 : decode cX3_append 53 = .ok (.iload 6, 2) := by decide +kernel
theorem dX3_append_55 : decode cX3_append 55 = .ok (.iconst 3, 1) := by decide +kernel
theorem dX3_append_56 : decode cX3_append 56 = .ok (.iload 4, 2) := by decide +kernel
theorem dX3_append_58 : decode cX3_append 58 = .ok (.invokevirtual 23, 3) := by decide +kernel
theorem dX3_append_61 : decode cX3_append 61 = .ok (.aload_n 0, 1) := by decide +kernel
theorem dX3_append_62 : decode cX3_append 62 = .ok (.iload 6, 2) := by decide +kernel
theorem dX3_append_64 : decode cX3_append 64 = .ok (.iconst 4, 1) := by decide +kernel
theorem dX3_append_65 : decode cX3_append 65 = .ok (.iload 5, 2) := by decide +kernel
theorem dX3_append_67 : decode cX3_append 67 = .ok (.invokevirtual 23, 3) := by decide +kernel
theorem dX3_append_70 : decode cX3_append 70 = .ok (.aload_n 0, 1) := by decide +kernel
theorem dX3_append_71 : decode cX3_append 71 = .ok (.iload 6, 2) := by decide +kernel
theorem dX3_append_73 : decode cX3_append 73 = .ok (.iconst 5, 1) := by decide +kernel
theorem dX3_append_74 : decode cX3_append 74 = .ok (.iconst 2, 1) := by decide +kernel
theorem dX3_append_75 : decode cX3_append 75 = .ok (.invokevirtual 23, 3) := by decide +kernel
theorem dX3_append_78 : decode cX3_append 78 = .ok (.iload 6, 2) := by decide +kernel
theorem dX3_append_80 : decode cX3_append 80 = .ok (.ireturn, 1) := by decide +kernel
set_option maxRecDepth 20000 in
theorem ggX3_remove_X3_has : GoodIn wsX3_remove wsX3_has := goodIn_r _ [7, 1, 8, 9] (by decide +kernel) (by decide +kernel)
set_option maxRecDepth 20000 in
theorem gX3_remove_X3_has : GoodIn wsX3_remove (wsV RX3 19 RX3 yX3_has wsX3_has) := goodIn_app (goodIn_of _ (by decide +kernel)) ggX3_remove_X3_has
theorem dX3_remove_0 : decode cX3_remove 0 = .ok (.aload_n 0, 1) := by decide +kernel
theorem dX3_remove_1 : decode cX3_remove 1 = .ok (.iload_n 1, 1) := by decide +kernel
theorem dX3_remove_2 : decode cX3_remove 2 = .ok (.invokevirtual 19, 3) := by decide +kernel
theorem dX3_remove_5 : decode cX3_remove 5 = .ok (.ifCond .ne 4, 3) := by decide +kernel
theorem dX3_remove_8 : decode cX3_remove 8 = .ok (.return_, 1) := by decide +kernel
theorem dX3_remove_9 : decode cX3_remove 9 = .ok (.iload_n 1, 1) := by decide +kernel
theorem dX3_remove_10 : decode cX3_remove 10 = .ok (.bipush 6, 2) := by decide +kernel
theorem dX3_remove_12 : decode cX3_remove 12 = .ok (.imul, 1) := by decide +kernel
theorem dX3_remove_13 : decode cX3_remove 13 = .ok (.istore_n 2, 1) := by decide +kernel
theorem dX3_remove_14 : decode cX3_remove 14 = .ok (.iload_n 2, 1) := by decide +kernel
theorem dX3_remove_15 : decode cX3_remove 15 = .ok (.aload_n 0, 1) := by decide +kernel
theorem dX3_remove_16 : decode cX3_remove 16 = .ok (.getfield 15, 3) := by decide +kernel
theorem dX3_remove_19 : decode cX3_remove 19 = .ok (.iconst 1, 1) := by decide +kernel
theorem dX3_remove_20 : decode cX3_remove 20 = .ok (.isub, 1) := by decide +kernel
theorem dX3_remove_21 : decode cX3_remove 21 = .ok (.bipush 6, 2) := by decide +kernel
theorem dX3_remove_23 : decode cX3_remove 23 = .ok (.imul, 1) := by decide +kernel
theorem dX3_remove_24 : decode cX3_remove 24 = .ok (.if_icmp .ge 36, 3) := by decide +kernel
theorem dX3_remove_27 : decode cX3_remove 27 = .ok (.iload_n 2, 1) := by decide +kernel
theorem dX3_remove_28 : decode cX3_remove 28 = .ok (.bipush 6, 2) := by decide +kernel
theorem dX3_remove_30 : decode cX3_remove 30 = .ok (.iadd, 1) := by decide +kernel
theorem dX3_remove_31 : decode cX3_remove 31 = .ok (.aload_n 0, 1) := by decide +kernel
theorem dX3_remove_32 : decode cX3_remove 32 = .ok (.getfield 9, 3) := by decide +kernel
theorem dX3_remove_35 : decode cX3_remove 35 = .ok (.arraylength, 1) := by decide +kernel
theorem dX3_remove_36 : decode cX3_remove 36 = .ok (.if_icmp .ge 24, 3) := by decide +kernel
theorem dX3_remove_39 : decode cX3_remove 39 = .ok (.aload_n 0, 1) := by decide +kernel
theorem dX3_remove_40 : decode cX3_remove 40 = .ok (.getfield 9, 3) := by decide +kernel
theorem dX3_remove_43 : decode cX3_remove 43 = .ok (.iload_n 2, 1) := by decide +kernel
theorem dX3_remove_44 : decode cX3_remove 44 = .ok (.aload_n 0, 1) := by decide +kernel
theorem dX3_remove_45 : decode cX3_remove 45 = .ok (.getfield 9, 3) := by decide +kernel
theorem dX3_remove_48 : decode cX3_remove 48 = .ok (.iload_n 2, 1) := by decide +kernel
theorem dX3_remove_49 : decode cX3_remove 49 = .ok (.bipush 6, 2) := by decide +kernel
theorem dX3_remove_51 : decode cX3_remove 51 = .ok (.iadd, 1) := by decide +kernel
theorem dX3_remove_52 : decode cX3_remove 52 = .ok (.iaload, 1) := by decide +kernel
theorem dX3_remove_53 : decode cX3_remove 53 = .ok (.iastore, 1) := by decide +kernel
theorem dX3_remove_54 : decode cX3_remove 54 = .ok (.iinc 2 1, 3) := by decide +kernel
theorem dX3_remove_57 : decode cX3_remove 57 = .ok (.goto (-43), 3) := by decide +kernel
theorem dX3_remove_60 : decode cX3_remove 60 = .ok (.aload_n 0, 1) := by decide +kernel
theorem dX3_remove_61 : decode cX3_remove 61 = .ok (.dup, 1) := by decide +kernel
theorem dX3_remove_62 : decode cX3_remove 62 = .ok (.getfield 15, 3) := by decide +kernel
theorem dX3_remove_65 : decode cX3_remove 65 = .ok (.iconst 1, 1) := by decide +kernel
theorem dX3_remove_66 : decode cX3_remove 66 = .ok (.isub, 1) := by decide +kernel
theorem dX3_remove_67 : decode cX3_remove 67 = .ok (.putfield 15, 3) := by decide +kernel
theorem dX3_remove_70 : decode cX3_remove 70 = .ok (.return_, 1) := by decide +kernel
theorem dX3_copyFrom_0 : decode cX3_copyFrom 0 = .ok (.aload_n 0, 1) := by decide +kernel
theorem dX3_copyFrom_1 : decode cX3_copyFrom 1 = .ok (.aload_n 1, 1) := by decide +kernel
theorem dX3_copyFrom_2 : decode cX3_copyFrom 2 = .ok (.getfield 15, 3) := by decide +kernel
theorem dX3_copyFrom_5 : decode cX3_copyFrom 5 = .ok (.putfield 15, 3) := by decide +kernel
theorem dX3_copyFrom_8 : decode cX3_copyFrom 8 = .ok (.iconst 0, 1) := by decide +kernel
theorem dX3_copyFrom_9 : decode cX3_copyFrom 9 = .ok (.istore_n 2, 1) := by decide +kernel
theorem dX3_copyFrom_10 : decode cX3_copyFrom 10 = .ok (.iload_n 2, 1) := by decide +kernel
theorem dX3_copyFrom_11 : decode cX3_copyFrom 11 = .ok (.bipush 60, 2) := by decide +kernel
theorem dX3_copyFrom_13 : decode cX3_copyFrom 13 = .ok (.if_icmp .ge 21, 3) := by decide +kernel
theorem dX3_copyFrom_16 : decode cX3_copyFrom 16 = .ok (.aload_n 0, 1) := by decide +kernel
theorem dX3_copyFrom_17 : decode cX3_copyFrom 17 = .ok (.getfield 9, 3) := by decide +kernel
theorem dX3_copyFrom_20 : decode cX3_copyFrom 20 = .ok (.iload_n 2, 1) := by decide +kernel
theorem dX3_copyFrom_21 : decode cX3_copyFrom 21 = .ok (.aload_n 1, 1) := by decide +kernel
theorem dX3_copyFrom_22 : decode cX3_copyFrom 22 = .ok (.getfield 9, 3) := by decide +kernel
theorem dX3_copyFrom_25 : decode cX3_copyFrom 25 = .ok (.iload_n 2, 1) := by decide +kernel
theorem dX3_copyFrom_26 : decode cX3_copyFrom 26 = .ok (.iaload, 1) := by decide +kernel
theorem dX3_copyFrom_27 : decode cX3_copyFrom 27 = .ok (.iastore, 1) := by decide +kernel
theorem dX3_copyFrom_28 : decode cX3_copyFrom 28 = .ok (.iinc 2 1, 3) := by decide +kernel
theorem dX3_copyFrom_31 : decode cX3_copyFrom 31 = .ok (.goto (-21), 3) := by decide +kernel
theorem dX3_copyFrom_34 : decode cX3_copyFrom 34 = .ok (.return_, 1) := by decide +kernel
set_option maxRecDepth 20000 in
theorem ggX3_firstThatFits_X3_fits : GoodIn wsX3_firstThatFits wsX3_fits := goodIn_r _ [6, 7, 8, 9, 10, 11, 12, 13, 5, 14, 15, 16] (by decide +kernel) (by decide +kernel)
set_option maxRecDepth 20000 in
theorem gX3_firstThatFits_X3_fits : GoodIn wsX3_firstThatFits (wsV RX3 27 RX3 yX3_fits wsX3_fits) := goodIn_app (goodIn_of _ (by decide +kernel)) ggX3_firstThatFits_X3_fits
theorem dX3_firstThatFits_0 : decode cX3_firstThatFits 0 = .ok (.iconst 0, 1) := by decide +kernel
theorem dX3_firstThatFits_1 : decode cX3_firstThatFits 1 = .ok (.istore 4, 2) := by decide +kernel
theorem dX3_firstThatFits_3 : decode cX3_firstThatFits 3 = .ok (.iload 4, 2) := by decide +kernel
theorem dX3_firstThatFits_5 : decode cX3_firstThatFits 5 = .ok (.aload_n 0, 1) := by decide +kernel
theorem dX3_firstThatFits_6 : decode cX3_firstThatFits 6 = .ok (.getfield 15, 3) := by decide +kernel
theorem dX3_firstThatFits_9 : decode cX3_firstThatFits 9 = .ok (.if_icmp .ge 31, 3) := by decide +kernel
theorem dX3_firstThatFits_12 : decode cX3_firstThatFits 12 = .ok (.iload 4, 2) := by decide +kernel
theorem dX3_firstThatFits_14 : decode cX3_firstThatFits 14 = .ok (.bipush 10, 2) := by decide +kernel
theorem dX3_firstThatFits_16 : decode cX3_firstThatFits 16 = .ok (.if_icmp .ge 24, 3) := by decide +kernel
theorem dX3_firstThatFits_19 : decode cX3_firstThatFits 19 = .ok (.aload_n 0, 1) := by decide +kernel
theorem dX3_firstThatFits_20 : decode cX3_firstThatFits 20 = .ok (.iload 4, 2) := by decide +kernel
theorem dX3_firstThatFits_22 : decode cX3_firstThatFits 22 = .ok (.iload_n 1, 1) := by decide +kernel
theorem dX3_firstThatFits_23 : decode cX3_firstThatFits 23 = .ok (.iload_n 2, 1) := by decide +kernel
theorem dX3_firstThatFits_24 : decode cX3_firstThatFits 24 = .ok (.iload_n 3, 1) := by decide +kernel
theorem dX3_firstThatFits_25 : decode cX3_firstThatFits 25 = .ok (.invokevirtual 27, 3) := by decide +kernel
theorem dX3_firstThatFits_28 : decode cX3_firstThatFits 28 = .ok (.ifCond .eq 6, 3) := by decide +kernel
theorem dX3_firstThatFits_31 : decode cX3_firstThatFits 31 = .ok (.iload 4, 2) := by decide +kernel
theorem dX3_firstThatFits_33 : decode cX3_firstThatFits 33 = .ok (.ireturn, 1) := by decide +kernel
theorem dX3_firstThatFits_34 : decode cX3_firstThatFits 34 = .ok (.iinc 4 1, 3) := by decide +kernel
theorem dX3_firstThatFits_37 : decode cX3_firstThatFits 37 = .ok (.goto (-34), 3) := by decide +kernel
theorem dX3_firstThatFits_40 : decode cX3_firstThatFits 40 = .ok (.bipush (-6), 2) := by decide +kernel
theorem dX3_firstThatFits_42 : decode cX3_firstThatFits 42 = .ok (.ireturn, 1) := by decide +kernel
set_option maxRecDepth 20000 in
theorem ggX3_fits_X0_at : GoodIn wsX3_fits wsX0_at := goodIn_r _ [5] (by decide +kernel) (by decide +kernel)
set_option maxRecDepth 20000 in
theorem gX3_fits_X0_at : GoodIn wsX3_fits (va_wsS RX3 31 yX0_at wsX0_at) := goodIn_app (goodIn_of _ (by decide +kernel)) ggX3_fits_X0_at
set_option maxRecDepth 20000 in
theorem ggX3_fits_X3_isSo : GoodIn wsX3_fits wsX3_isSo := goodIn_r _ [9] (by decide +kernel) (by decide +kernel)
set_option maxRecDepth 20000 in
theorem gX3_fits_X3_isSo : GoodIn wsX3_fits (va_wsS RX3 37 yX3_isSo wsX3_isSo) := goodIn_app (goodIn_of _ (by decide +kernel)) ggX3_fits_X3_isSo
theorem dX3_fits_0 : decode cX3_fits 0 = .ok (.aload_n 0, 1) := by decide +kernel
theorem dX3_fits_1 : decode cX3_fits 1 = .ok (.getfield 9, 3) := by decide +kernel
theorem dX3_fits_4 : decode cX3_fits 4 = .ok (.iload_n 1, 1) := by decide +kernel
theorem dX3_fits_5 : decode cX3_fits 5 = .ok (.bipush 6, 2) := by decide +kernel
theorem dX3_fits_7 : decode cX3_fits 7 = .ok (.imul, 1) := by decide +kernel
theorem dX3_fits_8 : decode cX3_fits 8 = .ok (.iconst 0, 1) := by decide +kernel
theorem dX3_fits_9 : decode cX3_fits 9 = .ok (.iadd, 1) := by decide +kernel
theorem dX3_fits_10 : decode cX3_fits 10 = .ok (.iaload, 1) := by decide +kernel
theorem dX3_fits_11 : decode cX3_fits 11 = .ok (.istore 5, 2) := by decide +kernel
theorem dX3_fits_13 : decode cX3_fits 13 = .ok (.iload 5, 2) := by decide +kernel
theorem dX3_fits_15 : decode cX3_fits 15 = .ok (.ifCond .eq 11, 3) := by decide +kernel
theorem dX3_fits_18 : decode cX3_fits 18 = .ok (.iload 5, 2) := by decide +kernel
theorem dX3_fits_20 : decode cX3_fits 20 = .ok (.iload_n 2, 1) := by decide +kernel
theorem dX3_fits_21 : decode cX3_fits 21 = .ok (.if_icmp .eq 5, 3) := by decide +kernel
theorem dX3_fits_24 : decode cX3_fits 24 = .ok (.iconst 0, 1) := by decide +kernel
theorem dX3_fits_25 : decode cX3_fits 25 = .ok (.ireturn, 1) := by decide +kernel
theorem dX3_fits_26 : decode cX3_fits 26 = .ok (.aload_n 0, 1) := by decide +kernel
theorem dX3_fits_27 : decode cX3_fits 27 = .ok (.getfield 9, 3) := by decide +kernel
theorem dX3_fits_30 : decode cX3_fits 30 = .ok (.iload_n 1, 1) := by decide +kernel
theorem dX3_fits_31 : decode cX3_fits 31 = .ok (.bipush 6, 2) := by decide +kernel
theorem dX3_fits_33 : decode cX3_fits 33 = .ok (.imul, 1) := by decide +kernel
theorem dX3_fits_34 : decode cX3_fits 34 = .ok (.iconst 5, 1) := by decide +kernel
theorem dX3_fits_35 : decode cX3_fits 35 = .ok (.iadd, 1) := by decide +kernel
theorem dX3_fits_36 : decode cX3_fits 36 = .ok (.iaload, 1) := by decide +kernel
theorem dX3_fits_37 : decode cX3_fits 37 = .ok (.istore 6, 2) := by decide +kernel
theorem dX3_fits_39 : decode cX3_fits 39 = .ok (.iload 6, 2) := by decide +kernel
theorem dX3_fits_41 : decode cX3_fits 41 = .ok (.iconst 2, 1) := by decide +kernel
theorem dX3_fits_42 : decode cX3_fits 42 = .ok (.if_icmp .eq 12, 3) := by decide +kernel
theorem dX3_fits_45 : decode cX3_fits 45 = .ok (.iload 6, 2) := by decide +kernel
theorem dX3_fits_47 : decode cX3_fits 47 = .ok (.iload 4, 2) := by decide +kernel
theorem dX3_fits_49 : decode cX3_fits 49 = .ok (.if_icmp .eq 5, 3) := by decide +kernel
theorem dX3_fits_52 : decode cX3_fits 52 = .ok (.iconst 0, 1) := by decide +kernel
theorem dX3_fits_53 : decode cX3_fits 53 = .ok (.ireturn, 1) := by decide +kernel
theorem dX3_fits_54 : decode cX3_fits 54 = .ok (.aload_n 0, 1) := by decide +kernel
theorem dX3_fits_55 : decode cX3_fits 55 = .ok (.getfield 9, 3) := by decide +kernel
theorem dX3_fits_58 : decode cX3_fits 58 = .ok (.iload_n 1, 1) := by decide +kernel
theorem dX3_fits_59 : decode cX3_fits 59 = .ok (.bipush 6, 2) := by decide +kernel
theorem dX3_fits_61 : decode cX3_fits 61 = .ok (.imul, 1) := by decide +kernel
theorem dX3_fits_62 : decode cX3_fits 62 = .ok (.iconst 1, 1) := by decide +kernel
theorem dX3_fits_63 : decode cX3_fits 63 = .ok (.iadd, 1) := by decide +kernel
theorem dX3_fits_64 : decode cX3_fits 64 = .ok (.iaload, 1) := by decide +kernel
theorem dX3_fits_65 : decode cX3_fits 65 = .ok (.istore 7, 2) := by decide +kernel
theorem dX3_fits_67 : decode cX3_fits 67 = .ok (.iload 7, 2) := by decide +kernel
theorem dX3_fits_69 : decode cX3_fits 69 = .ok (.iload_n 2, 1) := by decide +kernel
theorem dX3_fits_70 : decode cX3_fits 70 = .ok (.if_icmp .lt 5, 3) := by decide +kernel
theorem dX3_fits_73 : decode cX3_fits 73 = .ok (.iconst 0, 1) := by decide +kernel
theorem dX3_fits_74 : decode cX3_fits 74 = .ok (.ireturn, 1) := by decide +kernel
theorem dX3_fits_75 : decode cX3_fits 75 = .ok (.iload_n 3, 1) := by decide +kernel
theorem dX3_fits_76 : decode cX3_fits 76 = .ok (.iload_n 2, 1) := by decide +kernel
theorem dX3_fits_77 : decode cX3_fits 77 = .ok (.iload 7, 2) := by decide +kernel
theorem dX3_fits_79 : decode cX3_fits 79 = .ok (.invokestatic 31, 3) := by decide +kernel
theorem dX3_fits_82 : decode cX3_fits 82 = .ok (.aload_n 0, 1) := by decide +kernel
theorem dX3_fits_83 : decode cX3_fits 83 = .ok (.getfield 9, 3) := by decide +kernel
theorem dX3_fits_86 : decode cX3_fits 86 = .ok (.iload_n 1, 1) := by decide +kernel
theorem dX3_fits_87 : decode cX3_fits 87 = .ok (.bipush 6, 2) := by decide +kernel
theorem dX3_fits_89 : decode cX3_fits 89 = .ok (.imul, 1) := by decide +kernel
theorem dX3_fits_90 : decode cX3_fits 90 = .ok (.iconst 2, 1) := by decide +kernel
theorem dX3_fits_91 : decode cX3_fits 91 = .ok (.iadd, 1) := by decide +kernel
theorem dX3_fits_92 : decode cX3_fits 92 = .ok (.iaload, 1) := by decide +kernel
theorem dX3_fits_93 : decode cX3_fits 93 = .ok (.aload_n 0, 1) := by decide +kernel
theorem dX3_fits_94 : decode cX3_fits 94 = .ok (.getfield 9, 3) := by decide +kernel
theorem dX3_fits_97 : decode cX3_fits 97 = .ok (.iload_n 1, 1) := by decide +kernel
theorem dX3_fits_98 : decode cX3_fits 98 = .ok (.bipush 6, 2) := by decide +kernel
theorem dX3_fits_100 : decode cX3_fits 100 = .ok (.imul, 1) := by decide +kernel
theorem dX3_fits_101 : decode cX3_fits 101 = .ok (.iconst 3, 1) := by decide +kernel
theorem dX3_fits_102 : decode cX3_fits 102 = .ok (.iadd, 1) := by decide +kernel
theorem dX3_fits_103 : decode cX3_fits 103 = .ok (.iaload, 1) := by decide +kernel
theorem dX3_fits_104 : decode cX3_fits 104 = .ok (.invokestatic 37, 3) := by decide +kernel
theorem dX3_fits_107 : decode cX3_fits 107 = .ok (.ireturn, 1) := by decide +kernel
theorem dX3_isSo_0 : decode cX3_isSo 0 = .ok (.iload_n 1, 1) := by decide +kernel
theorem dX3_isSo_1 : decode cX3_isSo 1 = .ok (.ifCond .ne 14, 3) := by decide +kernel
theorem dX3_isSo_4 : decode cX3_isSo 4 = .ok (.iload_n 0, 1) := by decide +kernel
theorem dX3_isSo_5 : decode cX3_isSo 5 = .ok (.iload_n 2, 1) := by decide +kernel
theorem dX3_isSo_6 : decode cX3_isSo 6 = .ok (.if_icmp .ge 7, 3) := by decide +kernel
theorem dX3_isSo_9 : decode cX3_isSo 9 = .ok (.iconst 1, 1) := by decide +kernel
theorem dX3_isSo_10 : decode cX3_isSo 10 = .ok (.goto 4, 3) := by decide +kernel
theorem dX3_isSo_13 : decode cX3_isSo 13 = .ok (.iconst 0, 1) := by decide +kernel
theorem dX3_isSo_14 : decode cX3_isSo 14 = .ok (.ireturn, 1) := by decide +kernel
theorem dX3_isSo_15 : decode cX3_isSo 15 = .ok (.iload_n 1, 1) := by decide +kernel
theorem dX3_isSo_16 : decode cX3_isSo 16 = .ok (.iconst 1, 1) := by decide +kernel
theorem dX3_isSo_17 : decode cX3_isSo 17 = .ok (.if_icmp .ne 16, 3) := by decide +kernel
theorem dX3_isSo_20 : decode cX3_isSo 20 = .ok (.iload_n 0, 1) := by decide +kernel
theorem dX3_isSo_21 : decode cX3_isSo 21 = .ok (.iload_n 2, 1) := by decide +kernel
theorem dX3_isSo_22 : decode cX3_isSo 22 = .ok (.if_icmp .ne 7, 3) := by decide +kernel
theorem dX3_isSo_25 : decode cX3_isSo 25 = .ok (.iconst 1, 1) := by decide +kernel
theorem dX3_isSo_26 : decode cX3_isSo 26 = .ok (.goto 17, 3) := by decide +kernel
theorem dX3_isSo_29 : decode cX3_isSo 29 = .ok (.iconst 0, 1) := by decide +kernel
theorem dX3_isSo_30 : decode cX3_isSo 30 = .ok (.goto 13, 3) := by decide +kernel
theorem dX3_isSo_33 : decode cX3_isSo 33 = .ok (.iload_n 0, 1) := by decide +kernel
theorem dX3_isSo_34 : decode cX3_isSo 34 = .ok (.iload_n 2, 1) := by decide +kernel
theorem dX3_isSo_35 : decode cX3_isSo 35 = .ok (.if_icmp .le 7, 3) := by decide +kernel
theorem dX3_isSo_38 : decode cX3_isSo 38 = .ok (.iconst 1, 1) := by decide +kernel
theorem dX3_isSo_39 : decode cX3_isSo 39 = .ok (.goto 4, 3) := by decide +kernel
theorem dX3_isSo_42 : decode cX3_isSo 42 = .ok (.iconst 0, 1) := by decide +kernel
theorem dX3_isSo_43 : decode cX3_isSo 43 = .ok (.ireturn, 1) := by decide +kernel
set_option maxRecDepth 20000 in
theorem ggX4_init_X3_init : GoodIn wsX4_init wsX3_init := goodIn_r _ [12, 13, 2, 3, 4, 14, 18, 19] (by decide +kernel) (by decide +kernel)
set_option maxRecDepth 20000 in
theorem gX4_init_X3_init_n17 : GoodIn wsX4_init (wsX3_init) := ggX4_init_X3_init
theorem dX4_init_0 : decode cX4_init 0 = .ok (.aload_n 0, 1) := by decide +kernel
theorem dX4_init_1 : decode cX4_init 1 = .ok (.invokespecial 3, 3) := by decide +kernel
theorem dX4_init_4 : decode cX4_init 4 = .ok (.aload_n 0, 1) := by decide +kernel
theorem dX4_init_5 : decode cX4_init 5 = .ok (.bipush 10, 2) := by decide +kernel
theorem dX4_init_7 : decode cX4_init 7 = .ok (.newarray .int, 2) := by decide +kernel
theorem dX4_init_9 : decode cX4_init 9 = .ok (.putfield 9, 3) := by decide +kernel
theorem dX4_init_12 : decode cX4_init 12 = .ok (.aload_n 0, 1) := by decide +kernel
theorem dX4_init_13 : decode cX4_init 13 = .ok (.new 15, 3) := by decide +kernel
theorem dX4_init_16 : decode cX4_init 16 = .ok (.dup, 1) := by decide +kernel
theorem dX4_init_17 : decode cX4_init 17 = .ok (.invokespecial 17, 3) := by decide +kernel
theorem dX4_init_20 : decode cX4_init 20 = .ok (.putfield 18, 3) := by decide +kernel
theorem dX4_init_23 : decode cX4_init 23 = .ok (.aload_n 0, 1) := by decide +kernel
theorem dX4_init_24 : decode cX4_init 24 = .ok (.bipush 8, 2) := by decide +kernel
theorem dX4_init_26 : decode cX4_init 26 = .ok (.putfield 22, 3) := by decide +kernel
theorem dX4_init_29 : decode cX4_init 29 = .ok (.return_, 1) := by decide +kernel
theorem dX4_hasCell_0 : decode cX4_hasCell 0 = .ok (.iload_n 1, 1) := by decide +kernel
theorem dX4_hasCell_1 : decode cX4_hasCell 1 = .ok (.ifCond .lt 21, 3) := by decide +kernel
theorem dX4_hasCell_4 : decode cX4_hasCell 4 = .ok (.iload_n 1, 1) := by decide +kernel
theorem dX4_hasCell_5 : decode cX4_hasCell 5 = .ok (.aload_n 0, 1) := by decide +kernel
theorem dX4_hasCell_6 : decode cX4_hasCell 6 = .ok (.getfield 22, 3) := by decide +kernel
theorem dX4_hasCell_9 : decode cX4_hasCell 9 = .ok (.if_icmp .ge 13, 3) := by decide +kernel
theorem dX4_hasCell_12 : decode cX4_hasCell 12 = .ok (.iload_n 1, 1) := by decide +kernel
theorem dX4_hasCell_13 : decode cX4_hasCell 13 = .ok (.bipush 10, 2) := by decide +kernel
theorem dX4_hasCell_15 : decode cX4_hasCell 15 = .ok (.if_icmp .ge 7, 3) := by decide +kernel
theorem dX4_hasCell_18 : decode cX4_hasCell 18 = .ok (.iconst 1, 1) := by decide +kernel
theorem dX4_hasCell_19 : decode cX4_hasCell 19 = .ok (.goto 4, 3) := by decide +kernel
theorem dX4_hasCell_22 : decode cX4_hasCell 22 = .ok (.iconst 0, 1) := by decide +kernel
theorem dX4_hasCell_23 : decode cX4_hasCell 23 = .ok (.ireturn, 1) := by decide +kernel
set_option maxRecDepth 20000 in
theorem ggX4_walkersOn_X4_hasCell : GoodIn wsX4_walkersOn wsX4_hasCell := goodIn_r _ [6, 7, 8, 9, 10] (by decide +kernel) (by decide +kernel)
set_option maxRecDepth 20000 in
theorem gX4_walkersOn_X4_hasCell : GoodIn wsX4_walkersOn (wsV RX4 26 RX4 yX4_hasCell wsX4_hasCell) := goodIn_app (goodIn_of _ (by decide +kernel)) ggX4_walkersOn_X4_hasCell
theorem dX4_walkersOn_0 : decode cX4_walkersOn 0 = .ok (.aload_n 0, 1) := by decide +kernel
theorem dX4_walkersOn_1 : decode cX4_walkersOn 1 = .ok (.iload_n 1, 1) := by decide +kernel
theorem dX4_walkersOn_2 : decode cX4_walkersOn 2 = .ok (.invokevirtual 26, 3) := by decide +kernel
theorem dX4_walkersOn_5 : decode cX4_walkersOn 5 = .ok (.ifCond .eq 12, 3) := by decide +kernel
theorem dX4_walkersOn_8 : decode cX4_walkersOn 8 = .ok (.aload_n 0, 1) := by decide +kernel
theorem dX4_walkersOn_9 : decode cX4_walkersOn 9 = .ok (.getfield 9, 3) := by decide +kernel
theorem dX4_walkersOn_12 : decode cX4_walkersOn 12 = .ok (.iload_n 1, 1) := by decide +kernel
theorem dX4_walkersOn_13 : decode cX4_walkersOn 13 = .ok (.iaload, 1) := by decide +kernel
theorem dX4_walkersOn_14 : decode cX4_walkersOn 14 = .ok (.goto 4, 3) := by decide +kernel
theorem dX4_walkersOn_17 : decode cX4_walkersOn 17 = .ok (.iconst 0, 1) := by decide +kernel
theorem dX4_walkersOn_18 : decode cX4_walkersOn 18 = .ok (.ireturn, 1) := by decide +kernel
set_option maxRecDepth 20000 in
theorem ggX4_put_X4_hasCell : GoodIn wsX4_put wsX4_hasCell := goodIn_r _ [6, 7, 8, 9, 10] (by decide +kernel) (by decide +kernel)
set_option maxRecDepth 20000 in
theorem gX4_put_X4_hasCell : GoodIn wsX4_put (wsV RX4 26 RX4 yX4_hasCell wsX4_hasCell) := goodIn_app (goodIn_of _ (by decide +kernel)) ggX4_put_X4_hasCell
theorem dX4_put_0 : decode cX4_put 0 = .ok (.aload_n 0, 1) := by decide +kernel
theorem dX4_put_1 : decode cX4_put 1 = .ok (.iload_n 1, 1) := by decide +kernel
theorem dX4_put_2 : decode cX4_put 2 = .ok (.invokevirtual 26, 3) := by decide +kernel
theorem dX4_put_5 : decode cX4_put 5 = .ok (.ifCond .eq 10, 3) := by decide +kernel
theorem dX4_put_8 : decode cX4_put 8 = .ok (.aload_n 0, 1) := by decide +kernel
theorem dX4_put_9 : decode cX4_put 9 = .ok (.getfield 9, 3) := by decide +kernel
theorem dX4_put_12 : decode cX4_put 12 = .ok (.iload_n 1, 1) := by decide +kernel
theorem dX4_put_13 : decode cX4_put 13 = .ok (.iload_n 2, 1) := by decide +kernel
theorem dX4_put_14 : decode cX4_put 14 = .ok (.iastore, 1) := by decide +kernel
theorem dX4_put_15 : decode cX4_put 15 = .ok (.return_, 1) := by decide +kernel
theorem dX4_empty_0 : decode cX4_empty 0 = .ok (.aload_n 0, 1) := by decide +kernel
theorem dX4_empty_1 : decode cX4_empty 1 = .ok (.iload_n 1, 1) := by decide +kernel
theorem dX4_empty_2 : decode cX4_empty 2 = .ok (.putfield 22, 3) := by decide +kernel
theorem dX4_empty_5 : decode cX4_empty 5 = .ok (.iconst 0, 1) := by decide +kernel
theorem dX4_empty_6 : decode cX4_empty 6 = .ok (.istore_n 2, 1) := by decide +kernel
theorem dX4_empty_7 : decode cX4_empty 7 = .ok (.iload_n 2, 1) := by decide +kernel
theorem dX4_empty_8 : decode cX4_empty 8 = .ok (.bipush 10, 2) := by decide +kernel
theorem dX4_empty_10 : decode cX4_empty 10 = .ok (.if_icmp .ge 16, 3) := by decide +kernel
theorem dX4_empty_13 : decode cX4_empty 13 = .ok (.aload_n 0, 1) := by decide +kernel
theorem dX4_empty_14 : decode cX4_empty 14 = .ok (.getfield 9, 3) := by decide +kernel
theorem dX4_empty_17 : decode cX4_empty 17 = .ok (.iload_n 2, 1) := by decide +kernel
theorem dX4_empty_18 : decode cX4_empty 18 = .ok (.iconst 0, 1) := by decide +kernel
theorem dX4_empty_19 : decode cX4_empty 19 = .ok (.iastore, 1) := by decide +kernel
theorem dX4_empty_20 : decode cX4_empty 20 = .ok (.iinc 2 1, 3) := by decide +kernel
theorem dX4_empty_23 : decode cX4_empty 23 = .ok (.goto (-16), 3) := by decide +kernel
theorem dX4_empty_26 : decode cX4_empty 26 = .ok (.return_, 1) := by decide +kernel
set_option maxRecDepth 20000 in
theorem ggX4_walkersInAll_X4_walkersOn : GoodIn wsX4_walkersInAll wsX4_walkersOn := goodIn_r _ [6, 7, 8, 9, 10, 5, 11, 1, 12, 13, 14] (by decide +kernel) (by decide +kernel)
set_option maxRecDepth 20000 in
theorem gX4_walkersInAll_X4_walkersOn : GoodIn wsX4_walkersInAll (wsV RX4 30 RX4 yX4_walkersOn wsX4_walkersOn) := goodIn_app (goodIn_of _ (by decide +kernel)) ggX4_walkersInAll_X4_walkersOn
theorem dX4_walkersInAll_0 : decode cX4_walkersInAll 0 = .ok (.iconst 0, 1) := by decide +kernel
theorem dX4_walkersInAll_1 : decode cX4_walkersInAll 1 = .ok (.istore_n 1, 1) := by decide +kernel
theorem dX4_walkersInAll_2 : decode cX4_walkersInAll 2 = .ok (.iconst 0, 1) := by decide +kernel
theorem dX4_walkersInAll_3 : decode cX4_walkersInAll 3 = .ok (.istore_n 2, 1) := by decide +kernel
theorem dX4_walkersInAll_4 : decode cX4_walkersInAll 4 = .ok (.iload_n 2, 1) := by decide +kernel
theorem dX4_walkersInAll_5 : decode cX4_walkersInAll 5 = .ok (.aload_n 0, 1) := by decide +kernel
theorem dX4_walkersInAll_6 : decode cX4_walkersInAll 6 = .ok (.getfield 22, 3) := by decide +kernel
theorem dX4_walkersInAll_9 : decode cX4_walkersInAll 9 = .ok (.if_icmp .ge 17, 3) := by decide +kernel
theorem dX4_walkersInAll_12 : decode cX4_walkersInAll 12 = .ok (.iload_n 1, 1) := by decide +kernel
theorem dX4_walkersInAll_13 : decode cX4_walkersInAll 13 = .ok (.aload_n 0, 1) := by decide +kernel
theorem dX4_walkersInAll_14 : decode cX4_walkersInAll 14 = .ok (.iload_n 2, 1) := by decide +kernel
theorem dX4_walkersInAll_15 : decode cX4_walkersInAll 15 = .ok (.invokevirtual 30, 3) := by decide +kernel
theorem dX4_walkersInAll_18 : decode cX4_walkersInAll 18 = .ok (.iadd, 1) := by decide +kernel
theorem dX4_walkersInAll_19 : decode cX4_walkersInAll 19 = .ok (.istore_n 1, 1) := by decide +kernel
theorem dX4_walkersInAll_20 : decode cX4_walkersInAll 20 = .ok (.iinc 2 1, 3) := by decide +kernel
theorem dX4_walkersInAll_23 : decode cX4_walkersInAll 23 = .ok (.goto (-19), 3) := by decide +kernel
theorem dX4_walkersInAll_26 : decode cX4_walkersInAll 26 = .ok (.iload_n 1, 1) := by decide +kernel
theorem dX4_walkersInAll_27 : decode cX4_walkersInAll 27 = .ok (.ireturn, 1) := by decide +kernel
set_option maxRecDepth 20000 in
theorem ggX4_stands_X4_cellsWithAtLeast : GoodIn wsX4_stands wsX4_cellsWithAtLeast := goodIn_r _ [5, 6, 7, 8, 9, 4, 10, 11, 12, 13, 14, 15, 16, 17, 18] (by decide +kernel) (by decide +kernel)
set_option maxRecDepth 20000 in
theorem gX4_stands_X4_cellsWithAtLeast : GoodIn wsX4_stands (wsV RX4 34 RX4 yX4_cellsWithAtLeast wsX4_cellsWithAtLeast) := goodIn_app (goodIn_of _ (by decide +kernel)) ggX4_stands_X4_cellsWithAtLeast
theorem dX4_stands_0 : decode cX4_stands 0 = .ok (.aload_n 0, 1) := by decide +kernel
theorem dX4_stands_1 : decode cX4_stands 1 = .ok (.iconst 1, 1) := by decide +kernel
theorem dX4_stands_2 : decode cX4_stands 2 = .ok (.invokevirtual 34, 3) := by decide +kernel
theorem dX4_stands_5 : decode cX4_stands 5 = .ok (.ireturn, 1) := by decide +kernel
set_option maxRecDepth 20000 in
theorem ggX4_towers_X4_cellsWithAtLeast : GoodIn wsX4_towers wsX4_cellsWithAtLeast := goodIn_r _ [5, 6, 7, 8, 9, 4, 10, 11, 12, 13, 14, 15, 16, 17, 18] (by decide +kernel) (by decide +kernel)
set_option maxRecDepth 20000 in
theorem gX4_towers_X4_cellsWithAtLeast : GoodIn wsX4_towers (wsV RX4 34 RX4 yX4_cellsWithAtLeast wsX4_cellsWithAtLeast) := goodIn_app (goodIn_of _ (by decide +kernel)) ggX4_towers_X4_cellsWithAtLeast
theorem dX4_towers_0 : decode cX4_towers 0 = .ok (.aload_n 0, 1) := by decide +kernel
theorem dX4_towers_1 : decode cX4_towers 1 = .ok (.iconst 2, 1) := by decide +kernel
theorem dX4_towers_2 : decode cX4_towers 2 = .ok (.invokevirtual 34, 3) := by decide +kernel
theorem dX4_towers_5 : decode cX4_towers 5 = .ok (.ireturn, 1) := by decide +kernel
set_option maxRecDepth 20000 in
theorem ggX4_cellsWithAtLeast_X4_walkersOn : GoodIn wsX4_cellsWithAtLeast wsX4_walkersOn := goodIn_r _ [6, 7, 8, 9, 10, 5, 11, 1, 12, 13, 14] (by decide +kernel) (by decide +kernel)
set_option maxRecDepth 20000 in
theorem gX4_cellsWithAtLeast_X4_walkersOn : GoodIn wsX4_cellsWithAtLeast (wsV RX4 30 RX4 yX4_walkersOn wsX4_walkersOn) := goodIn_app (goodIn_of _ (by decide +kernel)) ggX4_cellsWithAtLeast_X4_walkersOn
theorem dX4_cellsWithAtLeast_0 : decode cX4_cellsWithAtLeast 0 = .ok (.iconst 0, 1) := by decide +kernel
theorem dX4_cellsWithAtLeast_1 : decode cX4_cellsWithAtLeast 1 = .ok (.istore_n 2, 1) := by decide +kernel
theorem dX4_cellsWithAtLeast_2 : decode cX4_cellsWithAtLeast 2 = .ok (.iconst 0, 1) := by decide +kernel
theorem dX4_cellsWithAtLeast_3 : decode cX4_cellsWithAtLeast 3 = .ok (.istore_n 3, 1) := by decide +kernel
theorem dX4_cellsWithAtLeast_4 : decode cX4_cellsWithAtLeast 4 = .ok (.iload_n 3, 1) := by decide +kernel
theorem dX4_cellsWithAtLeast_5 : decode cX4_cellsWithAtLeast 5 = .ok (.aload_n 0, 1) := by decide +kernel
theorem dX4_cellsWithAtLeast_6 : decode cX4_cellsWithAtLeast 6 = .ok (.getfield 22, 3) := by decide +kernel
theorem dX4_cellsWithAtLeast_9 : decode cX4_cellsWithAtLeast 9 = .ok (.if_icmp .ge 24, 3) := by decide +kernel
theorem dX4_cellsWithAtLeast_12 : decode cX4_cellsWithAtLeast 12 = .ok (.aload_n 0, 1) := by decide +kernel
theorem dX4_cellsWithAtLeast_13 : decode cX4_cellsWithAtLeast 13 = .ok (.iload_n 3, 1) := by decide +kernel
theorem dX4_cellsWithAtLeast_14 : decode cX4_cellsWithAtLeast 14 = .ok (.invokevirtual 30, 3) := by decide +kernel
theorem dX4_cellsWithAtLeast_17 : decode cX4_cellsWithAtLeast 17 = .ok (.iload_n 1, 1) := by decide +kernel
theorem dX4_cellsWithAtLeast_18 : decode cX4_cellsWithAtLeast 18 = .ok (.if_icmp .lt 9, 3) := by decide +kernel
theorem dX4_cellsWithAtLeast_21 : decode cX4_cellsWithAtLeast 21 = .ok (.iload_n 2, 1) := by decide +kernel
theorem dX4_cellsWithAtLeast_22 : decode cX4_cellsWithAtLeast 22 = .ok (.iconst 1, 1) := by decide +kernel
theorem dX4_cellsWithAtLeast_23 : decode cX4_cellsWithAtLeast 23 = .ok (.iload_n 3, 1) := by decide +kernel
theorem dX4_cellsWithAtLeast_24 : decode cX4_cellsWithAtLeast 24 = .ok (.ishl, 1) := by decide +kernel
theorem dX4_cellsWithAtLeast_25 : decode cX4_cellsWithAtLeast 25 = .ok (.ior, 1) := by decide +kernel
theorem dX4_cellsWithAtLeast_26 : decode cX4_cellsWithAtLeast 26 = .ok (.istore_n 2, 1) := by decide +kernel
theorem dX4_cellsWithAtLeast_27 : decode cX4_cellsWithAtLeast 27 = .ok (.iinc 3 1, 3) := by decide +kernel
theorem dX4_cellsWithAtLeast_30 : decode cX4_cellsWithAtLeast 30 = .ok (.goto (-26), 3) := by decide +kernel
theorem dX4_cellsWithAtLeast_33 : decode cX4_cellsWithAtLeast 33 = .ok (.iload_n 2, 1) := by decide +kernel
theorem dX4_cellsWithAtLeast_34 : decode cX4_cellsWithAtLeast 34 = .ok (.ireturn, 1) := by decide +kernel
set_option maxRecDepth 20000 in
theorem ggX4_copyFrom_X3_copyFrom : GoodIn wsX4_copyFrom wsX3_copyFrom := goodIn_r _ [8, 9, 10, 14, 15] (by decide +kernel) (by decide +kernel)
set_option maxRecDepth 20000 in
theorem gX4_copyFrom_X3_copyFrom : GoodIn wsX4_copyFrom (wsV RX4 37 RX3 yX3_copyFrom wsX3_copyFrom) := goodIn_app (goodIn_of _ (by decide +kernel)) ggX4_copyFrom_X3_copyFrom
theorem dX4_copyFrom_0 : decode cX4_copyFrom 0 = .ok (.aload_n 0, 1) := by decide +kernel
theorem dX4_copyFrom_1 : decode cX4_copyFrom 1 = .ok (.aload_n 1, 1) := by decide +kernel
theorem dX4_copyFrom_2 : decode cX4_copyFrom 2 = .ok (.getfield 22, 3) := by decide +kernel
theorem dX4_copyFrom_5 : decode cX4_copyFrom 5 = .ok (.putfield 22, 3) := by decide +kernel
theorem dX4_copyFrom_8 : decode cX4_copyFrom 8 = .ok (.iconst 0, 1) := by decide +kernel
theorem dX4_copyFrom_9 : decode cX4_copyFrom 9 = .ok (.istore_n 2, 1) := by decide +kernel
theorem dX4_copyFrom_10 : decode cX4_copyFrom 10 = .ok (.iload_n 2, 1) := by decide +kernel
theorem dX4_copyFrom_11 : decode cX4_copyFrom 11 = .ok (.bipush 10, 2) := by decide +kernel
theorem dX4_copyFrom_13 : decode cX4_copyFrom 13 = .ok (.if_icmp .ge 21, 3) := by decide +kernel
theorem dX4_copyFrom_16 : decode cX4_copyFrom 16 = .ok (.aload_n 0, 1) := by decide +kernel
theorem dX4_copyFrom_17 : decode cX4_copyFrom 17 = .ok (.getfield 9, 3) := by decide +kernel
theorem dX4_copyFrom_20 : decode cX4_copyFrom 20 = .ok (.iload_n 2, 1) := by decide +kernel
theorem dX4_copyFrom_21 : decode cX4_copyFrom 21 = .ok (.aload_n 1, 1) := by decide +kernel
theorem dX4_copyFrom_22 : decode cX4_copyFrom 22 = .ok (.getfield 9, 3) := by decide +kernel
theorem dX4_copyFrom_25 : decode cX4_copyFrom 25 = .ok (.iload_n 2, 1) := by decide +kernel
theorem dX4_copyFrom_26 : decode cX4_copyFrom 26 = .ok (.iaload, 1) := by decide +kernel
theorem dX4_copyFrom_27 : decode cX4_copyFrom 27 = .ok (.iastore, 1) := by decide +kernel
theorem dX4_copyFrom_28 : decode cX4_copyFrom 28 = .ok (.iinc 2 1, 3) := by decide +kernel
theorem dX4_copyFrom_31 : decode cX4_copyFrom 31 = .ok (.goto (-21), 3) := by decide +kernel
theorem dX4_copyFrom_34 : decode cX4_copyFrom 34 = .ok (.aload_n 0, 1) := by decide +kernel
theorem dX4_copyFrom_35 : decode cX4_copyFrom 35 = .ok (.getfield 18, 3) := by decide +kernel
theorem dX4_copyFrom_38 : decode cX4_copyFrom 38 = .ok (.aload_n 1, 1) := by decide +kernel
theorem dX4_copyFrom_39 : decode cX4_copyFrom 39 = .ok (.getfield 18, 3) := by decide +kernel
theorem dX4_copyFrom_42 : decode cX4_copyFrom 42 = .ok (.invokevirtual 37, 3) := by decide +kernel
theorem dX4_copyFrom_45 : decode cX4_copyFrom 45 = .ok (.return_, 1) := by decide +kernel
theorem dX5_has_0 : decode cX5_has 0 = .ok (.iload_n 1, 1) := by decide +kernel
theorem dX5_has_1 : decode cX5_has 1 = .ok (.ifCond .lt 21, 3) := by decide +kernel
theorem dX5_has_4 : decode cX5_has 4 = .ok (.iload_n 1, 1) := by decide +kernel
theorem dX5_has_5 : decode cX5_has 5 = .ok (.bipush 10, 2) := by decide +kernel
theorem dX5_has_7 : decode cX5_has 7 = .ok (.if_icmp .ge 15, 3) := by decide +kernel
theorem dX5_has_10 : decode cX5_has 10 = .ok (.iload_n 0, 1) := by decide +kernel
theorem dX5_has_11 : decode cX5_has 11 = .ok (.iload_n 1, 1) := by decide +kernel
theorem dX5_has_12 : decode cX5_has 12 = .ok (.ishr, 1) := by decide +kernel
theorem dX5_has_13 : decode cX5_has 13 = .ok (.iconst 1, 1) := by decide +kernel
theorem dX5_has_14 : decode cX5_has 14 = .ok (.iand, 1) := by decide +kernel
theorem dX5_has_15 : decode cX5_has 15 = .ok (.ifCond .eq 7, 3) := by decide +kernel
theorem dX5_has_18 : decode cX5_has 18 = .ok (.iconst 1, 1) := by decide +kernel
theorem dX5_has_19 : decode cX5_has 19 = .ok (.goto 4, 3) := by decide +kernel
theorem dX5_has_22 : decode cX5_has 22 = .ok (.iconst 0, 1) := by decide +kernel
theorem dX5_has_23 : decode cX5_has 23 = .ok (.ireturn, 1) := by decide +kernel
theorem dX5_way_0 : decode cX5_way 0 = .ok (.iload_n 0, 1) := by decide +kernel
theorem dX5_way_1 : decode cX5_way 1 = .ok (.iload_n 1, 1) := by decide +kernel
theorem dX5_way_2 : decode cX5_way 2 = .ok (.bipush 10, 2) := by decide +kernel
theorem dX5_way_4 : decode cX5_way 4 = .ok (.ishl, 1) := by decide +kernel
theorem dX5_way_5 : decode cX5_way 5 = .ok (.ior, 1) := by decide +kernel
theorem dX5_way_6 : decode cX5_way 6 = .ok (.ireturn, 1) := by decide +kernel
theorem dX5_standsOf_0 : decode cX5_standsOf 0 = .ok (.iload_n 0, 1) := by decide +kernel
theorem dX5_standsOf_1 : decode cX5_standsOf 1 = .ok (.sipush 1023, 3) := by decide +kernel
theorem dX5_standsOf_4 : decode cX5_standsOf 4 = .ok (.iand, 1) := by decide +kernel
theorem dX5_standsOf_5 : decode cX5_standsOf 5 = .ok (.ireturn, 1) := by decide +kernel
theorem dX5_towersOf_0 : decode cX5_towersOf 0 = .ok (.iload_n 0, 1) := by decide +kernel
theorem dX5_towersOf_1 : decode cX5_towersOf 1 = .ok (.bipush 10, 2) := by decide +kernel
theorem dX5_towersOf_3 : decode cX5_towersOf 3 = .ok (.ishr, 1) := by decide +kernel
theorem dX5_towersOf_4 : decode cX5_towersOf 4 = .ok (.ireturn, 1) := by decide +kernel
theorem dX5_cellNextTo_0 : decode cX5_cellNextTo 0 = .ok (.iload_n 2, 1) := by decide +kernel
theorem dX5_cellNextTo_1 : decode cX5_cellNextTo 1 = .ok (.ifCond .ne 18, 3) := by decide +kernel
theorem dX5_cellNextTo_4 : decode cX5_cellNextTo 4 = .ok (.iload_n 1, 1) := by decide +kernel
theorem dX5_cellNextTo_5 : decode cX5_cellNextTo 5 = .ok (.iconst 1, 1) := by decide +kernel
theorem dX5_cellNextTo_6 : decode cX5_cellNextTo 6 = .ok (.iadd, 1) := by decide +kernel
theorem dX5_cellNextTo_7 : decode cX5_cellNextTo 7 = .ok (.iload_n 0, 1) := by decide +kernel
theorem dX5_cellNextTo_8 : decode cX5_cellNextTo 8 = .ok (.if_icmp .lt 7, 3) := by decide +kernel
theorem dX5_cellNextTo_11 : decode cX5_cellNextTo 11 = .ok (.iconst 0, 1) := by decide +kernel
theorem dX5_cellNextTo_12 : decode cX5_cellNextTo 12 = .ok (.goto 6, 3) := by decide +kernel
theorem dX5_cellNextTo_15 : decode cX5_cellNextTo 15 = .ok (.iload_n 1, 1) := by decide +kernel
theorem dX5_cellNextTo_16 : decode cX5_cellNextTo 16 = .ok (.iconst 1, 1) := by decide +kernel
theorem dX5_cellNextTo_17 : decode cX5_cellNextTo 17 = .ok (.iadd, 1) := by decide +kernel
theorem dX5_cellNextTo_18 : decode cX5_cellNextTo 18 = .ok (.ireturn, 1) := by decide +kernel
theorem dX5_cellNextTo_19 : decode cX5_cellNextTo 19 = .ok (.iload_n 1, 1) := by decide +kernel
theorem dX5_cellNextTo_20 : decode cX5_cellNextTo 20 = .ok (.ifCond .gt 9, 3) := by decide +kernel
theorem dX5_cellNextTo_23 : decode cX5_cellNextTo 23 = .ok (.iload_n 0, 1) := by decide +kernel
theorem dX5_cellNextTo_24 : decode cX5_cellNextTo 24 = .ok (.iconst 1, 1) := by decide +kernel
theorem dX5_cellNextTo_25 : decode cX5_cellNextTo 25 = .ok (.isub, 1) := by decide +kernel
theorem dX5_cellNextTo_26 : decode cX5_cellNextTo 26 = .ok (.goto 6, 3) := by decide +kernel
theorem dX5_cellNextTo_29 : decode cX5_cellNextTo 29 = .ok (.iload_n 1, 1) := by decide +kernel
theorem dX5_cellNextTo_30 : decode cX5_cellNextTo 30 = .ok (.iconst 1, 1) := by decide +kernel
theorem dX5_cellNextTo_31 : decode cX5_cellNextTo 31 = .ok (.isub, 1) := by decide +kernel
theorem dX5_cellNextTo_32 : decode cX5_cellNextTo 32 = .ok (.ireturn, 1) := by decide +kernel
theorem dX5_turnedUp_0 : decode cX5_turnedUp 0 = .ok (.iload_n 1, 1) := by decide +kernel
theorem dX5_turnedUp_1 : decode cX5_turnedUp 1 = .ok (.iconst 1, 1) := by decide +kernel
theorem dX5_turnedUp_2 : decode cX5_turnedUp 2 = .ok (.ishl, 1) := by decide +kernel
theorem dX5_turnedUp_3 : decode cX5_turnedUp 3 = .ok (.iload_n 1, 1) := by decide +kernel
theorem dX5_turnedUp_4 : decode cX5_turnedUp 4 = .ok (.iload_n 0, 1) := by decide +kernel
theorem dX5_turnedUp_5 : decode cX5_turnedUp 5 = .ok (.iconst 1, 1) := by decide +kernel
theorem dX5_turnedUp_6 : decode cX5_turnedUp 6 = .ok (.isub, 1) := by decide +kernel
theorem dX5_turnedUp_7 : decode cX5_turnedUp 7 = .ok (.ishr, 1) := by decide +kernel
theorem dX5_turnedUp_8 : decode cX5_turnedUp 8 = .ok (.ior, 1) := by decide +kernel
theorem dX5_turnedUp_9 : decode cX5_turnedUp 9 = .ok (.iconst 1, 1) := by decide +kernel
theorem dX5_turnedUp_10 : decode cX5_turnedUp 10 = .ok (.iload_n 0, 1) := by decide +kernel
theorem dX5_turnedUp_11 : decode cX5_turnedUp 11 = .ok (.ishl, 1) := by decide +kernel
theorem dX5_turnedUp_12 : decode cX5_turnedUp 12 = .ok (.iconst 1, 1) := by decide +kernel
theorem dX5_turnedUp_13 : decode cX5_turnedUp 13 = .ok (.isub, 1) := by decide +kernel
theorem dX5_turnedUp_14 : decode cX5_turnedUp 14 = .ok (.iand, 1) := by decide +kernel
theorem dX5_turnedUp_15 : decode cX5_turnedUp 15 = .ok (.ireturn, 1) := by decide +kernel
theorem dX5_turnedDown_0 : decode cX5_turnedDown 0 = .ok (.iload_n 1, 1) := by decide +kernel
theorem dX5_turnedDown_1 : decode cX5_turnedDown 1 = .ok (.iconst 1, 1) := by decide +kernel
theorem dX5_turnedDown_2 : decode cX5_turnedDown 2 = .ok (.ishr, 1) := by decide +kernel
theorem dX5_turnedDown_3 : decode cX5_turnedDown 3 = .ok (.iload_n 1, 1) := by decide +kernel
theorem dX5_turnedDown_4 : decode cX5_turnedDown 4 = .ok (.iload_n 0, 1) := by decide +kernel
theorem dX5_turnedDown_5 : decode cX5_turnedDown 5 = .ok (.iconst 1, 1) := by decide +kernel
theorem dX5_turnedDown_6 : decode cX5_turnedDown 6 = .ok (.isub, 1) := by decide +kernel
theorem dX5_turnedDown_7 : decode cX5_turnedDown 7 = .ok (.ishl, 1) := by decide +kernel
theorem dX5_turnedDown_8 : decode cX5_turnedDown 8 = .ok (.ior, 1) := by decide +kernel
theorem dX5_turnedDown_9 : decode cX5_turnedDown 9 = .ok (.iconst 1, 1) := by decide +kernel
theorem dX5_turnedDown_10 : decode cX5_turnedDown 10 = .ok (.iload_n 0, 1) := by decide +kernel
theorem dX5_turnedDown_11 : decode cX5_turnedDown 11 = .ok (.ishl, 1) := by decide +kernel
theorem dX5_turnedDown_12 : decode cX5_turnedDown 12 = .ok (.iconst 1, 1) := by decide +kernel
theorem dX5_turnedDown_13 : decode cX5_turnedDown 13 = .ok (.isub, 1) := by decide +kernel
theorem dX5_turnedDown_14 : decode cX5_turnedDown 14 = .ok (.iand, 1) := by decide +kernel
theorem dX5_turnedDown_15 : decode cX5_turnedDown 15 = .ok (.ireturn, 1) := by decide +kernel
set_option maxRecDepth 20000 in
theorem ggX6_init_X2_init : GoodIn wsX6_init wsX2_init := goodIn_r _ [21, 22, 2, 3, 23, 24, 25, 26, 27, 28, 29, 54, 55, 56, 57, 58, 30, 31, 32, 33] (by decide +kernel) (by decide +kernel)
set_option maxRecDepth 20000 in
theorem gX6_init_X2_init_n11 : GoodIn wsX6_init (wsX2_init) := ggX6_init_X2_init
theorem dX6_init_0 : decode cX6_init 0 = .ok (.aload_n 0, 1) := by decide +kernel
theorem dX6_init_1 : decode cX6_init 1 = .ok (.invokespecial 3, 3) := by decide +kernel
theorem dX6_init_4 : decode cX6_init 4 = .ok (.aload_n 0, 1) := by decide +kernel
theorem dX6_init_5 : decode cX6_init 5 = .ok (.new 9, 3) := by decide +kernel
theorem dX6_init_8 : decode cX6_init 8 = .ok (.dup, 1) := by decide +kernel
theorem dX6_init_9 : decode cX6_init 9 = .ok (.invokespecial 11, 3) := by decide +kernel
theorem dX6_init_12 : decode cX6_init 12 = .ok (.putfield 12, 3) := by decide +kernel
theorem dX6_init_15 : decode cX6_init 15 = .ok (.aload_n 0, 1) := by decide +kernel
theorem dX6_init_16 : decode cX6_init 16 = .ok (.sipush 1957, 3) := by decide +kernel
theorem dX6_init_19 : decode cX6_init 19 = .ok (.newarray .int, 2) := by decide +kernel
theorem dX6_init_21 : decode cX6_init 21 = .ok (.putfield 18, 3) := by decide +kernel
theorem dX6_init_24 : decode cX6_init 24 = .ok (.aload_n 0, 1) := by decide +kernel
theorem dX6_init_25 : decode cX6_init 25 = .ok (.sipush 1024, 3) := by decide +kernel
theorem dX6_init_28 : decode cX6_init 28 = .ok (.newarray .int, 2) := by decide +kernel
theorem dX6_init_30 : decode cX6_init 30 = .ok (.putfield 22, 3) := by decide +kernel
theorem dX6_init_33 : decode cX6_init 33 = .ok (.aload_n 0, 1) := by decide +kernel
theorem dX6_init_34 : decode cX6_init 34 = .ok (.sipush 1957, 3) := by decide +kernel
theorem dX6_init_37 : decode cX6_init 37 = .ok (.newarray .int, 2) := by decide +kernel
theorem dX6_init_39 : decode cX6_init 39 = .ok (.putfield 25, 3) := by decide +kernel
theorem dX6_init_42 : decode cX6_init 42 = .ok (.aload_n 0, 1) := by decide +kernel
theorem dX6_init_43 : decode cX6_init 43 = .ok (.sipush 1957, 3) := by decide +kernel
theorem dX6_init_46 : decode cX6_init 46 = .ok (.newarray .int, 2) := by decide +kernel
theorem dX6_init_48 : decode cX6_init 48 = .ok (.putfield 28, 3) := by decide +kernel
theorem dX6_init_51 : decode cX6_init 51 = .ok (.aload_n 0, 1) := by decide +kernel
theorem dX6_init_52 : decode cX6_init 52 = .ok (.sipush 25857, 3) := by decide +kernel
theorem dX6_init_55 : decode cX6_init 55 = .ok (.newarray .int, 2) := by decide +kernel
theorem dX6_init_57 : decode cX6_init 57 = .ok (.putfield 31, 3) := by decide +kernel
theorem dX6_init_60 : decode cX6_init 60 = .ok (.aload_n 0, 1) := by decide +kernel
theorem dX6_init_61 : decode cX6_init 61 = .ok (.sipush 25857, 3) := by decide +kernel
theorem dX6_init_64 : decode cX6_init 64 = .ok (.newarray .int, 2) := by decide +kernel
theorem dX6_init_66 : decode cX6_init 66 = .ok (.putfield 34, 3) := by decide +kernel
theorem dX6_init_69 : decode cX6_init 69 = .ok (.aload_n 0, 1) := by decide +kernel
theorem dX6_init_70 : decode cX6_init 70 = .ok (.sipush 1957, 3) := by decide +kernel
theorem dX6_init_73 : decode cX6_init 73 = .ok (.newarray .int, 2) := by decide +kernel
theorem dX6_init_75 : decode cX6_init 75 = .ok (.putfield 37, 3) := by decide +kernel
theorem dX6_init_78 : decode cX6_init 78 = .ok (.aload_n 0, 1) := by decide +kernel
theorem dX6_init_79 : decode cX6_init 79 = .ok (.sipush 1957, 3) := by decide +kernel
theorem dX6_init_82 : decode cX6_init 82 = .ok (.newarray .int, 2) := by decide +kernel
theorem dX6_init_84 : decode cX6_init 84 = .ok (.putfield 40, 3) := by decide +kernel
theorem dX6_init_87 : decode cX6_init 87 = .ok (.aload_n 0, 1) := by decide +kernel
theorem dX6_init_88 : decode cX6_init 88 = .ok (.sipush 1957, 3) := by decide +kernel
theorem dX6_init_91 : decode cX6_init 91 = .ok (.newarray .int, 2) := by decide +kernel
theorem dX6_init_93 : decode cX6_init 93 = .ok (.putfield 43, 3) := by decide +kernel
theorem dX6_init_96 : decode cX6_init 96 = .ok (.aload_n 0, 1) := by decide +kernel
theorem dX6_init_97 : decode cX6_init 97 = .ok (.sipush 1957, 3) := by decide +kernel
theorem dX6_init_100 : decode cX6_init 100 = .ok (.newarray .int, 2) := by decide +kernel
theorem dX6_init_102 : decode cX6_init 102 = .ok (.putfield 46, 3) := by decide +kernel
theorem dX6_init_105 : decode cX6_init 105 = .ok (.aload_n 0, 1) := by decide +kernel
theorem dX6_init_106 : decode cX6_init 106 = .ok (.aload_n 1, 1) := by decide +kernel
theorem dX6_init_107 : decode cX6_init 107 = .ok (.putfield 49, 3) := by decide +kernel
theorem dX6_init_110 : decode cX6_init 110 = .ok (.return_, 1) := by decide +kernel
theorem dX6_begin_0 : decode cX6_begin 0 = .ok (.aload_n 0, 1) := by decide +kernel
theorem dX6_begin_1 : decode cX6_begin 1 = .ok (.iload_n 1, 1) := by decide +kernel
theorem dX6_begin_2 : decode cX6_begin 2 = .ok (.putfield 53, 3) := by decide +kernel
theorem dX6_begin_5 : decode cX6_begin 5 = .ok (.aload_n 0, 1) := by decide +kernel
theorem dX6_begin_6 : decode cX6_begin 6 = .ok (.iload_n 2, 1) := by decide +kernel
theorem dX6_begin_7 : decode cX6_begin 7 = .ok (.putfield 57, 3) := by decide +kernel
theorem dX6_begin_10 : decode cX6_begin 10 = .ok (.aload_n 0, 1) := by decide +kernel
theorem dX6_begin_11 : decode cX6_begin 11 = .ok (.iload_n 3, 1) := by decide +kernel
theorem dX6_begin_12 : decode cX6_begin 12 = .ok (.putfield 60, 3) := by decide +kernel
theorem dX6_begin_15 : decode cX6_begin 15 = .ok (.aload_n 0, 1) := by decide +kernel
theorem dX6_begin_16 : decode cX6_begin 16 = .ok (.iconst 0, 1) := by decide +kernel
theorem dX6_begin_17 : decode cX6_begin 17 = .ok (.putfield 64, 3) := by decide +kernel
theorem dX6_begin_20 : decode cX6_begin 20 = .ok (.aload_n 0, 1) := by decide +kernel
theorem dX6_begin_21 : decode cX6_begin 21 = .ok (.iconst 0, 1) := by decide +kernel
theorem dX6_begin_22 : decode cX6_begin 22 = .ok (.putfield 67, 3) := by decide +kernel
theorem dX6_begin_25 : decode cX6_begin 25 = .ok (.aload_n 0, 1) := by decide +kernel
theorem dX6_begin_26 : decode cX6_begin 26 = .ok (.iconst 0, 1) := by decide +kernel
theorem dX6_begin_27 : decode cX6_begin 27 = .ok (.putfield 70, 3) := by decide +kernel
theorem dX6_begin_30 : decode cX6_begin 30 = .ok (.aload_n 0, 1) := by decide +kernel
theorem dX6_begin_31 : decode cX6_begin 31 = .ok (.iconst 0, 1) := by decide +kernel
theorem dX6_begin_32 : decode cX6_begin 32 = .ok (.putfield 73, 3) := by decide +kernel
theorem dX6_begin_35 : decode cX6_begin 35 = .ok (.iconst 0, 1) := by decide +kernel
theorem dX6_begin_36 : decode cX6_begin 36 = .ok (.istore 4, 2) := by decide +kernel
theorem dX6_begin_38 : decode cX6_begin 38 = .ok (.iload 4, 2) := by decide +kernel
theorem dX6_begin_40 : decode cX6_begin 40 = .ok (.sipush 1024, 3) := by decide +kernel
theorem dX6_begin_43 : decode cX6_begin 43 = .ok (.if_icmp .ge 17, 3) := by decide +kernel
theorem dX6_begin_46 : decode cX6_begin 46 = .ok (.aload_n 0, 1) := by decide +kernel
theorem dX6_begin_47 : decode cX6_begin 47 = .ok (.getfield 22, 3) := by decide +kernel
theorem dX6_begin_50 : decode cX6_begin 50 = .ok (.iload 4, 2) := by decide +kernel
theorem dX6_begin_52 : decode cX6_begin 52 = .ok (.iconst (-1), 1) := by decide +kernel
theorem dX6_begin_53 : decode cX6_begin 53 = .ok (.iastore, 1) := by decide +kernel
theorem dX6_begin_54 : decode cX6_begin 54 = .ok (.iinc 4 1, 3) := by decide +kernel
theorem dX6_begin_57 : decode cX6_begin 57 = .ok (.goto (-19), 3) := by decide +kernel
theorem dX6_begin_60 : decode cX6_begin 60 = .ok (.return_, 1) := by decide +kernel
set_option maxRecDepth 20000 in
theorem ggX6_add_X6_find : GoodIn wsX6_add wsX6_find := goodIn_r _ [11, 4, 1, 2, 3, 12, 13, 14, 15, 16, 17, 18, 10, 19, 20, 21, 22, 23, 24, 25, 26, 27, 28, 29, 30, 31, 32, 33, 34, 35, 36, 37, 38, 39] (by decide +kernel) (by decide +kernel)
set_option maxRecDepth 20000 in
theorem gX6_add_X6_find : GoodIn wsX6_add (wsV RX6 76 RX6 yX6_find wsX6_find) := goodIn_app (goodIn_of _ (by decide +kernel)) ggX6_add_X6_find
set_option maxRecDepth 20000 in
theorem ggX6_add_X5_standsOf : GoodIn wsX6_add wsX5_standsOf := goodIn_r _ [15] (by decide +kernel) (by decide +kernel)
set_option maxRecDepth 20000 in
theorem gX6_add_X5_standsOf : GoodIn wsX6_add (va_wsS RX6 80 yX5_standsOf wsX5_standsOf) := goodIn_app (goodIn_of _ (by decide +kernel)) ggX6_add_X5_standsOf
theorem dX6_add_0 : decode cX6_add 0 = .ok (.aload_n 0, 1) := by decide +kernel
theorem dX6_add_1 : decode cX6_add 1 = .ok (.iload_n 1, 1) := by decide +kernel
theorem dX6_add_2 : decode cX6_add 2 = .ok (.invokevirtual 76, 3) := by decide +kernel
theorem dX6_add_5 : decode cX6_add 5 = .ok (.istore_n 2, 1) := by decide +kernel
theorem dX6_add_6 : decode cX6_add 6 = .ok (.iload_n 2, 1) := by decide +kernel
theorem dX6_add_7 : decode cX6_add 7 = .ok (.ifCond .ge 13, 3) := by decide +kernel
theorem dX6_add_10 : decode cX6_add 10 = .ok (.aload_n 0, 1) := by decide +kernel
theorem dX6_add_11 : decode cX6_add 11 = .ok (.getfield 64, 3) := by decide +kernel
theorem dX6_add_14 : decode cX6_add 14 = .ok (.sipush 1957, 3) := by decide +kernel
theorem dX6_add_17 : decode cX6_add 17 = .ok (.if_icmp .lt 5, 3) := by decide +kernel
theorem dX6_add_20 : decode cX6_add 20 = .ok (.iload_n 2, 1) := by decide +kernel
theorem dX6_add_21 : decode cX6_add 21 = .ok (.ireturn, 1) := by decide +kernel
theorem dX6_add_22 : decode cX6_add 22 = .ok (.aload_n 0, 1) := by decide +kernel
theorem dX6_add_23 : decode cX6_add 23 = .ok (.getfield 64, 3) := by decide +kernel
theorem dX6_add_26 : decode cX6_add 26 = .ok (.istore_n 3, 1) := by decide +kernel
theorem dX6_add_27 : decode cX6_add 27 = .ok (.iload_n 1, 1) := by decide +kernel
theorem dX6_add_28 : decode cX6_add 28 = .ok (.invokestatic 80, 3) := by decide +kernel
theorem dX6_add_31 : decode cX6_add 31 = .ok (.istore 4, 2) := by decide +kernel
theorem dX6_add_33 : decode cX6_add 33 = .ok (.aload_n 0, 1) := by decide +kernel
theorem dX6_add_34 : decode cX6_add 34 = .ok (.dup, 1) := by decide +kernel
theorem dX6_add_35 : decode cX6_add 35 = .ok (.getfield 64, 3) := by decide +kernel
theorem dX6_add_38 : decode cX6_add 38 = .ok (.iconst 1, 1) := by decide +kernel
theorem dX6_add_39 : decode cX6_add 39 = .ok (.iadd, 1) := by decide +kernel
theorem dX6_add_40 : decode cX6_add 40 = .ok (.putfield 64, 3) := by decide +kernel
theorem dX6_add_43 : decode cX6_add 43 = .ok (.aload_n 0, 1) := by decide +kernel
theorem dX6_add_44 : decode cX6_add 44 = .ok (.getfield 18, 3) := by decide +kernel
theorem dX6_add_47 : decode cX6_add 47 = .ok (.iload_n 3, 1) := by decide +kernel
theorem dX6_add_48 : decode cX6_add 48 = .ok (.iload_n 1, 1) := by decide +kernel
theorem dX6_add_49 : decode cX6_add 49 = .ok (.iastore, 1) := by decide +kernel
theorem dX6_add_50 : decode cX6_add 50 = .ok (.aload_n 0, 1) := by decide +kernel
theorem dX6_add_51 : decode cX6_add 51 = .ok (.getfield 25, 3) := by decide +kernel
theorem dX6_add_54 : decode cX6_add 54 = .ok (.iload_n 3, 1) := by decide +kernel
theorem dX6_add_55 : decode cX6_add 55 = .ok (.aload_n 0, 1) := by decide +kernel
theorem dX6_add_56 : decode cX6_add 56 = .ok (.getfield 22, 3) := by decide +kernel
theorem dX6_add_59 : decode cX6_add 59 = .ok (.iload 4, 2) := by decide +kernel
theorem dX6_add_61 : decode cX6_add 61 = .ok (.iaload, 1) := by decide +kernel
theorem dX6_add_62 : decode cX6_add 62 = .ok (.iastore, 1) := by decide +kernel
theorem dX6_add_63 : decode cX6_add 63 = .ok (.aload_n 0, 1) := by decide +kernel
theorem dX6_add_64 : decode cX6_add 64 = .ok (.getfield 22, 3) := by decide +kernel
theorem dX6_add_67 : decode cX6_add 67 = .ok (.iload 4, 2) := by decide +kernel
theorem dX6_add_69 : decode cX6_add 69 = .ok (.iload_n 3, 1) := by decide +kernel
theorem dX6_add_70 : decode cX6_add 70 = .ok (.iastore, 1) := by decide +kernel
theorem dX6_add_71 : decode cX6_add 71 = .ok (.aload_n 0, 1) := by decide +kernel
theorem dX6_add_72 : decode cX6_add 72 = .ok (.getfield 28, 3) := by decide +kernel
theorem dX6_add_75 : decode cX6_add 75 = .ok (.iload_n 3, 1) := by decide +kernel
theorem dX6_add_76 : decode cX6_add 76 = .ok (.iconst (-1), 1) := by decide +kernel
theorem dX6_add_77 : decode cX6_add 77 = .ok (.iastore, 1) := by decide +kernel
theorem dX6_add_78 : decode cX6_add 78 = .ok (.aload_n 0, 1) := by decide +kernel
theorem dX6_add_79 : decode cX6_add 79 = .ok (.getfield 37, 3) := by decide +kernel
theorem dX6_add_82 : decode cX6_add 82 = .ok (.iload_n 3, 1) := by decide +kernel
theorem dX6_add_83 : decode cX6_add 83 = .ok (.iconst 0, 1) := by decide +kernel
theorem dX6_add_84 : decode cX6_add 84 = .ok (.iastore, 1) := by decide +kernel
theorem dX6_add_85 : decode cX6_add 85 = .ok (.iload_n 3, 1) := by decide +kernel
theorem dX6_add_86 : decode cX6_add 86 = .ok (.ireturn, 1) := by decide +kernel
set_option maxRecDepth 20000 in
theorem ggX6_find_X5_standsOf : GoodIn wsX6_find wsX5_standsOf := goodIn_r _ [8] (by decide +kernel) (by decide +kernel)
set_option maxRecDepth 20000 in
theorem gX6_find_X5_standsOf : GoodIn wsX6_find (va_wsS RX6 80 yX5_standsOf wsX5_standsOf) := goodIn_app (goodIn_of _ (by decide +kernel)) ggX6_find_X5_standsOf
set_option maxRecDepth 20000 in
theorem ggX6_find_X6_isWay : GoodIn wsX6_find wsX6_isWay := goodIn_r _ [13, 2, 14, 15, 16, 17, 18, 19, 20, 21, 22, 23, 24, 25, 26, 27, 28, 29, 30, 31, 32, 33] (by decide +kernel) (by decide +kernel)
set_option maxRecDepth 20000 in
theorem gX6_find_X6_isWay : GoodIn wsX6_find (wsV RX6 85 RX6 yX6_isWay wsX6_isWay) := goodIn_app (goodIn_of _ (by decide +kernel)) ggX6_find_X6_isWay
theorem dX6_find_0 : decode cX6_find 0 = .ok (.aload_n 0, 1) := by decide +kernel
theorem dX6_find_1 : decode cX6_find 1 = .ok (.getfield 22, 3) := by decide +kernel
theorem dX6_find_4 : decode cX6_find 4 = .ok (.iload_n 1, 1) := by decide +kernel
theorem dX6_find_5 : decode cX6_find 5 = .ok (.invokestatic 80, 3) := by decide +kernel
theorem dX6_find_8 : decode cX6_find 8 = .ok (.iaload, 1) := by decide +kernel
theorem dX6_find_9 : decode cX6_find 9 = .ok (.istore_n 2, 1) := by decide +kernel
theorem dX6_find_10 : decode cX6_find 10 = .ok (.iconst 0, 1) := by decide +kernel
theorem dX6_find_11 : decode cX6_find 11 = .ok (.istore_n 3, 1) := by decide +kernel
theorem dX6_find_12 : decode cX6_find 12 = .ok (.iload_n 3, 1) := by decide +kernel
theorem dX6_find_13 : decode cX6_find 13 = .ok (.aload_n 0, 1) := by decide +kernel
theorem dX6_find_14 : decode cX6_find 14 = .ok (.getfield 64, 3) := by decide +kernel
theorem dX6_find_17 : decode cX6_find 17 = .ok (.if_icmp .ge 36, 3) := by decide +kernel
theorem dX6_find_20 : decode cX6_find 20 = .ok (.aload_n 0, 1) := by decide +kernel
theorem dX6_find_21 : decode cX6_find 21 = .ok (.iload_n 2, 1) := by decide +kernel
theorem dX6_find_22 : decode cX6_find 22 = .ok (.invokevirtual 85, 3) := by decide +kernel
theorem dX6_find_25 : decode cX6_find 25 = .ok (.ifCond .eq 28, 3) := by decide +kernel
theorem dX6_find_28 : decode cX6_find 28 = .ok (.aload_n 0, 1) := by decide +kernel
theorem dX6_find_29 : decode cX6_find 29 = .ok (.getfield 18, 3) := by decide +kernel
theorem dX6_find_32 : decode cX6_find 32 = .ok (.iload_n 2, 1) := by decide +kernel
theorem dX6_find_33 : decode cX6_find 33 = .ok (.iaload, 1) := by decide +kernel
theorem dX6_find_34 : decode cX6_find 34 = .ok (.iload_n 1, 1) := by decide +kernel
theorem dX6_find_35 : decode cX6_find 35 = .ok (.if_icmp .ne 5, 3) := by decide +kernel
theorem dX6_find_38 : decode cX6_find 38 = .ok (.iload_n 2, 1) := by decide +kernel
theorem dX6_find_39 : decode cX6_find 39 = .ok (.ireturn, 1) := by decide +kernel
theorem dX6_find_40 : decode cX6_find 40 = .ok (.aload_n 0, 1) := by decide +kernel
theorem dX6_find_41 : decode cX6_find 41 = .ok (.getfield 25, 3) := by decide +kernel
theorem dX6_find_44 : decode cX6_find 44 = .ok (.iload_n 2, 1) := by decide +kernel
theorem dX6_find_45 : decode cX6_find 45 = .ok (.iaload, 1) := by decide +kernel
theorem dX6_find_46 : decode cX6_find 46 = .ok (.istore_n 2, 1) := by decide +kernel
theorem dX6_find_47 : decode cX6_find 47 = .ok (.iinc 3 1, 3) := by decide +kernel
theorem dX6_find_50 : decode cX6_find 50 = .ok (.goto (-38), 3) := by decide +kernel
theorem dX6_find_53 : decode cX6_find 53 = .ok (.iconst (-1), 1) := by decide +kernel
theorem dX6_find_54 : decode cX6_find 54 = .ok (.ireturn, 1) := by decide +kernel
theorem dX6_isWay_0 : decode cX6_isWay 0 = .ok (.iload_n 1, 1) := by decide +kernel
theorem dX6_isWay_1 : decode cX6_isWay 1 = .ok (.ifCond .lt 22, 3) := by decide +kernel
theorem dX6_isWay_4 : decode cX6_isWay 4 = .ok (.iload_n 1, 1) := by decide +kernel
theorem dX6_isWay_5 : decode cX6_isWay 5 = .ok (.aload_n 0, 1) := by decide +kernel
theorem dX6_isWay_6 : decode cX6_isWay 6 = .ok (.getfield 64, 3) := by decide +kernel
theorem dX6_isWay_9 : decode cX6_isWay 9 = .ok (.if_icmp .ge 14, 3) := by decide +kernel
theorem dX6_isWay_12 : decode cX6_isWay 12 = .ok (.iload_n 1, 1) := by decide +kernel
theorem dX6_isWay_13 : decode cX6_isWay 13 = .ok (.sipush 1957, 3) := by decide +kernel
theorem dX6_isWay_16 : decode cX6_isWay 16 = .ok (.if_icmp .ge 7, 3) := by decide +kernel
theorem dX6_isWay_19 : decode cX6_isWay 19 = .ok (.iconst 1, 1) := by decide +kernel
theorem dX6_isWay_20 : decode cX6_isWay 20 = .ok (.goto 4, 3) := by decide +kernel
theorem dX6_isWay_23 : decode cX6_isWay 23 = .ok (.iconst 0, 1) := by decide +kernel
theorem dX6_isWay_24 : decode cX6_isWay 24 = .ok (.ireturn, 1) := by decide +kernel
set_option maxRecDepth 20000 in
theorem ggX6_hasMet_X6_isWay : GoodIn wsX6_hasMet wsX6_isWay := goodIn_r _ [6, 7, 19, 20, 21, 22, 23, 24, 25, 26, 27, 28, 29, 30, 31, 32, 33, 34, 35, 36, 37, 38] (by decide +kernel) (by decide +kernel)
set_option maxRecDepth 20000 in
theorem gX6_hasMet_X6_isWay : GoodIn wsX6_hasMet (wsV RX6 85 RX6 yX6_isWay wsX6_isWay) := goodIn_app (goodIn_of _ (by decide +kernel)) ggX6_hasMet_X6_isWay
set_option maxRecDepth 20000 in
theorem ggX6_hasMet_X5_standsOf : GoodIn wsX6_hasMet wsX5_standsOf := goodIn_r _ [11] (by decide +kernel) (by decide +kernel)
set_option maxRecDepth 20000 in
theorem gX6_hasMet_X5_standsOf : GoodIn wsX6_hasMet (va_wsS RX6 80 yX5_standsOf wsX5_standsOf) := goodIn_app (goodIn_of _ (by decide +kernel)) ggX6_hasMet_X5_standsOf
set_option maxRecDepth 20000 in
theorem ggX6_hasMet_J6_bitCount_0f7a4 : GoodIn wsX6_hasMet wsJ6_bitCount_0f7a4 := goodIn_r _ [15, 16, 17, 18] (by decide +kernel) (by decide +kernel)
set_option maxRecDepth 20000 in
theorem gX6_hasMet_J6_bitCount_0f7a4 : GoodIn wsX6_hasMet (va_wsS RX6 89 yJ6_bitCount_0f7a4 wsJ6_bitCount_0f7a4) := goodIn_app (goodIn_of _ (by decide +kernel)) ggX6_hasMet_J6_bitCount_0f7a4
theorem dX6_hasMet_0 : decode cX6_hasMet 0 = .ok (.aload_n 0, 1) := by decide +kernel
theorem dX6_hasMet_1 : decode cX6_hasMet 1 = .ok (.iload_n 1, 1) := by decide +kernel
theorem dX6_hasMet_2 : decode cX6_hasMet 2 = .ok (.invokevirtual 85, 3) := by decide +kernel
theorem dX6_hasMet_5 : decode cX6_hasMet 5 = .ok (.ifCond .eq 23, 3) := by decide +kernel
theorem dX6_hasMet_8 : decode cX6_hasMet 8 = .ok (.aload_n 0, 1) := by decide +kernel
theorem dX6_hasMet_9 : decode cX6_hasMet 9 = .ok (.getfield 18, 3) := by decide +kernel
theorem dX6_hasMet_12 : decode cX6_hasMet 12 = .ok (.iload_n 1, 1) := by decide +kernel
theorem dX6_hasMet_13 : decode cX6_hasMet 13 = .ok (.iaload, 1) := by decide +kernel
theorem dX6_hasMet_14 : decode cX6_hasMet 14 = .ok (.invokestatic 80, 3) := by decide +kernel
theorem dX6_hasMet_17 : decode cX6_hasMet 17 = .ok (.invokestatic 89, 3) := by decide +kernel
theorem dX6_hasMet_20 : decode cX6_hasMet 20 = .ok (.iconst 1, 1) := by decide +kernel
theorem dX6_hasMet_21 : decode cX6_hasMet 21 = .ok (.if_icmp .ne 7, 3) := by decide +kernel
theorem dX6_hasMet_24 : decode cX6_hasMet 24 = .ok (.iconst 1, 1) := by decide +kernel
theorem dX6_hasMet_25 : decode cX6_hasMet 25 = .ok (.goto 4, 3) := by decide +kernel
theorem dX6_hasMet_28 : decode cX6_hasMet 28 = .ok (.iconst 0, 1) := by decide +kernel
theorem dX6_hasMet_29 : decode cX6_hasMet 29 = .ok (.ireturn, 1) := by decide +kernel
set_option maxRecDepth 20000 in
theorem ggX6_walk_X6_hasMet : GoodIn wsX6_walk wsX6_hasMet := goodIn_r _ [12, 5, 13, 14, 15, 11, 16, 1, 17, 18, 19, 20, 21, 22, 23, 24, 25, 26, 27, 187, 188, 189, 190, 191, 192, 193, 194, 195, 196, 197, 198, 199, 200, 201, 202, 203, 204, 205, 206] (by decide +kernel) (by decide +kernel)
set_option maxRecDepth 20000 in
theorem gX6_walk_X6_hasMet : GoodIn wsX6_walk (wsV RX6 94 RX6 yX6_hasMet wsX6_hasMet) := goodIn_app (goodIn_of _ (by decide +kernel)) ggX6_walk_X6_hasMet
set_option maxRecDepth 20000 in
theorem ggX6_walk_X5_standsOf : GoodIn wsX6_walk wsX5_standsOf := goodIn_r _ [20] (by decide +kernel) (by decide +kernel)
set_option maxRecDepth 20000 in
theorem gX6_walk_X5_standsOf : GoodIn wsX6_walk (va_wsS RX6 80 yX5_standsOf wsX5_standsOf) := goodIn_app (goodIn_of _ (by decide +kernel)) ggX6_walk_X5_standsOf
set_option maxRecDepth 20000 in
theorem ggX6_walk_X6_towersSeen : GoodIn wsX6_walk wsX6_towersSeen := goodIn_r _ [31, 32, 33, 34, 19, 35, 187, 188, 189, 190, 191, 192, 193, 194, 195, 196, 197, 198, 199, 200, 201, 202, 203, 204, 205, 206] (by decide +kernel) (by decide +kernel)
set_option maxRecDepth 20000 in
theorem gX6_walk_X6_towersSeen : GoodIn wsX6_walk (wsV RX6 97 RX6 yX6_towersSeen wsX6_towersSeen) := goodIn_app (goodIn_of _ (by decide +kernel)) ggX6_walk_X6_towersSeen
set_option maxRecDepth 20000 in
theorem ggX6_walk_X2_from : GoodIn wsX6_walk wsX2_from := goodIn_r _ [40, 41, 42, 43, 44, 45, 46, 19, 47, 48, 49, 50, 51, 52, 53, 54, 55, 56, 57, 58, 59, 60, 61, 62, 63, 64, 65, 66, 67, 68, 69, 70, 71, 22, 23, 24, 25, 26, 27, 72, 73, 74, 75, 76, 77, 78, 79, 80, 81, 82, 83, 84, 85, 86, 87, 88, 89, 90, 91, 92, 93, 94, 95, 96, 97, 98, 99, 100, 101, 102, 103, 104, 105, 106, 107, 108, 109, 39, 110, 111, 207, 208, 209, 210, 211, 212, 213, 214, 215, 216, 217] (by decide +kernel) (by decide +kernel)
set_option maxRecDepth 20000 in
theorem gX6_walk_X2_from : GoodIn wsX6_walk (wsV RX6 100 RX2 yX2_from wsX2_from) := goodIn_app (goodIn_of _ (by decide +kernel)) ggX6_walk_X2_from
set_option maxRecDepth 20000 in
theorem ggX6_walk_X6_addStepsFrom : GoodIn wsX6_walk wsX6_addStepsFrom := goodIn_r _ [115, 116, 2, 117, 4, 5, 118, 119, 120, 39, 121, 41, 42, 122, 123, 124, 11, 125, 126, 127, 128, 23, 129, 130, 131, 132, 133, 134, 18, 19, 20, 135, 34, 35, 136, 137, 138, 139, 140, 141, 142, 143, 144, 145, 146, 147, 148, 149, 1, 150, 151, 152, 153, 154, 155, 156, 157, 17, 13, 14, 15, 16, 158, 159, 160, 161, 162, 163, 164, 187, 188, 189, 190, 191, 192, 193, 194, 195, 196, 197, 198, 199, 200, 201, 202, 203, 204, 205, 206, 207, 208, 209, 210] (by decide +kernel) (by decide +kernel)
set_option maxRecDepth 20000 in
theorem gX6_walk_X6_addStepsFrom : GoodIn wsX6_walk (wsV RX6 104 RX6 yX6_addStepsFrom wsX6_addStepsFrom) := goodIn_app (goodIn_of _ (by decide +kernel)) ggX6_walk_X6_addStepsFrom
set_option maxRecDepth 20000 in
theorem ggX6_walk_X6_tellBackwards : GoodIn wsX6_walk wsX6_tellBackwards := goodIn_r _ [168, 169, 170, 152, 162, 163, 164, 171, 172, 173, 11, 174, 1, 8, 9, 10, 12, 5, 13, 14, 15, 16, 17, 18, 19, 20, 21, 22, 23, 24, 25, 26, 27, 175, 176, 177, 178, 179, 180, 181, 182, 183, 184, 185, 186, 153, 187, 188, 189, 190, 191, 192, 193, 194, 195, 196, 197, 198, 199, 200, 201, 202, 203, 204, 205, 206] (by decide +kernel) (by decide +kernel)
set_option maxRecDepth 20000 in
theorem gX6_walk_X6_tellBackwards : GoodIn wsX6_walk (wsV RX6 108 RX6 yX6_tellBackwards wsX6_tellBackwards) := goodIn_app (goodIn_of _ (by decide +kernel)) ggX6_walk_X6_tellBackwards
theorem dX6_walk_0 : decode cX6_walk 0 = .ok (.iconst 0, 1) := by decide +kernel
theorem dX6_walk_1 : decode cX6_walk 1 = .ok (.istore_n 1, 1) := by decide +kernel
theorem dX6_walk_2 : decode cX6_walk 2 = .ok (.iload_n 1, 1) := by decide +kernel
theorem dX6_walk_3 : decode cX6_walk 3 = .ok (.aload_n 0, 1) := by decide +kernel
theorem dX6_walk_4 : decode cX6_walk 4 = .ok (.getfield 64, 3) := by decide +kernel
theorem dX6_walk_7 : decode cX6_walk 7 = .ok (.if_icmp .ge 63, 3) := by decide +kernel
theorem dX6_walk_10 : decode cX6_walk 10 = .ok (.iload_n 1, 1) := by decide +kernel
theorem dX6_walk_11 : decode cX6_walk 11 = .ok (.sipush 1957, 3) := by decide +kernel
theorem dX6_walk_14 : decode cX6_walk 14 = .ok (.if_icmp .ge 56, 3) := by decide +kernel
theorem dX6_walk_17 : decode cX6_walk 17 = .ok (.aload_n 0, 1) := by decide +kernel
theorem dX6_walk_18 : decode cX6_walk 18 = .ok (.iload_n 1, 1) := by decide +kernel
theorem dX6_walk_19 : decode cX6_walk 19 = .ok (.invokevirtual 94, 3) := by decide +kernel
theorem dX6_walk_22 : decode cX6_walk 22 = .ok (.ifCond .ne 42, 3) := by decide +kernel
theorem dX6_walk_25 : decode cX6_walk 25 = .ok (.aload_n 0, 1) := by decide +kernel
theorem dX6_walk_26 : decode cX6_walk 26 = .ok (.getfield 12, 3) := by decide +kernel
theorem dX6_walk_29 : decode cX6_walk 29 = .ok (.aload_n 0, 1) := by decide +kernel
theorem dX6_walk_30 : decode cX6_walk 30 = .ok (.getfield 49, 3) := by decide +kernel
theorem dX6_walk_33 : decode cX6_walk 33 = .ok (.aload_n 0, 1) := by decide +kernel
theorem dX6_walk_34 : decode cX6_walk 34 = .ok (.getfield 53, 3) := by decide +kernel
theorem dX6_walk_37 : decode cX6_walk 37 = .ok (.aload_n 0, 1) := by decide +kernel
theorem dX6_walk_38 : decode cX6_walk 38 = .ok (.getfield 18, 3) := by decide +kernel
theorem dX6_walk_41 : decode cX6_walk 41 = .ok (.iload_n 1, 1) := by decide +kernel
theorem dX6_walk_42 : decode cX6_walk 42 = .ok (.iaload, 1) := by decide +kernel
theorem dX6_walk_43 : decode cX6_walk 43 = .ok (.invokestatic 80, 3) := by decide +kernel
theorem dX6_walk_46 : decode cX6_walk 46 = .ok (.aload_n 0, 1) := by decide +kernel
theorem dX6_walk_47 : decode cX6_walk 47 = .ok (.aload_n 0, 1) := by decide +kernel
theorem dX6_walk_48 : decode cX6_walk 48 = .ok (.getfield 18, 3) := by decide +kernel
theorem dX6_walk_51 : decode cX6_walk 51 = .ok (.iload_n 1, 1) := by decide +kernel
theorem dX6_walk_52 : decode cX6_walk 52 = .ok (.iaload, 1) := by decide +kernel
theorem dX6_walk_53 : decode cX6_walk 53 = .ok (.invokevirtual 97, 3) := by decide +kernel
theorem dX6_walk_56 : decode cX6_walk 56 = .ok (.invokevirtual 100, 3) := by decide +kernel
theorem dX6_walk_59 : decode cX6_walk 59 = .ok (.aload_n 0, 1) := by decide +kernel
theorem dX6_walk_60 : decode cX6_walk 60 = .ok (.iload_n 1, 1) := by decide +kernel
theorem dX6_walk_61 : decode cX6_walk 61 = .ok (.invokevirtual 104, 3) := by decide +kernel
theorem dX6_walk_64 : decode cX6_walk 64 = .ok (.iinc 1 1, 3) := by decide +kernel
theorem dX6_walk_67 : decode cX6_walk 67 = .ok (.goto (-65), 3) := by decide +kernel
theorem dX6_walk_70 : decode cX6_walk 70 = .ok (.aload_n 0, 1) := by decide +kernel
theorem dX6_walk_71 : decode cX6_walk 71 = .ok (.aload_n 0, 1) := by decide +kernel
theorem dX6_walk_72 : decode cX6_walk 72 = .ok (.getfield 40, 3) := by decide +kernel
theorem dX6_walk_75 : decode cX6_walk 75 = .ok (.iconst 0, 1) := by decide +kernel
theorem dX6_walk_76 : decode cX6_walk 76 = .ok (.invokevirtual 108, 3) := by decide +kernel
theorem dX6_walk_79 : decode cX6_walk 79 = .ok (.aload_n 0, 1) := by decide +kernel
theorem dX6_walk_80 : decode cX6_walk 80 = .ok (.aload_n 0, 1) := by decide +kernel
theorem dX6_walk_81 : decode cX6_walk 81 = .ok (.getfield 43, 3) := by decide +kernel
theorem dX6_walk_84 : decode cX6_walk 84 = .ok (.iconst 1, 1) := by decide +kernel
theorem dX6_walk_85 : decode cX6_walk 85 = .ok (.invokevirtual 108, 3) := by decide +kernel
theorem dX6_walk_88 : decode cX6_walk 88 = .ok (.return_, 1) := by decide +kernel
set_option maxRecDepth 20000 in
theorem ggX6_towersSeen_X5_towersOf : GoodIn wsX6_towersSeen wsX5_towersOf := goodIn_r _ [5] (by decide +kernel) (by decide +kernel)
set_option maxRecDepth 20000 in
theorem gX6_towersSeen_X5_towersOf : GoodIn wsX6_towersSeen (va_wsS RX6 112 yX5_towersOf wsX5_towersOf) := goodIn_app (goodIn_of _ (by decide +kernel)) ggX6_towersSeen_X5_towersOf
theorem dX6_towersSeen_0 : decode cX6_towersSeen 0 = .ok (.aload_n 0, 1) := by decide +kernel
theorem dX6_towersSeen_1 : decode cX6_towersSeen 1 = .ok (.getfield 60, 3) := by decide +kernel
theorem dX6_towersSeen_4 : decode cX6_towersSeen 4 = .ok (.ifCond .eq 7, 3) := by decide +kernel
theorem dX6_towersSeen_7 : decode cX6_towersSeen 7 = .ok (.iconst 0, 1) := by decide +kernel
theorem dX6_towersSeen_8 : decode cX6_towersSeen 8 = .ok (.goto 7, 3) := by decide +kernel
theorem dX6_towersSeen_11 : decode cX6_towersSeen 11 = .ok (.iload_n 1, 1) := by decide +kernel
theorem dX6_towersSeen_12 : decode cX6_towersSeen 12 = .ok (.invokestatic 112, 3) := by decide +kernel
theorem dX6_towersSeen_15 : decode cX6_towersSeen 15 = .ok (.ireturn, 1) := by decide +kernel
set_option maxRecDepth 20000 in
theorem ggX6_addStepsFrom_X2_movers : GoodIn wsX6_addStepsFrom wsX2_movers := goodIn_r _ [10, 11, 12, 89, 90, 91, 92] (by decide +kernel) (by decide +kernel)
set_option maxRecDepth 20000 in
theorem gX6_addStepsFrom_X2_movers : GoodIn wsX6_addStepsFrom (wsV RX6 116 RX2 yX2_movers wsX2_movers) := goodIn_app (goodIn_of _ (by decide +kernel)) ggX6_addStepsFrom_X2_movers
set_option maxRecDepth 20000 in
theorem ggX6_addStepsFrom_X6_setAfter : GoodIn wsX6_addStepsFrom wsX6_setAfter := goodIn_r _ [17, 2, 18, 6, 7, 8, 9, 10, 11, 12, 19, 20, 21, 22, 69, 70, 71, 72, 73, 74, 75, 76, 77, 78, 79, 80, 81, 82, 83, 84, 85, 86, 87, 88, 89, 90, 91, 92] (by decide +kernel) (by decide +kernel)
set_option maxRecDepth 20000 in
theorem gX6_addStepsFrom_X6_setAfter : GoodIn wsX6_addStepsFrom (wsV RX6 120 RX6 yX6_setAfter wsX6_setAfter) := goodIn_app (goodIn_of _ (by decide +kernel)) ggX6_addStepsFrom_X6_setAfter
set_option maxRecDepth 20000 in
theorem ggX6_addStepsFrom_X2_wayBehind : GoodIn wsX6_addStepsFrom wsX2_wayBehind := goodIn_r _ [26, 11, 12, 27, 28, 29, 30, 31, 32, 33, 34, 7, 8, 9, 10, 35, 36, 37, 38, 39, 40, 41, 42, 43, 89, 90, 91, 92] (by decide +kernel) (by decide +kernel)
set_option maxRecDepth 20000 in
theorem gX6_addStepsFrom_X2_wayBehind : GoodIn wsX6_addStepsFrom (wsV RX6 123 RX2 yX2_wayBehind wsX2_wayBehind) := goodIn_app (goodIn_of _ (by decide +kernel)) ggX6_addStepsFrom_X2_wayBehind
set_option maxRecDepth 20000 in
theorem ggX6_addStepsFrom_X6_add : GoodIn wsX6_addStepsFrom wsX6_add := goodIn_r _ [47, 48, 5, 49, 50, 51, 52, 53, 54, 55, 16, 56, 57, 28, 29, 30, 58, 59, 60, 61, 69, 70, 71, 72, 73, 74, 75, 76, 77, 78, 79, 80, 81, 82, 83, 84, 85, 86, 87, 88] (by decide +kernel) (by decide +kernel)
set_option maxRecDepth 20000 in
theorem gX6_addStepsFrom_X6_add : GoodIn wsX6_addStepsFrom (wsV RX6 127 RX6 yX6_add wsX6_add) := goodIn_app (goodIn_of _ (by decide +kernel)) ggX6_addStepsFrom_X6_add
set_option maxRecDepth 20000 in
theorem ggX6_addStepsFrom_X6_addStep : GoodIn wsX6_addStepsFrom wsX6_addStep := goodIn_r _ [65, 66, 67, 68, 51, 52, 58, 59, 60, 16, 61, 48, 69, 70, 71, 72, 73, 74, 75, 76, 77, 78, 79, 80, 81, 82, 83, 84, 85, 86, 87, 88] (by decide +kernel) (by decide +kernel)
set_option maxRecDepth 20000 in
theorem gX6_addStepsFrom_X6_addStep : GoodIn wsX6_addStepsFrom (wsV RX6 130 RX6 yX6_addStep wsX6_addStep) := goodIn_app (goodIn_of _ (by decide +kernel)) ggX6_addStepsFrom_X6_addStep
theorem dX6_addStepsFrom_0 : decode cX6_addStepsFrom 0 = .ok (.aload_n 0, 1) := by decide +kernel
theorem dX6_addStepsFrom_1 : decode cX6_addStepsFrom 1 = .ok (.dup, 1) := by decide +kernel
theorem dX6_addStepsFrom_2 : decode cX6_addStepsFrom 2 = .ok (.getfield 73, 3) := by decide +kernel
theorem dX6_addStepsFrom_5 : decode cX6_addStepsFrom 5 = .ok (.aload_n 0, 1) := by decide +kernel
theorem dX6_addStepsFrom_6 : decode cX6_addStepsFrom 6 = .ok (.getfield 12, 3) := by decide +kernel
theorem dX6_addStepsFrom_9 : decode cX6_addStepsFrom 9 = .ok (.getfield 115, 3) := by decide +kernel
theorem dX6_addStepsFrom_12 : decode cX6_addStepsFrom 12 = .ok (.ior, 1) := by decide +kernel
theorem dX6_addStepsFrom_13 : decode cX6_addStepsFrom 13 = .ok (.putfield 73, 3) := by decide +kernel
theorem dX6_addStepsFrom_16 : decode cX6_addStepsFrom 16 = .ok (.aload_n 0, 1) := by decide +kernel
theorem dX6_addStepsFrom_17 : decode cX6_addStepsFrom 17 = .ok (.getfield 12, 3) := by decide +kernel
theorem dX6_addStepsFrom_20 : decode cX6_addStepsFrom 20 = .ok (.invokevirtual 116, 3) := by decide +kernel
theorem dX6_addStepsFrom_23 : decode cX6_addStepsFrom 23 = .ok (.ifCond .ne 13, 3) := by decide +kernel
theorem dX6_addStepsFrom_26 : decode cX6_addStepsFrom 26 = .ok (.aload_n 0, 1) := by decide +kernel
theorem dX6_addStepsFrom_27 : decode cX6_addStepsFrom 27 = .ok (.dup, 1) := by decide +kernel
theorem dX6_addStepsFrom_28 : decode cX6_addStepsFrom 28 = .ok (.getfield 70, 3) := by decide +kernel
theorem dX6_addStepsFrom_31 : decode cX6_addStepsFrom 31 = .ok (.iconst 1, 1) := by decide +kernel
theorem dX6_addStepsFrom_32 : decode cX6_addStepsFrom 32 = .ok (.iadd, 1) := by decide +kernel
theorem dX6_addStepsFrom_33 : decode cX6_addStepsFrom 33 = .ok (.putfield 70, 3) := by decide +kernel
theorem dX6_addStepsFrom_36 : decode cX6_addStepsFrom 36 = .ok (.aload_n 0, 1) := by decide +kernel
theorem dX6_addStepsFrom_37 : decode cX6_addStepsFrom 37 = .ok (.iconst 0, 1) := by decide +kernel
theorem dX6_addStepsFrom_38 : decode cX6_addStepsFrom 38 = .ok (.invokevirtual 120, 3) := by decide +kernel
theorem dX6_addStepsFrom_41 : decode cX6_addStepsFrom 41 = .ok (.istore_n 2, 1) := by decide +kernel
theorem dX6_addStepsFrom_42 : decode cX6_addStepsFrom 42 = .ok (.iconst 0, 1) := by decide +kernel
theorem dX6_addStepsFrom_43 : decode cX6_addStepsFrom 43 = .ok (.istore_n 3, 1) := by decide +kernel
theorem dX6_addStepsFrom_44 : decode cX6_addStepsFrom 44 = .ok (.iload_n 3, 1) := by decide +kernel
theorem dX6_addStepsFrom_45 : decode cX6_addStepsFrom 45 = .ok (.bipush 31, 2) := by decide +kernel
theorem dX6_addStepsFrom_47 : decode cX6_addStepsFrom 47 = .ok (.if_icmp .ge 46, 3) := by decide +kernel
theorem dX6_addStepsFrom_50 : decode cX6_addStepsFrom 50 = .ok (.iload_n 2, 1) := by decide +kernel
theorem dX6_addStepsFrom_51 : decode cX6_addStepsFrom 51 = .ok (.ifCond .eq 42, 3) := by decide +kernel
theorem dX6_addStepsFrom_54 : decode cX6_addStepsFrom 54 = .ok (.aload_n 0, 1) := by decide +kernel
theorem dX6_addStepsFrom_55 : decode cX6_addStepsFrom 55 = .ok (.iload_n 1, 1) := by decide +kernel
theorem dX6_addStepsFrom_56 : decode cX6_addStepsFrom 56 = .ok (.aload_n 0, 1) := by decide +kernel
theorem dX6_addStepsFrom_57 : decode cX6_addStepsFrom 57 = .ok (.aload_n 0, 1) := by decide +kernel
theorem dX6_addStepsFrom_58 : decode cX6_addStepsFrom 58 = .ok (.getfield 12, 3) := by decide +kernel
theorem dX6_addStepsFrom_61 : decode cX6_addStepsFrom 61 = .ok (.aload_n 0, 1) := by decide +kernel
theorem dX6_addStepsFrom_62 : decode cX6_addStepsFrom 62 = .ok (.getfield 53, 3) := by decide +kernel
theorem dX6_addStepsFrom_65 : decode cX6_addStepsFrom 65 = .ok (.aload_n 0, 1) := by decide +kernel
theorem dX6_addStepsFrom_66 : decode cX6_addStepsFrom 66 = .ok (.getfield 18, 3) := by decide +kernel
theorem dX6_addStepsFrom_69 : decode cX6_addStepsFrom 69 = .ok (.iload_n 1, 1) := by decide +kernel
theorem dX6_addStepsFrom_70 : decode cX6_addStepsFrom 70 = .ok (.iaload, 1) := by decide +kernel
theorem dX6_addStepsFrom_71 : decode cX6_addStepsFrom 71 = .ok (.iload_n 2, 1) := by decide +kernel
theorem dX6_addStepsFrom_72 : decode cX6_addStepsFrom 72 = .ok (.invokevirtual 123, 3) := by decide +kernel
theorem dX6_addStepsFrom_75 : decode cX6_addStepsFrom 75 = .ok (.invokevirtual 127, 3) := by decide +kernel
theorem dX6_addStepsFrom_78 : decode cX6_addStepsFrom 78 = .ok (.invokevirtual 130, 3) := by decide +kernel
theorem dX6_addStepsFrom_81 : decode cX6_addStepsFrom 81 = .ok (.aload_n 0, 1) := by decide +kernel
theorem dX6_addStepsFrom_82 : decode cX6_addStepsFrom 82 = .ok (.iload_n 2, 1) := by decide +kernel
theorem dX6_addStepsFrom_83 : decode cX6_addStepsFrom 83 = .ok (.invokevirtual 120, 3) := by decide +kernel
theorem dX6_addStepsFrom_86 : decode cX6_addStepsFrom 86 = .ok (.istore_n 2, 1) := by decide +kernel
theorem dX6_addStepsFrom_87 : decode cX6_addStepsFrom 87 = .ok (.iinc 3 1, 3) := by decide +kernel
theorem dX6_addStepsFrom_90 : decode cX6_addStepsFrom 90 = .ok (.goto (-46), 3) := by decide +kernel
theorem dX6_addStepsFrom_93 : decode cX6_addStepsFrom 93 = .ok (.return_, 1) := by decide +kernel
set_option maxRecDepth 20000 in
theorem ggX6_setAfter_X2_movers : GoodIn wsX6_setAfter wsX2_movers := goodIn_r _ [7, 8, 9, 34, 35, 36, 37] (by decide +kernel) (by decide +kernel)
set_option maxRecDepth 20000 in
theorem gX6_setAfter_X2_movers : GoodIn wsX6_setAfter (wsV RX6 116 RX2 yX2_movers wsX2_movers) := goodIn_app (goodIn_of _ (by decide +kernel)) ggX6_setAfter_X2_movers
set_option maxRecDepth 20000 in
theorem ggX6_setAfter_J6_lowestOneBit_0f7a4 : GoodIn wsX6_setAfter wsJ6_lowestOneBit_0f7a4 := goodIn_r _ [13] (by decide +kernel) (by decide +kernel)
set_option maxRecDepth 20000 in
theorem gX6_setAfter_J6_lowestOneBit_0f7a4 : GoodIn wsX6_setAfter (va_wsS RX6 134 yJ6_lowestOneBit_0f7a4 wsJ6_lowestOneBit_0f7a4) := goodIn_app (goodIn_of _ (by decide +kernel)) ggX6_setAfter_J6_lowestOneBit_0f7a4
theorem dX6_setAfter_0 : decode cX6_setAfter 0 = .ok (.aload_n 0, 1) := by decide +kernel
theorem dX6_setAfter_1 : decode cX6_setAfter 1 = .ok (.getfield 12, 3) := by decide +kernel
theorem dX6_setAfter_4 : decode cX6_setAfter 4 = .ok (.invokevirtual 116, 3) := by decide +kernel
theorem dX6_setAfter_7 : decode cX6_setAfter 7 = .ok (.istore_n 2, 1) := by decide +kernel
theorem dX6_setAfter_8 : decode cX6_setAfter 8 = .ok (.aload_n 0, 1) := by decide +kernel
theorem dX6_setAfter_9 : decode cX6_setAfter 9 = .ok (.getfield 57, 3) := by decide +kernel
theorem dX6_setAfter_12 : decode cX6_setAfter 12 = .ok (.iconst 2, 1) := by decide +kernel
theorem dX6_setAfter_13 : decode cX6_setAfter 13 = .ok (.if_icmp .ne 9, 3) := by decide +kernel
theorem dX6_setAfter_16 : decode cX6_setAfter 16 = .ok (.iload_n 1, 1) := by decide +kernel
theorem dX6_setAfter_17 : decode cX6_setAfter 17 = .ok (.iload_n 2, 1) := by decide +kernel
theorem dX6_setAfter_18 : decode cX6_setAfter 18 = .ok (.isub, 1) := by decide +kernel
theorem dX6_setAfter_19 : decode cX6_setAfter 19 = .ok (.iload_n 2, 1) := by decide +kernel
theorem dX6_setAfter_20 : decode cX6_setAfter 20 = .ok (.iand, 1) := by decide +kernel
theorem dX6_setAfter_21 : decode cX6_setAfter 21 = .ok (.ireturn, 1) := by decide +kernel
theorem dX6_setAfter_22 : decode cX6_setAfter 22 = .ok (.aload_n 0, 1) := by decide +kernel
theorem dX6_setAfter_23 : decode cX6_setAfter 23 = .ok (.getfield 57, 3) := by decide +kernel
theorem dX6_setAfter_26 : decode cX6_setAfter 26 = .ok (.iconst 1, 1) := by decide +kernel
theorem dX6_setAfter_27 : decode cX6_setAfter 27 = .ok (.if_icmp .ne 13, 3) := by decide +kernel
theorem dX6_setAfter_30 : decode cX6_setAfter 30 = .ok (.iload_n 1, 1) := by decide +kernel
theorem dX6_setAfter_31 : decode cX6_setAfter 31 = .ok (.ifCond .ne 7, 3) := by decide +kernel
theorem dX6_setAfter_34 : decode cX6_setAfter 34 = .ok (.iload_n 2, 1) := by decide +kernel
theorem dX6_setAfter_35 : decode cX6_setAfter 35 = .ok (.goto 4, 3) := by decide +kernel
theorem dX6_setAfter_38 : decode cX6_setAfter 38 = .ok (.iconst 0, 1) := by decide +kernel
theorem dX6_setAfter_39 : decode cX6_setAfter 39 = .ok (.ireturn, 1) := by decide +kernel
theorem dX6_setAfter_40 : decode cX6_setAfter 40 = .ok (.iload_n 1, 1) := by decide +kernel
theorem dX6_setAfter_41 : decode cX6_setAfter 41 = .ok (.ifCond .ne 7, 3) := by decide +kernel
theorem dX6_setAfter_44 : decode cX6_setAfter 44 = .ok (.iload_n 2, 1) := by decide +kernel
theorem dX6_setAfter_45 : decode cX6_setAfter 45 = .ok (.goto 9, 3) := by decide +kernel
theorem dX6_setAfter_48 : decode cX6_setAfter 48 = .ok (.iload_n 2, 1) := by decide +kernel
theorem dX6_setAfter_49 : decode cX6_setAfter 49 = .ok (.iload_n 1, 1) := by decide +kernel
theorem dX6_setAfter_50 : decode cX6_setAfter 50 = .ok (.iconst 1, 1) := by decide +kernel
theorem dX6_setAfter_51 : decode cX6_setAfter 51 = .ok (.ishl, 1) := by decide +kernel
theorem dX6_setAfter_52 : decode cX6_setAfter 52 = .ok (.ineg, 1) := by decide +kernel
theorem dX6_setAfter_53 : decode cX6_setAfter 53 = .ok (.iand, 1) := by decide +kernel
theorem dX6_setAfter_54 : decode cX6_setAfter 54 = .ok (.invokestatic 134, 3) := by decide +kernel
theorem dX6_setAfter_57 : decode cX6_setAfter 57 = .ok (.ireturn, 1) := by decide +kernel
set_option maxRecDepth 20000 in
theorem ggX6_addStep_X6_isWay : GoodIn wsX6_addStep wsX6_isWay := goodIn_r _ [10, 11, 12, 13, 14, 15, 16, 17, 18, 19, 20, 21, 22, 23, 24, 25, 26, 27, 28, 29, 30, 31] (by decide +kernel) (by decide +kernel)
set_option maxRecDepth 20000 in
theorem gX6_addStep_X6_isWay : GoodIn wsX6_addStep (wsV RX6 85 RX6 yX6_isWay wsX6_isWay) := goodIn_app (goodIn_of _ (by decide +kernel)) ggX6_addStep_X6_isWay
theorem dX6_addStep_0 : decode cX6_addStep 0 = .ok (.aload_n 0, 1) := by decide +kernel
theorem dX6_addStep_1 : decode cX6_addStep 1 = .ok (.iload_n 1, 1) := by decide +kernel
theorem dX6_addStep_2 : decode cX6_addStep 2 = .ok (.invokevirtual 85, 3) := by decide +kernel
theorem dX6_addStep_5 : decode cX6_addStep 5 = .ok (.ifCond .eq 21, 3) := by decide +kernel
theorem dX6_addStep_8 : decode cX6_addStep 8 = .ok (.aload_n 0, 1) := by decide +kernel
theorem dX6_addStep_9 : decode cX6_addStep 9 = .ok (.iload_n 2, 1) := by decide +kernel
theorem dX6_addStep_10 : decode cX6_addStep 10 = .ok (.invokevirtual 85, 3) := by decide +kernel
theorem dX6_addStep_13 : decode cX6_addStep 13 = .ok (.ifCond .eq 13, 3) := by decide +kernel
theorem dX6_addStep_16 : decode cX6_addStep 16 = .ok (.aload_n 0, 1) := by decide +kernel
theorem dX6_addStep_17 : decode cX6_addStep 17 = .ok (.getfield 67, 3) := by decide +kernel
theorem dX6_addStep_20 : decode cX6_addStep 20 = .ok (.sipush 25857, 3) := by decide +kernel
theorem dX6_addStep_23 : decode cX6_addStep 23 = .ok (.if_icmp .lt 4, 3) := by decide +kernel
theorem dX6_addStep_26 : decode cX6_addStep 26 = .ok (.return_, 1) := by decide +kernel
theorem dX6_addStep_27 : decode cX6_addStep 27 = .ok (.aload_n 0, 1) := by decide +kernel
theorem dX6_addStep_28 : decode cX6_addStep 28 = .ok (.getfield 34, 3) := by decide +kernel
theorem dX6_addStep_31 : decode cX6_addStep 31 = .ok (.aload_n 0, 1) := by decide +kernel
theorem dX6_addStep_32 : decode cX6_addStep 32 = .ok (.getfield 67, 3) := by decide +kernel
theorem dX6_addStep_35 : decode cX6_addStep 35 = .ok (.iload_n 1, 1) := by decide +kernel
theorem dX6_addStep_36 : decode cX6_addStep 36 = .ok (.iastore, 1) := by decide +kernel
theorem dX6_addStep_37 : decode cX6_addStep 37 = .ok (.aload_n 0, 1) := by decide +kernel
theorem dX6_addStep_38 : decode cX6_addStep 38 = .ok (.getfield 31, 3) := by decide +kernel
theorem dX6_addStep_41 : decode cX6_addStep 41 = .ok (.aload_n 0, 1) := by decide +kernel
theorem dX6_addStep_42 : decode cX6_addStep 42 = .ok (.getfield 67, 3) := by decide +kernel
theorem dX6_addStep_45 : decode cX6_addStep 45 = .ok (.aload_n 0, 1) := by decide +kernel
theorem dX6_addStep_46 : decode cX6_addStep 46 = .ok (.getfield 28, 3) := by decide +kernel
theorem dX6_addStep_49 : decode cX6_addStep 49 = .ok (.iload_n 2, 1) := by decide +kernel
theorem dX6_addStep_50 : decode cX6_addStep 50 = .ok (.iaload, 1) := by decide +kernel
theorem dX6_addStep_51 : decode cX6_addStep 51 = .ok (.iastore, 1) := by decide +kernel
theorem dX6_addStep_52 : decode cX6_addStep 52 = .ok (.aload_n 0, 1) := by decide +kernel
theorem dX6_addStep_53 : decode cX6_addStep 53 = .ok (.getfield 28, 3) := by decide +kernel
theorem dX6_addStep_56 : decode cX6_addStep 56 = .ok (.iload_n 2, 1) := by decide +kernel
theorem dX6_addStep_57 : decode cX6_addStep 57 = .ok (.aload_n 0, 1) := by decide +kernel
theorem dX6_addStep_58 : decode cX6_addStep 58 = .ok (.getfield 67, 3) := by decide +kernel
theorem dX6_addStep_61 : decode cX6_addStep 61 = .ok (.iastore, 1) := by decide +kernel
theorem dX6_addStep_62 : decode cX6_addStep 62 = .ok (.aload_n 0, 1) := by decide +kernel
theorem dX6_addStep_63 : decode cX6_addStep 63 = .ok (.getfield 37, 3) := by decide +kernel
theorem dX6_addStep_66 : decode cX6_addStep 66 = .ok (.iload_n 1, 1) := by decide +kernel
theorem dX6_addStep_67 : decode cX6_addStep 67 = .ok (.dup2, 1) := by decide +kernel
theorem dX6_addStep_68 : decode cX6_addStep 68 = .ok (.iaload, 1) := by decide +kernel
theorem dX6_addStep_69 : decode cX6_addStep 69 = .ok (.iconst 1, 1) := by decide +kernel
theorem dX6_addStep_70 : decode cX6_addStep 70 = .ok (.iadd, 1) := by decide +kernel
theorem dX6_addStep_71 : decode cX6_addStep 71 = .ok (.iastore, 1) := by decide +kernel
theorem dX6_addStep_72 : decode cX6_addStep 72 = .ok (.aload_n 0, 1) := by decide +kernel
theorem dX6_addStep_73 : decode cX6_addStep 73 = .ok (.dup, 1) := by decide +kernel
theorem dX6_addStep_74 : decode cX6_addStep 74 = .ok (.getfield 67, 3) := by decide +kernel
theorem dX6_addStep_77 : decode cX6_addStep 77 = .ok (.iconst 1, 1) := by decide +kernel
theorem dX6_addStep_78 : decode cX6_addStep 78 = .ok (.iadd, 1) := by decide +kernel
theorem dX6_addStep_79 : decode cX6_addStep 79 = .ok (.putfield 67, 3) := by decide +kernel
theorem dX6_addStep_82 : decode cX6_addStep 82 = .ok (.return_, 1) := by decide +kernel
set_option maxRecDepth 20000 in
theorem ggX6_tellBackwards_X6_lineUpWhatHasMet : GoodIn wsX6_tellBackwards wsX6_lineUpWhatHasMet := goodIn_r _ [11, 1, 12, 13, 14, 15, 10, 16, 17, 18, 19, 20, 21, 22, 23, 24, 25, 26, 27, 28, 29, 30, 31, 32, 33, 34, 35, 36, 2, 46, 47, 48, 49, 50, 51, 52, 53, 54, 55, 56, 57, 58, 59, 60, 61, 62, 63, 64, 65] (by decide +kernel) (by decide +kernel)
set_option maxRecDepth 20000 in
theorem gX6_tellBackwards_X6_lineUpWhatHasMet : GoodIn wsX6_tellBackwards (wsV RX6 137 RX6 yX6_lineUpWhatHasMet wsX6_lineUpWhatHasMet) := goodIn_app (goodIn_of _ (by decide +kernel)) ggX6_tellBackwards_X6_lineUpWhatHasMet
set_option maxRecDepth 20000 in
theorem ggX6_tellBackwards_X6_isWay : GoodIn wsX6_tellBackwards wsX6_isWay := goodIn_r _ [21, 12, 46, 47, 48, 49, 50, 51, 52, 53, 54, 55, 56, 57, 58, 59, 60, 61, 62, 63, 64, 65] (by decide +kernel) (by decide +kernel)
set_option maxRecDepth 20000 in
theorem gX6_tellBackwards_X6_isWay : GoodIn wsX6_tellBackwards (wsV RX6 85 RX6 yX6_isWay wsX6_isWay) := goodIn_app (goodIn_of _ (by decide +kernel)) ggX6_tellBackwards_X6_isWay
set_option maxRecDepth 20000 in
theorem ggX6_tellBackwards_X6_isStep : GoodIn wsX6_tellBackwards wsX6_isStep := goodIn_r _ [40, 4, 46, 47, 48, 49, 50, 51, 52, 53, 54, 55, 56, 57, 58, 59, 60, 61, 62, 63, 64, 65] (by decide +kernel) (by decide +kernel)
set_option maxRecDepth 20000 in
theorem gX6_tellBackwards_X6_isStep : GoodIn wsX6_tellBackwards (wsV RX6 144 RX6 yX6_isStep wsX6_isStep) := goodIn_app (goodIn_of _ (by decide +kernel)) ggX6_tellBackwards_X6_isStep
set_option maxRecDepth 20000 in
theorem ggX6_tellBackwards_X6_isLastStepOf : GoodIn wsX6_tellBackwards wsX6_isLastStepOf := goodIn_r _ [44, 45, 18, 19, 20, 10, 21, 12, 46, 47, 48, 49, 50, 51, 52, 53, 54, 55, 56, 57, 58, 59, 60, 61, 62, 63, 64, 65] (by decide +kernel) (by decide +kernel)
set_option maxRecDepth 20000 in
theorem gX6_tellBackwards_X6_isLastStepOf : GoodIn wsX6_tellBackwards (wsV RX6 147 RX6 yX6_isLastStepOf wsX6_isLastStepOf) := goodIn_app (goodIn_of _ (by decide +kernel)) ggX6_tellBackwards_X6_isLastStepOf
set_option maxRecDepth 20000 in
theorem ggX6_tellBackwards_X6_lineUp : GoodIn wsX6_tellBackwards wsX6_lineUp := goodIn_r _ [36, 1, 2, 18, 19, 20, 10, 21, 12, 46, 47, 48, 49, 50, 51, 52, 53, 54, 55, 56, 57, 58, 59, 60, 61, 62, 63, 64, 65] (by decide +kernel) (by decide +kernel)
set_option maxRecDepth 20000 in
theorem gX6_tellBackwards_X6_lineUp : GoodIn wsX6_tellBackwards (wsV RX6 150 RX6 yX6_lineUp wsX6_lineUp) := goodIn_app (goodIn_of _ (by decide +kernel)) ggX6_tellBackwards_X6_lineUp
theorem dX6_tellBackwards_0 : decode cX6_tellBackwards 0 = .ok (.aload_n 0, 1) := by decide +kernel
theorem dX6_tellBackwards_1 : decode cX6_tellBackwards 1 = .ok (.aload_n 1, 1) := by decide +kernel
theorem dX6_tellBackwards_2 : decode cX6_tellBackwards 2 = .ok (.invokevirtual 137, 3) := by decide +kernel
theorem dX6_tellBackwards_5 : decode cX6_tellBackwards 5 = .ok (.iconst 0, 1) := by decide +kernel
theorem dX6_tellBackwards_6 : decode cX6_tellBackwards 6 = .ok (.istore_n 3, 1) := by decide +kernel
theorem dX6_tellBackwards_7 : decode cX6_tellBackwards 7 = .ok (.iload_n 3, 1) := by decide +kernel
theorem dX6_tellBackwards_8 : decode cX6_tellBackwards 8 = .ok (.aload_n 0, 1) := by decide +kernel
end
section
theorem dX6_tellBackwards_9 : decode cX6_tellBackwards 9 = .ok (.getfield 141, 3) := by decide +kernel
theorem dX6_tellBackwards_12 : decode cX6_tellBackwards 12 = .ok (.if_icmp .ge 138, 3) := by decide +kernel
theorem dX6_tellBackwards_15 : decode cX6_tellBackwards 15 = .ok (.iload_n 3, 1) := by decide +kernel
theorem dX6_tellBackwards_16 : decode cX6_tellBackwards 16 = .ok (.sipush 1957, 3) := by decide +kernel
theorem dX6_tellBackwards_19 : decode cX6_tellBackwards 19 = .ok (.if_icmp .ge 131, 3) := by decide +kernel
theorem dX6_tellBackwards_22 : decode cX6_tellBackwards 22 = .ok (.aload_n 0, 1) := by decide +kernel
theorem dX6_tellBackwards_23 : decode cX6_tellBackwards 23 = .ok (.getfield 46, 3) := by decide +kernel
theorem dX6_tellBackwards_26 : decode cX6_tellBackwards 26 = .ok (.iload_n 3, 1) := by decide +kernel
theorem dX6_tellBackwards_27 : decode cX6_tellBackwards 27 = .ok (.iaload, 1) := by decide +kernel
theorem dX6_tellBackwards_28 : decode cX6_tellBackwards 28 = .ok (.istore 4, 2) := by decide +kernel
theorem dX6_tellBackwards_30 : decode cX6_tellBackwards 30 = .ok (.aload_n 0, 1) := by decide +kernel
theorem dX6_tellBackwards_31 : decode cX6_tellBackwards 31 = .ok (.iload 4, 2) := by decide +kernel
theorem dX6_tellBackwards_33 : decode cX6_tellBackwards 33 = .ok (.invokevirtual 85, 3) := by decide +kernel
theorem dX6_tellBackwards_36 : decode cX6_tellBackwards 36 = .ok (.ifCond .eq 13, 3) := by decide +kernel
theorem dX6_tellBackwards_39 : decode cX6_tellBackwards 39 = .ok (.aload_n 0, 1) := by decide +kernel
theorem dX6_tellBackwards_40 : decode cX6_tellBackwards 40 = .ok (.getfield 28, 3) := by decide +kernel
theorem dX6_tellBackwards_43 : decode cX6_tellBackwards 43 = .ok (.iload 4, 2) := by decide +kernel
theorem dX6_tellBackwards_45 : decode cX6_tellBackwards 45 = .ok (.iaload, 1) := by decide +kernel
theorem dX6_tellBackwards_46 : decode cX6_tellBackwards 46 = .ok (.goto 4, 3) := by decide +kernel
theorem dX6_tellBackwards_49 : decode cX6_tellBackwards 49 = .ok (.iconst (-1), 1) := by decide +kernel
theorem dX6_tellBackwards_50 : decode cX6_tellBackwards 50 = .ok (.istore 5, 2) := by decide +kernel
theorem dX6_tellBackwards_52 : decode cX6_tellBackwards 52 = .ok (.iconst 0, 1) := by decide +kernel
theorem dX6_tellBackwards_53 : decode cX6_tellBackwards 53 = .ok (.istore 6, 2) := by decide +kernel
theorem dX6_tellBackwards_55 : decode cX6_tellBackwards 55 = .ok (.iload 6, 2) := by decide +kernel
theorem dX6_tellBackwards_57 : decode cX6_tellBackwards 57 = .ok (.aload_n 0, 1) := by decide +kernel
theorem dX6_tellBackwards_58 : decode cX6_tellBackwards 58 = .ok (.getfield 67, 3) := by decide +kernel
theorem dX6_tellBackwards_61 : decode cX6_tellBackwards 61 = .ok (.if_icmp .ge 83, 3) := by decide +kernel
theorem dX6_tellBackwards_64 : decode cX6_tellBackwards 64 = .ok (.aload_n 0, 1) := by decide +kernel
theorem dX6_tellBackwards_65 : decode cX6_tellBackwards 65 = .ok (.iload 5, 2) := by decide +kernel
theorem dX6_tellBackwards_67 : decode cX6_tellBackwards 67 = .ok (.invokevirtual 144, 3) := by decide +kernel
theorem dX6_tellBackwards_70 : decode cX6_tellBackwards 70 = .ok (.ifCond .eq 74, 3) := by decide +kernel
theorem dX6_tellBackwards_73 : decode cX6_tellBackwards 73 = .ok (.aload_n 0, 1) := by decide +kernel
theorem dX6_tellBackwards_74 : decode cX6_tellBackwards 74 = .ok (.getfield 34, 3) := by decide +kernel
theorem dX6_tellBackwards_77 : decode cX6_tellBackwards 77 = .ok (.iload 5, 2) := by decide +kernel
theorem dX6_tellBackwards_79 : decode cX6_tellBackwards 79 = .ok (.iaload, 1) := by decide +kernel
theorem dX6_tellBackwards_80 : decode cX6_tellBackwards 80 = .ok (.istore 7, 2) := by decide +kernel
theorem dX6_tellBackwards_82 : decode cX6_tellBackwards 82 = .ok (.iload_n 2, 1) := by decide +kernel
theorem dX6_tellBackwards_83 : decode cX6_tellBackwards 83 = .ok (.ifCond .eq 15, 3) := by decide +kernel
theorem dX6_tellBackwards_86 : decode cX6_tellBackwards 86 = .ok (.aload_n 0, 1) := by decide +kernel
theorem dX6_tellBackwards_87 : decode cX6_tellBackwards 87 = .ok (.iload 7, 2) := by decide +kernel
theorem dX6_tellBackwards_89 : decode cX6_tellBackwards 89 = .ok (.invokevirtual 147, 3) := by decide +kernel
theorem dX6_tellBackwards_92 : decode cX6_tellBackwards 92 = .ok (.ifCond .eq 37, 3) := by decide +kernel
theorem dX6_tellBackwards_95 : decode cX6_tellBackwards 95 = .ok (.goto 21, 3) := by decide +kernel
theorem dX6_tellBackwards_98 : decode cX6_tellBackwards 98 = .ok (.aload_n 0, 1) := by decide +kernel
theorem dX6_tellBackwards_99 : decode cX6_tellBackwards 99 = .ok (.iload 7, 2) := by decide +kernel
theorem dX6_tellBackwards_101 : decode cX6_tellBackwards 101 = .ok (.invokevirtual 85, 3) := by decide +kernel
theorem dX6_tellBackwards_104 : decode cX6_tellBackwards 104 = .ok (.ifCond .eq 25, 3) := by decide +kernel
theorem dX6_tellBackwards_107 : decode cX6_tellBackwards 107 = .ok (.aload_n 1, 1) := by decide +kernel
theorem dX6_tellBackwards_108 : decode cX6_tellBackwards 108 = .ok (.iload 7, 2) := by decide +kernel
theorem dX6_tellBackwards_110 : decode cX6_tellBackwards 110 = .ok (.iaload, 1) := by decide +kernel
theorem dX6_tellBackwards_111 : decode cX6_tellBackwards 111 = .ok (.bipush (-6), 2) := by decide +kernel
theorem dX6_tellBackwards_113 : decode cX6_tellBackwards 113 = .ok (.if_icmp .ne 16, 3) := by decide +kernel
theorem dX6_tellBackwards_116 : decode cX6_tellBackwards 116 = .ok (.aload_n 0, 1) := by decide +kernel
theorem dX6_tellBackwards_117 : decode cX6_tellBackwards 117 = .ok (.aload_n 1, 1) := by decide +kernel
theorem dX6_tellBackwards_118 : decode cX6_tellBackwards 118 = .ok (.iload 7, 2) := by decide +kernel
theorem dX6_tellBackwards_120 : decode cX6_tellBackwards 120 = .ok (.aload_n 1, 1) := by decide +kernel
theorem dX6_tellBackwards_121 : decode cX6_tellBackwards 121 = .ok (.iload 4, 2) := by decide +kernel
theorem dX6_tellBackwards_123 : decode cX6_tellBackwards 123 = .ok (.iaload, 1) := by decide +kernel
theorem dX6_tellBackwards_124 : decode cX6_tellBackwards 124 = .ok (.iconst 1, 1) := by decide +kernel
theorem dX6_tellBackwards_125 : decode cX6_tellBackwards 125 = .ok (.iadd, 1) := by decide +kernel
theorem dX6_tellBackwards_126 : decode cX6_tellBackwards 126 = .ok (.invokevirtual 150, 3) := by decide +kernel
theorem dX6_tellBackwards_129 : decode cX6_tellBackwards 129 = .ok (.aload_n 0, 1) := by decide +kernel
theorem dX6_tellBackwards_130 : decode cX6_tellBackwards 130 = .ok (.getfield 31, 3) := by decide +kernel
theorem dX6_tellBackwards_133 : decode cX6_tellBackwards 133 = .ok (.iload 5, 2) := by decide +kernel
theorem dX6_tellBackwards_135 : decode cX6_tellBackwards 135 = .ok (.iaload, 1) := by decide +kernel
theorem dX6_tellBackwards_136 : decode cX6_tellBackwards 136 = .ok (.istore 5, 2) := by decide +kernel
theorem dX6_tellBackwards_138 : decode cX6_tellBackwards 138 = .ok (.iinc 6 1, 3) := by decide +kernel
theorem dX6_tellBackwards_141 : decode cX6_tellBackwards 141 = .ok (.goto (-86), 3) := by decide +kernel
theorem dX6_tellBackwards_144 : decode cX6_tellBackwards 144 = .ok (.iinc 3 1, 3) := by decide +kernel
theorem dX6_tellBackwards_147 : decode cX6_tellBackwards 147 = .ok (.goto (-140), 3) := by decide +kernel
theorem dX6_tellBackwards_150 : decode cX6_tellBackwards 150 = .ok (.return_, 1) := by decide +kernel
set_option maxRecDepth 20000 in
theorem ggX6_isLastStepOf_X6_isWay : GoodIn wsX6_isLastStepOf wsX6_isWay := goodIn_r _ [6, 7, 8, 9, 10, 11, 12, 13, 14, 15, 16, 17, 18, 19, 20, 21, 22, 23, 24, 25, 26, 27] (by decide +kernel) (by decide +kernel)
set_option maxRecDepth 20000 in
theorem gX6_isLastStepOf_X6_isWay : GoodIn wsX6_isLastStepOf (wsV RX6 85 RX6 yX6_isWay wsX6_isWay) := goodIn_app (goodIn_of _ (by decide +kernel)) ggX6_isLastStepOf_X6_isWay
theorem dX6_isLastStepOf_0 : decode cX6_isLastStepOf 0 = .ok (.aload_n 0, 1) := by decide +kernel
theorem dX6_isLastStepOf_1 : decode cX6_isLastStepOf 1 = .ok (.iload_n 1, 1) := by decide +kernel
theorem dX6_isLastStepOf_2 : decode cX6_isLastStepOf 2 = .ok (.invokevirtual 85, 3) := by decide +kernel
theorem dX6_isLastStepOf_5 : decode cX6_isLastStepOf 5 = .ok (.ifCond .ne 5, 3) := by decide +kernel
theorem dX6_isLastStepOf_8 : decode cX6_isLastStepOf 8 = .ok (.iconst 0, 1) := by decide +kernel
theorem dX6_isLastStepOf_9 : decode cX6_isLastStepOf 9 = .ok (.ireturn, 1) := by decide +kernel
theorem dX6_isLastStepOf_10 : decode cX6_isLastStepOf 10 = .ok (.aload_n 0, 1) := by decide +kernel
theorem dX6_isLastStepOf_11 : decode cX6_isLastStepOf 11 = .ok (.getfield 37, 3) := by decide +kernel
theorem dX6_isLastStepOf_14 : decode cX6_isLastStepOf 14 = .ok (.iload_n 1, 1) := by decide +kernel
theorem dX6_isLastStepOf_15 : decode cX6_isLastStepOf 15 = .ok (.dup2, 1) := by decide +kernel
theorem dX6_isLastStepOf_16 : decode cX6_isLastStepOf 16 = .ok (.iaload, 1) := by decide +kernel
theorem dX6_isLastStepOf_17 : decode cX6_isLastStepOf 17 = .ok (.iconst 1, 1) := by decide +kernel
theorem dX6_isLastStepOf_18 : decode cX6_isLastStepOf 18 = .ok (.isub, 1) := by decide +kernel
theorem dX6_isLastStepOf_19 : decode cX6_isLastStepOf 19 = .ok (.iastore, 1) := by decide +kernel
theorem dX6_isLastStepOf_20 : decode cX6_isLastStepOf 20 = .ok (.aload_n 0, 1) := by decide +kernel
theorem dX6_isLastStepOf_21 : decode cX6_isLastStepOf 21 = .ok (.getfield 37, 3) := by decide +kernel
theorem dX6_isLastStepOf_24 : decode cX6_isLastStepOf 24 = .ok (.iload_n 1, 1) := by decide +kernel
theorem dX6_isLastStepOf_25 : decode cX6_isLastStepOf 25 = .ok (.iaload, 1) := by decide +kernel
theorem dX6_isLastStepOf_26 : decode cX6_isLastStepOf 26 = .ok (.ifCond .ne 7, 3) := by decide +kernel
theorem dX6_isLastStepOf_29 : decode cX6_isLastStepOf 29 = .ok (.iconst 1, 1) := by decide +kernel
theorem dX6_isLastStepOf_30 : decode cX6_isLastStepOf 30 = .ok (.goto 4, 3) := by decide +kernel
theorem dX6_isLastStepOf_33 : decode cX6_isLastStepOf 33 = .ok (.iconst 0, 1) := by decide +kernel
theorem dX6_isLastStepOf_34 : decode cX6_isLastStepOf 34 = .ok (.ireturn, 1) := by decide +kernel
theorem dX6_isStep_0 : decode cX6_isStep 0 = .ok (.iload_n 1, 1) := by decide +kernel
theorem dX6_isStep_1 : decode cX6_isStep 1 = .ok (.ifCond .lt 22, 3) := by decide +kernel
theorem dX6_isStep_4 : decode cX6_isStep 4 = .ok (.iload_n 1, 1) := by decide +kernel
theorem dX6_isStep_5 : decode cX6_isStep 5 = .ok (.aload_n 0, 1) := by decide +kernel
theorem dX6_isStep_6 : decode cX6_isStep 6 = .ok (.getfield 67, 3) := by decide +kernel
theorem dX6_isStep_9 : decode cX6_isStep 9 = .ok (.if_icmp .ge 14, 3) := by decide +kernel
theorem dX6_isStep_12 : decode cX6_isStep 12 = .ok (.iload_n 1, 1) := by decide +kernel
theorem dX6_isStep_13 : decode cX6_isStep 13 = .ok (.sipush 25857, 3) := by decide +kernel
theorem dX6_isStep_16 : decode cX6_isStep 16 = .ok (.if_icmp .ge 7, 3) := by decide +kernel
theorem dX6_isStep_19 : decode cX6_isStep 19 = .ok (.iconst 1, 1) := by decide +kernel
theorem dX6_isStep_20 : decode cX6_isStep 20 = .ok (.goto 4, 3) := by decide +kernel
theorem dX6_isStep_23 : decode cX6_isStep 23 = .ok (.iconst 0, 1) := by decide +kernel
theorem dX6_isStep_24 : decode cX6_isStep 24 = .ok (.ireturn, 1) := by decide +kernel
set_option maxRecDepth 20000 in
theorem ggX6_lineUpWhatHasMet_X6_hasMet : GoodIn wsX6_lineUpWhatHasMet wsX6_hasMet := goodIn_r _ [7, 8, 9, 10, 11, 6, 12, 2, 13, 14, 15, 16, 17, 18, 19, 20, 21, 22, 23, 29, 30, 31, 32, 33, 34, 35, 36, 37, 38, 39, 40, 41, 42, 43, 44, 45, 46, 47, 48] (by decide +kernel) (by decide +kernel)
set_option maxRecDepth 20000 in
theorem gX6_lineUpWhatHasMet_X6_hasMet : GoodIn wsX6_lineUpWhatHasMet (wsV RX6 94 RX6 yX6_hasMet wsX6_hasMet) := goodIn_app (goodIn_of _ (by decide +kernel)) ggX6_lineUpWhatHasMet_X6_hasMet
set_option maxRecDepth 20000 in
theorem ggX6_lineUpWhatHasMet_X6_lineUp : GoodIn wsX6_lineUpWhatHasMet wsX6_lineUp := goodIn_r _ [27, 1, 28, 9, 10, 11, 6, 12, 2, 29, 30, 31, 32, 33, 34, 35, 36, 37, 38, 39, 40, 41, 42, 43, 44, 45, 46, 47, 48] (by decide +kernel) (by decide +kernel)
set_option maxRecDepth 20000 in
theorem gX6_lineUpWhatHasMet_X6_lineUp : GoodIn wsX6_lineUpWhatHasMet (wsV RX6 150 RX6 yX6_lineUp wsX6_lineUp) := goodIn_app (goodIn_of _ (by decide +kernel)) ggX6_lineUpWhatHasMet_X6_lineUp
theorem dX6_lineUpWhatHasMet_0 : decode cX6_lineUpWhatHasMet 0 = .ok (.aload_n 0, 1) := by decide +kernel
theorem dX6_lineUpWhatHasMet_1 : decode cX6_lineUpWhatHasMet 1 = .ok (.iconst 0, 1) := by decide +kernel
theorem dX6_lineUpWhatHasMet_2 : decode cX6_lineUpWhatHasMet 2 = .ok (.putfield 141, 3) := by decide +kernel
theorem dX6_lineUpWhatHasMet_5 : decode cX6_lineUpWhatHasMet 5 = .ok (.iconst 0, 1) := by decide +kernel
theorem dX6_lineUpWhatHasMet_6 : decode cX6_lineUpWhatHasMet 6 = .ok (.istore_n 2, 1) := by decide +kernel
theorem dX6_lineUpWhatHasMet_7 : decode cX6_lineUpWhatHasMet 7 = .ok (.iload_n 2, 1) := by decide +kernel
theorem dX6_lineUpWhatHasMet_8 : decode cX6_lineUpWhatHasMet 8 = .ok (.aload_n 0, 1) := by decide +kernel
theorem dX6_lineUpWhatHasMet_9 : decode cX6_lineUpWhatHasMet 9 = .ok (.getfield 64, 3) := by decide +kernel
theorem dX6_lineUpWhatHasMet_12 : decode cX6_lineUpWhatHasMet 12 = .ok (.if_icmp .ge 36, 3) := by decide +kernel
theorem dX6_lineUpWhatHasMet_15 : decode cX6_lineUpWhatHasMet 15 = .ok (.iload_n 2, 1) := by decide +kernel
theorem dX6_lineUpWhatHasMet_16 : decode cX6_lineUpWhatHasMet 16 = .ok (.sipush 1957, 3) := by decide +kernel
theorem dX6_lineUpWhatHasMet_19 : decode cX6_lineUpWhatHasMet 19 = .ok (.if_icmp .ge 29, 3) := by decide +kernel
theorem dX6_lineUpWhatHasMet_22 : decode cX6_lineUpWhatHasMet 22 = .ok (.aload_n 1, 1) := by decide +kernel
theorem dX6_lineUpWhatHasMet_23 : decode cX6_lineUpWhatHasMet 23 = .ok (.iload_n 2, 1) := by decide +kernel
theorem dX6_lineUpWhatHasMet_24 : decode cX6_lineUpWhatHasMet 24 = .ok (.bipush (-6), 2) := by decide +kernel
theorem dX6_lineUpWhatHasMet_26 : decode cX6_lineUpWhatHasMet 26 = .ok (.iastore, 1) := by decide +kernel
theorem dX6_lineUpWhatHasMet_27 : decode cX6_lineUpWhatHasMet 27 = .ok (.aload_n 0, 1) := by decide +kernel
theorem dX6_lineUpWhatHasMet_28 : decode cX6_lineUpWhatHasMet 28 = .ok (.iload_n 2, 1) := by decide +kernel
theorem dX6_lineUpWhatHasMet_29 : decode cX6_lineUpWhatHasMet 29 = .ok (.invokevirtual 94, 3) := by decide +kernel
theorem dX6_lineUpWhatHasMet_32 : decode cX6_lineUpWhatHasMet 32 = .ok (.ifCond .eq 10, 3) := by decide +kernel
theorem dX6_lineUpWhatHasMet_35 : decode cX6_lineUpWhatHasMet 35 = .ok (.aload_n 0, 1) := by decide +kernel
theorem dX6_lineUpWhatHasMet_36 : decode cX6_lineUpWhatHasMet 36 = .ok (.aload_n 1, 1) := by decide +kernel
theorem dX6_lineUpWhatHasMet_37 : decode cX6_lineUpWhatHasMet 37 = .ok (.iload_n 2, 1) := by decide +kernel
theorem dX6_lineUpWhatHasMet_38 : decode cX6_lineUpWhatHasMet 38 = .ok (.iconst 0, 1) := by decide +kernel
theorem dX6_lineUpWhatHasMet_39 : decode cX6_lineUpWhatHasMet 39 = .ok (.invokevirtual 150, 3) := by decide +kernel
theorem dX6_lineUpWhatHasMet_42 : decode cX6_lineUpWhatHasMet 42 = .ok (.iinc 2 1, 3) := by decide +kernel
theorem dX6_lineUpWhatHasMet_45 : decode cX6_lineUpWhatHasMet 45 = .ok (.goto (-38), 3) := by decide +kernel
theorem dX6_lineUpWhatHasMet_48 : decode cX6_lineUpWhatHasMet 48 = .ok (.return_, 1) := by decide +kernel
set_option maxRecDepth 20000 in
theorem ggX6_lineUp_X6_isWay : GoodIn wsX6_lineUp wsX6_isWay := goodIn_r _ [7, 8, 9, 10, 11, 12, 13, 14, 15, 16, 17, 18, 19, 20, 21, 22, 23, 24, 25, 26, 27, 28] (by decide +kernel) (by decide +kernel)
set_option maxRecDepth 20000 in
theorem gX6_lineUp_X6_isWay : GoodIn wsX6_lineUp (wsV RX6 85 RX6 yX6_isWay wsX6_isWay) := goodIn_app (goodIn_of _ (by decide +kernel)) ggX6_lineUp_X6_isWay
theorem dX6_lineUp_0 : decode cX6_lineUp 0 = .ok (.aload_n 0, 1) := by decide +kernel
theorem dX6_lineUp_1 : decode cX6_lineUp 1 = .ok (.iload_n 2, 1) := by decide +kernel
theorem dX6_lineUp_2 : decode cX6_lineUp 2 = .ok (.invokevirtual 85, 3) := by decide +kernel
theorem dX6_lineUp_5 : decode cX6_lineUp 5 = .ok (.ifCond .eq 37, 3) := by decide +kernel
theorem dX6_lineUp_8 : decode cX6_lineUp 8 = .ok (.aload_n 0, 1) := by decide +kernel
theorem dX6_lineUp_9 : decode cX6_lineUp 9 = .ok (.getfield 141, 3) := by decide +kernel
theorem dX6_lineUp_12 : decode cX6_lineUp 12 = .ok (.sipush 1957, 3) := by decide +kernel
theorem dX6_lineUp_15 : decode cX6_lineUp 15 = .ok (.if_icmp .ge 27, 3) := by decide +kernel
theorem dX6_lineUp_18 : decode cX6_lineUp 18 = .ok (.aload_n 1, 1) := by decide +kernel
theorem dX6_lineUp_19 : decode cX6_lineUp 19 = .ok (.iload_n 2, 1) := by decide +kernel
theorem dX6_lineUp_20 : decode cX6_lineUp 20 = .ok (.iload_n 3, 1) := by decide +kernel
theorem dX6_lineUp_21 : decode cX6_lineUp 21 = .ok (.iastore, 1) := by decide +kernel
theorem dX6_lineUp_22 : decode cX6_lineUp 22 = .ok (.aload_n 0, 1) := by decide +kernel
theorem dX6_lineUp_23 : decode cX6_lineUp 23 = .ok (.getfield 46, 3) := by decide +kernel
theorem dX6_lineUp_26 : decode cX6_lineUp 26 = .ok (.aload_n 0, 1) := by decide +kernel
theorem dX6_lineUp_27 : decode cX6_lineUp 27 = .ok (.getfield 141, 3) := by decide +kernel
theorem dX6_lineUp_30 : decode cX6_lineUp 30 = .ok (.iload_n 2, 1) := by decide +kernel
theorem dX6_lineUp_31 : decode cX6_lineUp 31 = .ok (.iastore, 1) := by decide +kernel
theorem dX6_lineUp_32 : decode cX6_lineUp 32 = .ok (.aload_n 0, 1) := by decide +kernel
theorem dX6_lineUp_33 : decode cX6_lineUp 33 = .ok (.dup, 1) := by decide +kernel
theorem dX6_lineUp_34 : decode cX6_lineUp 34 = .ok (.getfield 141, 3) := by decide +kernel
theorem dX6_lineUp_37 : decode cX6_lineUp 37 = .ok (.iconst 1, 1) := by decide +kernel
theorem dX6_lineUp_38 : decode cX6_lineUp 38 = .ok (.iadd, 1) := by decide +kernel
theorem dX6_lineUp_39 : decode cX6_lineUp 39 = .ok (.putfield 141, 3) := by decide +kernel
theorem dX6_lineUp_42 : decode cX6_lineUp 42 = .ok (.return_, 1) := by decide +kernel
set_option maxRecDepth 20000 in
theorem ggX6_soonOf_X6_isWay : GoodIn wsX6_soonOf wsX6_isWay := goodIn_r _ [6, 7, 8, 9, 10, 11, 12, 13, 14, 15, 16, 17, 18, 19, 20, 21, 22, 23, 24, 25, 26, 27] (by decide +kernel) (by decide +kernel)
set_option maxRecDepth 20000 in
theorem gX6_soonOf_X6_isWay : GoodIn wsX6_soonOf (wsV RX6 85 RX6 yX6_isWay wsX6_isWay) := goodIn_app (goodIn_of _ (by decide +kernel)) ggX6_soonOf_X6_isWay
theorem dX6_soonOf_0 : decode cX6_soonOf 0 = .ok (.aload_n 0, 1) := by decide +kernel
theorem dX6_soonOf_1 : decode cX6_soonOf 1 = .ok (.iload_n 1, 1) := by decide +kernel
theorem dX6_soonOf_2 : decode cX6_soonOf 2 = .ok (.invokevirtual 85, 3) := by decide +kernel
theorem dX6_soonOf_5 : decode cX6_soonOf 5 = .ok (.ifCond .eq 12, 3) := by decide +kernel
theorem dX6_soonOf_8 : decode cX6_soonOf 8 = .ok (.aload_n 0, 1) := by decide +kernel
theorem dX6_soonOf_9 : decode cX6_soonOf 9 = .ok (.getfield 40, 3) := by decide +kernel
theorem dX6_soonOf_12 : decode cX6_soonOf 12 = .ok (.iload_n 1, 1) := by decide +kernel
theorem dX6_soonOf_13 : decode cX6_soonOf 13 = .ok (.iaload, 1) := by decide +kernel
theorem dX6_soonOf_14 : decode cX6_soonOf 14 = .ok (.goto 5, 3) := by decide +kernel
theorem dX6_soonOf_17 : decode cX6_soonOf 17 = .ok (.bipush (-6), 2) := by decide +kernel
theorem dX6_soonOf_19 : decode cX6_soonOf 19 = .ok (.ireturn, 1) := by decide +kernel
set_option maxRecDepth 20000 in
theorem ggX6_lateOf_X6_isWay : GoodIn wsX6_lateOf wsX6_isWay := goodIn_r _ [6, 7, 8, 9, 10, 11, 12, 13, 14, 15, 16, 17, 18, 19, 20, 21, 22, 23, 24, 25, 26, 27] (by decide +kernel) (by decide +kernel)
set_option maxRecDepth 20000 in
theorem gX6_lateOf_X6_isWay : GoodIn wsX6_lateOf (wsV RX6 85 RX6 yX6_isWay wsX6_isWay) := goodIn_app (goodIn_of _ (by decide +kernel)) ggX6_lateOf_X6_isWay
theorem dX6_lateOf_0 : decode cX6_lateOf 0 = .ok (.aload_n 0, 1) := by decide +kernel
theorem dX6_lateOf_1 : decode cX6_lateOf 1 = .ok (.iload_n 1, 1) := by decide +kernel
theorem dX6_lateOf_2 : decode cX6_lateOf 2 = .ok (.invokevirtual 85, 3) := by decide +kernel
theorem dX6_lateOf_5 : decode cX6_lateOf 5 = .ok (.ifCond .eq 12, 3) := by decide +kernel
theorem dX6_lateOf_8 : decode cX6_lateOf 8 = .ok (.aload_n 0, 1) := by decide +kernel
theorem dX6_lateOf_9 : decode cX6_lateOf 9 = .ok (.getfield 43, 3) := by decide +kernel
theorem dX6_lateOf_12 : decode cX6_lateOf 12 = .ok (.iload_n 1, 1) := by decide +kernel
theorem dX6_lateOf_13 : decode cX6_lateOf 13 = .ok (.iaload, 1) := by decide +kernel
theorem dX6_lateOf_14 : decode cX6_lateOf 14 = .ok (.goto 5, 3) := by decide +kernel
theorem dX6_lateOf_17 : decode cX6_lateOf 17 = .ok (.bipush (-6), 2) := by decide +kernel
theorem dX6_lateOf_19 : decode cX6_lateOf 19 = .ok (.ireturn, 1) := by decide +kernel
set_option maxRecDepth 20000 in
theorem ggX6_kindOf_X6_hasMet : GoodIn wsX6_kindOf wsX6_hasMet := goodIn_r _ [5, 6, 7, 8, 9, 4, 10, 11, 12, 13, 14, 15, 16, 17, 18, 19, 20, 21, 22, 33, 34, 35, 36, 37, 38, 39, 40, 41, 42, 43, 44, 45, 46, 47, 48, 49, 50, 51, 52] (by decide +kernel) (by decide +kernel)
set_option maxRecDepth 20000 in
theorem gX6_kindOf_X6_hasMet : GoodIn wsX6_kindOf (wsV RX6 94 RX6 yX6_hasMet wsX6_hasMet) := goodIn_app (goodIn_of _ (by decide +kernel)) ggX6_kindOf_X6_hasMet
set_option maxRecDepth 20000 in
theorem ggX6_kindOf_X6_lateOf : GoodIn wsX6_kindOf wsX6_lateOf := goodIn_r _ [26, 27, 7, 8, 9, 4, 10, 11, 33, 34, 35, 36, 37, 38, 39, 40, 41, 42, 43, 44, 45, 46, 47, 48, 49, 50, 51, 52] (by decide +kernel) (by decide +kernel)
set_option maxRecDepth 20000 in
theorem gX6_kindOf_X6_lateOf : GoodIn wsX6_kindOf (wsV RX6 154 RX6 yX6_lateOf wsX6_lateOf) := goodIn_app (goodIn_of _ (by decide +kernel)) ggX6_kindOf_X6_lateOf
set_option maxRecDepth 20000 in
theorem ggX6_kindOf_X6_soonOf : GoodIn wsX6_kindOf wsX6_soonOf := goodIn_r _ [31, 32, 7, 8, 9, 4, 10, 11, 33, 34, 35, 36, 37, 38, 39, 40, 41, 42, 43, 44, 45, 46, 47, 48, 49, 50, 51, 52] (by decide +kernel) (by decide +kernel)
set_option maxRecDepth 20000 in
theorem gX6_kindOf_X6_soonOf : GoodIn wsX6_kindOf (wsV RX6 157 RX6 yX6_soonOf wsX6_soonOf) := goodIn_app (goodIn_of _ (by decide +kernel)) ggX6_kindOf_X6_soonOf
theorem dX6_kindOf_0 : decode cX6_kindOf 0 = .ok (.aload_n 0, 1) := by decide +kernel
theorem dX6_kindOf_1 : decode cX6_kindOf 1 = .ok (.iload_n 1, 1) := by decide +kernel
theorem dX6_kindOf_2 : decode cX6_kindOf 2 = .ok (.invokevirtual 94, 3) := by decide +kernel
theorem dX6_kindOf_5 : decode cX6_kindOf 5 = .ok (.ifCond .eq 5, 3) := by decide +kernel
theorem dX6_kindOf_8 : decode cX6_kindOf 8 = .ok (.iconst 0, 1) := by decide +kernel
theorem dX6_kindOf_9 : decode cX6_kindOf 9 = .ok (.ireturn, 1) := by decide +kernel
theorem dX6_kindOf_10 : decode cX6_kindOf 10 = .ok (.aload_n 0, 1) := by decide +kernel
theorem dX6_kindOf_11 : decode cX6_kindOf 11 = .ok (.iload_n 1, 1) := by decide +kernel
theorem dX6_kindOf_12 : decode cX6_kindOf 12 = .ok (.invokevirtual 154, 3) := by decide +kernel
theorem dX6_kindOf_15 : decode cX6_kindOf 15 = .ok (.bipush (-6), 2) := by decide +kernel
theorem dX6_kindOf_17 : decode cX6_kindOf 17 = .ok (.if_icmp .eq 5, 3) := by decide +kernel
theorem dX6_kindOf_20 : decode cX6_kindOf 20 = .ok (.iconst 1, 1) := by decide +kernel
theorem dX6_kindOf_21 : decode cX6_kindOf 21 = .ok (.ireturn, 1) := by decide +kernel
theorem dX6_kindOf_22 : decode cX6_kindOf 22 = .ok (.aload_n 0, 1) := by decide +kernel
theorem dX6_kindOf_23 : decode cX6_kindOf 23 = .ok (.iload_n 1, 1) := by decide +kernel
theorem dX6_kindOf_24 : decode cX6_kindOf 24 = .ok (.invokevirtual 157, 3) := by decide +kernel
theorem dX6_kindOf_27 : decode cX6_kindOf 27 = .ok (.bipush (-6), 2) := by decide +kernel
theorem dX6_kindOf_29 : decode cX6_kindOf 29 = .ok (.if_icmp .eq 7, 3) := by decide +kernel
theorem dX6_kindOf_32 : decode cX6_kindOf 32 = .ok (.iconst 2, 1) := by decide +kernel
theorem dX6_kindOf_33 : decode cX6_kindOf 33 = .ok (.goto 4, 3) := by decide +kernel
theorem dX6_kindOf_36 : decode cX6_kindOf 36 = .ok (.iconst 3, 1) := by decide +kernel
theorem dX6_kindOf_37 : decode cX6_kindOf 37 = .ok (.ireturn, 1) := by decide +kernel
set_option maxRecDepth 20000 in
theorem ggX6_leastSetTowardsMeeting_X6_soonOf : GoodIn wsX6_leastSetTowardsMeeting wsX6_soonOf := goodIn_r _ [9, 10, 11, 12, 13, 8, 14, 15, 144, 145, 146, 147, 148, 149, 150, 151, 152, 153, 154, 155, 156, 157, 158, 159, 160, 161, 162, 163] (by decide +kernel) (by decide +kernel)
set_option maxRecDepth 20000 in
theorem gX6_leastSetTowardsMeeting_X6_soonOf : GoodIn wsX6_leastSetTowardsMeeting (wsV RX6 157 RX6 yX6_soonOf wsX6_soonOf) := goodIn_app (goodIn_of _ (by decide +kernel)) ggX6_leastSetTowardsMeeting_X6_soonOf
set_option maxRecDepth 20000 in
theorem ggX6_leastSetTowardsMeeting_X6_isWay : GoodIn wsX6_leastSetTowardsMeeting wsX6_isWay := goodIn_r _ [14, 15, 144, 145, 146, 147, 148, 149, 150, 151, 152, 153, 154, 155, 156, 157, 158, 159, 160, 161, 162, 163] (by decide +kernel) (by decide +kernel)
set_option maxRecDepth 20000 in
theorem gX6_leastSetTowardsMeeting_X6_isWay : GoodIn wsX6_leastSetTowardsMeeting (wsV RX6 85 RX6 yX6_isWay wsX6_isWay) := goodIn_app (goodIn_of _ (by decide +kernel)) ggX6_leastSetTowardsMeeting_X6_isWay
set_option maxRecDepth 20000 in
theorem ggX6_leastSetTowardsMeeting_X5_standsOf : GoodIn wsX6_leastSetTowardsMeeting wsX5_standsOf := goodIn_r _ [19] (by decide +kernel) (by decide +kernel)
set_option maxRecDepth 20000 in
theorem gX6_leastSetTowardsMeeting_X5_standsOf : GoodIn wsX6_leastSetTowardsMeeting (va_wsS RX6 80 yX5_standsOf wsX5_standsOf) := goodIn_app (goodIn_of _ (by decide +kernel)) ggX6_leastSetTowardsMeeting_X5_standsOf
set_option maxRecDepth 20000 in
theorem ggX6_leastSetTowardsMeeting_X6_towersSeen : GoodIn wsX6_leastSetTowardsMeeting wsX6_towersSeen := goodIn_r _ [23, 24, 25, 26, 18, 27, 144, 145, 146, 147, 148, 149, 150, 151, 152, 153, 154, 155, 156, 157, 158, 159, 160, 161, 162, 163] (by decide +kernel) (by decide +kernel)
set_option maxRecDepth 20000 in
theorem gX6_leastSetTowardsMeeting_X6_towersSeen : GoodIn wsX6_leastSetTowardsMeeting (wsV RX6 97 RX6 yX6_towersSeen wsX6_towersSeen) := goodIn_app (goodIn_of _ (by decide +kernel)) ggX6_leastSetTowardsMeeting_X6_towersSeen
set_option maxRecDepth 20000 in
theorem ggX6_leastSetTowardsMeeting_X2_from : GoodIn wsX6_leastSetTowardsMeeting wsX2_from := goodIn_r _ [32, 33, 34, 35, 36, 37, 38, 18, 39, 40, 41, 42, 43, 44, 45, 46, 47, 48, 49, 50, 51, 52, 53, 54, 55, 56, 57, 58, 59, 60, 61, 62, 63, 64, 65, 66, 67, 68, 69, 70, 71, 72, 73, 74, 75, 76, 77, 78, 79, 80, 81, 82, 83, 84, 85, 86, 87, 88, 89, 90, 91, 92, 93, 94, 95, 96, 97, 98, 99, 100, 101, 102, 103, 104, 105, 106, 107, 31, 108, 109, 164, 165, 166, 167, 168, 169, 170, 171, 172, 173, 174] (by decide +kernel) (by decide +kernel)
set_option maxRecDepth 20000 in
theorem gX6_leastSetTowardsMeeting_X2_from : GoodIn wsX6_leastSetTowardsMeeting (wsV RX6 100 RX2 yX2_from wsX2_from) := goodIn_app (goodIn_of _ (by decide +kernel)) ggX6_leastSetTowardsMeeting_X2_from
set_option maxRecDepth 20000 in
theorem ggX6_leastSetTowardsMeeting_X6_setAfter : GoodIn wsX6_leastSetTowardsMeeting wsX6_setAfter := goodIn_r _ [113, 1, 114, 115, 116, 117, 31, 118, 33, 34, 119, 120, 65, 121, 144, 145, 146, 147, 148, 149, 150, 151, 152, 153, 154, 155, 156, 157, 158, 159, 160, 161, 162, 163, 164, 165, 166, 167] (by decide +kernel) (by decide +kernel)
set_option maxRecDepth 20000 in
theorem gX6_leastSetTowardsMeeting_X6_setAfter : GoodIn wsX6_leastSetTowardsMeeting (wsV RX6 120 RX6 yX6_setAfter wsX6_setAfter) := goodIn_app (goodIn_of _ (by decide +kernel)) ggX6_leastSetTowardsMeeting_X6_setAfter
set_option maxRecDepth 20000 in
theorem ggX6_leastSetTowardsMeeting_X2_wayBehind : GoodIn wsX6_leastSetTowardsMeeting wsX2_wayBehind := goodIn_r _ [125, 33, 34, 126, 17, 18, 19, 127, 26, 27, 128, 116, 117, 31, 118, 129, 130, 131, 132, 133, 134, 135, 136, 137, 164, 165, 166, 167] (by decide +kernel) (by decide +kernel)
set_option maxRecDepth 20000 in
theorem gX6_leastSetTowardsMeeting_X2_wayBehind : GoodIn wsX6_leastSetTowardsMeeting (wsV RX6 123 RX2 yX2_wayBehind wsX2_wayBehind) := goodIn_app (goodIn_of _ (by decide +kernel)) ggX6_leastSetTowardsMeeting_X2_wayBehind
set_option maxRecDepth 20000 in
theorem ggX6_leastSetTowardsMeeting_X6_find : GoodIn wsX6_leastSetTowardsMeeting wsX6_find := goodIn_r _ [141, 142, 15, 4, 143, 16, 17, 18, 19, 11, 12, 13, 8, 14, 144, 145, 146, 147, 148, 149, 150, 151, 152, 153, 154, 155, 156, 157, 158, 159, 160, 161, 162, 163] (by decide +kernel) (by decide +kernel)
set_option maxRecDepth 20000 in
theorem gX6_leastSetTowardsMeeting_X6_find : GoodIn wsX6_leastSetTowardsMeeting (wsV RX6 76 RX6 yX6_find wsX6_find) := goodIn_app (goodIn_of _ (by decide +kernel)) ggX6_leastSetTowardsMeeting_X6_find
theorem dX6_leastSetTowardsMeeting_0 : decode cX6_leastSetTowardsMeeting 0 = .ok (.aload_n 0, 1) := by decide +kernel
theorem dX6_leastSetTowardsMeeting_1 : decode cX6_leastSetTowardsMeeting 1 = .ok (.iload_n 1, 1) := by decide +kernel
theorem dX6_leastSetTowardsMeeting_2 : decode cX6_leastSetTowardsMeeting 2 = .ok (.invokevirtual 157, 3) := by decide +kernel
theorem dX6_leastSetTowardsMeeting_5 : decode cX6_leastSetTowardsMeeting 5 = .ok (.istore_n 2, 1) := by decide +kernel
theorem dX6_leastSetTowardsMeeting_6 : decode cX6_leastSetTowardsMeeting 6 = .ok (.aload_n 0, 1) := by decide +kernel
theorem dX6_leastSetTowardsMeeting_7 : decode cX6_leastSetTowardsMeeting 7 = .ok (.iload_n 1, 1) := by decide +kernel
theorem dX6_leastSetTowardsMeeting_8 : decode cX6_leastSetTowardsMeeting 8 = .ok (.invokevirtual 85, 3) := by decide +kernel
theorem dX6_leastSetTowardsMeeting_11 : decode cX6_leastSetTowardsMeeting 11 = .ok (.ifCond .eq 13, 3) := by decide +kernel
theorem dX6_leastSetTowardsMeeting_14 : decode cX6_leastSetTowardsMeeting 14 = .ok (.iload_n 2, 1) := by decide +kernel
theorem dX6_leastSetTowardsMeeting_15 : decode cX6_leastSetTowardsMeeting 15 = .ok (.bipush (-6), 2) := by decide +kernel
theorem dX6_leastSetTowardsMeeting_17 : decode cX6_leastSetTowardsMeeting 17 = .ok (.if_icmp .eq 7, 3) := by decide +kernel
theorem dX6_leastSetTowardsMeeting_20 : decode cX6_leastSetTowardsMeeting 20 = .ok (.iload_n 2, 1) := by decide +kernel
theorem dX6_leastSetTowardsMeeting_21 : decode cX6_leastSetTowardsMeeting 21 = .ok (.ifCond .ne 6, 3) := by decide +kernel
theorem dX6_leastSetTowardsMeeting_24 : decode cX6_leastSetTowardsMeeting 24 = .ok (.bipush (-6), 2) := by decide +kernel
theorem dX6_leastSetTowardsMeeting_26 : decode cX6_leastSetTowardsMeeting 26 = .ok (.ireturn, 1) := by decide +kernel
theorem dX6_leastSetTowardsMeeting_27 : decode cX6_leastSetTowardsMeeting 27 = .ok (.aload_n 0, 1) := by decide +kernel
theorem dX6_leastSetTowardsMeeting_28 : decode cX6_leastSetTowardsMeeting 28 = .ok (.getfield 12, 3) := by decide +kernel
theorem dX6_leastSetTowardsMeeting_31 : decode cX6_leastSetTowardsMeeting 31 = .ok (.aload_n 0, 1) := by decide +kernel
theorem dX6_leastSetTowardsMeeting_32 : decode cX6_leastSetTowardsMeeting 32 = .ok (.getfield 49, 3) := by decide +kernel
theorem dX6_leastSetTowardsMeeting_35 : decode cX6_leastSetTowardsMeeting 35 = .ok (.aload_n 0, 1) := by decide +kernel
theorem dX6_leastSetTowardsMeeting_36 : decode cX6_leastSetTowardsMeeting 36 = .ok (.getfield 53, 3) := by decide +kernel
theorem dX6_leastSetTowardsMeeting_39 : decode cX6_leastSetTowardsMeeting 39 = .ok (.aload_n 0, 1) := by decide +kernel
theorem dX6_leastSetTowardsMeeting_40 : decode cX6_leastSetTowardsMeeting 40 = .ok (.getfield 18, 3) := by decide +kernel
theorem dX6_leastSetTowardsMeeting_43 : decode cX6_leastSetTowardsMeeting 43 = .ok (.iload_n 1, 1) := by decide +kernel
theorem dX6_leastSetTowardsMeeting_44 : decode cX6_leastSetTowardsMeeting 44 = .ok (.iaload, 1) := by decide +kernel
theorem dX6_leastSetTowardsMeeting_45 : decode cX6_leastSetTowardsMeeting 45 = .ok (.invokestatic 80, 3) := by decide +kernel
theorem dX6_leastSetTowardsMeeting_48 : decode cX6_leastSetTowardsMeeting 48 = .ok (.aload_n 0, 1) := by decide +kernel
theorem dX6_leastSetTowardsMeeting_49 : decode cX6_leastSetTowardsMeeting 49 = .ok (.aload_n 0, 1) := by decide +kernel
theorem dX6_leastSetTowardsMeeting_50 : decode cX6_leastSetTowardsMeeting 50 = .ok (.getfield 18, 3) := by decide +kernel
theorem dX6_leastSetTowardsMeeting_53 : decode cX6_leastSetTowardsMeeting 53 = .ok (.iload_n 1, 1) := by decide +kernel
theorem dX6_leastSetTowardsMeeting_54 : decode cX6_leastSetTowardsMeeting 54 = .ok (.iaload, 1) := by decide +kernel
theorem dX6_leastSetTowardsMeeting_55 : decode cX6_leastSetTowardsMeeting 55 = .ok (.invokevirtual 97, 3) := by decide +kernel
theorem dX6_leastSetTowardsMeeting_58 : decode cX6_leastSetTowardsMeeting 58 = .ok (.invokevirtual 100, 3) := by decide +kernel
theorem dX6_leastSetTowardsMeeting_61 : decode cX6_leastSetTowardsMeeting 61 = .ok (.aload_n 0, 1) := by decide +kernel
theorem dX6_leastSetTowardsMeeting_62 : decode cX6_leastSetTowardsMeeting 62 = .ok (.iconst 0, 1) := by decide +kernel
theorem dX6_leastSetTowardsMeeting_63 : decode cX6_leastSetTowardsMeeting 63 = .ok (.invokevirtual 120, 3) := by decide +kernel
theorem dX6_leastSetTowardsMeeting_66 : decode cX6_leastSetTowardsMeeting 66 = .ok (.istore_n 3, 1) := by decide +kernel
theorem dX6_leastSetTowardsMeeting_67 : decode cX6_leastSetTowardsMeeting 67 = .ok (.iconst 0, 1) := by decide +kernel
theorem dX6_leastSetTowardsMeeting_68 : decode cX6_leastSetTowardsMeeting 68 = .ok (.istore 4, 2) := by decide +kernel
theorem dX6_leastSetTowardsMeeting_70 : decode cX6_leastSetTowardsMeeting 70 = .ok (.iload 4, 2) := by decide +kernel
theorem dX6_leastSetTowardsMeeting_72 : decode cX6_leastSetTowardsMeeting 72 = .ok (.bipush 31, 2) := by decide +kernel
theorem dX6_leastSetTowardsMeeting_74 : decode cX6_leastSetTowardsMeeting 74 = .ok (.if_icmp .ge 53, 3) := by decide +kernel
theorem dX6_leastSetTowardsMeeting_77 : decode cX6_leastSetTowardsMeeting 77 = .ok (.iload_n 3, 1) := by decide +kernel
theorem dX6_leastSetTowardsMeeting_78 : decode cX6_leastSetTowardsMeeting 78 = .ok (.ifCond .eq 49, 3) := by decide +kernel
theorem dX6_leastSetTowardsMeeting_81 : decode cX6_leastSetTowardsMeeting 81 = .ok (.aload_n 0, 1) := by decide +kernel
theorem dX6_leastSetTowardsMeeting_82 : decode cX6_leastSetTowardsMeeting 82 = .ok (.aload_n 0, 1) := by decide +kernel
theorem dX6_leastSetTowardsMeeting_83 : decode cX6_leastSetTowardsMeeting 83 = .ok (.aload_n 0, 1) := by decide +kernel
theorem dX6_leastSetTowardsMeeting_84 : decode cX6_leastSetTowardsMeeting 84 = .ok (.getfield 12, 3) := by decide +kernel
theorem dX6_leastSetTowardsMeeting_87 : decode cX6_leastSetTowardsMeeting 87 = .ok (.aload_n 0, 1) := by decide +kernel
theorem dX6_leastSetTowardsMeeting_88 : decode cX6_leastSetTowardsMeeting 88 = .ok (.getfield 53, 3) := by decide +kernel
theorem dX6_leastSetTowardsMeeting_91 : decode cX6_leastSetTowardsMeeting 91 = .ok (.aload_n 0, 1) := by decide +kernel
theorem dX6_leastSetTowardsMeeting_92 : decode cX6_leastSetTowardsMeeting 92 = .ok (.getfield 18, 3) := by decide +kernel
theorem dX6_leastSetTowardsMeeting_95 : decode cX6_leastSetTowardsMeeting 95 = .ok (.iload_n 1, 1) := by decide +kernel
theorem dX6_leastSetTowardsMeeting_96 : decode cX6_leastSetTowardsMeeting 96 = .ok (.iaload, 1) := by decide +kernel
theorem dX6_leastSetTowardsMeeting_97 : decode cX6_leastSetTowardsMeeting 97 = .ok (.iload_n 3, 1) := by decide +kernel
theorem dX6_leastSetTowardsMeeting_98 : decode cX6_leastSetTowardsMeeting 98 = .ok (.invokevirtual 123, 3) := by decide +kernel
theorem dX6_leastSetTowardsMeeting_101 : decode cX6_leastSetTowardsMeeting 101 = .ok (.invokevirtual 76, 3) := by decide +kernel
theorem dX6_leastSetTowardsMeeting_104 : decode cX6_leastSetTowardsMeeting 104 = .ok (.invokevirtual 157, 3) := by decide +kernel
theorem dX6_leastSetTowardsMeeting_107 : decode cX6_leastSetTowardsMeeting 107 = .ok (.iload_n 2, 1) := by decide +kernel
theorem dX6_leastSetTowardsMeeting_108 : decode cX6_leastSetTowardsMeeting 108 = .ok (.iconst 1, 1) := by decide +kernel
theorem dX6_leastSetTowardsMeeting_109 : decode cX6_leastSetTowardsMeeting 109 = .ok (.isub, 1) := by decide +kernel
theorem dX6_leastSetTowardsMeeting_110 : decode cX6_leastSetTowardsMeeting 110 = .ok (.if_icmp .ne 5, 3) := by decide +kernel
theorem dX6_leastSetTowardsMeeting_113 : decode cX6_leastSetTowardsMeeting 113 = .ok (.iload_n 3, 1) := by decide +kernel
theorem dX6_leastSetTowardsMeeting_114 : decode cX6_leastSetTowardsMeeting 114 = .ok (.ireturn, 1) := by decide +kernel
theorem dX6_leastSetTowardsMeeting_115 : decode cX6_leastSetTowardsMeeting 115 = .ok (.aload_n 0, 1) := by decide +kernel
theorem dX6_leastSetTowardsMeeting_116 : decode cX6_leastSetTowardsMeeting 116 = .ok (.iload_n 3, 1) := by decide +kernel
theorem dX6_leastSetTowardsMeeting_117 : decode cX6_leastSetTowardsMeeting 117 = .ok (.invokevirtual 120, 3) := by decide +kernel
theorem dX6_leastSetTowardsMeeting_120 : decode cX6_leastSetTowardsMeeting 120 = .ok (.istore_n 3, 1) := by decide +kernel
theorem dX6_leastSetTowardsMeeting_121 : decode cX6_leastSetTowardsMeeting 121 = .ok (.iinc 4 1, 3) := by decide +kernel
theorem dX6_leastSetTowardsMeeting_124 : decode cX6_leastSetTowardsMeeting 124 = .ok (.goto (-54), 3) := by decide +kernel
theorem dX6_leastSetTowardsMeeting_127 : decode cX6_leastSetTowardsMeeting 127 = .ok (.bipush (-6), 2) := by decide +kernel
theorem dX6_leastSetTowardsMeeting_129 : decode cX6_leastSetTowardsMeeting 129 = .ok (.ireturn, 1) := by decide +kernel
set_option maxRecDepth 20000 in
theorem ggX7_init_X4_init : GoodIn wsX7_init wsX4_init := goodIn_r _ [17, 18, 2, 3, 14, 19, 20, 21, 22, 23, 24, 25, 26, 27, 28, 32, 33, 34, 47, 48] (by decide +kernel) (by decide +kernel)
set_option maxRecDepth 20000 in
theorem gX7_init_X4_init_n9 : GoodIn wsX7_init (wsX4_init) := ggX7_init_X4_init
set_option maxRecDepth 20000 in
theorem ggX7_init_X1_init : GoodIn wsX7_init wsX1_init := goodIn_r _ [30, 31, 2, 3] (by decide +kernel) (by decide +kernel)
set_option maxRecDepth 20000 in
theorem gX7_init_X1_init_n24 : GoodIn wsX7_init (wsX1_init) := ggX7_init_X1_init
theorem dX7_init_0 : decode cX7_init 0 = .ok (.aload_n 0, 1) := by decide +kernel
theorem dX7_init_1 : decode cX7_init 1 = .ok (.invokespecial 1, 3) := by decide +kernel
theorem dX7_init_4 : decode cX7_init 4 = .ok (.aload_n 0, 1) := by decide +kernel
theorem dX7_init_5 : decode cX7_init 5 = .ok (.new 7, 3) := by decide +kernel
theorem dX7_init_8 : decode cX7_init 8 = .ok (.dup, 1) := by decide +kernel
theorem dX7_init_9 : decode cX7_init 9 = .ok (.invokespecial 9, 3) := by decide +kernel
theorem dX7_init_12 : decode cX7_init 12 = .ok (.putfield 10, 3) := by decide +kernel
theorem dX7_init_15 : decode cX7_init 15 = .ok (.aload_n 0, 1) := by decide +kernel
theorem dX7_init_16 : decode cX7_init 16 = .ok (.new 7, 3) := by decide +kernel
theorem dX7_init_19 : decode cX7_init 19 = .ok (.dup, 1) := by decide +kernel
theorem dX7_init_20 : decode cX7_init 20 = .ok (.invokespecial 9, 3) := by decide +kernel
theorem dX7_init_23 : decode cX7_init 23 = .ok (.putfield 16, 3) := by decide +kernel
theorem dX7_init_26 : decode cX7_init 26 = .ok (.aload_n 0, 1) := by decide +kernel
theorem dX7_init_27 : decode cX7_init 27 = .ok (.new 7, 3) := by decide +kernel
theorem dX7_init_30 : decode cX7_init 30 = .ok (.dup, 1) := by decide +kernel
theorem dX7_init_31 : decode cX7_init 31 = .ok (.invokespecial 9, 3) := by decide +kernel
theorem dX7_init_34 : decode cX7_init 34 = .ok (.putfield 19, 3) := by decide +kernel
theorem dX7_init_37 : decode cX7_init 37 = .ok (.aload_n 0, 1) := by decide +kernel
theorem dX7_init_38 : decode cX7_init 38 = .ok (.new 22, 3) := by decide +kernel
theorem dX7_init_41 : decode cX7_init 41 = .ok (.dup, 1) := by decide +kernel
theorem dX7_init_42 : decode cX7_init 42 = .ok (.invokespecial 24, 3) := by decide +kernel
theorem dX7_init_45 : decode cX7_init 45 = .ok (.putfield 25, 3) := by decide +kernel
theorem dX7_init_48 : decode cX7_init 48 = .ok (.aload_n 0, 1) := by decide +kernel
theorem dX7_init_49 : decode cX7_init 49 = .ok (.bipush 10, 2) := by decide +kernel
theorem dX7_init_51 : decode cX7_init 51 = .ok (.newarray .int, 2) := by decide +kernel
theorem dX7_init_53 : decode cX7_init 53 = .ok (.putfield 29, 3) := by decide +kernel
theorem dX7_init_56 : decode cX7_init 56 = .ok (.return_, 1) := by decide +kernel
set_option maxRecDepth 20000 in
theorem ggX7_ring_X4_empty : GoodIn wsX7_ring wsX4_empty := goodIn_r _ [6, 7, 8, 16, 17, 18] (by decide +kernel) (by decide +kernel)
set_option maxRecDepth 20000 in
theorem gX7_ring_X4_empty : GoodIn wsX7_ring (wsV RX7 37 RX4 yX4_empty wsX4_empty) := goodIn_app (goodIn_of _ (by decide +kernel)) ggX7_ring_X4_empty
theorem dX7_ring_0 : decode cX7_ring 0 = .ok (.iload_n 1, 1) := by decide +kernel
theorem dX7_ring_1 : decode cX7_ring 1 = .ok (.iconst 3, 1) := by decide +kernel
theorem dX7_ring_2 : decode cX7_ring 2 = .ok (.if_icmp .lt 9, 3) := by decide +kernel
theorem dX7_ring_5 : decode cX7_ring 5 = .ok (.iload_n 1, 1) := by decide +kernel
theorem dX7_ring_6 : decode cX7_ring 6 = .ok (.bipush 10, 2) := by decide +kernel
theorem dX7_ring_8 : decode cX7_ring 8 = .ok (.if_icmp .le 6, 3) := by decide +kernel
theorem dX7_ring_11 : decode cX7_ring 11 = .ok (.bipush (-2), 2) := by decide +kernel
theorem dX7_ring_13 : decode cX7_ring 13 = .ok (.ireturn, 1) := by decide +kernel
theorem dX7_ring_14 : decode cX7_ring 14 = .ok (.aload_n 0, 1) := by decide +kernel
theorem dX7_ring_15 : decode cX7_ring 15 = .ok (.getfield 10, 3) := by decide +kernel
theorem dX7_ring_18 : decode cX7_ring 18 = .ok (.getfield 33, 3) := by decide +kernel
theorem dX7_ring_21 : decode cX7_ring 21 = .ok (.istore_n 2, 1) := by decide +kernel
theorem dX7_ring_22 : decode cX7_ring 22 = .ok (.aload_n 0, 1) := by decide +kernel
theorem dX7_ring_23 : decode cX7_ring 23 = .ok (.getfield 10, 3) := by decide +kernel
theorem dX7_ring_26 : decode cX7_ring 26 = .ok (.iload_n 1, 1) := by decide +kernel
theorem dX7_ring_27 : decode cX7_ring 27 = .ok (.invokevirtual 37, 3) := by decide +kernel
theorem dX7_ring_30 : decode cX7_ring 30 = .ok (.iload_n 2, 1) := by decide +kernel
theorem dX7_ring_31 : decode cX7_ring 31 = .ok (.ireturn, 1) := by decide +kernel
set_option maxRecDepth 20000 in
theorem ggX7_stand_X4_hasCell : GoodIn wsX7_stand wsX4_hasCell := goodIn_r _ [6, 7, 30, 31, 32] (by decide +kernel) (by decide +kernel)
set_option maxRecDepth 20000 in
theorem gX7_stand_X4_hasCell : GoodIn wsX7_stand (wsV RX7 41 RX4 yX4_hasCell wsX4_hasCell) := goodIn_app (goodIn_of _ (by decide +kernel)) ggX7_stand_X4_hasCell
set_option maxRecDepth 20000 in
theorem ggX7_stand_X4_walkersOn : GoodIn wsX7_stand wsX4_walkersOn := goodIn_r _ [11, 12, 13, 3, 4, 5, 6, 7, 30, 31, 32] (by decide +kernel) (by decide +kernel)
set_option maxRecDepth 20000 in
theorem gX7_stand_X4_walkersOn : GoodIn wsX7_stand (wsV RX7 45 RX4 yX4_walkersOn wsX4_walkersOn) := goodIn_app (goodIn_of _ (by decide +kernel)) ggX7_stand_X4_walkersOn
set_option maxRecDepth 20000 in
theorem ggX7_stand_X4_walkersInAll : GoodIn wsX7_stand wsX4_walkersInAll := goodIn_r _ [17, 7, 18, 9, 10, 5, 11, 12, 13, 3, 4, 6, 30, 31, 32] (by decide +kernel) (by decide +kernel)
set_option maxRecDepth 20000 in
theorem gX7_stand_X4_walkersInAll : GoodIn wsX7_stand (wsV RX7 49 RX4 yX4_walkersInAll wsX4_walkersInAll) := goodIn_app (goodIn_of _ (by decide +kernel)) ggX7_stand_X4_walkersInAll
set_option maxRecDepth 20000 in
theorem ggX7_stand_X4_put : GoodIn wsX7_stand wsX4_put := goodIn_r _ [22, 12, 13, 3, 4, 5, 6, 7, 30, 31, 32] (by decide +kernel) (by decide +kernel)
set_option maxRecDepth 20000 in
theorem gX7_stand_X4_put : GoodIn wsX7_stand (wsV RX7 53 RX4 yX4_put wsX4_put) := goodIn_app (goodIn_of _ (by decide +kernel)) ggX7_stand_X4_put
theorem dX7_stand_0 : decode cX7_stand 0 = .ok (.aload_n 0, 1) := by decide +kernel
theorem dX7_stand_1 : decode cX7_stand 1 = .ok (.getfield 10, 3) := by decide +kernel
theorem dX7_stand_4 : decode cX7_stand 4 = .ok (.iload_n 1, 1) := by decide +kernel
theorem dX7_stand_5 : decode cX7_stand 5 = .ok (.invokevirtual 41, 3) := by decide +kernel
theorem dX7_stand_8 : decode cX7_stand 8 = .ok (.ifCond .ne 5, 3) := by decide +kernel
theorem dX7_stand_11 : decode cX7_stand 11 = .ok (.iconst (-1), 1) := by decide +kernel
theorem dX7_stand_12 : decode cX7_stand 12 = .ok (.ireturn, 1) := by decide +kernel
theorem dX7_stand_13 : decode cX7_stand 13 = .ok (.iload_n 2, 1) := by decide +kernel
theorem dX7_stand_14 : decode cX7_stand 14 = .ok (.ifCond .lt 8, 3) := by decide +kernel
theorem dX7_stand_17 : decode cX7_stand 17 = .ok (.iload_n 2, 1) := by decide +kernel
theorem dX7_stand_18 : decode cX7_stand 18 = .ok (.iconst 5, 1) := by decide +kernel
theorem dX7_stand_19 : decode cX7_stand 19 = .ok (.if_icmp .le 6, 3) := by decide +kernel
theorem dX7_stand_22 : decode cX7_stand 22 = .ok (.bipush (-2), 2) := by decide +kernel
theorem dX7_stand_24 : decode cX7_stand 24 = .ok (.ireturn, 1) := by decide +kernel
theorem dX7_stand_25 : decode cX7_stand 25 = .ok (.aload_n 0, 1) := by decide +kernel
theorem dX7_stand_26 : decode cX7_stand 26 = .ok (.getfield 10, 3) := by decide +kernel
theorem dX7_stand_29 : decode cX7_stand 29 = .ok (.iload_n 1, 1) := by decide +kernel
theorem dX7_stand_30 : decode cX7_stand 30 = .ok (.invokevirtual 45, 3) := by decide +kernel
theorem dX7_stand_33 : decode cX7_stand 33 = .ok (.istore_n 3, 1) := by decide +kernel
theorem dX7_stand_34 : decode cX7_stand 34 = .ok (.aload_n 0, 1) := by decide +kernel
theorem dX7_stand_35 : decode cX7_stand 35 = .ok (.getfield 10, 3) := by decide +kernel
theorem dX7_stand_38 : decode cX7_stand 38 = .ok (.invokevirtual 49, 3) := by decide +kernel
theorem dX7_stand_41 : decode cX7_stand 41 = .ok (.iload_n 3, 1) := by decide +kernel
theorem dX7_stand_42 : decode cX7_stand 42 = .ok (.isub, 1) := by decide +kernel
theorem dX7_stand_43 : decode cX7_stand 43 = .ok (.iload_n 2, 1) := by decide +kernel
theorem dX7_stand_44 : decode cX7_stand 44 = .ok (.iadd, 1) := by decide +kernel
theorem dX7_stand_45 : decode cX7_stand 45 = .ok (.iconst 5, 1) := by decide +kernel
theorem dX7_stand_46 : decode cX7_stand 46 = .ok (.if_icmp .le 6, 3) := by decide +kernel
theorem dX7_stand_49 : decode cX7_stand 49 = .ok (.bipush (-4), 2) := by decide +kernel
theorem dX7_stand_51 : decode cX7_stand 51 = .ok (.ireturn, 1) := by decide +kernel
theorem dX7_stand_52 : decode cX7_stand 52 = .ok (.aload_n 0, 1) := by decide +kernel
theorem dX7_stand_53 : decode cX7_stand 53 = .ok (.getfield 10, 3) := by decide +kernel
theorem dX7_stand_56 : decode cX7_stand 56 = .ok (.iload_n 1, 1) := by decide +kernel
theorem dX7_stand_57 : decode cX7_stand 57 = .ok (.iload_n 2, 1) := by decide +kernel
theorem dX7_stand_58 : decode cX7_stand 58 = .ok (.invokevirtual 53, 3) := by decide +kernel
theorem dX7_stand_61 : decode cX7_stand 61 = .ok (.iload_n 3, 1) := by decide +kernel
theorem dX7_stand_62 : decode cX7_stand 62 = .ok (.ireturn, 1) := by decide +kernel
set_option maxRecDepth 20000 in
theorem ggX7_gap_X4_stands : GoodIn wsX7_gap wsX4_stands := goodIn_r _ [6, 7, 8, 9, 5, 10, 11, 12, 13, 14, 15, 16, 17, 18, 19, 20, 58, 59, 60] (by decide +kernel) (by decide +kernel)
set_option maxRecDepth 20000 in
theorem gX7_gap_X4_stands : GoodIn wsX7_gap (wsV RX7 57 RX4 yX4_stands wsX4_stands) := goodIn_app (goodIn_of _ (by decide +kernel)) ggX7_gap_X4_stands
set_option maxRecDepth 20000 in
theorem ggX7_gap_X5_has : GoodIn wsX7_gap wsX5_has := goodIn_r _ [24] (by decide +kernel) (by decide +kernel)
set_option maxRecDepth 20000 in
theorem gX7_gap_X5_has : GoodIn wsX7_gap (va_wsS RX7 60 yX5_has wsX5_has) := goodIn_app (goodIn_of _ (by decide +kernel)) ggX7_gap_X5_has
set_option maxRecDepth 20000 in
theorem ggX7_gap_J6_bitCount_0f7a4 : GoodIn wsX7_gap wsJ6_bitCount_0f7a4 := goodIn_r _ [28, 29, 30, 31] (by decide +kernel) (by decide +kernel)
set_option maxRecDepth 20000 in
theorem gX7_gap_J6_bitCount_0f7a4 : GoodIn wsX7_gap (va_wsS RX7 66 yJ6_bitCount_0f7a4 wsJ6_bitCount_0f7a4) := goodIn_app (goodIn_of _ (by decide +kernel)) ggX7_gap_J6_bitCount_0f7a4
set_option maxRecDepth 20000 in
theorem ggX7_gap_X0_view : GoodIn wsX7_gap wsX0_view := goodIn_r _ [35, 36, 37, 38, 39, 40, 41, 34, 42, 43, 44, 23, 45, 46, 22, 24] (by decide +kernel) (by decide +kernel)
set_option maxRecDepth 20000 in
theorem gX7_gap_X0_view : GoodIn wsX7_gap (va_wsS RX7 71 yX0_view wsX0_view) := goodIn_app (goodIn_of _ (by decide +kernel)) ggX7_gap_X0_view
set_option maxRecDepth 20000 in
theorem ggX7_gap_X0_row : GoodIn wsX7_gap wsX0_row := goodIn_r _ [42, 43, 44, 23, 45, 46, 22, 24] (by decide +kernel) (by decide +kernel)
set_option maxRecDepth 20000 in
theorem gX7_gap_X0_row : GoodIn wsX7_gap (va_wsS RX7 77 yX0_row wsX0_row) := goodIn_app (goodIn_of _ (by decide +kernel)) ggX7_gap_X0_row
set_option maxRecDepth 20000 in
theorem ggX7_gap_X0_at : GoodIn wsX7_gap wsX0_at := goodIn_r _ [50] (by decide +kernel) (by decide +kernel)
set_option maxRecDepth 20000 in
theorem gX7_gap_X0_at : GoodIn wsX7_gap (va_wsS RX7 81 yX0_at wsX0_at) := goodIn_app (goodIn_of _ (by decide +kernel)) ggX7_gap_X0_at
theorem dX7_gap_0 : decode cX7_gap 0 = .ok (.aload_n 0, 1) := by decide +kernel
theorem dX7_gap_1 : decode cX7_gap 1 = .ok (.getfield 10, 3) := by decide +kernel
theorem dX7_gap_4 : decode cX7_gap 4 = .ok (.invokevirtual 57, 3) := by decide +kernel
theorem dX7_gap_7 : decode cX7_gap 7 = .ok (.istore 4, 2) := by decide +kernel
theorem dX7_gap_9 : decode cX7_gap 9 = .ok (.iload 4, 2) := by decide +kernel
theorem dX7_gap_11 : decode cX7_gap 11 = .ok (.iload_n 1, 1) := by decide +kernel
theorem dX7_gap_12 : decode cX7_gap 12 = .ok (.invokestatic 60, 3) := by decide +kernel
theorem dX7_gap_15 : decode cX7_gap 15 = .ok (.ifCond .ne 5, 3) := by decide +kernel
theorem dX7_gap_18 : decode cX7_gap 18 = .ok (.iconst (-1), 1) := by decide +kernel
theorem dX7_gap_19 : decode cX7_gap 19 = .ok (.ireturn, 1) := by decide +kernel
theorem dX7_gap_20 : decode cX7_gap 20 = .ok (.iload_n 2, 1) := by decide +kernel
theorem dX7_gap_21 : decode cX7_gap 21 = .ok (.ifCond .lt 8, 3) := by decide +kernel
theorem dX7_gap_24 : decode cX7_gap 24 = .ok (.iload_n 2, 1) := by decide +kernel
theorem dX7_gap_25 : decode cX7_gap 25 = .ok (.iconst 2, 1) := by decide +kernel
theorem dX7_gap_26 : decode cX7_gap 26 = .ok (.if_icmp .le 6, 3) := by decide +kernel
theorem dX7_gap_29 : decode cX7_gap 29 = .ok (.bipush (-2), 2) := by decide +kernel
theorem dX7_gap_31 : decode cX7_gap 31 = .ok (.ireturn, 1) := by decide +kernel
theorem dX7_gap_32 : decode cX7_gap 32 = .ok (.iload 4, 2) := by decide +kernel
theorem dX7_gap_34 : decode cX7_gap 34 = .ok (.invokestatic 66, 3) := by decide +kernel
theorem dX7_gap_37 : decode cX7_gap 37 = .ok (.istore 5, 2) := by decide +kernel
theorem dX7_gap_39 : decode cX7_gap 39 = .ok (.iload_n 3, 1) := by decide +kernel
theorem dX7_gap_40 : decode cX7_gap 40 = .ok (.iconst (-1), 1) := by decide +kernel
theorem dX7_gap_41 : decode cX7_gap 41 = .ok (.if_icmp .ne 6, 3) := by decide +kernel
theorem dX7_gap_44 : decode cX7_gap 44 = .ok (.iload 5, 2) := by decide +kernel
theorem dX7_gap_46 : decode cX7_gap 46 = .ok (.ireturn, 1) := by decide +kernel
theorem dX7_gap_47 : decode cX7_gap 47 = .ok (.iload_n 3, 1) := by decide +kernel
theorem dX7_gap_48 : decode cX7_gap 48 = .ok (.ifCond .lt 9, 3) := by decide +kernel
theorem dX7_gap_51 : decode cX7_gap 51 = .ok (.iload_n 3, 1) := by decide +kernel
theorem dX7_gap_52 : decode cX7_gap 52 = .ok (.iload 5, 2) := by decide +kernel
theorem dX7_gap_54 : decode cX7_gap 54 = .ok (.if_icmp .lt 6, 3) := by decide +kernel
theorem dX7_gap_57 : decode cX7_gap 57 = .ok (.bipush (-6), 2) := by decide +kernel
theorem dX7_gap_59 : decode cX7_gap 59 = .ok (.ireturn, 1) := by decide +kernel
theorem dX7_gap_60 : decode cX7_gap 60 = .ok (.iload_n 2, 1) := by decide +kernel
theorem dX7_gap_61 : decode cX7_gap 61 = .ok (.iconst 2, 1) := by decide +kernel
theorem dX7_gap_62 : decode cX7_gap 62 = .ok (.if_icmp .ne 19, 3) := by decide +kernel
theorem dX7_gap_65 : decode cX7_gap 65 = .ok (.aload_n 0, 1) := by decide +kernel
theorem dX7_gap_66 : decode cX7_gap 66 = .ok (.getfield 10, 3) := by decide +kernel
theorem dX7_gap_69 : decode cX7_gap 69 = .ok (.getfield 33, 3) := by decide +kernel
theorem dX7_gap_72 : decode cX7_gap 72 = .ok (.iload 4, 2) := by decide +kernel
theorem dX7_gap_74 : decode cX7_gap 74 = .ok (.iload_n 1, 1) := by decide +kernel
theorem dX7_gap_75 : decode cX7_gap 75 = .ok (.invokestatic 71, 3) := by decide +kernel
theorem dX7_gap_78 : decode cX7_gap 78 = .ok (.goto 17, 3) := by decide +kernel
theorem dX7_gap_81 : decode cX7_gap 81 = .ok (.aload_n 0, 1) := by decide +kernel
theorem dX7_gap_82 : decode cX7_gap 82 = .ok (.getfield 10, 3) := by decide +kernel
theorem dX7_gap_85 : decode cX7_gap 85 = .ok (.getfield 33, 3) := by decide +kernel
theorem dX7_gap_88 : decode cX7_gap 88 = .ok (.iload 4, 2) := by decide +kernel
theorem dX7_gap_90 : decode cX7_gap 90 = .ok (.iload_n 1, 1) := by decide +kernel
theorem dX7_gap_91 : decode cX7_gap 91 = .ok (.iload_n 2, 1) := by decide +kernel
theorem dX7_gap_92 : decode cX7_gap 92 = .ok (.invokestatic 77, 3) := by decide +kernel
theorem dX7_gap_95 : decode cX7_gap 95 = .ok (.istore 6, 2) := by decide +kernel
theorem dX7_gap_97 : decode cX7_gap 97 = .ok (.iload 6, 2) := by decide +kernel
theorem dX7_gap_99 : decode cX7_gap 99 = .ok (.iload 5, 2) := by decide +kernel
theorem dX7_gap_101 : decode cX7_gap 101 = .ok (.iload_n 3, 1) := by decide +kernel
theorem dX7_gap_102 : decode cX7_gap 102 = .ok (.invokestatic 81, 3) := by decide +kernel
theorem dX7_gap_105 : decode cX7_gap 105 = .ok (.ireturn, 1) := by decide +kernel
set_option maxRecDepth 20000 in
theorem ggX7_shape_X4_stands : GoodIn wsX7_shape wsX4_stands := goodIn_r _ [6, 7, 8, 9, 5, 10, 11, 12, 13, 14, 15, 16, 17, 18, 19, 20, 67, 68, 69] (by decide +kernel) (by decide +kernel)
set_option maxRecDepth 20000 in
theorem gX7_shape_X4_stands : GoodIn wsX7_shape (wsV RX7 57 RX4 yX4_stands wsX4_stands) := goodIn_app (goodIn_of _ (by decide +kernel)) ggX7_shape_X4_stands
set_option maxRecDepth 20000 in
theorem ggX7_shape_X0_turned : GoodIn wsX7_shape wsX0_turned := goodIn_r _ [24, 25, 26, 27, 28, 29, 30, 23, 31, 32, 33, 34] (by decide +kernel) (by decide +kernel)
set_option maxRecDepth 20000 in
theorem gX7_shape_X0_turned : GoodIn wsX7_shape (va_wsS RX7 84 yX0_turned wsX0_turned) := goodIn_app (goodIn_of _ (by decide +kernel)) ggX7_shape_X0_turned
set_option maxRecDepth 20000 in
theorem ggX7_shape_X0_mirrored : GoodIn wsX7_shape wsX0_mirrored := goodIn_r _ [37, 25, 26, 27, 28, 29, 30, 23, 31, 32, 33, 34] (by decide +kernel) (by decide +kernel)
set_option maxRecDepth 20000 in
theorem gX7_shape_X0_mirrored : GoodIn wsX7_shape (va_wsS RX7 87 yX0_mirrored wsX0_mirrored) := goodIn_app (goodIn_of _ (by decide +kernel)) ggX7_shape_X0_mirrored
set_option maxRecDepth 20000 in
theorem ggX7_shape_X0_evens : GoodIn wsX7_shape wsX0_evens := goodIn_r _ [40, 25, 26, 27, 28, 29, 30, 23, 31, 32, 33, 34] (by decide +kernel) (by decide +kernel)
set_option maxRecDepth 20000 in
theorem gX7_shape_X0_evens : GoodIn wsX7_shape (va_wsS RX7 90 yX0_evens wsX0_evens) := goodIn_app (goodIn_of _ (by decide +kernel)) ggX7_shape_X0_evens
set_option maxRecDepth 20000 in
theorem ggX7_shape_X0_views : GoodIn wsX7_shape wsX0_views := goodIn_r _ [43, 25, 26, 27, 28, 44, 45, 23, 46, 47, 48, 49, 50, 51, 52, 53, 29, 30, 31, 32, 33, 34] (by decide +kernel) (by decide +kernel)
set_option maxRecDepth 20000 in
theorem gX7_shape_X0_views : GoodIn wsX7_shape (va_wsS RX7 94 yX0_views wsX0_views) := goodIn_app (goodIn_of _ (by decide +kernel)) ggX7_shape_X0_views
set_option maxRecDepth 20000 in
theorem ggX7_shape_X0_leastTurn : GoodIn wsX7_shape wsX0_leastTurn := goodIn_r _ [56, 57, 58, 27, 59] (by decide +kernel) (by decide +kernel)
set_option maxRecDepth 20000 in
theorem gX7_shape_X0_leastTurn : GoodIn wsX7_shape (va_wsS RX7 97 yX0_leastTurn wsX0_leastTurn) := goodIn_app (goodIn_of _ (by decide +kernel)) ggX7_shape_X0_leastTurn
theorem dX7_shape_0 : decode cX7_shape 0 = .ok (.aload_n 0, 1) := by decide +kernel
theorem dX7_shape_1 : decode cX7_shape 1 = .ok (.getfield 10, 3) := by decide +kernel
theorem dX7_shape_4 : decode cX7_shape 4 = .ok (.getfield 33, 3) := by decide +kernel
theorem dX7_shape_7 : decode cX7_shape 7 = .ok (.istore_n 2, 1) := by decide +kernel
theorem dX7_shape_8 : decode cX7_shape 8 = .ok (.aload_n 0, 1) := by decide +kernel
theorem dX7_shape_9 : decode cX7_shape 9 = .ok (.getfield 10, 3) := by decide +kernel
theorem dX7_shape_12 : decode cX7_shape 12 = .ok (.invokevirtual 57, 3) := by decide +kernel
theorem dX7_shape_15 : decode cX7_shape 15 = .ok (.istore_n 3, 1) := by decide +kernel
theorem dX7_shape_16 : decode cX7_shape 16 = .ok (.iload_n 1, 1) := by decide +kernel
theorem dX7_shape_17 : decode cX7_shape 17 = .ok (.tableswitch 111 0 5 #[39, 53, 67, 93, 99, 105], 39) := by decide +kernel
theorem dX7_shape_56 : decode cX7_shape 56 = .ok (.iload_n 2, 1) := by decide +kernel
theorem dX7_shape_57 : decode cX7_shape 57 = .ok (.iload_n 3, 1) := by decide +kernel
theorem dX7_shape_58 : decode cX7_shape 58 = .ok (.invokestatic 84, 3) := by decide +kernel
theorem dX7_shape_61 : decode cX7_shape 61 = .ok (.ifCond .eq 7, 3) := by decide +kernel
theorem dX7_shape_64 : decode cX7_shape 64 = .ok (.iconst 1, 1) := by decide +kernel
theorem dX7_shape_65 : decode cX7_shape 65 = .ok (.goto 4, 3) := by decide +kernel
theorem dX7_shape_68 : decode cX7_shape 68 = .ok (.iconst 0, 1) := by decide +kernel
theorem dX7_shape_69 : decode cX7_shape 69 = .ok (.ireturn, 1) := by decide +kernel
theorem dX7_shape_70 : decode cX7_shape 70 = .ok (.iload_n 2, 1) := by decide +kernel
theorem dX7_shape_71 : decode cX7_shape 71 = .ok (.iload_n 3, 1) := by decide +kernel
theorem dX7_shape_72 : decode cX7_shape 72 = .ok (.invokestatic 87, 3) := by decide +kernel
theorem dX7_shape_75 : decode cX7_shape 75 = .ok (.ifCond .eq 7, 3) := by decide +kernel
theorem dX7_shape_78 : decode cX7_shape 78 = .ok (.iconst 1, 1) := by decide +kernel
theorem dX7_shape_79 : decode cX7_shape 79 = .ok (.goto 4, 3) := by decide +kernel
theorem dX7_shape_82 : decode cX7_shape 82 = .ok (.iconst 0, 1) := by decide +kernel
theorem dX7_shape_83 : decode cX7_shape 83 = .ok (.ireturn, 1) := by decide +kernel
theorem dX7_shape_84 : decode cX7_shape 84 = .ok (.iload_n 3, 1) := by decide +kernel
theorem dX7_shape_85 : decode cX7_shape 85 = .ok (.ifCond .eq 23, 3) := by decide +kernel
theorem dX7_shape_88 : decode cX7_shape 88 = .ok (.iload_n 2, 1) := by decide +kernel
theorem dX7_shape_89 : decode cX7_shape 89 = .ok (.iload_n 3, 1) := by decide +kernel
theorem dX7_shape_90 : decode cX7_shape 90 = .ok (.invokestatic 84, 3) := by decide +kernel
theorem dX7_shape_93 : decode cX7_shape 93 = .ok (.ifCond .ne 15, 3) := by decide +kernel
theorem dX7_shape_96 : decode cX7_shape 96 = .ok (.iload_n 2, 1) := by decide +kernel
theorem dX7_shape_97 : decode cX7_shape 97 = .ok (.iload_n 3, 1) := by decide +kernel
theorem dX7_shape_98 : decode cX7_shape 98 = .ok (.invokestatic 87, 3) := by decide +kernel
theorem dX7_shape_101 : decode cX7_shape 101 = .ok (.ifCond .ne 7, 3) := by decide +kernel
theorem dX7_shape_104 : decode cX7_shape 104 = .ok (.iconst 1, 1) := by decide +kernel
theorem dX7_shape_105 : decode cX7_shape 105 = .ok (.goto 4, 3) := by decide +kernel
theorem dX7_shape_108 : decode cX7_shape 108 = .ok (.iconst 0, 1) := by decide +kernel
theorem dX7_shape_109 : decode cX7_shape 109 = .ok (.ireturn, 1) := by decide +kernel
theorem dX7_shape_110 : decode cX7_shape 110 = .ok (.iload_n 2, 1) := by decide +kernel
theorem dX7_shape_111 : decode cX7_shape 111 = .ok (.iload_n 3, 1) := by decide +kernel
theorem dX7_shape_112 : decode cX7_shape 112 = .ok (.invokestatic 90, 3) := by decide +kernel
theorem dX7_shape_115 : decode cX7_shape 115 = .ok (.ireturn, 1) := by decide +kernel
theorem dX7_shape_116 : decode cX7_shape 116 = .ok (.iload_n 2, 1) := by decide +kernel
theorem dX7_shape_117 : decode cX7_shape 117 = .ok (.iload_n 3, 1) := by decide +kernel
theorem dX7_shape_118 : decode cX7_shape 118 = .ok (.invokestatic 94, 3) := by decide +kernel
theorem dX7_shape_121 : decode cX7_shape 121 = .ok (.ireturn, 1) := by decide +kernel
theorem dX7_shape_122 : decode cX7_shape 122 = .ok (.iload_n 2, 1) := by decide +kernel
theorem dX7_shape_123 : decode cX7_shape 123 = .ok (.iload_n 3, 1) := by decide +kernel
theorem dX7_shape_124 : decode cX7_shape 124 = .ok (.invokestatic 97, 3) := by decide +kernel
theorem dX7_shape_127 : decode cX7_shape 127 = .ok (.ireturn, 1) := by decide +kernel
theorem dX7_shape_128 : decode cX7_shape 128 = .ok (.bipush (-2), 2) := by decide +kernel
theorem dX7_shape_130 : decode cX7_shape 130 = .ok (.ireturn, 1) := by decide +kernel
set_option maxRecDepth 20000 in
theorem ggX7_rule_X3_append : GoodIn wsX7_rule wsX3_append := goodIn_r _ [6, 7, 8, 9, 10, 5, 11, 12, 13, 14, 15, 16, 27, 28] (by decide +kernel) (by decide +kernel)
set_option maxRecDepth 20000 in
theorem gX7_rule_X3_append : GoodIn wsX7_rule (wsV RX7 104 RX3 yX3_append wsX3_append) := goodIn_app (goodIn_of _ (by decide +kernel)) ggX7_rule_X3_append
theorem dX7_rule_0 : decode cX7_rule 0 = .ok (.iload_n 1, 1) := by decide +kernel
theorem dX7_rule_1 : decode cX7_rule 1 = .ok (.ifCond .lt 17, 3) := by decide +kernel
theorem dX7_rule_4 : decode cX7_rule 4 = .ok (.iload_n 1, 1) := by decide +kernel
theorem dX7_rule_5 : decode cX7_rule 5 = .ok (.iconst 5, 1) := by decide +kernel
theorem dX7_rule_6 : decode cX7_rule 6 = .ok (.if_icmp .gt 12, 3) := by decide +kernel
theorem dX7_rule_9 : decode cX7_rule 9 = .ok (.iload_n 2, 1) := by decide +kernel
theorem dX7_rule_10 : decode cX7_rule 10 = .ok (.ifCond .lt 8, 3) := by decide +kernel
theorem dX7_rule_13 : decode cX7_rule 13 = .ok (.iload_n 2, 1) := by decide +kernel
theorem dX7_rule_14 : decode cX7_rule 14 = .ok (.iconst 5, 1) := by decide +kernel
theorem dX7_rule_15 : decode cX7_rule 15 = .ok (.if_icmp .lt 6, 3) := by decide +kernel
theorem dX7_rule_18 : decode cX7_rule 18 = .ok (.bipush (-2), 2) := by decide +kernel
theorem dX7_rule_20 : decode cX7_rule 20 = .ok (.ireturn, 1) := by decide +kernel
theorem dX7_rule_21 : decode cX7_rule 21 = .ok (.iload_n 3, 1) := by decide +kernel
theorem dX7_rule_22 : decode cX7_rule 22 = .ok (.ifCond .lt 32, 3) := by decide +kernel
theorem dX7_rule_25 : decode cX7_rule 25 = .ok (.iload_n 3, 1) := by decide +kernel
theorem dX7_rule_26 : decode cX7_rule 26 = .ok (.iconst 2, 1) := by decide +kernel
theorem dX7_rule_27 : decode cX7_rule 27 = .ok (.if_icmp .gt 27, 3) := by decide +kernel
theorem dX7_rule_30 : decode cX7_rule 30 = .ok (.iload 4, 2) := by decide +kernel
theorem dX7_rule_32 : decode cX7_rule 32 = .ok (.iconst 1, 1) := by decide +kernel
theorem dX7_rule_33 : decode cX7_rule 33 = .ok (.if_icmp .lt 21, 3) := by decide +kernel
theorem dX7_rule_36 : decode cX7_rule 36 = .ok (.iload 4, 2) := by decide +kernel
theorem dX7_rule_38 : decode cX7_rule 38 = .ok (.bipush 10, 2) := by decide +kernel
theorem dX7_rule_40 : decode cX7_rule 40 = .ok (.if_icmp .gt 14, 3) := by decide +kernel
theorem dX7_rule_43 : decode cX7_rule 43 = .ok (.iload 5, 2) := by decide +kernel
theorem dX7_rule_45 : decode cX7_rule 45 = .ok (.ifCond .lt 9, 3) := by decide +kernel
theorem dX7_rule_48 : decode cX7_rule 48 = .ok (.iload 5, 2) := by decide +kernel
theorem dX7_rule_50 : decode cX7_rule 50 = .ok (.iconst 2, 1) := by decide +kernel
theorem dX7_rule_51 : decode cX7_rule 51 = .ok (.if_icmp .le 6, 3) := by decide +kernel
theorem dX7_rule_54 : decode cX7_rule 54 = .ok (.bipush (-2), 2) := by decide +kernel
theorem dX7_rule_56 : decode cX7_rule 56 = .ok (.ireturn, 1) := by decide +kernel
theorem dX7_rule_57 : decode cX7_rule 57 = .ok (.aload_n 0, 1) := by decide +kernel
theorem dX7_rule_58 : decode cX7_rule 58 = .ok (.getfield 10, 3) := by decide +kernel
theorem dX7_rule_61 : decode cX7_rule 61 = .ok (.getfield 100, 3) := by decide +kernel
theorem dX7_rule_64 : decode cX7_rule 64 = .ok (.iload_n 1, 1) := by decide +kernel
theorem dX7_rule_65 : decode cX7_rule 65 = .ok (.iload_n 2, 1) := by decide +kernel
theorem dX7_rule_66 : decode cX7_rule 66 = .ok (.iload_n 3, 1) := by decide +kernel
theorem dX7_rule_67 : decode cX7_rule 67 = .ok (.iload 4, 2) := by decide +kernel
theorem dX7_rule_69 : decode cX7_rule 69 = .ok (.iload 5, 2) := by decide +kernel
theorem dX7_rule_71 : decode cX7_rule 71 = .ok (.invokevirtual 104, 3) := by decide +kernel
theorem dX7_rule_74 : decode cX7_rule 74 = .ok (.ireturn, 1) := by decide +kernel
set_option maxRecDepth 20000 in
theorem ggX7_whom_X3_has : GoodIn wsX7_whom wsX3_has := goodIn_r _ [6, 7, 28, 29] (by decide +kernel) (by decide +kernel)
set_option maxRecDepth 20000 in
theorem gX7_whom_X3_has : GoodIn wsX7_whom (wsV RX7 110 RX3 yX3_has wsX3_has) := goodIn_app (goodIn_of _ (by decide +kernel)) ggX7_whom_X3_has
set_option maxRecDepth 20000 in
theorem ggX7_whom_X3_part : GoodIn wsX7_whom wsX3_part := goodIn_r _ [11, 12, 13, 3, 4, 5, 6, 7, 28, 29] (by decide +kernel) (by decide +kernel)
set_option maxRecDepth 20000 in
theorem gX7_whom_X3_part : GoodIn wsX7_whom (wsV RX7 112 RX3 yX3_part wsX3_part) := goodIn_app (goodIn_of _ (by decide +kernel)) ggX7_whom_X3_part
set_option maxRecDepth 20000 in
theorem ggX7_whom_X3_setPart : GoodIn wsX7_whom wsX3_setPart := goodIn_r _ [17, 12, 13, 3, 4, 5, 6, 7, 28, 29] (by decide +kernel) (by decide +kernel)
set_option maxRecDepth 20000 in
theorem gX7_whom_X3_setPart : GoodIn wsX7_whom (wsV RX7 115 RX3 yX3_setPart wsX3_setPart) := goodIn_app (goodIn_of _ (by decide +kernel)) ggX7_whom_X3_setPart
theorem dX7_whom_0 : decode cX7_whom 0 = .ok (.aload_n 0, 1) := by decide +kernel
theorem dX7_whom_1 : decode cX7_whom 1 = .ok (.getfield 10, 3) := by decide +kernel
theorem dX7_whom_4 : decode cX7_whom 4 = .ok (.getfield 100, 3) := by decide +kernel
theorem dX7_whom_7 : decode cX7_whom 7 = .ok (.iload_n 1, 1) := by decide +kernel
theorem dX7_whom_8 : decode cX7_whom 8 = .ok (.invokevirtual 110, 3) := by decide +kernel
theorem dX7_whom_11 : decode cX7_whom 11 = .ok (.ifCond .ne 5, 3) := by decide +kernel
theorem dX7_whom_14 : decode cX7_whom 14 = .ok (.iconst (-1), 1) := by decide +kernel
theorem dX7_whom_15 : decode cX7_whom 15 = .ok (.ireturn, 1) := by decide +kernel
theorem dX7_whom_16 : decode cX7_whom 16 = .ok (.iload_n 2, 1) := by decide +kernel
theorem dX7_whom_17 : decode cX7_whom 17 = .ok (.ifCond .lt 8, 3) := by decide +kernel
theorem dX7_whom_20 : decode cX7_whom 20 = .ok (.iload_n 2, 1) := by decide +kernel
theorem dX7_whom_21 : decode cX7_whom 21 = .ok (.iconst 2, 1) := by decide +kernel
theorem dX7_whom_22 : decode cX7_whom 22 = .ok (.if_icmp .le 6, 3) := by decide +kernel
theorem dX7_whom_25 : decode cX7_whom 25 = .ok (.bipush (-2), 2) := by decide +kernel
theorem dX7_whom_27 : decode cX7_whom 27 = .ok (.ireturn, 1) := by decide +kernel
theorem dX7_whom_28 : decode cX7_whom 28 = .ok (.aload_n 0, 1) := by decide +kernel
theorem dX7_whom_29 : decode cX7_whom 29 = .ok (.getfield 10, 3) := by decide +kernel
theorem dX7_whom_32 : decode cX7_whom 32 = .ok (.getfield 100, 3) := by decide +kernel
theorem dX7_whom_35 : decode cX7_whom 35 = .ok (.iload_n 1, 1) := by decide +kernel
theorem dX7_whom_36 : decode cX7_whom 36 = .ok (.iconst 5, 1) := by decide +kernel
theorem dX7_whom_37 : decode cX7_whom 37 = .ok (.invokevirtual 112, 3) := by decide +kernel
theorem dX7_whom_40 : decode cX7_whom 40 = .ok (.istore_n 3, 1) := by decide +kernel
theorem dX7_whom_41 : decode cX7_whom 41 = .ok (.aload_n 0, 1) := by decide +kernel
theorem dX7_whom_42 : decode cX7_whom 42 = .ok (.getfield 10, 3) := by decide +kernel
theorem dX7_whom_45 : decode cX7_whom 45 = .ok (.getfield 100, 3) := by decide +kernel
theorem dX7_whom_48 : decode cX7_whom 48 = .ok (.iload_n 1, 1) := by decide +kernel
theorem dX7_whom_49 : decode cX7_whom 49 = .ok (.iconst 5, 1) := by decide +kernel
theorem dX7_whom_50 : decode cX7_whom 50 = .ok (.iload_n 2, 1) := by decide +kernel
theorem dX7_whom_51 : decode cX7_whom 51 = .ok (.invokevirtual 115, 3) := by decide +kernel
theorem dX7_whom_54 : decode cX7_whom 54 = .ok (.iload_n 3, 1) := by decide +kernel
theorem dX7_whom_55 : decode cX7_whom 55 = .ok (.ireturn, 1) := by decide +kernel
set_option maxRecDepth 20000 in
theorem ggX7_drop_X3_has : GoodIn wsX7_drop wsX3_has := goodIn_r _ [6, 7, 24, 25] (by decide +kernel) (by decide +kernel)
set_option maxRecDepth 20000 in
theorem gX7_drop_X3_has : GoodIn wsX7_drop (wsV RX7 110 RX3 yX3_has wsX3_has) := goodIn_app (goodIn_of _ (by decide +kernel)) ggX7_drop_X3_has
set_option maxRecDepth 20000 in
theorem ggX7_drop_X3_remove : GoodIn wsX7_drop wsX3_remove := goodIn_r _ [11, 7, 12, 13, 3, 4, 5, 6, 24, 25] (by decide +kernel) (by decide +kernel)
set_option maxRecDepth 20000 in
theorem gX7_drop_X3_remove : GoodIn wsX7_drop (wsV RX7 119 RX3 yX3_remove wsX3_remove) := goodIn_app (goodIn_of _ (by decide +kernel)) ggX7_drop_X3_remove
theorem dX7_drop_0 : decode cX7_drop 0 = .ok (.aload_n 0, 1) := by decide +kernel
theorem dX7_drop_1 : decode cX7_drop 1 = .ok (.getfield 10, 3) := by decide +kernel
theorem dX7_drop_4 : decode cX7_drop 4 = .ok (.getfield 100, 3) := by decide +kernel
theorem dX7_drop_7 : decode cX7_drop 7 = .ok (.iload_n 1, 1) := by decide +kernel
theorem dX7_drop_8 : decode cX7_drop 8 = .ok (.invokevirtual 110, 3) := by decide +kernel
theorem dX7_drop_11 : decode cX7_drop 11 = .ok (.ifCond .ne 5, 3) := by decide +kernel
theorem dX7_drop_14 : decode cX7_drop 14 = .ok (.iconst (-1), 1) := by decide +kernel
theorem dX7_drop_15 : decode cX7_drop 15 = .ok (.ireturn, 1) := by decide +kernel
theorem dX7_drop_16 : decode cX7_drop 16 = .ok (.aload_n 0, 1) := by decide +kernel
theorem dX7_drop_17 : decode cX7_drop 17 = .ok (.getfield 10, 3) := by decide +kernel
theorem dX7_drop_20 : decode cX7_drop 20 = .ok (.getfield 100, 3) := by decide +kernel
theorem dX7_drop_23 : decode cX7_drop 23 = .ok (.iload_n 1, 1) := by decide +kernel
theorem dX7_drop_24 : decode cX7_drop 24 = .ok (.invokevirtual 119, 3) := by decide +kernel
theorem dX7_drop_27 : decode cX7_drop 27 = .ok (.aload_n 0, 1) := by decide +kernel
theorem dX7_drop_28 : decode cX7_drop 28 = .ok (.getfield 10, 3) := by decide +kernel
theorem dX7_drop_31 : decode cX7_drop 31 = .ok (.getfield 100, 3) := by decide +kernel
theorem dX7_drop_34 : decode cX7_drop 34 = .ok (.getfield 122, 3) := by decide +kernel
theorem dX7_drop_37 : decode cX7_drop 37 = .ok (.ireturn, 1) := by decide +kernel
set_option maxRecDepth 20000 in
theorem ggX7_of_X3_has : GoodIn wsX7_of wsX3_has := goodIn_r _ [6, 7, 24, 25] (by decide +kernel) (by decide +kernel)
set_option maxRecDepth 20000 in
theorem gX7_of_X3_has : GoodIn wsX7_of (wsV RX7 110 RX3 yX3_has wsX3_has) := goodIn_app (goodIn_of _ (by decide +kernel)) ggX7_of_X3_has
set_option maxRecDepth 20000 in
theorem ggX7_of_X3_part : GoodIn wsX7_of wsX3_part := goodIn_r _ [11, 12, 13, 3, 4, 5, 6, 7, 24, 25] (by decide +kernel) (by decide +kernel)
set_option maxRecDepth 20000 in
theorem gX7_of_X3_part : GoodIn wsX7_of (wsV RX7 112 RX3 yX3_part wsX3_part) := goodIn_app (goodIn_of _ (by decide +kernel)) ggX7_of_X3_part
theorem dX7_of_0 : decode cX7_of 0 = .ok (.aload_n 0, 1) := by decide +kernel
theorem dX7_of_1 : decode cX7_of 1 = .ok (.getfield 10, 3) := by decide +kernel
theorem dX7_of_4 : decode cX7_of 4 = .ok (.getfield 100, 3) := by decide +kernel
theorem dX7_of_7 : decode cX7_of 7 = .ok (.iload_n 1, 1) := by decide +kernel
theorem dX7_of_8 : decode cX7_of 8 = .ok (.invokevirtual 110, 3) := by decide +kernel
theorem dX7_of_11 : decode cX7_of 11 = .ok (.ifCond .ne 5, 3) := by decide +kernel
theorem dX7_of_14 : decode cX7_of 14 = .ok (.iconst (-1), 1) := by decide +kernel
theorem dX7_of_15 : decode cX7_of 15 = .ok (.ireturn, 1) := by decide +kernel
theorem dX7_of_16 : decode cX7_of 16 = .ok (.iload_n 2, 1) := by decide +kernel
theorem dX7_of_17 : decode cX7_of 17 = .ok (.ifCond .lt 9, 3) := by decide +kernel
theorem dX7_of_20 : decode cX7_of 20 = .ok (.iload_n 2, 1) := by decide +kernel
theorem dX7_of_21 : decode cX7_of 21 = .ok (.bipush 6, 2) := by decide +kernel
theorem dX7_of_23 : decode cX7_of 23 = .ok (.if_icmp .lt 6, 3) := by decide +kernel
theorem dX7_of_26 : decode cX7_of 26 = .ok (.bipush (-2), 2) := by decide +kernel
theorem dX7_of_28 : decode cX7_of 28 = .ok (.ireturn, 1) := by decide +kernel
theorem dX7_of_29 : decode cX7_of 29 = .ok (.aload_n 0, 1) := by decide +kernel
theorem dX7_of_30 : decode cX7_of 30 = .ok (.getfield 10, 3) := by decide +kernel
theorem dX7_of_33 : decode cX7_of 33 = .ok (.getfield 100, 3) := by decide +kernel
theorem dX7_of_36 : decode cX7_of 36 = .ok (.iload_n 1, 1) := by decide +kernel
theorem dX7_of_37 : decode cX7_of 37 = .ok (.iload_n 2, 1) := by decide +kernel
theorem dX7_of_38 : decode cX7_of 38 = .ok (.invokevirtual 112, 3) := by decide +kernel
theorem dX7_of_41 : decode cX7_of 41 = .ok (.ireturn, 1) := by decide +kernel
set_option maxRecDepth 20000 in
theorem ggX7_does_X4_stands : GoodIn wsX7_does wsX4_stands := goodIn_r _ [7, 8, 9, 10, 6, 11, 12, 13, 14, 15, 16, 17, 18, 19, 20, 21, 102, 103, 104] (by decide +kernel) (by decide +kernel)
set_option maxRecDepth 20000 in
theorem gX7_does_X4_stands : GoodIn wsX7_does (wsV RX7 57 RX4 yX4_stands wsX4_stands) := goodIn_app (goodIn_of _ (by decide +kernel)) ggX7_does_X4_stands
set_option maxRecDepth 20000 in
theorem ggX7_does_X5_has : GoodIn wsX7_does wsX5_has := goodIn_r _ [25] (by decide +kernel) (by decide +kernel)
set_option maxRecDepth 20000 in
theorem gX7_does_X5_has : GoodIn wsX7_does (va_wsS RX7 60 yX5_has wsX5_has) := goodIn_app (goodIn_of _ (by decide +kernel)) ggX7_does_X5_has
set_option maxRecDepth 20000 in
theorem ggX7_does_X4_towers : GoodIn wsX7_does wsX4_towers := goodIn_r _ [29, 8, 9, 10, 6, 11, 12, 13, 14, 15, 16, 17, 18, 19, 20, 21, 102, 103, 104] (by decide +kernel) (by decide +kernel)
set_option maxRecDepth 20000 in
theorem gX7_does_X4_towers : GoodIn wsX7_does (wsV RX7 125 RX4 yX4_towers wsX4_towers) := goodIn_app (goodIn_of _ (by decide +kernel)) ggX7_does_X4_towers
set_option maxRecDepth 20000 in
theorem ggX7_does_X1_from : GoodIn wsX7_does wsX1_from := goodIn_r _ [34, 35, 36, 37, 38, 39, 40, 41, 42, 43, 44, 45, 46, 47, 48, 49, 24, 50, 51, 23, 25, 52, 53, 54, 55, 56, 57, 58, 59, 60, 61, 62, 63, 64, 65, 66, 67, 68, 69, 70, 71, 72, 73, 74, 75, 76, 77, 78, 79, 80, 81, 82, 83, 84, 85, 86, 87, 88, 33, 89, 90, 91, 92, 93, 94, 105, 106, 107, 108, 109, 110, 111] (by decide +kernel) (by decide +kernel)
set_option maxRecDepth 20000 in
theorem gX7_does_X1_from : GoodIn wsX7_does (wsV RX7 128 RX1 yX1_from wsX1_from) := goodIn_app (goodIn_of _ (by decide +kernel)) ggX7_does_X1_from
theorem dX7_does_0 : decode cX7_does 0 = .ok (.aload_n 0, 1) := by decide +kernel
theorem dX7_does_1 : decode cX7_does 1 = .ok (.getfield 10, 3) := by decide +kernel
theorem dX7_does_4 : decode cX7_does 4 = .ok (.invokevirtual 57, 3) := by decide +kernel
theorem dX7_does_7 : decode cX7_does 7 = .ok (.istore_n 3, 1) := by decide +kernel
theorem dX7_does_8 : decode cX7_does 8 = .ok (.iload_n 3, 1) := by decide +kernel
theorem dX7_does_9 : decode cX7_does 9 = .ok (.iload_n 1, 1) := by decide +kernel
theorem dX7_does_10 : decode cX7_does 10 = .ok (.invokestatic 60, 3) := by decide +kernel
theorem dX7_does_13 : decode cX7_does 13 = .ok (.ifCond .ne 5, 3) := by decide +kernel
theorem dX7_does_16 : decode cX7_does 16 = .ok (.iconst (-1), 1) := by decide +kernel
theorem dX7_does_17 : decode cX7_does 17 = .ok (.ireturn, 1) := by decide +kernel
theorem dX7_does_18 : decode cX7_does 18 = .ok (.aload_n 0, 1) := by decide +kernel
theorem dX7_does_19 : decode cX7_does 19 = .ok (.getfield 25, 3) := by decide +kernel
theorem dX7_does_22 : decode cX7_does 22 = .ok (.aload_n 0, 1) := by decide +kernel
theorem dX7_does_23 : decode cX7_does 23 = .ok (.getfield 10, 3) := by decide +kernel
theorem dX7_does_26 : decode cX7_does 26 = .ok (.getfield 100, 3) := by decide +kernel
theorem dX7_does_29 : decode cX7_does 29 = .ok (.aload_n 0, 1) := by decide +kernel
theorem dX7_does_30 : decode cX7_does 30 = .ok (.getfield 10, 3) := by decide +kernel
theorem dX7_does_33 : decode cX7_does 33 = .ok (.getfield 33, 3) := by decide +kernel
theorem dX7_does_36 : decode cX7_does 36 = .ok (.iload_n 3, 1) := by decide +kernel
theorem dX7_does_37 : decode cX7_does 37 = .ok (.aload_n 0, 1) := by decide +kernel
theorem dX7_does_38 : decode cX7_does 38 = .ok (.getfield 10, 3) := by decide +kernel
theorem dX7_does_41 : decode cX7_does 41 = .ok (.invokevirtual 125, 3) := by decide +kernel
theorem dX7_does_44 : decode cX7_does 44 = .ok (.iload_n 1, 1) := by decide +kernel
theorem dX7_does_45 : decode cX7_does 45 = .ok (.invokevirtual 128, 3) := by decide +kernel
theorem dX7_does_48 : decode cX7_does 48 = .ok (.iload_n 2, 1) := by decide +kernel
theorem dX7_does_49 : decode cX7_does 49 = .ok (.tableswitch 91 0 4 #[35, 51, 67, 75, 83], 35) := by decide +kernel
theorem dX7_does_84 : decode cX7_does 84 = .ok (.aload_n 0, 1) := by decide +kernel
theorem dX7_does_85 : decode cX7_does 85 = .ok (.getfield 25, 3) := by decide +kernel
theorem dX7_does_88 : decode cX7_does 88 = .ok (.getfield 132, 3) := by decide +kernel
theorem dX7_does_91 : decode cX7_does 91 = .ok (.ifCond .ne 7, 3) := by decide +kernel
theorem dX7_does_94 : decode cX7_does 94 = .ok (.iconst 1, 1) := by decide +kernel
theorem dX7_does_95 : decode cX7_does 95 = .ok (.goto 4, 3) := by decide +kernel
theorem dX7_does_98 : decode cX7_does 98 = .ok (.iconst 0, 1) := by decide +kernel
theorem dX7_does_99 : decode cX7_does 99 = .ok (.ireturn, 1) := by decide +kernel
theorem dX7_does_100 : decode cX7_does 100 = .ok (.aload_n 0, 1) := by decide +kernel
theorem dX7_does_101 : decode cX7_does 101 = .ok (.getfield 25, 3) := by decide +kernel
theorem dX7_does_104 : decode cX7_does 104 = .ok (.getfield 135, 3) := by decide +kernel
theorem dX7_does_107 : decode cX7_does 107 = .ok (.ifCond .eq 7, 3) := by decide +kernel
theorem dX7_does_110 : decode cX7_does 110 = .ok (.iconst 1, 1) := by decide +kernel
theorem dX7_does_111 : decode cX7_does 111 = .ok (.goto 4, 3) := by decide +kernel
theorem dX7_does_114 : decode cX7_does 114 = .ok (.iconst 0, 1) := by decide +kernel
theorem dX7_does_115 : decode cX7_does 115 = .ok (.ireturn, 1) := by decide +kernel
theorem dX7_does_116 : decode cX7_does 116 = .ok (.aload_n 0, 1) := by decide +kernel
theorem dX7_does_117 : decode cX7_does 117 = .ok (.getfield 25, 3) := by decide +kernel
theorem dX7_does_120 : decode cX7_does 120 = .ok (.getfield 139, 3) := by decide +kernel
theorem dX7_does_123 : decode cX7_does 123 = .ok (.ireturn, 1) := by decide +kernel
theorem dX7_does_124 : decode cX7_does 124 = .ok (.aload_n 0, 1) := by decide +kernel
theorem dX7_does_125 : decode cX7_does 125 = .ok (.getfield 25, 3) := by decide +kernel
theorem dX7_does_128 : decode cX7_does 128 = .ok (.getfield 142, 3) := by decide +kernel
theorem dX7_does_131 : decode cX7_does 131 = .ok (.ireturn, 1) := by decide +kernel
theorem dX7_does_132 : decode cX7_does 132 = .ok (.aload_n 0, 1) := by decide +kernel
theorem dX7_does_133 : decode cX7_does 133 = .ok (.getfield 25, 3) := by decide +kernel
theorem dX7_does_136 : decode cX7_does 136 = .ok (.getfield 145, 3) := by decide +kernel
theorem dX7_does_139 : decode cX7_does 139 = .ok (.ireturn, 1) := by decide +kernel
theorem dX7_does_140 : decode cX7_does 140 = .ok (.bipush (-2), 2) := by decide +kernel
theorem dX7_does_142 : decode cX7_does 142 = .ok (.ireturn, 1) := by decide +kernel
set_option maxRecDepth 20000 in
theorem ggX7_step_X4_stands : GoodIn wsX7_step wsX4_stands := goodIn_r _ [8, 9, 10, 11, 7, 12, 13, 14, 15, 16, 17, 18, 19, 20, 21, 22, 109, 110, 111] (by decide +kernel) (by decide +kernel)
set_option maxRecDepth 20000 in
theorem gX7_step_X4_stands : GoodIn wsX7_step (wsV RX7 57 RX4 yX4_stands wsX4_stands) := goodIn_app (goodIn_of _ (by decide +kernel)) ggX7_step_X4_stands
set_option maxRecDepth 20000 in
theorem ggX7_step_X4_towers : GoodIn wsX7_step wsX4_towers := goodIn_r _ [26, 9, 10, 11, 7, 12, 13, 14, 15, 16, 17, 18, 19, 20, 21, 22, 109, 110, 111] (by decide +kernel) (by decide +kernel)
set_option maxRecDepth 20000 in
theorem gX7_step_X4_towers : GoodIn wsX7_step (wsV RX7 125 RX4 yX4_towers wsX4_towers) := goodIn_app (goodIn_of _ (by decide +kernel)) ggX7_step_X4_towers
set_option maxRecDepth 20000 in
theorem ggX7_step_X5_has : GoodIn wsX7_step wsX5_has := goodIn_r _ [30] (by decide +kernel) (by decide +kernel)
set_option maxRecDepth 20000 in
theorem gX7_step_X5_has : GoodIn wsX7_step (va_wsS RX7 60 yX5_has wsX5_has) := goodIn_app (goodIn_of _ (by decide +kernel)) ggX7_step_X5_has
set_option maxRecDepth 20000 in
theorem ggX7_step_X1_from : GoodIn wsX7_step wsX1_from := goodIn_r _ [35, 36, 37, 38, 39, 40, 41, 42, 43, 44, 45, 46, 47, 48, 49, 50, 29, 51, 52, 28, 30, 53, 54, 55, 56, 57, 58, 59, 60, 61, 62, 63, 64, 65, 66, 67, 68, 69, 70, 71, 72, 73, 74, 75, 76, 77, 78, 79, 80, 81, 82, 83, 84, 85, 86, 87, 88, 89, 34, 90, 91, 92, 93, 94, 95, 112, 113, 114, 115, 116, 117, 118] (by decide +kernel) (by decide +kernel)
set_option maxRecDepth 20000 in
theorem gX7_step_X1_from : GoodIn wsX7_step (wsV RX7 128 RX1 yX1_from wsX1_from) := goodIn_app (goodIn_of _ (by decide +kernel)) ggX7_step_X1_from
set_option maxRecDepth 20000 in
theorem ggX7_step_X4_walkersOn : GoodIn wsX7_step wsX4_walkersOn := goodIn_r _ [17, 18, 19, 20, 21, 7, 22, 13, 109, 110, 111] (by decide +kernel) (by decide +kernel)
set_option maxRecDepth 20000 in
theorem gX7_step_X4_walkersOn : GoodIn wsX7_step (wsV RX7 45 RX4 yX4_walkersOn wsX4_walkersOn) := goodIn_app (goodIn_of _ (by decide +kernel)) ggX7_step_X4_walkersOn
set_option maxRecDepth 20000 in
theorem ggX7_step_X4_put : GoodIn wsX7_step wsX4_put := goodIn_r _ [100, 18, 19, 20, 21, 7, 22, 13, 109, 110, 111] (by decide +kernel) (by decide +kernel)
set_option maxRecDepth 20000 in
theorem gX7_step_X4_put : GoodIn wsX7_step (wsV RX7 53 RX4 yX4_put wsX4_put) := goodIn_app (goodIn_of _ (by decide +kernel)) ggX7_step_X4_put
set_option maxRecDepth 20000 in
theorem ggX7_step_J6_bitCount_0f7a4 : GoodIn wsX7_step wsJ6_bitCount_0f7a4 := goodIn_r _ [57, 58, 59, 60] (by decide +kernel) (by decide +kernel)
set_option maxRecDepth 20000 in
theorem gX7_step_J6_bitCount_0f7a4 : GoodIn wsX7_step (va_wsS RX7 66 yJ6_bitCount_0f7a4 wsJ6_bitCount_0f7a4) := goodIn_app (goodIn_of _ (by decide +kernel)) ggX7_step_J6_bitCount_0f7a4
theorem dX7_step_0 : decode cX7_step 0 = .ok (.aload_n 0, 1) := by decide +kernel
theorem dX7_step_1 : decode cX7_step 1 = .ok (.getfield 10, 3) := by decide +kernel
theorem dX7_step_4 : decode cX7_step 4 = .ok (.invokevirtual 57, 3) := by decide +kernel
theorem dX7_step_7 : decode cX7_step 7 = .ok (.istore_n 2, 1) := by decide +kernel
theorem dX7_step_8 : decode cX7_step 8 = .ok (.iload_n 1, 1) := by decide +kernel
theorem dX7_step_9 : decode cX7_step 9 = .ok (.iload_n 2, 1) := by decide +kernel
theorem dX7_step_10 : decode cX7_step 10 = .ok (.iconst (-1), 1) := by decide +kernel
theorem dX7_step_11 : decode cX7_step 11 = .ok (.ixor, 1) := by decide +kernel
theorem dX7_step_12 : decode cX7_step 12 = .ok (.iand, 1) := by decide +kernel
theorem dX7_step_13 : decode cX7_step 13 = .ok (.ifCond .eq 6, 3) := by decide +kernel
theorem dX7_step_16 : decode cX7_step 16 = .ok (.bipush (-2), 2) := by decide +kernel
theorem dX7_step_18 : decode cX7_step 18 = .ok (.ireturn, 1) := by decide +kernel
theorem dX7_step_19 : decode cX7_step 19 = .ok (.aload_n 0, 1) := by decide +kernel
theorem dX7_step_20 : decode cX7_step 20 = .ok (.getfield 10, 3) := by decide +kernel
theorem dX7_step_23 : decode cX7_step 23 = .ok (.invokevirtual 125, 3) := by decide +kernel
theorem dX7_step_26 : decode cX7_step 26 = .ok (.istore_n 3, 1) := by decide +kernel
theorem dX7_step_27 : decode cX7_step 27 = .ok (.iconst 0, 1) := by decide +kernel
theorem dX7_step_28 : decode cX7_step 28 = .ok (.istore 4, 2) := by decide +kernel
theorem dX7_step_30 : decode cX7_step 30 = .ok (.iload 4, 2) := by decide +kernel
theorem dX7_step_32 : decode cX7_step 32 = .ok (.bipush 10, 2) := by decide +kernel
theorem dX7_step_34 : decode cX7_step 34 = .ok (.if_icmp .ge 17, 3) := by decide +kernel
theorem dX7_step_37 : decode cX7_step 37 = .ok (.aload_n 0, 1) := by decide +kernel
theorem dX7_step_38 : decode cX7_step 38 = .ok (.getfield 29, 3) := by decide +kernel
theorem dX7_step_41 : decode cX7_step 41 = .ok (.iload 4, 2) := by decide +kernel
theorem dX7_step_43 : decode cX7_step 43 = .ok (.iconst 0, 1) := by decide +kernel
theorem dX7_step_44 : decode cX7_step 44 = .ok (.iastore, 1) := by decide +kernel
theorem dX7_step_45 : decode cX7_step 45 = .ok (.iinc 4 1, 3) := by decide +kernel
theorem dX7_step_48 : decode cX7_step 48 = .ok (.goto (-18), 3) := by decide +kernel
theorem dX7_step_51 : decode cX7_step 51 = .ok (.iconst 0, 1) := by decide +kernel
theorem dX7_step_52 : decode cX7_step 52 = .ok (.istore 4, 2) := by decide +kernel
theorem dX7_step_54 : decode cX7_step 54 = .ok (.iload 4, 2) := by decide +kernel
theorem dX7_step_56 : decode cX7_step 56 = .ok (.bipush 10, 2) := by decide +kernel
theorem dX7_step_58 : decode cX7_step 58 = .ok (.if_icmp .ge 87, 3) := by decide +kernel
theorem dX7_step_61 : decode cX7_step 61 = .ok (.iload 4, 2) := by decide +kernel
theorem dX7_step_63 : decode cX7_step 63 = .ok (.istore 5, 2) := by decide +kernel
theorem dX7_step_65 : decode cX7_step 65 = .ok (.iload_n 1, 1) := by decide +kernel
theorem dX7_step_66 : decode cX7_step 66 = .ok (.iload 4, 2) := by decide +kernel
theorem dX7_step_68 : decode cX7_step 68 = .ok (.invokestatic 60, 3) := by decide +kernel
theorem dX7_step_71 : decode cX7_step 71 = .ok (.ifCond .eq 37, 3) := by decide +kernel
theorem dX7_step_74 : decode cX7_step 74 = .ok (.aload_n 0, 1) := by decide +kernel
theorem dX7_step_75 : decode cX7_step 75 = .ok (.getfield 25, 3) := by decide +kernel
theorem dX7_step_78 : decode cX7_step 78 = .ok (.aload_n 0, 1) := by decide +kernel
theorem dX7_step_79 : decode cX7_step 79 = .ok (.getfield 10, 3) := by decide +kernel
theorem dX7_step_82 : decode cX7_step 82 = .ok (.getfield 100, 3) := by decide +kernel
theorem dX7_step_85 : decode cX7_step 85 = .ok (.aload_n 0, 1) := by decide +kernel
theorem dX7_step_86 : decode cX7_step 86 = .ok (.getfield 10, 3) := by decide +kernel
theorem dX7_step_89 : decode cX7_step 89 = .ok (.getfield 33, 3) := by decide +kernel
theorem dX7_step_92 : decode cX7_step 92 = .ok (.iload_n 2, 1) := by decide +kernel
theorem dX7_step_93 : decode cX7_step 93 = .ok (.iload_n 3, 1) := by decide +kernel
theorem dX7_step_94 : decode cX7_step 94 = .ok (.iload 4, 2) := by decide +kernel
theorem dX7_step_96 : decode cX7_step 96 = .ok (.invokevirtual 128, 3) := by decide +kernel
theorem dX7_step_99 : decode cX7_step 99 = .ok (.aload_n 0, 1) := by decide +kernel
theorem dX7_step_100 : decode cX7_step 100 = .ok (.getfield 25, 3) := by decide +kernel
theorem dX7_step_103 : decode cX7_step 103 = .ok (.getfield 145, 3) := by decide +kernel
theorem dX7_step_106 : decode cX7_step 106 = .ok (.istore 5, 2) := by decide +kernel
theorem dX7_step_108 : decode cX7_step 108 = .ok (.iload 5, 2) := by decide +kernel
theorem dX7_step_110 : decode cX7_step 110 = .ok (.ifCond .lt 29, 3) := by decide +kernel
theorem dX7_step_113 : decode cX7_step 113 = .ok (.iload 5, 2) := by decide +kernel
theorem dX7_step_115 : decode cX7_step 115 = .ok (.bipush 10, 2) := by decide +kernel
theorem dX7_step_117 : decode cX7_step 117 = .ok (.if_icmp .ge 22, 3) := by decide +kernel
theorem dX7_step_120 : decode cX7_step 120 = .ok (.aload_n 0, 1) := by decide +kernel
theorem dX7_step_121 : decode cX7_step 121 = .ok (.getfield 29, 3) := by decide +kernel
theorem dX7_step_124 : decode cX7_step 124 = .ok (.iload 5, 2) := by decide +kernel
theorem dX7_step_126 : decode cX7_step 126 = .ok (.dup2, 1) := by decide +kernel
theorem dX7_step_127 : decode cX7_step 127 = .ok (.iaload, 1) := by decide +kernel
theorem dX7_step_128 : decode cX7_step 128 = .ok (.aload_n 0, 1) := by decide +kernel
theorem dX7_step_129 : decode cX7_step 129 = .ok (.getfield 10, 3) := by decide +kernel
theorem dX7_step_132 : decode cX7_step 132 = .ok (.iload 4, 2) := by decide +kernel
theorem dX7_step_134 : decode cX7_step 134 = .ok (.invokevirtual 45, 3) := by decide +kernel
theorem dX7_step_137 : decode cX7_step 137 = .ok (.iadd, 1) := by decide +kernel
theorem dX7_step_138 : decode cX7_step 138 = .ok (.iastore, 1) := by decide +kernel
theorem dX7_step_139 : decode cX7_step 139 = .ok (.iinc 4 1, 3) := by decide +kernel
theorem dX7_step_142 : decode cX7_step 142 = .ok (.goto (-88), 3) := by decide +kernel
theorem dX7_step_145 : decode cX7_step 145 = .ok (.iconst 0, 1) := by decide +kernel
theorem dX7_step_146 : decode cX7_step 146 = .ok (.istore 4, 2) := by decide +kernel
theorem dX7_step_148 : decode cX7_step 148 = .ok (.iload 4, 2) := by decide +kernel
theorem dX7_step_150 : decode cX7_step 150 = .ok (.bipush 10, 2) := by decide +kernel
theorem dX7_step_152 : decode cX7_step 152 = .ok (.if_icmp .ge 25, 3) := by decide +kernel
theorem dX7_step_155 : decode cX7_step 155 = .ok (.aload_n 0, 1) := by decide +kernel
theorem dX7_step_156 : decode cX7_step 156 = .ok (.getfield 10, 3) := by decide +kernel
theorem dX7_step_159 : decode cX7_step 159 = .ok (.iload 4, 2) := by decide +kernel
theorem dX7_step_161 : decode cX7_step 161 = .ok (.aload_n 0, 1) := by decide +kernel
theorem dX7_step_162 : decode cX7_step 162 = .ok (.getfield 29, 3) := by decide +kernel
theorem dX7_step_165 : decode cX7_step 165 = .ok (.iload 4, 2) := by decide +kernel
theorem dX7_step_167 : decode cX7_step 167 = .ok (.iaload, 1) := by decide +kernel
theorem dX7_step_168 : decode cX7_step 168 = .ok (.invokevirtual 53, 3) := by decide +kernel
theorem dX7_step_171 : decode cX7_step 171 = .ok (.iinc 4 1, 3) := by decide +kernel
theorem dX7_step_174 : decode cX7_step 174 = .ok (.goto (-26), 3) := by decide +kernel
theorem dX7_step_177 : decode cX7_step 177 = .ok (.aload_n 0, 1) := by decide +kernel
theorem dX7_step_178 : decode cX7_step 178 = .ok (.getfield 10, 3) := by decide +kernel
theorem dX7_step_181 : decode cX7_step 181 = .ok (.invokevirtual 57, 3) := by decide +kernel
theorem dX7_step_184 : decode cX7_step 184 = .ok (.invokestatic 66, 3) := by decide +kernel
theorem dX7_step_187 : decode cX7_step 187 = .ok (.ireturn, 1) := by decide +kernel
set_option maxRecDepth 20000 in
theorem ggX7_meets_X7_refusalFromNow : GoodIn wsX7_meets wsX7_refusalFromNow := goodIn_r _ [5, 6, 7, 8, 4, 9, 10, 11, 12, 13, 14, 15, 16, 17, 18, 19, 20, 21, 22, 23, 24, 25, 26, 27, 28, 291, 292, 293, 294, 295, 296, 297, 298, 299, 300] (by decide +kernel) (by decide +kernel)
set_option maxRecDepth 20000 in
theorem gX7_meets_X7_refusalFromNow : GoodIn wsX7_meets (wsV RX7 148 RX7 yX7_refusalFromNow wsX7_refusalFromNow) := goodIn_app (goodIn_of _ (by decide +kernel)) ggX7_meets_X7_refusalFromNow
set_option maxRecDepth 20000 in
theorem ggX7_meets_X7_walksFromNow : GoodIn wsX7_meets wsX7_walksFromNow := goodIn_r _ [32, 6, 33, 34, 35, 4, 36, 37, 38, 39, 40, 41, 42, 43, 44, 45, 46, 47, 48, 49, 50, 51, 52, 53, 54, 55, 56, 57, 58, 59, 60, 61, 62, 63, 64, 65, 66, 67, 68, 69, 70, 71, 72, 73, 74, 75, 76, 77, 78, 79, 80, 81, 82, 83, 10, 11, 12, 13, 14, 15, 16, 17, 18, 19, 20, 21, 22, 23, 24, 25, 26, 27, 28, 84, 85, 86, 87, 88, 89, 90, 91, 92, 93, 94, 95, 96, 97, 98, 99, 100, 101, 102, 103, 104, 105, 106, 291, 292, 293, 294, 295, 296, 297, 271, 272, 273, 274, 275, 276, 277, 278, 279, 280, 281, 282, 283, 284, 285, 286, 287, 288, 289, 290, 298, 299, 300, 301, 302, 303, 304, 305, 306, 307, 308, 309] (by decide +kernel) (by decide +kernel)
set_option maxRecDepth 20000 in
theorem gX7_meets_X7_walksFromNow : GoodIn wsX7_meets (wsV RX7 151 RX7 yX7_walksFromNow wsX7_walksFromNow) := goodIn_app (goodIn_of _ (by decide +kernel)) ggX7_meets_X7_walksFromNow
set_option maxRecDepth 20000 in
theorem ggX7_meets_X6_walk : GoodIn wsX7_meets wsX6_walk := goodIn_r _ [110, 80, 50, 62, 77, 52, 59, 60, 111, 112, 113, 40, 114, 103, 104, 105, 106, 100, 101, 90, 102, 115, 116, 117, 118, 119, 120, 121, 122, 123, 124, 125, 79, 126, 127, 128, 129, 130, 131, 49, 132, 133, 134, 135, 69, 136, 137, 138, 139, 140, 141, 68, 142, 143, 144, 145, 146, 147, 148, 149, 150, 151, 152, 153, 154, 155, 156, 157, 158, 159, 160, 161, 162, 163, 164, 165, 166, 167, 168, 169, 170, 171, 172, 173, 174, 175, 176, 177, 178, 179, 180, 181, 182, 183, 184, 185, 186, 187, 188, 189, 190, 191, 192, 193, 194, 195, 196, 197, 198, 199, 200, 201, 202, 203, 204, 205, 83, 82, 206, 207, 208, 209, 210, 211, 212, 213, 78, 214, 215, 216, 217, 218, 219, 220, 221, 222, 223, 224, 225, 226, 227, 228, 229, 230, 89, 91, 231, 93, 94, 95, 54, 53, 55, 58, 96, 97, 98, 99, 232, 233, 234, 235, 81, 57, 56, 236, 237, 238, 239, 240, 61, 241, 242, 243, 244, 245, 246, 247, 248, 249, 250, 251, 252, 253, 254, 255, 256, 271, 272, 273, 274, 275, 276, 277, 278, 279, 280, 281, 282, 283, 284, 285, 286, 287, 288, 289, 290, 301, 302, 303, 304, 305, 306, 307, 308, 309, 310, 311] (by decide +kernel) (by decide +kernel)
set_option maxRecDepth 20000 in
theorem gX7_meets_X6_walk : GoodIn wsX7_meets (wsV RX7 155 RX6 yX6_walk wsX6_walk) := goodIn_app (goodIn_of _ (by decide +kernel)) ggX7_meets_X6_walk
set_option maxRecDepth 20000 in
theorem ggX7_meets_X6_soonOf : GoodIn wsX7_meets wsX6_soonOf := goodIn_r _ [260, 59, 103, 104, 105, 40, 106, 80, 271, 272, 273, 274, 275, 276, 277, 278, 279, 280, 281, 282, 283, 284, 285, 286, 287, 288, 289, 290] (by decide +kernel) (by decide +kernel)
set_option maxRecDepth 20000 in
theorem gX7_meets_X6_soonOf : GoodIn wsX7_meets (wsV RX7 160 RX6 yX6_soonOf wsX6_soonOf) := goodIn_app (goodIn_of _ (by decide +kernel)) ggX7_meets_X6_soonOf
set_option maxRecDepth 20000 in
theorem ggX7_meets_X6_lateOf : GoodIn wsX7_meets wsX6_lateOf := goodIn_r _ [264, 60, 103, 104, 105, 40, 106, 80, 271, 272, 273, 274, 275, 276, 277, 278, 279, 280, 281, 282, 283, 284, 285, 286, 287, 288, 289, 290] (by decide +kernel) (by decide +kernel)
set_option maxRecDepth 20000 in
theorem gX7_meets_X6_lateOf : GoodIn wsX7_meets (wsV RX7 163 RX6 yX6_lateOf wsX6_lateOf) := goodIn_app (goodIn_of _ (by decide +kernel)) ggX7_meets_X6_lateOf
set_option maxRecDepth 20000 in
theorem ggX7_meets_X6_kindOf : GoodIn wsX7_meets wsX6_kindOf := goodIn_r _ [268, 111, 112, 113, 40, 114, 52, 103, 104, 105, 106, 80, 100, 101, 90, 102, 115, 116, 117, 118, 119, 120, 121, 269, 262, 263, 264, 60, 270, 258, 259, 260, 59, 271, 272, 273, 274, 275, 276, 277, 278, 279, 280, 281, 282, 283, 284, 285, 286, 287, 288, 289, 290] (by decide +kernel) (by decide +kernel)
set_option maxRecDepth 20000 in
theorem gX7_meets_X6_kindOf : GoodIn wsX7_meets (wsV RX7 166 RX6 yX6_kindOf wsX6_kindOf) := goodIn_app (goodIn_of _ (by decide +kernel)) ggX7_meets_X6_kindOf
theorem dX7_meets_0 : decode cX7_meets 0 = .ok (.iload_n 2, 1) := by decide +kernel
theorem dX7_meets_1 : decode cX7_meets 1 = .ok (.ifCond .lt 8, 3) := by decide +kernel
theorem dX7_meets_4 : decode cX7_meets 4 = .ok (.iload_n 2, 1) := by decide +kernel
theorem dX7_meets_5 : decode cX7_meets 5 = .ok (.iconst 4, 1) := by decide +kernel
theorem dX7_meets_6 : decode cX7_meets 6 = .ok (.if_icmp .le 6, 3) := by decide +kernel
theorem dX7_meets_9 : decode cX7_meets 9 = .ok (.bipush (-2), 2) := by decide +kernel
theorem dX7_meets_11 : decode cX7_meets 11 = .ok (.ireturn, 1) := by decide +kernel
theorem dX7_meets_12 : decode cX7_meets 12 = .ok (.aload_n 0, 1) := by decide +kernel
theorem dX7_meets_13 : decode cX7_meets 13 = .ok (.iload_n 1, 1) := by decide +kernel
theorem dX7_meets_14 : decode cX7_meets 14 = .ok (.invokevirtual 148, 3) := by decide +kernel
theorem dX7_meets_17 : decode cX7_meets 17 = .ok (.istore_n 3, 1) := by decide +kernel
theorem dX7_meets_18 : decode cX7_meets 18 = .ok (.iload_n 3, 1) := by decide +kernel
theorem dX7_meets_19 : decode cX7_meets 19 = .ok (.ifCond .eq 5, 3) := by decide +kernel
theorem dX7_meets_22 : decode cX7_meets 22 = .ok (.iload_n 3, 1) := by decide +kernel
theorem dX7_meets_23 : decode cX7_meets 23 = .ok (.ireturn, 1) := by decide +kernel
theorem dX7_meets_24 : decode cX7_meets 24 = .ok (.aload_n 0, 1) := by decide +kernel
theorem dX7_meets_25 : decode cX7_meets 25 = .ok (.iload_n 1, 1) := by decide +kernel
theorem dX7_meets_26 : decode cX7_meets 26 = .ok (.iconst 0, 1) := by decide +kernel
theorem dX7_meets_27 : decode cX7_meets 27 = .ok (.invokevirtual 151, 3) := by decide +kernel
theorem dX7_meets_30 : decode cX7_meets 30 = .ok (.astore 4, 2) := by decide +kernel
theorem dX7_meets_32 : decode cX7_meets 32 = .ok (.aload 4, 2) := by decide +kernel
theorem dX7_meets_34 : decode cX7_meets 34 = .ok (.invokevirtual 155, 3) := by decide +kernel
theorem dX7_meets_37 : decode cX7_meets 37 = .ok (.iload_n 2, 1) := by decide +kernel
theorem dX7_meets_38 : decode cX7_meets 38 = .ok (.tableswitch 57 0 3 #[30, 37, 44, 51], 30) := by decide +kernel
theorem dX7_meets_68 : decode cX7_meets 68 = .ok (.aload 4, 2) := by decide +kernel
theorem dX7_meets_70 : decode cX7_meets 70 = .ok (.iconst 0, 1) := by decide +kernel
theorem dX7_meets_71 : decode cX7_meets 71 = .ok (.invokevirtual 160, 3) := by decide +kernel
theorem dX7_meets_74 : decode cX7_meets 74 = .ok (.ireturn, 1) := by decide +kernel
theorem dX7_meets_75 : decode cX7_meets 75 = .ok (.aload 4, 2) := by decide +kernel
theorem dX7_meets_77 : decode cX7_meets 77 = .ok (.iconst 0, 1) := by decide +kernel
theorem dX7_meets_78 : decode cX7_meets 78 = .ok (.invokevirtual 163, 3) := by decide +kernel
theorem dX7_meets_81 : decode cX7_meets 81 = .ok (.ireturn, 1) := by decide +kernel
theorem dX7_meets_82 : decode cX7_meets 82 = .ok (.aload 4, 2) := by decide +kernel
theorem dX7_meets_84 : decode cX7_meets 84 = .ok (.iconst 0, 1) := by decide +kernel
theorem dX7_meets_85 : decode cX7_meets 85 = .ok (.invokevirtual 166, 3) := by decide +kernel
theorem dX7_meets_88 : decode cX7_meets 88 = .ok (.ireturn, 1) := by decide +kernel
theorem dX7_meets_89 : decode cX7_meets 89 = .ok (.aload 4, 2) := by decide +kernel
theorem dX7_meets_91 : decode cX7_meets 91 = .ok (.getfield 169, 3) := by decide +kernel
theorem dX7_meets_94 : decode cX7_meets 94 = .ok (.ireturn, 1) := by decide +kernel
theorem dX7_meets_95 : decode cX7_meets 95 = .ok (.aload 4, 2) := by decide +kernel
theorem dX7_meets_97 : decode cX7_meets 97 = .ok (.getfield 170, 3) := by decide +kernel
theorem dX7_meets_100 : decode cX7_meets 100 = .ok (.ireturn, 1) := by decide +kernel
set_option maxRecDepth 20000 in
theorem ggX7_first_X7_refusalFromNow : GoodIn wsX7_first wsX7_refusalFromNow := goodIn_r _ [5, 6, 7, 8, 4, 9, 10, 11, 12, 13, 14, 15, 16, 17, 18, 19, 20, 21, 22, 23, 24, 25, 26, 27, 28, 265, 266, 267, 268, 269, 270, 271, 272, 273, 274] (by decide +kernel) (by decide +kernel)
set_option maxRecDepth 20000 in
theorem gX7_first_X7_refusalFromNow : GoodIn wsX7_first (wsV RX7 148 RX7 yX7_refusalFromNow wsX7_refusalFromNow) := goodIn_app (goodIn_of _ (by decide +kernel)) ggX7_first_X7_refusalFromNow
set_option maxRecDepth 20000 in
theorem ggX7_first_X7_walksFromNow : GoodIn wsX7_first wsX7_walksFromNow := goodIn_r _ [32, 6, 33, 34, 35, 4, 36, 37, 38, 39, 40, 41, 42, 43, 44, 45, 46, 47, 48, 49, 50, 51, 52, 53, 54, 55, 56, 57, 58, 59, 60, 61, 62, 63, 64, 65, 66, 67, 68, 69, 70, 71, 72, 73, 74, 75, 76, 77, 78, 79, 80, 81, 82, 83, 10, 11, 12, 13, 14, 15, 16, 17, 18, 19, 20, 21, 22, 23, 24, 25, 26, 27, 28, 84, 85, 86, 87, 88, 89, 90, 91, 92, 93, 94, 95, 96, 97, 98, 99, 100, 101, 102, 103, 104, 105, 106, 265, 266, 267, 268, 269, 270, 271, 275, 276, 277, 278, 279, 280, 281, 282, 283, 284, 285, 286, 287, 288, 289, 290, 291, 292, 293, 294, 272, 273, 274, 295, 296, 297, 298, 299, 300, 301, 302, 303] (by decide +kernel) (by decide +kernel)
set_option maxRecDepth 20000 in
theorem gX7_first_X7_walksFromNow : GoodIn wsX7_first (wsV RX7 151 RX7 yX7_walksFromNow wsX7_walksFromNow) := goodIn_app (goodIn_of _ (by decide +kernel)) ggX7_first_X7_walksFromNow
set_option maxRecDepth 20000 in
theorem ggX7_first_X6_walk : GoodIn wsX7_first wsX6_walk := goodIn_r _ [110, 80, 50, 62, 77, 52, 59, 60, 111, 112, 113, 40, 114, 103, 104, 105, 106, 100, 101, 90, 102, 115, 116, 117, 118, 119, 120, 121, 122, 123, 124, 125, 79, 126, 127, 128, 129, 130, 131, 49, 132, 133, 134, 135, 69, 136, 137, 138, 139, 140, 141, 68, 142, 143, 144, 145, 146, 147, 148, 149, 150, 151, 152, 153, 154, 155, 156, 157, 158, 159, 160, 161, 162, 163, 164, 165, 166, 167, 168, 169, 170, 171, 172, 173, 174, 175, 176, 177, 178, 179, 180, 181, 182, 183, 184, 185, 186, 187, 188, 189, 190, 191, 192, 193, 194, 195, 196, 197, 198, 199, 200, 201, 202, 203, 204, 205, 83, 82, 206, 207, 208, 209, 210, 211, 212, 213, 78, 214, 215, 216, 217, 218, 219, 220, 221, 222, 223, 224, 225, 226, 227, 228, 229, 230, 89, 91, 231, 93, 94, 95, 54, 53, 55, 58, 96, 97, 98, 99, 232, 233, 234, 235, 81, 57, 56, 236, 237, 238, 239, 240, 61, 241, 242, 243, 244, 245, 246, 247, 248, 249, 250, 251, 252, 253, 254, 255, 256, 275, 276, 277, 278, 279, 280, 281, 282, 283, 284, 285, 286, 287, 288, 289, 290, 291, 292, 293, 294, 295, 296, 297, 298, 299, 300, 301, 302, 303, 304, 305] (by decide +kernel) (by decide +kernel)
set_option maxRecDepth 20000 in
theorem gX7_first_X6_walk : GoodIn wsX7_first (wsV RX7 155 RX6 yX6_walk wsX6_walk) := goodIn_app (goodIn_of _ (by decide +kernel)) ggX7_first_X6_walk
set_option maxRecDepth 20000 in
theorem ggX7_first_X6_leastSetTowardsMeeting : GoodIn wsX7_first wsX6_leastSetTowardsMeeting := goodIn_r _ [260, 50, 62, 77, 52, 261, 262, 263, 40, 264, 59, 103, 104, 105, 106, 80, 100, 101, 90, 102, 122, 123, 124, 125, 79, 126, 127, 128, 129, 130, 131, 49, 132, 133, 134, 135, 69, 136, 137, 138, 139, 140, 141, 68, 142, 143, 144, 145, 146, 147, 148, 149, 150, 151, 152, 153, 154, 155, 156, 157, 158, 159, 160, 161, 116, 117, 118, 119, 120, 121, 162, 163, 164, 165, 166, 167, 168, 169, 170, 171, 172, 173, 174, 175, 176, 177, 178, 179, 180, 181, 182, 183, 184, 185, 186, 187, 188, 189, 190, 191, 192, 193, 194, 195, 196, 197, 198, 199, 200, 201, 210, 211, 212, 213, 78, 206, 207, 208, 209, 214, 215, 216, 217, 218, 219, 220, 221, 222, 223, 224, 225, 226, 227, 228, 229, 230, 89, 91, 96, 97, 98, 99, 53, 54, 275, 276, 277, 278, 279, 280, 281, 282, 283, 284, 285, 286, 287, 288, 289, 290, 291, 292, 293, 294, 295, 296, 297, 298, 299, 300, 301, 302, 303, 304, 305] (by decide +kernel) (by decide +kernel)
set_option maxRecDepth 20000 in
theorem gX7_first_X6_leastSetTowardsMeeting : GoodIn wsX7_first (wsV RX7 173 RX6 yX6_leastSetTowardsMeeting wsX6_leastSetTowardsMeeting) := goodIn_app (goodIn_of _ (by decide +kernel)) ggX7_first_X6_leastSetTowardsMeeting
theorem dX7_first_0 : decode cX7_first 0 = .ok (.aload_n 0, 1) := by decide +kernel
theorem dX7_first_1 : decode cX7_first 1 = .ok (.iload_n 1, 1) := by decide +kernel
theorem dX7_first_2 : decode cX7_first 2 = .ok (.invokevirtual 148, 3) := by decide +kernel
theorem dX7_first_5 : decode cX7_first 5 = .ok (.istore_n 2, 1) := by decide +kernel
theorem dX7_first_6 : decode cX7_first 6 = .ok (.iload_n 2, 1) := by decide +kernel
theorem dX7_first_7 : decode cX7_first 7 = .ok (.ifCond .eq 5, 3) := by decide +kernel
theorem dX7_first_10 : decode cX7_first 10 = .ok (.iload_n 2, 1) := by decide +kernel
theorem dX7_first_11 : decode cX7_first 11 = .ok (.ireturn, 1) := by decide +kernel
theorem dX7_first_12 : decode cX7_first 12 = .ok (.aload_n 0, 1) := by decide +kernel
theorem dX7_first_13 : decode cX7_first 13 = .ok (.iload_n 1, 1) := by decide +kernel
theorem dX7_first_14 : decode cX7_first 14 = .ok (.iconst 0, 1) := by decide +kernel
theorem dX7_first_15 : decode cX7_first 15 = .ok (.invokevirtual 151, 3) := by decide +kernel
theorem dX7_first_18 : decode cX7_first 18 = .ok (.astore_n 3, 1) := by decide +kernel
theorem dX7_first_19 : decode cX7_first 19 = .ok (.aload_n 3, 1) := by decide +kernel
theorem dX7_first_20 : decode cX7_first 20 = .ok (.invokevirtual 155, 3) := by decide +kernel
theorem dX7_first_23 : decode cX7_first 23 = .ok (.aload_n 3, 1) := by decide +kernel
theorem dX7_first_24 : decode cX7_first 24 = .ok (.iconst 0, 1) := by decide +kernel
theorem dX7_first_25 : decode cX7_first 25 = .ok (.invokevirtual 173, 3) := by decide +kernel
theorem dX7_first_28 : decode cX7_first 28 = .ok (.ireturn, 1) := by decide +kernel
set_option maxRecDepth 20000 in
theorem ggX7_blind_X7_refusalFromNow : GoodIn wsX7_blind wsX7_refusalFromNow := goodIn_r _ [5, 6, 7, 8, 4, 9, 10, 11, 12, 13, 14, 15, 16, 17, 18, 19, 20, 21, 22, 23, 24, 25, 26, 27, 28, 269, 270, 271, 272, 273, 274, 275, 276, 277, 278] (by decide +kernel) (by decide +kernel)
set_option maxRecDepth 20000 in
theorem gX7_blind_X7_refusalFromNow : GoodIn wsX7_blind (wsV RX7 148 RX7 yX7_refusalFromNow wsX7_refusalFromNow) := goodIn_app (goodIn_of _ (by decide +kernel)) ggX7_blind_X7_refusalFromNow
set_option maxRecDepth 20000 in
theorem ggX7_blind_X7_walksFromNow : GoodIn wsX7_blind wsX7_walksFromNow := goodIn_r _ [32, 6, 33, 34, 35, 4, 36, 37, 38, 39, 40, 41, 42, 43, 44, 45, 46, 47, 48, 49, 50, 51, 52, 53, 54, 55, 56, 57, 58, 59, 60, 61, 62, 63, 64, 65, 66, 67, 68, 69, 70, 71, 72, 73, 74, 75, 76, 77, 78, 79, 80, 81, 82, 83, 10, 11, 12, 13, 14, 15, 16, 17, 18, 19, 20, 21, 22, 23, 24, 25, 26, 27, 28, 84, 85, 86, 87, 88, 89, 90, 91, 92, 93, 94, 95, 96, 97, 98, 99, 100, 101, 102, 103, 104, 105, 106, 269, 270, 271, 272, 273, 274, 275, 279, 280, 281, 282, 283, 284, 285, 286, 287, 288, 289, 290, 291, 292, 293, 294, 295, 296, 297, 298, 276, 277, 278, 299, 300, 301, 302, 303, 304, 305, 306, 307] (by decide +kernel) (by decide +kernel)
set_option maxRecDepth 20000 in
theorem gX7_blind_X7_walksFromNow : GoodIn wsX7_blind (wsV RX7 151 RX7 yX7_walksFromNow wsX7_walksFromNow) := goodIn_app (goodIn_of _ (by decide +kernel)) ggX7_blind_X7_walksFromNow
set_option maxRecDepth 20000 in
theorem ggX7_blind_X6_walk : GoodIn wsX7_blind wsX6_walk := goodIn_r _ [110, 80, 50, 62, 77, 52, 59, 60, 111, 112, 113, 40, 114, 103, 104, 105, 106, 100, 101, 90, 102, 115, 116, 117, 118, 119, 120, 121, 122, 123, 124, 125, 79, 126, 127, 128, 129, 130, 131, 49, 132, 133, 134, 135, 69, 136, 137, 138, 139, 140, 141, 68, 142, 143, 144, 145, 146, 147, 148, 149, 150, 151, 152, 153, 154, 155, 156, 157, 158, 159, 160, 161, 162, 163, 164, 165, 166, 167, 168, 169, 170, 171, 172, 173, 174, 175, 176, 177, 178, 179, 180, 181, 182, 183, 184, 185, 186, 187, 188, 189, 190, 191, 192, 193, 194, 195, 196, 197, 198, 199, 200, 201, 202, 203, 204, 205, 83, 82, 206, 207, 208, 209, 210, 211, 212, 213, 78, 214, 215, 216, 217, 218, 219, 220, 221, 222, 223, 224, 225, 226, 227, 228, 229, 230, 89, 91, 231, 93, 94, 95, 54, 53, 55, 58, 96, 97, 98, 99, 232, 233, 234, 235, 81, 57, 56, 236, 237, 238, 239, 240, 61, 241, 242, 243, 244, 245, 246, 247, 248, 249, 250, 251, 252, 253, 254, 255, 256, 279, 280, 281, 282, 283, 284, 285, 286, 287, 288, 289, 290, 291, 292, 293, 294, 295, 296, 297, 298, 299, 300, 301, 302, 303, 304, 305, 306, 307, 308, 309] (by decide +kernel) (by decide +kernel)
set_option maxRecDepth 20000 in
theorem gX7_blind_X6_walk : GoodIn wsX7_blind (wsV RX7 155 RX6 yX6_walk wsX6_walk) := goodIn_app (goodIn_of _ (by decide +kernel)) ggX7_blind_X6_walk
set_option maxRecDepth 20000 in
theorem ggX7_blind_X6_kindOf : GoodIn wsX7_blind wsX6_kindOf := goodIn_r _ [260, 111, 112, 113, 40, 114, 52, 103, 104, 105, 106, 80, 100, 101, 90, 102, 115, 116, 117, 118, 119, 120, 121, 261, 262, 263, 264, 60, 265, 266, 267, 268, 59, 279, 280, 281, 282, 283, 284, 285, 286, 287, 288, 289, 290, 291, 292, 293, 294, 295, 296, 297, 298] (by decide +kernel) (by decide +kernel)
set_option maxRecDepth 20000 in
theorem gX7_blind_X6_kindOf : GoodIn wsX7_blind (wsV RX7 166 RX6 yX6_kindOf wsX6_kindOf) := goodIn_app (goodIn_of _ (by decide +kernel)) ggX7_blind_X6_kindOf
theorem dX7_blind_0 : decode cX7_blind 0 = .ok (.aload_n 0, 1) := by decide +kernel
theorem dX7_blind_1 : decode cX7_blind 1 = .ok (.iload_n 1, 1) := by decide +kernel
theorem dX7_blind_2 : decode cX7_blind 2 = .ok (.invokevirtual 148, 3) := by decide +kernel
theorem dX7_blind_5 : decode cX7_blind 5 = .ok (.istore_n 2, 1) := by decide +kernel
theorem dX7_blind_6 : decode cX7_blind 6 = .ok (.iload_n 2, 1) := by decide +kernel
theorem dX7_blind_7 : decode cX7_blind 7 = .ok (.ifCond .eq 5, 3) := by decide +kernel
theorem dX7_blind_10 : decode cX7_blind 10 = .ok (.iload_n 2, 1) := by decide +kernel
theorem dX7_blind_11 : decode cX7_blind 11 = .ok (.ireturn, 1) := by decide +kernel
theorem dX7_blind_12 : decode cX7_blind 12 = .ok (.aload_n 0, 1) := by decide +kernel
theorem dX7_blind_13 : decode cX7_blind 13 = .ok (.iload_n 1, 1) := by decide +kernel
theorem dX7_blind_14 : decode cX7_blind 14 = .ok (.iconst 1, 1) := by decide +kernel
theorem dX7_blind_15 : decode cX7_blind 15 = .ok (.invokevirtual 151, 3) := by decide +kernel
theorem dX7_blind_18 : decode cX7_blind 18 = .ok (.astore_n 3, 1) := by decide +kernel
theorem dX7_blind_19 : decode cX7_blind 19 = .ok (.aload_n 3, 1) := by decide +kernel
theorem dX7_blind_20 : decode cX7_blind 20 = .ok (.invokevirtual 155, 3) := by decide +kernel
theorem dX7_blind_23 : decode cX7_blind 23 = .ok (.aload_n 3, 1) := by decide +kernel
theorem dX7_blind_24 : decode cX7_blind 24 = .ok (.iconst 0, 1) := by decide +kernel
theorem dX7_blind_25 : decode cX7_blind 25 = .ok (.invokevirtual 166, 3) := by decide +kernel
theorem dX7_blind_28 : decode cX7_blind 28 = .ok (.ireturn, 1) := by decide +kernel
set_option maxRecDepth 20000 in
theorem ggX7_used_X7_refusalFromNow : GoodIn wsX7_used wsX7_refusalFromNow := goodIn_r _ [5, 6, 7, 8, 4, 9, 10, 11, 12, 13, 14, 15, 16, 17, 18, 19, 20, 21, 22, 23, 24, 25, 26, 27, 28, 277, 278, 279, 280, 281, 282, 283, 284, 285, 286] (by decide +kernel) (by decide +kernel)
set_option maxRecDepth 20000 in
theorem gX7_used_X7_refusalFromNow : GoodIn wsX7_used (wsV RX7 148 RX7 yX7_refusalFromNow wsX7_refusalFromNow) := goodIn_app (goodIn_of _ (by decide +kernel)) ggX7_used_X7_refusalFromNow
set_option maxRecDepth 20000 in
theorem ggX7_used_X7_walksFromNow : GoodIn wsX7_used wsX7_walksFromNow := goodIn_r _ [32, 6, 33, 34, 35, 4, 36, 37, 38, 39, 40, 41, 42, 43, 44, 45, 46, 47, 48, 49, 50, 51, 52, 53, 54, 55, 56, 57, 58, 59, 60, 61, 62, 63, 64, 65, 66, 67, 68, 69, 70, 71, 72, 73, 74, 75, 76, 77, 78, 79, 80, 81, 82, 83, 10, 11, 12, 13, 14, 15, 16, 17, 18, 19, 20, 21, 22, 23, 24, 25, 26, 27, 28, 84, 85, 86, 87, 88, 89, 90, 91, 92, 93, 94, 95, 96, 97, 98, 99, 100, 101, 102, 103, 104, 105, 106, 277, 278, 279, 280, 281, 282, 283, 257, 258, 259, 260, 261, 262, 263, 264, 265, 266, 267, 268, 269, 270, 271, 272, 273, 274, 275, 276, 284, 285, 286, 287, 288, 289, 290, 291, 292, 293, 294, 295] (by decide +kernel) (by decide +kernel)
set_option maxRecDepth 20000 in
theorem gX7_used_X7_walksFromNow : GoodIn wsX7_used (wsV RX7 151 RX7 yX7_walksFromNow wsX7_walksFromNow) := goodIn_app (goodIn_of _ (by decide +kernel)) ggX7_used_X7_walksFromNow
set_option maxRecDepth 20000 in
theorem ggX7_used_X6_walk : GoodIn wsX7_used wsX6_walk := goodIn_r _ [110, 80, 50, 62, 77, 52, 59, 60, 111, 112, 113, 40, 114, 103, 104, 105, 106, 100, 101, 90, 102, 115, 116, 117, 118, 119, 120, 121, 122, 123, 124, 125, 79, 126, 127, 128, 129, 130, 131, 49, 132, 133, 134, 135, 69, 136, 137, 138, 139, 140, 141, 68, 142, 143, 144, 145, 146, 147, 148, 149, 150, 151, 152, 153, 154, 155, 156, 157, 158, 159, 160, 161, 162, 163, 164, 165, 166, 167, 168, 169, 170, 171, 172, 173, 174, 175, 176, 177, 178, 179, 180, 181, 182, 183, 184, 185, 186, 187, 188, 189, 190, 191, 192, 193, 194, 195, 196, 197, 198, 199, 200, 201, 202, 203, 204, 205, 83, 82, 206, 207, 208, 209, 210, 211, 212, 213, 78, 214, 215, 216, 217, 218, 219, 220, 221, 222, 223, 224, 225, 226, 227, 228, 229, 230, 89, 91, 231, 93, 94, 95, 54, 53, 55, 58, 96, 97, 98, 99, 232, 233, 234, 235, 81, 57, 56, 236, 237, 238, 239, 240, 61, 241, 242, 243, 244, 245, 246, 247, 248, 249, 250, 251, 252, 253, 254, 255, 256, 257, 258, 259, 260, 261, 262, 263, 264, 265, 266, 267, 268, 269, 270, 271, 272, 273, 274, 275, 276, 287, 288, 289, 290, 291, 292, 293, 294, 295, 296, 297] (by decide +kernel) (by decide +kernel)
set_option maxRecDepth 20000 in
theorem gX7_used_X6_walk : GoodIn wsX7_used (wsV RX7 155 RX6 yX6_walk wsX6_walk) := goodIn_app (goodIn_of _ (by decide +kernel)) ggX7_used_X6_walk
theorem dX7_used_0 : decode cX7_used 0 = .ok (.aload_n 0, 1) := by decide +kernel
theorem dX7_used_1 : decode cX7_used 1 = .ok (.iload_n 1, 1) := by decide +kernel
theorem dX7_used_2 : decode cX7_used 2 = .ok (.invokevirtual 148, 3) := by decide +kernel
theorem dX7_used_5 : decode cX7_used 5 = .ok (.istore_n 2, 1) := by decide +kernel
theorem dX7_used_6 : decode cX7_used 6 = .ok (.iload_n 2, 1) := by decide +kernel
theorem dX7_used_7 : decode cX7_used 7 = .ok (.ifCond .eq 5, 3) := by decide +kernel
theorem dX7_used_10 : decode cX7_used 10 = .ok (.iload_n 2, 1) := by decide +kernel
theorem dX7_used_11 : decode cX7_used 11 = .ok (.ireturn, 1) := by decide +kernel
theorem dX7_used_12 : decode cX7_used 12 = .ok (.aload_n 0, 1) := by decide +kernel
theorem dX7_used_13 : decode cX7_used 13 = .ok (.iload_n 1, 1) := by decide +kernel
theorem dX7_used_14 : decode cX7_used 14 = .ok (.iconst 0, 1) := by decide +kernel
theorem dX7_used_15 : decode cX7_used 15 = .ok (.invokevirtual 151, 3) := by decide +kernel
theorem dX7_used_18 : decode cX7_used 18 = .ok (.astore_n 3, 1) := by decide +kernel
theorem dX7_used_19 : decode cX7_used 19 = .ok (.aload_n 3, 1) := by decide +kernel
theorem dX7_used_20 : decode cX7_used 20 = .ok (.invokevirtual 155, 3) := by decide +kernel
theorem dX7_used_23 : decode cX7_used 23 = .ok (.aload_n 3, 1) := by decide +kernel
theorem dX7_used_24 : decode cX7_used 24 = .ok (.getfield 176, 3) := by decide +kernel
theorem dX7_used_27 : decode cX7_used 27 = .ok (.ireturn, 1) := by decide +kernel
set_option maxRecDepth 20000 in
theorem ggX7_all_X7_isSchedule : GoodIn wsX7_all wsX7_isSchedule := goodIn_r _ [5] (by decide +kernel) (by decide +kernel)
set_option maxRecDepth 20000 in
theorem gX7_all_X7_isSchedule : GoodIn wsX7_all (va_wsS RX7 179 yX7_isSchedule wsX7_isSchedule) := goodIn_app (goodIn_of _ (by decide +kernel)) ggX7_all_X7_isSchedule
set_option maxRecDepth 20000 in
theorem ggX7_all_X7_newWalks : GoodIn wsX7_all wsX7_newWalks := goodIn_r _ [9, 10, 11, 12, 13, 1, 14, 15, 16, 17, 18, 19, 20, 21, 22, 23, 24, 25, 26, 27, 28, 29, 30, 31, 32, 33, 34, 35, 36, 37, 38, 39, 40, 41, 42, 43, 44, 45, 46, 47, 48, 49, 50, 51, 52, 53, 54, 55, 56, 239, 240, 241, 242, 243, 244, 245, 249, 250, 251, 252, 253, 254, 255, 256, 257, 258, 259, 260, 261, 262, 263, 264, 265, 266, 267, 268, 246, 247, 248, 269, 270, 271, 272, 273, 274, 275, 276, 277] (by decide +kernel) (by decide +kernel)
set_option maxRecDepth 20000 in
theorem gX7_all_X7_newWalks : GoodIn wsX7_all (wsV RX7 182 RX7 yX7_newWalks wsX7_newWalks) := goodIn_app (goodIn_of _ (by decide +kernel)) ggX7_all_X7_newWalks
set_option maxRecDepth 20000 in
theorem ggX7_all_J6_bitCount_0f7a4 : GoodIn wsX7_all wsJ6_bitCount_0f7a4 := goodIn_r _ [60, 61, 62, 63] (by decide +kernel) (by decide +kernel)
set_option maxRecDepth 20000 in
theorem gX7_all_J6_bitCount_0f7a4 : GoodIn wsX7_all (va_wsS RX7 66 yJ6_bitCount_0f7a4 wsJ6_bitCount_0f7a4) := goodIn_app (goodIn_of _ (by decide +kernel)) ggX7_all_J6_bitCount_0f7a4
set_option maxRecDepth 20000 in
theorem ggX7_all_X5_way : GoodIn wsX7_all wsX5_way := goodIn_r _ [67] (by decide +kernel) (by decide +kernel)
set_option maxRecDepth 20000 in
theorem gX7_all_X5_way : GoodIn wsX7_all (va_wsS RX7 185 yX5_way wsX5_way) := goodIn_app (goodIn_of _ (by decide +kernel)) ggX7_all_X5_way
set_option maxRecDepth 20000 in
theorem ggX7_all_X6_add : GoodIn wsX7_all wsX6_add := goodIn_r _ [71, 53, 25, 27, 26, 28, 31, 72, 73, 74, 13, 75, 76, 77, 66, 78, 79, 80, 81, 82, 249, 250, 251, 252, 253, 254, 255, 256, 257, 258, 259, 260, 261, 262, 263, 264, 265, 266, 267, 268] (by decide +kernel) (by decide +kernel)
set_option maxRecDepth 20000 in
theorem gX7_all_X6_add : GoodIn wsX7_all (wsV RX7 188 RX6 yX6_add wsX6_add) := goodIn_app (goodIn_of _ (by decide +kernel)) ggX7_all_X6_add
set_option maxRecDepth 20000 in
theorem ggX7_all_X6_walk : GoodIn wsX7_all wsX6_walk := goodIn_r _ [86, 53, 23, 35, 50, 25, 32, 33, 87, 88, 89, 13, 90, 79, 80, 81, 82, 76, 77, 66, 78, 91, 58, 59, 60, 61, 62, 63, 92, 93, 94, 95, 52, 96, 97, 98, 99, 100, 101, 22, 102, 103, 104, 105, 42, 106, 107, 108, 109, 110, 111, 41, 112, 113, 114, 115, 116, 117, 118, 119, 120, 121, 122, 123, 124, 125, 126, 127, 128, 129, 130, 131, 132, 133, 134, 135, 136, 137, 138, 139, 140, 141, 142, 143, 144, 145, 146, 147, 148, 149, 150, 151, 152, 153, 154, 155, 156, 157, 158, 159, 160, 161, 162, 163, 164, 165, 166, 167, 168, 169, 170, 171, 172, 173, 174, 175, 56, 55, 176, 177, 178, 179, 180, 181, 182, 183, 51, 184, 185, 186, 187, 188, 189, 190, 191, 192, 193, 194, 195, 196, 197, 198, 199, 200, 65, 67, 201, 69, 70, 71, 27, 26, 28, 31, 72, 73, 74, 75, 202, 203, 204, 205, 54, 30, 29, 206, 207, 208, 209, 210, 34, 211, 212, 213, 214, 215, 216, 217, 218, 219, 220, 221, 222, 223, 224, 225, 226, 249, 250, 251, 252, 253, 254, 255, 256, 257, 258, 259, 260, 261, 262, 263, 264, 265, 266, 267, 268, 269, 270, 271, 272, 273, 274, 275, 276, 277, 278, 279] (by decide +kernel) (by decide +kernel)
set_option maxRecDepth 20000 in
theorem gX7_all_X6_walk : GoodIn wsX7_all (wsV RX7 155 RX6 yX6_walk wsX6_walk) := goodIn_app (goodIn_of _ (by decide +kernel)) ggX7_all_X6_walk
set_option maxRecDepth 20000 in
theorem ggX7_all_X6_kindOf : GoodIn wsX7_all wsX6_kindOf := goodIn_r _ [230, 87, 88, 89, 13, 90, 25, 79, 80, 81, 82, 53, 76, 77, 66, 78, 91, 58, 59, 60, 61, 62, 63, 231, 232, 233, 234, 33, 235, 236, 237, 238, 32, 249, 250, 251, 252, 253, 254, 255, 256, 257, 258, 259, 260, 261, 262, 263, 264, 265, 266, 267, 268] (by decide +kernel) (by decide +kernel)
set_option maxRecDepth 20000 in
theorem gX7_all_X6_kindOf : GoodIn wsX7_all (wsV RX7 166 RX6 yX6_kindOf wsX6_kindOf) := goodIn_app (goodIn_of _ (by decide +kernel)) ggX7_all_X6_kindOf
theorem dX7_all_0 : decode cX7_all 0 = .ok (.iload_n 1, 1) := by decide +kernel
theorem dX7_all_1 : decode cX7_all 1 = .ok (.iconst 1, 1) := by decide +kernel
theorem dX7_all_2 : decode cX7_all 2 = .ok (.if_icmp .lt 19, 3) := by decide +kernel
theorem dX7_all_5 : decode cX7_all 5 = .ok (.iload_n 1, 1) := by decide +kernel
theorem dX7_all_6 : decode cX7_all 6 = .ok (.iconst 5, 1) := by decide +kernel
theorem dX7_all_7 : decode cX7_all 7 = .ok (.if_icmp .gt 14, 3) := by decide +kernel
theorem dX7_all_10 : decode cX7_all 10 = .ok (.iload_n 1, 1) := by decide +kernel
theorem dX7_all_11 : decode cX7_all 11 = .ok (.aload_n 0, 1) := by decide +kernel
theorem dX7_all_12 : decode cX7_all 12 = .ok (.getfield 10, 3) := by decide +kernel
theorem dX7_all_15 : decode cX7_all 15 = .ok (.getfield 33, 3) := by decide +kernel
theorem dX7_all_18 : decode cX7_all 18 = .ok (.if_icmp .le 6, 3) := by decide +kernel
theorem dX7_all_21 : decode cX7_all 21 = .ok (.bipush (-2), 2) := by decide +kernel
theorem dX7_all_23 : decode cX7_all 23 = .ok (.ireturn, 1) := by decide +kernel
theorem dX7_all_24 : decode cX7_all 24 = .ok (.iload_n 2, 1) := by decide +kernel
theorem dX7_all_25 : decode cX7_all 25 = .ok (.invokestatic 179, 3) := by decide +kernel
theorem dX7_all_28 : decode cX7_all 28 = .ok (.ifCond .eq 12, 3) := by decide +kernel
theorem dX7_all_31 : decode cX7_all 31 = .ok (.iload_n 3, 1) := by decide +kernel
theorem dX7_all_32 : decode cX7_all 32 = .ok (.ifCond .lt 8, 3) := by decide +kernel
theorem dX7_all_35 : decode cX7_all 35 = .ok (.iload_n 3, 1) := by decide +kernel
theorem dX7_all_36 : decode cX7_all 36 = .ok (.iconst 3, 1) := by decide +kernel
theorem dX7_all_37 : decode cX7_all 37 = .ok (.if_icmp .le 6, 3) := by decide +kernel
theorem dX7_all_40 : decode cX7_all 40 = .ok (.bipush (-2), 2) := by decide +kernel
theorem dX7_all_42 : decode cX7_all 42 = .ok (.ireturn, 1) := by decide +kernel
theorem dX7_all_43 : decode cX7_all 43 = .ok (.aload_n 0, 1) := by decide +kernel
theorem dX7_all_44 : decode cX7_all 44 = .ok (.iload_n 2, 1) := by decide +kernel
theorem dX7_all_45 : decode cX7_all 45 = .ok (.iconst 0, 1) := by decide +kernel
theorem dX7_all_46 : decode cX7_all 46 = .ok (.invokevirtual 182, 3) := by decide +kernel
theorem dX7_all_49 : decode cX7_all 49 = .ok (.astore 4, 2) := by decide +kernel
theorem dX7_all_51 : decode cX7_all 51 = .ok (.iconst 1, 1) := by decide +kernel
theorem dX7_all_52 : decode cX7_all 52 = .ok (.istore 5, 2) := by decide +kernel
theorem dX7_all_54 : decode cX7_all 54 = .ok (.iload 5, 2) := by decide +kernel
theorem dX7_all_56 : decode cX7_all 56 = .ok (.iconst 1, 1) := by decide +kernel
theorem dX7_all_57 : decode cX7_all 57 = .ok (.aload_n 0, 1) := by decide +kernel
theorem dX7_all_58 : decode cX7_all 58 = .ok (.getfield 10, 3) := by decide +kernel
theorem dX7_all_61 : decode cX7_all 61 = .ok (.getfield 33, 3) := by decide +kernel
theorem dX7_all_64 : decode cX7_all 64 = .ok (.ishl, 1) := by decide +kernel
theorem dX7_all_65 : decode cX7_all 65 = .ok (.if_icmp .ge 30, 3) := by decide +kernel
theorem dX7_all_68 : decode cX7_all 68 = .ok (.iload 5, 2) := by decide +kernel
theorem dX7_all_70 : decode cX7_all 70 = .ok (.invokestatic 66, 3) := by decide +kernel
theorem dX7_all_73 : decode cX7_all 73 = .ok (.iload_n 1, 1) := by decide +kernel
theorem dX7_all_74 : decode cX7_all 74 = .ok (.if_icmp .ne 15, 3) := by decide +kernel
theorem dX7_all_77 : decode cX7_all 77 = .ok (.aload 4, 2) := by decide +kernel
theorem dX7_all_79 : decode cX7_all 79 = .ok (.iload 5, 2) := by decide +kernel
theorem dX7_all_81 : decode cX7_all 81 = .ok (.iconst 0, 1) := by decide +kernel
theorem dX7_all_82 : decode cX7_all 82 = .ok (.invokestatic 185, 3) := by decide +kernel
theorem dX7_all_85 : decode cX7_all 85 = .ok (.invokevirtual 188, 3) := by decide +kernel
theorem dX7_all_88 : decode cX7_all 88 = .ok (.pop, 1) := by decide +kernel
theorem dX7_all_89 : decode cX7_all 89 = .ok (.iinc 5 1, 3) := by decide +kernel
theorem dX7_all_92 : decode cX7_all 92 = .ok (.goto (-38), 3) := by decide +kernel
theorem dX7_all_95 : decode cX7_all 95 = .ok (.aload 4, 2) := by decide +kernel
theorem dX7_all_97 : decode cX7_all 97 = .ok (.getfield 169, 3) := by decide +kernel
theorem dX7_all_100 : decode cX7_all 100 = .ok (.istore 5, 2) := by decide +kernel
theorem dX7_all_102 : decode cX7_all 102 = .ok (.aload 4, 2) := by decide +kernel
theorem dX7_all_104 : decode cX7_all 104 = .ok (.invokevirtual 155, 3) := by decide +kernel
theorem dX7_all_107 : decode cX7_all 107 = .ok (.iconst 0, 1) := by decide +kernel
theorem dX7_all_108 : decode cX7_all 108 = .ok (.istore 6, 2) := by decide +kernel
theorem dX7_all_110 : decode cX7_all 110 = .ok (.iconst 0, 1) := by decide +kernel
theorem dX7_all_111 : decode cX7_all 111 = .ok (.istore 7, 2) := by decide +kernel
theorem dX7_all_113 : decode cX7_all 113 = .ok (.iload 7, 2) := by decide +kernel
theorem dX7_all_115 : decode cX7_all 115 = .ok (.iload 5, 2) := by decide +kernel
theorem dX7_all_117 : decode cX7_all 117 = .ok (.if_icmp .ge 23, 3) := by decide +kernel
theorem dX7_all_120 : decode cX7_all 120 = .ok (.aload 4, 2) := by decide +kernel
theorem dX7_all_122 : decode cX7_all 122 = .ok (.iload 7, 2) := by decide +kernel
theorem dX7_all_124 : decode cX7_all 124 = .ok (.invokevirtual 166, 3) := by decide +kernel
theorem dX7_all_127 : decode cX7_all 127 = .ok (.iload_n 3, 1) := by decide +kernel
theorem dX7_all_128 : decode cX7_all 128 = .ok (.if_icmp .ne 6, 3) := by decide +kernel
theorem dX7_all_131 : decode cX7_all 131 = .ok (.iinc 6 1, 3) := by decide +kernel
theorem dX7_all_134 : decode cX7_all 134 = .ok (.iinc 7 1, 3) := by decide +kernel
theorem dX7_all_137 : decode cX7_all 137 = .ok (.goto (-24), 3) := by decide +kernel
theorem dX7_all_140 : decode cX7_all 140 = .ok (.iload 6, 2) := by decide +kernel
theorem dX7_all_142 : decode cX7_all 142 = .ok (.ireturn, 1) := by decide +kernel
set_option maxRecDepth 20000 in
theorem ggX7_image_X7_imageOf : GoodIn wsX7_image wsX7_imageOf := goodIn_r _ [7, 8, 9, 25, 26, 27, 28, 29, 30, 31] (by decide +kernel) (by decide +kernel)
set_option maxRecDepth 20000 in
theorem gX7_image_X7_imageOf : GoodIn wsX7_image (wsV RX7 191 RX7 yX7_imageOf wsX7_imageOf) := goodIn_app (goodIn_of _ (by decide +kernel)) ggX7_image_X7_imageOf
set_option maxRecDepth 20000 in
theorem ggX7_image_X4_copyFrom : GoodIn wsX7_image wsX4_copyFrom := goodIn_r _ [14, 15, 16, 17, 18, 19, 20, 21, 22, 23, 24, 32, 33, 34, 35, 36] (by decide +kernel) (by decide +kernel)
set_option maxRecDepth 20000 in
theorem gX7_image_X4_copyFrom : GoodIn wsX7_image (wsV RX7 195 RX4 yX4_copyFrom wsX4_copyFrom) := goodIn_app (goodIn_of _ (by decide +kernel)) ggX7_image_X4_copyFrom
theorem dX7_image_0 : decode cX7_image 0 = .ok (.iload_n 1, 1) := by decide +kernel
theorem dX7_image_1 : decode cX7_image 1 = .ok (.ifCond .lt 8, 3) := by decide +kernel
theorem dX7_image_4 : decode cX7_image 4 = .ok (.iload_n 1, 1) := by decide +kernel
theorem dX7_image_5 : decode cX7_image 5 = .ok (.iconst 2, 1) := by decide +kernel
theorem dX7_image_6 : decode cX7_image 6 = .ok (.if_icmp .lt 6, 3) := by decide +kernel
theorem dX7_image_9 : decode cX7_image 9 = .ok (.bipush (-2), 2) := by decide +kernel
theorem dX7_image_11 : decode cX7_image 11 = .ok (.ireturn, 1) := by decide +kernel
theorem dX7_image_12 : decode cX7_image 12 = .ok (.aload_n 0, 1) := by decide +kernel
theorem dX7_image_13 : decode cX7_image 13 = .ok (.iload_n 1, 1) := by decide +kernel
theorem dX7_image_14 : decode cX7_image 14 = .ok (.invokevirtual 191, 3) := by decide +kernel
theorem dX7_image_17 : decode cX7_image 17 = .ok (.aload_n 0, 1) := by decide +kernel
theorem dX7_image_18 : decode cX7_image 18 = .ok (.getfield 10, 3) := by decide +kernel
theorem dX7_image_21 : decode cX7_image 21 = .ok (.invokevirtual 195, 3) := by decide +kernel
theorem dX7_image_24 : decode cX7_image 24 = .ok (.aload_n 0, 1) := by decide +kernel
theorem dX7_image_25 : decode cX7_image 25 = .ok (.dup, 1) := by decide +kernel
theorem dX7_image_26 : decode cX7_image 26 = .ok (.getfield 199, 3) := by decide +kernel
theorem dX7_image_29 : decode cX7_image 29 = .ok (.iconst 1, 1) := by decide +kernel
theorem dX7_image_30 : decode cX7_image 30 = .ok (.iload_n 1, 1) := by decide +kernel
theorem dX7_image_31 : decode cX7_image 31 = .ok (.ishl, 1) := by decide +kernel
theorem dX7_image_32 : decode cX7_image 32 = .ok (.ior, 1) := by decide +kernel
theorem dX7_image_33 : decode cX7_image 33 = .ok (.putfield 199, 3) := by decide +kernel
theorem dX7_image_36 : decode cX7_image 36 = .ok (.iconst 1, 1) := by decide +kernel
theorem dX7_image_37 : decode cX7_image 37 = .ok (.ireturn, 1) := by decide +kernel
set_option maxRecDepth 20000 in
theorem ggX7_restore_X5_has : GoodIn wsX7_restore wsX5_has := goodIn_r _ [6] (by decide +kernel) (by decide +kernel)
set_option maxRecDepth 20000 in
theorem gX7_restore_X5_has : GoodIn wsX7_restore (va_wsS RX7 60 yX5_has wsX5_has) := goodIn_app (goodIn_of _ (by decide +kernel)) ggX7_restore_X5_has
set_option maxRecDepth 20000 in
theorem ggX7_restore_X7_imageOf : GoodIn wsX7_restore wsX7_imageOf := goodIn_r _ [11, 12, 13, 29, 30, 31, 32, 33, 34, 35] (by decide +kernel) (by decide +kernel)
set_option maxRecDepth 20000 in
theorem gX7_restore_X7_imageOf : GoodIn wsX7_restore (wsV RX7 191 RX7 yX7_imageOf wsX7_imageOf) := goodIn_app (goodIn_of _ (by decide +kernel)) ggX7_restore_X7_imageOf
set_option maxRecDepth 20000 in
theorem ggX7_restore_X4_copyFrom : GoodIn wsX7_restore wsX4_copyFrom := goodIn_r _ [18, 19, 20, 21, 22, 23, 24, 25, 26, 27, 28, 36, 37, 38, 39, 40] (by decide +kernel) (by decide +kernel)
set_option maxRecDepth 20000 in
theorem gX7_restore_X4_copyFrom : GoodIn wsX7_restore (wsV RX7 195 RX4 yX4_copyFrom wsX4_copyFrom) := goodIn_app (goodIn_of _ (by decide +kernel)) ggX7_restore_X4_copyFrom
theorem dX7_restore_0 : decode cX7_restore 0 = .ok (.iload_n 1, 1) := by decide +kernel
theorem dX7_restore_1 : decode cX7_restore 1 = .ok (.ifCond .lt 8, 3) := by decide +kernel
theorem dX7_restore_4 : decode cX7_restore 4 = .ok (.iload_n 1, 1) := by decide +kernel
theorem dX7_restore_5 : decode cX7_restore 5 = .ok (.iconst 2, 1) := by decide +kernel
theorem dX7_restore_6 : decode cX7_restore 6 = .ok (.if_icmp .lt 6, 3) := by decide +kernel
theorem dX7_restore_9 : decode cX7_restore 9 = .ok (.bipush (-2), 2) := by decide +kernel
theorem dX7_restore_11 : decode cX7_restore 11 = .ok (.ireturn, 1) := by decide +kernel
theorem dX7_restore_12 : decode cX7_restore 12 = .ok (.aload_n 0, 1) := by decide +kernel
theorem dX7_restore_13 : decode cX7_restore 13 = .ok (.getfield 199, 3) := by decide +kernel
theorem dX7_restore_16 : decode cX7_restore 16 = .ok (.iload_n 1, 1) := by decide +kernel
theorem dX7_restore_17 : decode cX7_restore 17 = .ok (.invokestatic 60, 3) := by decide +kernel
theorem dX7_restore_20 : decode cX7_restore 20 = .ok (.ifCond .ne 6, 3) := by decide +kernel
theorem dX7_restore_23 : decode cX7_restore 23 = .ok (.bipush (-3), 2) := by decide +kernel
theorem dX7_restore_25 : decode cX7_restore 25 = .ok (.ireturn, 1) := by decide +kernel
theorem dX7_restore_26 : decode cX7_restore 26 = .ok (.aload_n 0, 1) := by decide +kernel
theorem dX7_restore_27 : decode cX7_restore 27 = .ok (.getfield 10, 3) := by decide +kernel
theorem dX7_restore_30 : decode cX7_restore 30 = .ok (.aload_n 0, 1) := by decide +kernel
theorem dX7_restore_31 : decode cX7_restore 31 = .ok (.iload_n 1, 1) := by decide +kernel
theorem dX7_restore_32 : decode cX7_restore 32 = .ok (.invokevirtual 191, 3) := by decide +kernel
theorem dX7_restore_35 : decode cX7_restore 35 = .ok (.invokevirtual 195, 3) := by decide +kernel
theorem dX7_restore_38 : decode cX7_restore 38 = .ok (.iconst 1, 1) := by decide +kernel
theorem dX7_restore_39 : decode cX7_restore 39 = .ok (.ireturn, 1) := by decide +kernel
set_option maxRecDepth 20000 in
theorem ggX7_count_X4_walkersOn : GoodIn wsX7_count wsX4_walkersOn := goodIn_r _ [7, 8, 9, 10, 11, 6, 12, 13, 38, 39, 40] (by decide +kernel) (by decide +kernel)
set_option maxRecDepth 20000 in
theorem gX7_count_X4_walkersOn : GoodIn wsX7_count (wsV RX7 45 RX4 yX4_walkersOn wsX4_walkersOn) := goodIn_app (goodIn_of _ (by decide +kernel)) ggX7_count_X4_walkersOn
set_option maxRecDepth 20000 in
theorem ggX7_count_X4_walkersInAll : GoodIn wsX7_count wsX4_walkersInAll := goodIn_r _ [17, 13, 18, 4, 5, 6, 7, 8, 9, 10, 11, 12, 38, 39, 40] (by decide +kernel) (by decide +kernel)
set_option maxRecDepth 20000 in
theorem gX7_count_X4_walkersInAll : GoodIn wsX7_count (wsV RX7 49 RX4 yX4_walkersInAll wsX4_walkersInAll) := goodIn_app (goodIn_of _ (by decide +kernel)) ggX7_count_X4_walkersInAll
set_option maxRecDepth 20000 in
theorem ggX7_count_X4_stands : GoodIn wsX7_count wsX4_stands := goodIn_r _ [22, 23, 24, 25, 6, 26, 13, 18, 4, 5, 7, 8, 9, 10, 11, 12, 38, 39, 40] (by decide +kernel) (by decide +kernel)
set_option maxRecDepth 20000 in
theorem gX7_count_X4_stands : GoodIn wsX7_count (wsV RX7 57 RX4 yX4_stands wsX4_stands) := goodIn_app (goodIn_of _ (by decide +kernel)) ggX7_count_X4_stands
set_option maxRecDepth 20000 in
theorem ggX7_count_X4_towers : GoodIn wsX7_count wsX4_towers := goodIn_r _ [30, 23, 24, 25, 6, 26, 13, 18, 4, 5, 7, 8, 9, 10, 11, 12, 38, 39, 40] (by decide +kernel) (by decide +kernel)
set_option maxRecDepth 20000 in
theorem gX7_count_X4_towers : GoodIn wsX7_count (wsV RX7 125 RX4 yX4_towers wsX4_towers) := goodIn_app (goodIn_of _ (by decide +kernel)) ggX7_count_X4_towers
theorem dX7_count_0 : decode cX7_count 0 = .ok (.iload_n 1, 1) := by decide +kernel
theorem dX7_count_1 : decode cX7_count 1 = .ok (.bipush 10, 2) := by decide +kernel
theorem dX7_count_3 : decode cX7_count 3 = .ok (.if_icmp .lt 21, 3) := by decide +kernel
theorem dX7_count_6 : decode cX7_count 6 = .ok (.iload_n 1, 1) := by decide +kernel
theorem dX7_count_7 : decode cX7_count 7 = .ok (.bipush 20, 2) := by decide +kernel
theorem dX7_count_9 : decode cX7_count 9 = .ok (.if_icmp .ge 15, 3) := by decide +kernel
theorem dX7_count_12 : decode cX7_count 12 = .ok (.aload_n 0, 1) := by decide +kernel
theorem dX7_count_13 : decode cX7_count 13 = .ok (.getfield 10, 3) := by decide +kernel
theorem dX7_count_16 : decode cX7_count 16 = .ok (.iload_n 1, 1) := by decide +kernel
theorem dX7_count_17 : decode cX7_count 17 = .ok (.bipush 10, 2) := by decide +kernel
theorem dX7_count_19 : decode cX7_count 19 = .ok (.isub, 1) := by decide +kernel
theorem dX7_count_20 : decode cX7_count 20 = .ok (.invokevirtual 45, 3) := by decide +kernel
theorem dX7_count_23 : decode cX7_count 23 = .ok (.ireturn, 1) := by decide +kernel
theorem dX7_count_24 : decode cX7_count 24 = .ok (.iload_n 1, 1) := by decide +kernel
theorem dX7_count_25 : decode cX7_count 25 = .ok (.tableswitch 87 0 5 #[39, 47, 55, 63, 71, 82], 39) := by decide +kernel
theorem dX7_count_64 : decode cX7_count 64 = .ok (.aload_n 0, 1) := by decide +kernel
theorem dX7_count_65 : decode cX7_count 65 = .ok (.getfield 10, 3) := by decide +kernel
theorem dX7_count_68 : decode cX7_count 68 = .ok (.getfield 33, 3) := by decide +kernel
theorem dX7_count_71 : decode cX7_count 71 = .ok (.ireturn, 1) := by decide +kernel
theorem dX7_count_72 : decode cX7_count 72 = .ok (.aload_n 0, 1) := by decide +kernel
theorem dX7_count_73 : decode cX7_count 73 = .ok (.getfield 10, 3) := by decide +kernel
theorem dX7_count_76 : decode cX7_count 76 = .ok (.invokevirtual 49, 3) := by decide +kernel
theorem dX7_count_79 : decode cX7_count 79 = .ok (.ireturn, 1) := by decide +kernel
theorem dX7_count_80 : decode cX7_count 80 = .ok (.aload_n 0, 1) := by decide +kernel
theorem dX7_count_81 : decode cX7_count 81 = .ok (.getfield 10, 3) := by decide +kernel
theorem dX7_count_84 : decode cX7_count 84 = .ok (.invokevirtual 57, 3) := by decide +kernel
theorem dX7_count_87 : decode cX7_count 87 = .ok (.ireturn, 1) := by decide +kernel
theorem dX7_count_88 : decode cX7_count 88 = .ok (.aload_n 0, 1) := by decide +kernel
theorem dX7_count_89 : decode cX7_count 89 = .ok (.getfield 10, 3) := by decide +kernel
theorem dX7_count_92 : decode cX7_count 92 = .ok (.invokevirtual 125, 3) := by decide +kernel
theorem dX7_count_95 : decode cX7_count 95 = .ok (.ireturn, 1) := by decide +kernel
theorem dX7_count_96 : decode cX7_count 96 = .ok (.aload_n 0, 1) := by decide +kernel
theorem dX7_count_97 : decode cX7_count 97 = .ok (.getfield 10, 3) := by decide +kernel
theorem dX7_count_100 : decode cX7_count 100 = .ok (.getfield 100, 3) := by decide +kernel
theorem dX7_count_103 : decode cX7_count 103 = .ok (.getfield 122, 3) := by decide +kernel
theorem dX7_count_106 : decode cX7_count 106 = .ok (.ireturn, 1) := by decide +kernel
theorem dX7_count_107 : decode cX7_count 107 = .ok (.aload_n 0, 1) := by decide +kernel
theorem dX7_count_108 : decode cX7_count 108 = .ok (.getfield 199, 3) := by decide +kernel
theorem dX7_count_111 : decode cX7_count 111 = .ok (.ireturn, 1) := by decide +kernel
theorem dX7_count_112 : decode cX7_count 112 = .ok (.bipush (-2), 2) := by decide +kernel
theorem dX7_count_114 : decode cX7_count 114 = .ok (.ireturn, 1) := by decide +kernel
theorem dX7_imageOf_0 : decode cX7_imageOf 0 = .ok (.iload_n 1, 1) := by decide +kernel
theorem dX7_imageOf_1 : decode cX7_imageOf 1 = .ok (.ifCond .ne 10, 3) := by decide +kernel
theorem dX7_imageOf_4 : decode cX7_imageOf 4 = .ok (.aload_n 0, 1) := by decide +kernel
theorem dX7_imageOf_5 : decode cX7_imageOf 5 = .ok (.getfield 16, 3) := by decide +kernel
theorem dX7_imageOf_8 : decode cX7_imageOf 8 = .ok (.goto 7, 3) := by decide +kernel
theorem dX7_imageOf_11 : decode cX7_imageOf 11 = .ok (.aload_n 0, 1) := by decide +kernel
theorem dX7_imageOf_12 : decode cX7_imageOf 12 = .ok (.getfield 19, 3) := by decide +kernel
theorem dX7_imageOf_15 : decode cX7_imageOf 15 = .ok (.areturn, 1) := by decide +kernel
theorem dX7_isSchedule_0 : decode cX7_isSchedule 0 = .ok (.iload_n 0, 1) := by decide +kernel
theorem dX7_isSchedule_1 : decode cX7_isSchedule 1 = .ok (.ifCond .lt 12, 3) := by decide +kernel
theorem dX7_isSchedule_4 : decode cX7_isSchedule 4 = .ok (.iload_n 0, 1) := by decide +kernel
theorem dX7_isSchedule_5 : decode cX7_isSchedule 5 = .ok (.iconst 2, 1) := by decide +kernel
theorem dX7_isSchedule_6 : decode cX7_isSchedule 6 = .ok (.if_icmp .gt 7, 3) := by decide +kernel
theorem dX7_isSchedule_9 : decode cX7_isSchedule 9 = .ok (.iconst 1, 1) := by decide +kernel
theorem dX7_isSchedule_10 : decode cX7_isSchedule 10 = .ok (.goto 4, 3) := by decide +kernel
theorem dX7_isSchedule_13 : decode cX7_isSchedule 13 = .ok (.iconst 0, 1) := by decide +kernel
theorem dX7_isSchedule_14 : decode cX7_isSchedule 14 = .ok (.ireturn, 1) := by decide +kernel
set_option maxRecDepth 20000 in
theorem ggX7_refusalFromNow_X7_isSchedule : GoodIn wsX7_refusalFromNow wsX7_isSchedule := goodIn_r _ [5] (by decide +kernel) (by decide +kernel)
set_option maxRecDepth 20000 in
theorem gX7_refusalFromNow_X7_isSchedule : GoodIn wsX7_refusalFromNow (va_wsS RX7 179 yX7_isSchedule wsX7_isSchedule) := goodIn_app (goodIn_of _ (by decide +kernel)) ggX7_refusalFromNow_X7_isSchedule
set_option maxRecDepth 20000 in
theorem ggX7_refusalFromNow_X4_stands : GoodIn wsX7_refusalFromNow wsX4_stands := goodIn_r _ [10, 11, 12, 13, 9, 14, 15, 16, 17, 18, 19, 20, 21, 22, 23, 24, 32, 33, 34] (by decide +kernel) (by decide +kernel)
set_option maxRecDepth 20000 in
theorem gX7_refusalFromNow_X4_stands : GoodIn wsX7_refusalFromNow (wsV RX7 57 RX4 yX4_stands wsX4_stands) := goodIn_app (goodIn_of _ (by decide +kernel)) ggX7_refusalFromNow_X4_stands
theorem dX7_refusalFromNow_0 : decode cX7_refusalFromNow 0 = .ok (.iload_n 1, 1) := by decide +kernel
theorem dX7_refusalFromNow_1 : decode cX7_refusalFromNow 1 = .ok (.invokestatic 179, 3) := by decide +kernel
theorem dX7_refusalFromNow_4 : decode cX7_refusalFromNow 4 = .ok (.ifCond .ne 6, 3) := by decide +kernel
theorem dX7_refusalFromNow_7 : decode cX7_refusalFromNow 7 = .ok (.bipush (-2), 2) := by decide +kernel
theorem dX7_refusalFromNow_9 : decode cX7_refusalFromNow 9 = .ok (.ireturn, 1) := by decide +kernel
theorem dX7_refusalFromNow_10 : decode cX7_refusalFromNow 10 = .ok (.aload_n 0, 1) := by decide +kernel
theorem dX7_refusalFromNow_11 : decode cX7_refusalFromNow 11 = .ok (.getfield 10, 3) := by decide +kernel
theorem dX7_refusalFromNow_14 : decode cX7_refusalFromNow 14 = .ok (.invokevirtual 57, 3) := by decide +kernel
theorem dX7_refusalFromNow_17 : decode cX7_refusalFromNow 17 = .ok (.ifCond .ne 8, 3) := by decide +kernel
theorem dX7_refusalFromNow_20 : decode cX7_refusalFromNow 20 = .ok (.bipush (-3), 2) := by decide +kernel
theorem dX7_refusalFromNow_22 : decode cX7_refusalFromNow 22 = .ok (.goto 4, 3) := by decide +kernel
theorem dX7_refusalFromNow_25 : decode cX7_refusalFromNow 25 = .ok (.iconst 0, 1) := by decide +kernel
theorem dX7_refusalFromNow_26 : decode cX7_refusalFromNow 26 = .ok (.ireturn, 1) := by decide +kernel
set_option maxRecDepth 20000 in
theorem ggX7_newWalks_X6_init : GoodIn wsX7_newWalks wsX6_init := goodIn_r _ [8, 9, 10, 11, 12, 13, 14, 15, 16, 17, 18, 19, 20, 21, 22, 23, 24, 25, 26, 27, 28, 29, 30, 31, 32, 33, 34, 35, 36, 37, 79, 80, 81, 82, 56, 57, 58, 59, 60, 61, 62, 63, 64, 65, 66, 67, 68, 69, 70, 71, 72, 73, 74, 75, 83, 84, 85, 86, 87] (by decide +kernel) (by decide +kernel)
set_option maxRecDepth 20000 in
theorem gX7_newWalks_X6_init : GoodIn wsX7_newWalks (wsX6_init) := ggX7_newWalks_X6_init
set_option maxRecDepth 20000 in
theorem ggX7_newWalks_X6_begin : GoodIn wsX7_newWalks wsX6_begin := goodIn_r _ [41, 42, 43, 44, 45, 46, 47, 48, 18, 56, 57, 58, 59, 60, 61, 62, 63, 64, 65, 66, 67, 68, 69, 70, 71, 72, 73, 74, 75] (by decide +kernel) (by decide +kernel)
set_option maxRecDepth 20000 in
theorem gX7_newWalks_X6_begin : GoodIn wsX7_newWalks (wsV RX7 209 RX6 yX6_begin wsX6_begin) := goodIn_app (goodIn_of _ (by decide +kernel)) ggX7_newWalks_X6_begin
theorem dX7_newWalks_0 : decode cX7_newWalks 0 = .ok (.aload_n 0, 1) := by decide +kernel
theorem dX7_newWalks_1 : decode cX7_newWalks 1 = .ok (.getfield 202, 3) := by decide +kernel
theorem dX7_newWalks_4 : decode cX7_newWalks 4 = .ok (.ifnonnull 21, 3) := by decide +kernel
theorem dX7_newWalks_7 : decode cX7_newWalks 7 = .ok (.aload_n 0, 1) := by decide +kernel
theorem dX7_newWalks_8 : decode cX7_newWalks 8 = .ok (.new 156, 3) := by decide +kernel
theorem dX7_newWalks_11 : decode cX7_newWalks 11 = .ok (.dup, 1) := by decide +kernel
theorem dX7_newWalks_12 : decode cX7_newWalks 12 = .ok (.aload_n 0, 1) := by decide +kernel
theorem dX7_newWalks_13 : decode cX7_newWalks 13 = .ok (.getfield 10, 3) := by decide +kernel
theorem dX7_newWalks_16 : decode cX7_newWalks 16 = .ok (.getfield 100, 3) := by decide +kernel
theorem dX7_newWalks_19 : decode cX7_newWalks 19 = .ok (.invokespecial 206, 3) := by decide +kernel
theorem dX7_newWalks_22 : decode cX7_newWalks 22 = .ok (.putfield 202, 3) := by decide +kernel
theorem dX7_newWalks_25 : decode cX7_newWalks 25 = .ok (.aload_n 0, 1) := by decide +kernel
theorem dX7_newWalks_26 : decode cX7_newWalks 26 = .ok (.getfield 202, 3) := by decide +kernel
theorem dX7_newWalks_29 : decode cX7_newWalks 29 = .ok (.aload_n 0, 1) := by decide +kernel
theorem dX7_newWalks_30 : decode cX7_newWalks 30 = .ok (.getfield 10, 3) := by decide +kernel
theorem dX7_newWalks_33 : decode cX7_newWalks 33 = .ok (.getfield 33, 3) := by decide +kernel
theorem dX7_newWalks_36 : decode cX7_newWalks 36 = .ok (.iload_n 1, 1) := by decide +kernel
theorem dX7_newWalks_37 : decode cX7_newWalks 37 = .ok (.iload_n 2, 1) := by decide +kernel
theorem dX7_newWalks_38 : decode cX7_newWalks 38 = .ok (.invokevirtual 209, 3) := by decide +kernel
theorem dX7_newWalks_41 : decode cX7_newWalks 41 = .ok (.aload_n 0, 1) := by decide +kernel
theorem dX7_newWalks_42 : decode cX7_newWalks 42 = .ok (.getfield 202, 3) := by decide +kernel
theorem dX7_newWalks_45 : decode cX7_newWalks 45 = .ok (.areturn, 1) := by decide +kernel
set_option maxRecDepth 20000 in
theorem ggX7_walksFromNow_X7_newWalks : GoodIn wsX7_walksFromNow wsX7_newWalks := goodIn_r _ [6, 7, 8, 9, 10, 1, 11, 12, 13, 14, 15, 16, 17, 18, 19, 20, 21, 22, 23, 24, 25, 26, 27, 28, 29, 30, 31, 32, 33, 34, 35, 36, 37, 38, 39, 40, 41, 42, 43, 44, 45, 46, 47, 48, 49, 50, 51, 52, 53, 96, 97, 98, 99, 100, 101, 102, 103, 104, 105, 106, 107, 108, 109, 110, 111, 112, 113, 114, 115, 116, 117, 118, 119, 120, 121, 122, 123, 124, 125, 126, 127, 128, 129, 130, 131, 132, 133, 134] (by decide +kernel) (by decide +kernel)
set_option maxRecDepth 20000 in
theorem gX7_walksFromNow_X7_newWalks : GoodIn wsX7_walksFromNow (wsV RX7 182 RX7 yX7_newWalks wsX7_newWalks) := goodIn_app (goodIn_of _ (by decide +kernel)) ggX7_walksFromNow_X7_newWalks
set_option maxRecDepth 20000 in
theorem ggX7_walksFromNow_X4_stands : GoodIn wsX7_walksFromNow wsX4_stands := goodIn_r _ [58, 59, 60, 61, 57, 62, 63, 64, 65, 66, 67, 68, 69, 70, 71, 72, 123, 124, 125] (by decide +kernel) (by decide +kernel)
set_option maxRecDepth 20000 in
theorem gX7_walksFromNow_X4_stands : GoodIn wsX7_walksFromNow (wsV RX7 57 RX4 yX4_stands wsX4_stands) := goodIn_app (goodIn_of _ (by decide +kernel)) ggX7_walksFromNow_X4_stands
set_option maxRecDepth 20000 in
theorem ggX7_walksFromNow_X4_towers : GoodIn wsX7_walksFromNow wsX4_towers := goodIn_r _ [76, 59, 60, 61, 57, 62, 63, 64, 65, 66, 67, 68, 69, 70, 71, 72, 123, 124, 125] (by decide +kernel) (by decide +kernel)
set_option maxRecDepth 20000 in
theorem gX7_walksFromNow_X4_towers : GoodIn wsX7_walksFromNow (wsV RX7 125 RX4 yX4_towers wsX4_towers) := goodIn_app (goodIn_of _ (by decide +kernel)) ggX7_walksFromNow_X4_towers
set_option maxRecDepth 20000 in
theorem ggX7_walksFromNow_X5_way : GoodIn wsX7_walksFromNow wsX5_way := goodIn_r _ [80] (by decide +kernel) (by decide +kernel)
set_option maxRecDepth 20000 in
theorem gX7_walksFromNow_X5_way : GoodIn wsX7_walksFromNow (va_wsS RX7 185 yX5_way wsX5_way) := goodIn_app (goodIn_of _ (by decide +kernel)) ggX7_walksFromNow_X5_way
set_option maxRecDepth 20000 in
theorem ggX7_walksFromNow_X6_add : GoodIn wsX7_walksFromNow wsX6_add := goodIn_r _ [84, 50, 22, 24, 23, 25, 28, 85, 86, 87, 10, 88, 89, 90, 79, 91, 92, 93, 94, 95, 103, 104, 105, 106, 107, 108, 109, 110, 111, 112, 113, 114, 115, 116, 117, 118, 119, 120, 121, 122] (by decide +kernel) (by decide +kernel)
set_option maxRecDepth 20000 in
theorem gX7_walksFromNow_X6_add : GoodIn wsX7_walksFromNow (wsV RX7 188 RX6 yX6_add wsX6_add) := goodIn_app (goodIn_of _ (by decide +kernel)) ggX7_walksFromNow_X6_add
theorem dX7_walksFromNow_0 : decode cX7_walksFromNow 0 = .ok (.aload_n 0, 1) := by decide +kernel
theorem dX7_walksFromNow_1 : decode cX7_walksFromNow 1 = .ok (.iload_n 1, 1) := by decide +kernel
theorem dX7_walksFromNow_2 : decode cX7_walksFromNow 2 = .ok (.iload_n 2, 1) := by decide +kernel
theorem dX7_walksFromNow_3 : decode cX7_walksFromNow 3 = .ok (.invokevirtual 182, 3) := by decide +kernel
theorem dX7_walksFromNow_6 : decode cX7_walksFromNow 6 = .ok (.astore_n 3, 1) := by decide +kernel
theorem dX7_walksFromNow_7 : decode cX7_walksFromNow 7 = .ok (.aload_n 3, 1) := by decide +kernel
theorem dX7_walksFromNow_8 : decode cX7_walksFromNow 8 = .ok (.aload_n 0, 1) := by decide +kernel
theorem dX7_walksFromNow_9 : decode cX7_walksFromNow 9 = .ok (.getfield 10, 3) := by decide +kernel
theorem dX7_walksFromNow_12 : decode cX7_walksFromNow 12 = .ok (.invokevirtual 57, 3) := by decide +kernel
theorem dX7_walksFromNow_15 : decode cX7_walksFromNow 15 = .ok (.aload_n 0, 1) := by decide +kernel
theorem dX7_walksFromNow_16 : decode cX7_walksFromNow 16 = .ok (.getfield 10, 3) := by decide +kernel
theorem dX7_walksFromNow_19 : decode cX7_walksFromNow 19 = .ok (.invokevirtual 125, 3) := by decide +kernel
theorem dX7_walksFromNow_22 : decode cX7_walksFromNow 22 = .ok (.invokestatic 185, 3) := by decide +kernel
theorem dX7_walksFromNow_25 : decode cX7_walksFromNow 25 = .ok (.invokevirtual 188, 3) := by decide +kernel
theorem dX7_walksFromNow_28 : decode cX7_walksFromNow 28 = .ok (.pop, 1) := by decide +kernel
theorem dX7_walksFromNow_29 : decode cX7_walksFromNow 29 = .ok (.aload_n 3, 1) := by decide +kernel
theorem dX7_walksFromNow_30 : decode cX7_walksFromNow 30 = .ok (.areturn, 1) := by decide +kernel
theorem dX8_init_0 : decode cX8_init 0 = .ok (.aload_n 0, 1) := by decide +kernel
theorem dX8_init_1 : decode cX8_init 1 = .ok (.invokespecial 1, 3) := by decide +kernel
theorem dX8_init_4 : decode cX8_init 4 = .ok (.aload_n 0, 1) := by decide +kernel
theorem dX8_init_5 : decode cX8_init 5 = .ok (.bipush 72, 2) := by decide +kernel
theorem dX8_init_7 : decode cX8_init 7 = .ok (.newarray .int, 2) := by decide +kernel
theorem dX8_init_9 : decode cX8_init 9 = .ok (.putfield 7, 3) := by decide +kernel
theorem dX8_init_12 : decode cX8_init 12 = .ok (.aload_n 0, 1) := by decide +kernel
theorem dX8_init_13 : decode cX8_init 13 = .ok (.sipush 144, 3) := by decide +kernel
theorem dX8_init_16 : decode cX8_init 16 = .ok (.newarray .int, 2) := by decide +kernel
theorem dX8_init_18 : decode cX8_init 18 = .ok (.putfield 13, 3) := by decide +kernel
theorem dX8_init_21 : decode cX8_init 21 = .ok (.aload_n 0, 1) := by decide +kernel
theorem dX8_init_22 : decode cX8_init 22 = .ok (.iconst 2, 1) := by decide +kernel
theorem dX8_init_23 : decode cX8_init 23 = .ok (.newarray .boolean, 2) := by decide +kernel
theorem dX8_init_25 : decode cX8_init 25 = .ok (.putfield 16, 3) := by decide +kernel
theorem dX8_init_28 : decode cX8_init 28 = .ok (.aload_n 0, 1) := by decide +kernel
theorem dX8_init_29 : decode cX8_init 29 = .ok (.bipush 11, 2) := by decide +kernel
theorem dX8_init_31 : decode cX8_init 31 = .ok (.newarray .int, 2) := by decide +kernel
theorem dX8_init_33 : decode cX8_init 33 = .ok (.putfield 20, 3) := by decide +kernel
theorem dX8_init_36 : decode cX8_init 36 = .ok (.aload_n 0, 1) := by decide +kernel
theorem dX8_init_37 : decode cX8_init 37 = .ok (.bipush 10, 2) := by decide +kernel
theorem dX8_init_39 : decode cX8_init 39 = .ok (.newarray .int, 2) := by decide +kernel
theorem dX8_init_41 : decode cX8_init 41 = .ok (.putfield 23, 3) := by decide +kernel
theorem dX8_init_44 : decode cX8_init 44 = .ok (.aload_n 0, 1) := by decide +kernel
theorem dX8_init_45 : decode cX8_init 45 = .ok (.ldc 26, 2) := by decide +kernel
theorem dX8_init_47 : decode cX8_init 47 = .ok (.newarray .int, 2) := by decide +kernel
theorem dX8_init_49 : decode cX8_init 49 = .ok (.putfield 27, 3) := by decide +kernel
theorem dX8_init_52 : decode cX8_init 52 = .ok (.aload_n 0, 1) := by decide +kernel
theorem dX8_init_53 : decode cX8_init 53 = .ok (.ldc 26, 2) := by decide +kernel
theorem dX8_init_55 : decode cX8_init 55 = .ok (.newarray .boolean, 2) := by decide +kernel
theorem dX8_init_57 : decode cX8_init 57 = .ok (.putfield 30, 3) := by decide +kernel
theorem dX8_init_60 : decode cX8_init 60 = .ok (.aload_n 0, 1) := by decide +kernel
theorem dX8_init_61 : decode cX8_init 61 = .ok (.ldc 26, 2) := by decide +kernel
theorem dX8_init_63 : decode cX8_init 63 = .ok (.newarray .int, 2) := by decide +kernel
theorem dX8_init_65 : decode cX8_init 65 = .ok (.putfield 33, 3) := by decide +kernel
theorem dX8_init_68 : decode cX8_init 68 = .ok (.aload_n 0, 1) := by decide +kernel
theorem dX8_init_69 : decode cX8_init 69 = .ok (.ldc 26, 2) := by decide +kernel
theorem dX8_init_71 : decode cX8_init 71 = .ok (.newarray .int, 2) := by decide +kernel
theorem dX8_init_73 : decode cX8_init 73 = .ok (.putfield 36, 3) := by decide +kernel
theorem dX8_init_76 : decode cX8_init 76 = .ok (.aload_n 0, 1) := by decide +kernel
theorem dX8_init_77 : decode cX8_init 77 = .ok (.ldc 26, 2) := by decide +kernel
theorem dX8_init_79 : decode cX8_init 79 = .ok (.newarray .int, 2) := by decide +kernel
theorem dX8_init_81 : decode cX8_init 81 = .ok (.putfield 39, 3) := by decide +kernel
theorem dX8_init_84 : decode cX8_init 84 = .ok (.aload_n 0, 1) := by decide +kernel
theorem dX8_init_85 : decode cX8_init 85 = .ok (.bipush 10, 2) := by decide +kernel
theorem dX8_init_87 : decode cX8_init 87 = .ok (.newarray .int, 2) := by decide +kernel
theorem dX8_init_89 : decode cX8_init 89 = .ok (.putfield 42, 3) := by decide +kernel
theorem dX8_init_92 : decode cX8_init 92 = .ok (.aload_n 0, 1) := by decide +kernel
theorem dX8_init_93 : decode cX8_init 93 = .ok (.getfield 7, 3) := by decide +kernel
theorem dX8_init_96 : decode cX8_init 96 = .ok (.iconst 0, 1) := by decide +kernel
theorem dX8_init_97 : decode cX8_init 97 = .ok (.bipush 8, 2) := by decide +kernel
theorem dX8_init_99 : decode cX8_init 99 = .ok (.iastore, 1) := by decide +kernel
theorem dX8_init_100 : decode cX8_init 100 = .ok (.aload_n 0, 1) := by decide +kernel
theorem dX8_init_101 : decode cX8_init 101 = .ok (.getfield 20, 3) := by decide +kernel
theorem dX8_init_104 : decode cX8_init 104 = .ok (.iconst 0, 1) := by decide +kernel
theorem dX8_init_105 : decode cX8_init 105 = .ok (.iconst 1, 1) := by decide +kernel
theorem dX8_init_106 : decode cX8_init 106 = .ok (.iastore, 1) := by decide +kernel
theorem dX8_init_107 : decode cX8_init 107 = .ok (.iconst 1, 1) := by decide +kernel
theorem dX8_init_108 : decode cX8_init 108 = .ok (.istore_n 1, 1) := by decide +kernel
theorem dX8_init_109 : decode cX8_init 109 = .ok (.iload_n 1, 1) := by decide +kernel
theorem dX8_init_110 : decode cX8_init 110 = .ok (.bipush 11, 2) := by decide +kernel
theorem dX8_init_112 : decode cX8_init 112 = .ok (.if_icmp .ge 25, 3) := by decide +kernel
theorem dX8_init_115 : decode cX8_init 115 = .ok (.aload_n 0, 1) := by decide +kernel
theorem dX8_init_116 : decode cX8_init 116 = .ok (.getfield 20, 3) := by decide +kernel
theorem dX8_init_119 : decode cX8_init 119 = .ok (.iload_n 1, 1) := by decide +kernel
theorem dX8_init_120 : decode cX8_init 120 = .ok (.iconst 3, 1) := by decide +kernel
theorem dX8_init_121 : decode cX8_init 121 = .ok (.aload_n 0, 1) := by decide +kernel
theorem dX8_init_122 : decode cX8_init 122 = .ok (.getfield 20, 3) := by decide +kernel
theorem dX8_init_125 : decode cX8_init 125 = .ok (.iload_n 1, 1) := by decide +kernel
theorem dX8_init_126 : decode cX8_init 126 = .ok (.iconst 1, 1) := by decide +kernel
theorem dX8_init_127 : decode cX8_init 127 = .ok (.isub, 1) := by decide +kernel
theorem dX8_init_128 : decode cX8_init 128 = .ok (.iaload, 1) := by decide +kernel
theorem dX8_init_129 : decode cX8_init 129 = .ok (.imul, 1) := by decide +kernel
theorem dX8_init_130 : decode cX8_init 130 = .ok (.iastore, 1) := by decide +kernel
theorem dX8_init_131 : decode cX8_init 131 = .ok (.iinc 1 1, 3) := by decide +kernel
theorem dX8_init_134 : decode cX8_init 134 = .ok (.goto (-25), 3) := by decide +kernel
theorem dX8_init_137 : decode cX8_init 137 = .ok (.return_, 1) := by decide +kernel
theorem dX8_in_0 : decode cX8_in 0 = .ok (.iload_n 0, 1) := by decide +kernel
theorem dX8_in_1 : decode cX8_in 1 = .ok (.iload_n 1, 1) := by decide +kernel
theorem dX8_in_2 : decode cX8_in 2 = .ok (.if_icmp .lt 12, 3) := by decide +kernel
theorem dX8_in_5 : decode cX8_in 5 = .ok (.iload_n 0, 1) := by decide +kernel
theorem dX8_in_6 : decode cX8_in 6 = .ok (.iload_n 2, 1) := by decide +kernel
theorem dX8_in_7 : decode cX8_in 7 = .ok (.if_icmp .gt 7, 3) := by decide +kernel
theorem dX8_in_10 : decode cX8_in 10 = .ok (.iconst 1, 1) := by decide +kernel
theorem dX8_in_11 : decode cX8_in 11 = .ok (.goto 4, 3) := by decide +kernel
theorem dX8_in_14 : decode cX8_in 14 = .ok (.iconst 0, 1) := by decide +kernel
theorem dX8_in_15 : decode cX8_in 15 = .ok (.ireturn, 1) := by decide +kernel
theorem dX8_cells_0 : decode cX8_cells 0 = .ok (.aload_n 0, 1) := by decide +kernel
theorem dX8_cells_1 : decode cX8_cells 1 = .ok (.getfield 7, 3) := by decide +kernel
theorem dX8_cells_4 : decode cX8_cells 4 = .ok (.iconst 0, 1) := by decide +kernel
theorem dX8_cells_5 : decode cX8_cells 5 = .ok (.iaload, 1) := by decide +kernel
theorem dX8_cells_6 : decode cX8_cells 6 = .ok (.ireturn, 1) := by decide +kernel
set_option maxRecDepth 20000 in
theorem ggX8_isCell_X8_cells : GoodIn wsX8_isCell wsX8_cells := goodIn_r _ [5, 6, 10, 11, 12, 13, 14, 15, 16, 17, 18, 19, 20, 21, 22, 23] (by decide +kernel) (by decide +kernel)
set_option maxRecDepth 20000 in
theorem gX8_isCell_X8_cells : GoodIn wsX8_isCell (wsV RX8 45 RX8 yX8_cells wsX8_cells) := goodIn_app (goodIn_of _ (by decide +kernel)) ggX8_isCell_X8_cells
set_option maxRecDepth 20000 in
theorem ggX8_isCell_X8_in : GoodIn wsX8_isCell wsX8_in := goodIn_r _ [9] (by decide +kernel) (by decide +kernel)
set_option maxRecDepth 20000 in
theorem gX8_isCell_X8_in : GoodIn wsX8_isCell (va_wsS RX8 49 yX8_in wsX8_in) := goodIn_app (goodIn_of _ (by decide +kernel)) ggX8_isCell_X8_in
theorem dX8_isCell_0 : decode cX8_isCell 0 = .ok (.iload_n 1, 1) := by decide +kernel
theorem dX8_isCell_1 : decode cX8_isCell 1 = .ok (.iconst 0, 1) := by decide +kernel
theorem dX8_isCell_2 : decode cX8_isCell 2 = .ok (.aload_n 0, 1) := by decide +kernel
theorem dX8_isCell_3 : decode cX8_isCell 3 = .ok (.invokevirtual 45, 3) := by decide +kernel
theorem dX8_isCell_6 : decode cX8_isCell 6 = .ok (.iconst 1, 1) := by decide +kernel
theorem dX8_isCell_7 : decode cX8_isCell 7 = .ok (.isub, 1) := by decide +kernel
theorem dX8_isCell_8 : decode cX8_isCell 8 = .ok (.invokestatic 49, 3) := by decide +kernel
theorem dX8_isCell_11 : decode cX8_isCell 11 = .ok (.ireturn, 1) := by decide +kernel
set_option maxRecDepth 20000 in
theorem ggX8_isStand_X8_isCell : GoodIn wsX8_isStand wsX8_isCell := goodIn_r _ [6, 7, 8, 9, 5, 10, 1, 11, 12, 13, 14, 15, 16, 17, 18, 19, 20, 21, 22, 23, 24, 25, 26, 27] (by decide +kernel) (by decide +kernel)
set_option maxRecDepth 20000 in
theorem gX8_isStand_X8_isCell : GoodIn wsX8_isStand (wsV RX8 53 RX8 yX8_isCell wsX8_isCell) := goodIn_app (goodIn_of _ (by decide +kernel)) ggX8_isStand_X8_isCell
theorem dX8_isStand_0 : decode cX8_isStand 0 = .ok (.aload_n 0, 1) := by decide +kernel
theorem dX8_isStand_1 : decode cX8_isStand 1 = .ok (.iload_n 1, 1) := by decide +kernel
theorem dX8_isStand_2 : decode cX8_isStand 2 = .ok (.invokevirtual 53, 3) := by decide +kernel
theorem dX8_isStand_5 : decode cX8_isStand 5 = .ok (.ifCond .eq 18, 3) := by decide +kernel
theorem dX8_isStand_8 : decode cX8_isStand 8 = .ok (.aload_n 0, 1) := by decide +kernel
theorem dX8_isStand_9 : decode cX8_isStand 9 = .ok (.getfield 7, 3) := by decide +kernel
theorem dX8_isStand_12 : decode cX8_isStand 12 = .ok (.iconst 1, 1) := by decide +kernel
theorem dX8_isStand_13 : decode cX8_isStand 13 = .ok (.iload_n 1, 1) := by decide +kernel
theorem dX8_isStand_14 : decode cX8_isStand 14 = .ok (.iadd, 1) := by decide +kernel
theorem dX8_isStand_15 : decode cX8_isStand 15 = .ok (.iaload, 1) := by decide +kernel
theorem dX8_isStand_16 : decode cX8_isStand 16 = .ok (.ifCond .le 7, 3) := by decide +kernel
theorem dX8_isStand_19 : decode cX8_isStand 19 = .ok (.iconst 1, 1) := by decide +kernel
theorem dX8_isStand_20 : decode cX8_isStand 20 = .ok (.goto 4, 3) := by decide +kernel
theorem dX8_isStand_23 : decode cX8_isStand 23 = .ok (.iconst 0, 1) := by decide +kernel
theorem dX8_isStand_24 : decode cX8_isStand 24 = .ok (.ireturn, 1) := by decide +kernel
set_option maxRecDepth 20000 in
theorem ggX8_isRule_X8_in : GoodIn wsX8_isRule wsX8_in := goodIn_r _ [5] (by decide +kernel) (by decide +kernel)
set_option maxRecDepth 20000 in
theorem gX8_isRule_X8_in : GoodIn wsX8_isRule (va_wsS RX8 49 yX8_in wsX8_in) := goodIn_app (goodIn_of _ (by decide +kernel)) ggX8_isRule_X8_in
theorem dX8_isRule_0 : decode cX8_isRule 0 = .ok (.iload_n 1, 1) := by decide +kernel
theorem dX8_isRule_1 : decode cX8_isRule 1 = .ok (.iconst 0, 1) := by decide +kernel
theorem dX8_isRule_2 : decode cX8_isRule 2 = .ok (.aload_n 0, 1) := by decide +kernel
theorem dX8_isRule_3 : decode cX8_isRule 3 = .ok (.getfield 7, 3) := by decide +kernel
theorem dX8_isRule_6 : decode cX8_isRule 6 = .ok (.bipush 11, 2) := by decide +kernel
theorem dX8_isRule_8 : decode cX8_isRule 8 = .ok (.iaload, 1) := by decide +kernel
theorem dX8_isRule_9 : decode cX8_isRule 9 = .ok (.iconst 1, 1) := by decide +kernel
theorem dX8_isRule_10 : decode cX8_isRule 10 = .ok (.isub, 1) := by decide +kernel
theorem dX8_isRule_11 : decode cX8_isRule 11 = .ok (.invokestatic 49, 3) := by decide +kernel
theorem dX8_isRule_14 : decode cX8_isRule 14 = .ok (.ireturn, 1) := by decide +kernel
set_option maxRecDepth 20000 in
theorem ggX8_isSchedule_X8_in : GoodIn wsX8_isSchedule wsX8_in := goodIn_r _ [4] (by decide +kernel) (by decide +kernel)
set_option maxRecDepth 20000 in
theorem gX8_isSchedule_X8_in : GoodIn wsX8_isSchedule (va_wsS RX8 49 yX8_in wsX8_in) := goodIn_app (goodIn_of _ (by decide +kernel)) ggX8_isSchedule_X8_in
theorem dX8_isSchedule_0 : decode cX8_isSchedule 0 = .ok (.iload_n 0, 1) := by decide +kernel
theorem dX8_isSchedule_1 : decode cX8_isSchedule 1 = .ok (.iconst 0, 1) := by decide +kernel
theorem dX8_isSchedule_2 : decode cX8_isSchedule 2 = .ok (.iconst 2, 1) := by decide +kernel
theorem dX8_isSchedule_3 : decode cX8_isSchedule 3 = .ok (.invokestatic 49, 3) := by decide +kernel
theorem dX8_isSchedule_6 : decode cX8_isSchedule 6 = .ok (.ireturn, 1) := by decide +kernel
theorem dX8_walkers_0 : decode cX8_walkers 0 = .ok (.iconst 0, 1) := by decide +kernel
theorem dX8_walkers_1 : decode cX8_walkers 1 = .ok (.istore_n 1, 1) := by decide +kernel
theorem dX8_walkers_2 : decode cX8_walkers 2 = .ok (.iconst 0, 1) := by decide +kernel
theorem dX8_walkers_3 : decode cX8_walkers 3 = .ok (.istore_n 2, 1) := by decide +kernel
theorem dX8_walkers_4 : decode cX8_walkers 4 = .ok (.iload_n 2, 1) := by decide +kernel
theorem dX8_walkers_5 : decode cX8_walkers 5 = .ok (.bipush 10, 2) := by decide +kernel
theorem dX8_walkers_7 : decode cX8_walkers 7 = .ok (.if_icmp .ge 20, 3) := by decide +kernel
theorem dX8_walkers_10 : decode cX8_walkers 10 = .ok (.iload_n 1, 1) := by decide +kernel
theorem dX8_walkers_11 : decode cX8_walkers 11 = .ok (.aload_n 0, 1) := by decide +kernel
theorem dX8_walkers_12 : decode cX8_walkers 12 = .ok (.getfield 7, 3) := by decide +kernel
theorem dX8_walkers_15 : decode cX8_walkers 15 = .ok (.iconst 1, 1) := by decide +kernel
theorem dX8_walkers_16 : decode cX8_walkers 16 = .ok (.iload_n 2, 1) := by decide +kernel
theorem dX8_walkers_17 : decode cX8_walkers 17 = .ok (.iadd, 1) := by decide +kernel
theorem dX8_walkers_18 : decode cX8_walkers 18 = .ok (.iaload, 1) := by decide +kernel
theorem dX8_walkers_19 : decode cX8_walkers 19 = .ok (.iadd, 1) := by decide +kernel
theorem dX8_walkers_20 : decode cX8_walkers 20 = .ok (.istore_n 1, 1) := by decide +kernel
theorem dX8_walkers_21 : decode cX8_walkers 21 = .ok (.iinc 2 1, 3) := by decide +kernel
theorem dX8_walkers_24 : decode cX8_walkers 24 = .ok (.goto (-20), 3) := by decide +kernel
theorem dX8_walkers_27 : decode cX8_walkers 27 = .ok (.iload_n 1, 1) := by decide +kernel
theorem dX8_walkers_28 : decode cX8_walkers 28 = .ok (.ireturn, 1) := by decide +kernel
theorem dX8_size_0 : decode cX8_size 0 = .ok (.iconst 0, 1) := by decide +kernel
theorem dX8_size_1 : decode cX8_size 1 = .ok (.istore_n 1, 1) := by decide +kernel
theorem dX8_size_2 : decode cX8_size 2 = .ok (.iconst 0, 1) := by decide +kernel
theorem dX8_size_3 : decode cX8_size 3 = .ok (.istore_n 2, 1) := by decide +kernel
theorem dX8_size_4 : decode cX8_size 4 = .ok (.iload_n 2, 1) := by decide +kernel
theorem dX8_size_5 : decode cX8_size 5 = .ok (.bipush 10, 2) := by decide +kernel
theorem dX8_size_7 : decode cX8_size 7 = .ok (.if_icmp .ge 17, 3) := by decide +kernel
theorem dX8_size_10 : decode cX8_size 10 = .ok (.iload_n 1, 1) := by decide +kernel
theorem dX8_size_11 : decode cX8_size 11 = .ok (.iload_n 0, 1) := by decide +kernel
theorem dX8_size_12 : decode cX8_size 12 = .ok (.iload_n 2, 1) := by decide +kernel
theorem dX8_size_13 : decode cX8_size 13 = .ok (.ishr, 1) := by decide +kernel
theorem dX8_size_14 : decode cX8_size 14 = .ok (.iconst 1, 1) := by decide +kernel
theorem dX8_size_15 : decode cX8_size 15 = .ok (.iand, 1) := by decide +kernel
theorem dX8_size_16 : decode cX8_size 16 = .ok (.iadd, 1) := by decide +kernel
theorem dX8_size_17 : decode cX8_size 17 = .ok (.istore_n 1, 1) := by decide +kernel
theorem dX8_size_18 : decode cX8_size 18 = .ok (.iinc 2 1, 3) := by decide +kernel
theorem dX8_size_21 : decode cX8_size 21 = .ok (.goto (-17), 3) := by decide +kernel
theorem dX8_size_24 : decode cX8_size 24 = .ok (.iload_n 1, 1) := by decide +kernel
theorem dX8_size_25 : decode cX8_size 25 = .ok (.ireturn, 1) := by decide +kernel
set_option maxRecDepth 20000 in
theorem ggX8_now_X8_cells : GoodIn wsX8_now wsX8_cells := goodIn_r _ [7, 1, 8, 9, 10, 11, 12, 13, 14, 15, 16, 17, 18, 19, 20, 21] (by decide +kernel) (by decide +kernel)
set_option maxRecDepth 20000 in
theorem gX8_now_X8_cells : GoodIn wsX8_now (wsV RX8 45 RX8 yX8_cells wsX8_cells) := goodIn_app (goodIn_of _ (by decide +kernel)) ggX8_now_X8_cells
theorem dX8_now_0 : decode cX8_now 0 = .ok (.iconst 0, 1) := by decide +kernel
theorem dX8_now_1 : decode cX8_now 1 = .ok (.istore_n 1, 1) := by decide +kernel
theorem dX8_now_2 : decode cX8_now 2 = .ok (.iconst 0, 1) := by decide +kernel
theorem dX8_now_3 : decode cX8_now 3 = .ok (.istore_n 2, 1) := by decide +kernel
theorem dX8_now_4 : decode cX8_now 4 = .ok (.iload_n 2, 1) := by decide +kernel
theorem dX8_now_5 : decode cX8_now 5 = .ok (.aload_n 0, 1) := by decide +kernel
theorem dX8_now_6 : decode cX8_now 6 = .ok (.invokevirtual 45, 3) := by decide +kernel
theorem dX8_now_9 : decode cX8_now 9 = .ok (.if_icmp .ge 38, 3) := by decide +kernel
theorem dX8_now_12 : decode cX8_now 12 = .ok (.aload_n 0, 1) := by decide +kernel
theorem dX8_now_13 : decode cX8_now 13 = .ok (.getfield 7, 3) := by decide +kernel
theorem dX8_now_16 : decode cX8_now 16 = .ok (.iconst 1, 1) := by decide +kernel
theorem dX8_now_17 : decode cX8_now 17 = .ok (.iload_n 2, 1) := by decide +kernel
theorem dX8_now_18 : decode cX8_now 18 = .ok (.iadd, 1) := by decide +kernel
theorem dX8_now_19 : decode cX8_now 19 = .ok (.iaload, 1) := by decide +kernel
theorem dX8_now_20 : decode cX8_now 20 = .ok (.istore_n 3, 1) := by decide +kernel
theorem dX8_now_21 : decode cX8_now 21 = .ok (.iload_n 1, 1) := by decide +kernel
theorem dX8_now_22 : decode cX8_now 22 = .ok (.aload_n 0, 1) := by decide +kernel
theorem dX8_now_23 : decode cX8_now 23 = .ok (.getfield 20, 3) := by decide +kernel
theorem dX8_now_26 : decode cX8_now 26 = .ok (.iload_n 2, 1) := by decide +kernel
theorem dX8_now_27 : decode cX8_now 27 = .ok (.iaload, 1) := by decide +kernel
theorem dX8_now_28 : decode cX8_now 28 = .ok (.iload_n 3, 1) := by decide +kernel
theorem dX8_now_29 : decode cX8_now 29 = .ok (.iconst 1, 1) := by decide +kernel
theorem dX8_now_30 : decode cX8_now 30 = .ok (.if_icmp .le 7, 3) := by decide +kernel
theorem dX8_now_33 : decode cX8_now 33 = .ok (.iconst 2, 1) := by decide +kernel
theorem dX8_now_34 : decode cX8_now 34 = .ok (.goto 4, 3) := by decide +kernel
theorem dX8_now_37 : decode cX8_now 37 = .ok (.iload_n 3, 1) := by decide +kernel
theorem dX8_now_38 : decode cX8_now 38 = .ok (.imul, 1) := by decide +kernel
theorem dX8_now_39 : decode cX8_now 39 = .ok (.iadd, 1) := by decide +kernel
theorem dX8_now_40 : decode cX8_now 40 = .ok (.istore_n 1, 1) := by decide +kernel
theorem dX8_now_41 : decode cX8_now 41 = .ok (.iinc 2 1, 3) := by decide +kernel
theorem dX8_now_44 : decode cX8_now 44 = .ok (.goto (-40), 3) := by decide +kernel
theorem dX8_now_47 : decode cX8_now 47 = .ok (.iload_n 1, 1) := by decide +kernel
theorem dX8_now_48 : decode cX8_now 48 = .ok (.ireturn, 1) := by decide +kernel
set_option maxRecDepth 20000 in
theorem ggX8_standsOf_X8_cells : GoodIn wsX8_standsOf wsX8_cells := goodIn_r _ [6, 7, 8, 9, 10, 11, 12, 13, 14, 15, 16, 17, 18, 19, 20, 21] (by decide +kernel) (by decide +kernel)
set_option maxRecDepth 20000 in
theorem gX8_standsOf_X8_cells : GoodIn wsX8_standsOf (wsV RX8 45 RX8 yX8_cells wsX8_cells) := goodIn_app (goodIn_of _ (by decide +kernel)) ggX8_standsOf_X8_cells
theorem dX8_standsOf_0 : decode cX8_standsOf 0 = .ok (.iconst 0, 1) := by decide +kernel
theorem dX8_standsOf_1 : decode cX8_standsOf 1 = .ok (.istore_n 2, 1) := by decide +kernel
theorem dX8_standsOf_2 : decode cX8_standsOf 2 = .ok (.iconst 0, 1) := by decide +kernel
theorem dX8_standsOf_3 : decode cX8_standsOf 3 = .ok (.istore_n 3, 1) := by decide +kernel
theorem dX8_standsOf_4 : decode cX8_standsOf 4 = .ok (.iload_n 3, 1) := by decide +kernel
theorem dX8_standsOf_5 : decode cX8_standsOf 5 = .ok (.aload_n 0, 1) := by decide +kernel
theorem dX8_standsOf_6 : decode cX8_standsOf 6 = .ok (.invokevirtual 45, 3) := by decide +kernel
theorem dX8_standsOf_9 : decode cX8_standsOf 9 = .ok (.if_icmp .ge 32, 3) := by decide +kernel
theorem dX8_standsOf_12 : decode cX8_standsOf 12 = .ok (.iload_n 2, 1) := by decide +kernel
theorem dX8_standsOf_13 : decode cX8_standsOf 13 = .ok (.iload_n 1, 1) := by decide +kernel
theorem dX8_standsOf_14 : decode cX8_standsOf 14 = .ok (.aload_n 0, 1) := by decide +kernel
theorem dX8_standsOf_15 : decode cX8_standsOf 15 = .ok (.getfield 20, 3) := by decide +kernel
theorem dX8_standsOf_18 : decode cX8_standsOf 18 = .ok (.iload_n 3, 1) := by decide +kernel
theorem dX8_standsOf_19 : decode cX8_standsOf 19 = .ok (.iaload, 1) := by decide +kernel
theorem dX8_standsOf_20 : decode cX8_standsOf 20 = .ok (.idiv, 1) := by decide +kernel
theorem dX8_standsOf_21 : decode cX8_standsOf 21 = .ok (.iconst 3, 1) := by decide +kernel
theorem dX8_standsOf_22 : decode cX8_standsOf 22 = .ok (.irem, 1) := by decide +kernel
theorem dX8_standsOf_23 : decode cX8_standsOf 23 = .ok (.ifCond .le 9, 3) := by decide +kernel
theorem dX8_standsOf_26 : decode cX8_standsOf 26 = .ok (.iconst 1, 1) := by decide +kernel
theorem dX8_standsOf_27 : decode cX8_standsOf 27 = .ok (.iload_n 3, 1) := by decide +kernel
theorem dX8_standsOf_28 : decode cX8_standsOf 28 = .ok (.ishl, 1) := by decide +kernel
theorem dX8_standsOf_29 : decode cX8_standsOf 29 = .ok (.goto 4, 3) := by decide +kernel
theorem dX8_standsOf_32 : decode cX8_standsOf 32 = .ok (.iconst 0, 1) := by decide +kernel
theorem dX8_standsOf_33 : decode cX8_standsOf 33 = .ok (.ior, 1) := by decide +kernel
theorem dX8_standsOf_34 : decode cX8_standsOf 34 = .ok (.istore_n 2, 1) := by decide +kernel
theorem dX8_standsOf_35 : decode cX8_standsOf 35 = .ok (.iinc 3 1, 3) := by decide +kernel
theorem dX8_standsOf_38 : decode cX8_standsOf 38 = .ok (.goto (-34), 3) := by decide +kernel
theorem dX8_standsOf_41 : decode cX8_standsOf 41 = .ok (.iload_n 2, 1) := by decide +kernel
theorem dX8_standsOf_42 : decode cX8_standsOf 42 = .ok (.ireturn, 1) := by decide +kernel
set_option maxRecDepth 20000 in
theorem ggX8_ring_X8_in : GoodIn wsX8_ring wsX8_in := goodIn_r _ [5] (by decide +kernel) (by decide +kernel)
set_option maxRecDepth 20000 in
theorem gX8_ring_X8_in : GoodIn wsX8_ring (va_wsS RX8 49 yX8_in wsX8_in) := goodIn_app (goodIn_of _ (by decide +kernel)) ggX8_ring_X8_in
end
section
set_option maxRecDepth 20000 in
theorem ggX8_ring_X8_cells : GoodIn wsX8_ring wsX8_cells := goodIn_r _ [9, 1, 10, 11, 12, 13, 14, 15, 16, 17, 18, 19, 20, 21, 22, 23] (by decide +kernel) (by decide +kernel)
set_option maxRecDepth 20000 in
theorem gX8_ring_X8_cells : GoodIn wsX8_ring (wsV RX8 45 RX8 yX8_cells wsX8_cells) := goodIn_app (goodIn_of _ (by decide +kernel)) ggX8_ring_X8_cells
theorem dX8_ring_0 : decode cX8_ring 0 = .ok (.iload_n 1, 1) := by decide +kernel
theorem dX8_ring_1 : decode cX8_ring 1 = .ok (.iconst 3, 1) := by decide +kernel
theorem dX8_ring_2 : decode cX8_ring 2 = .ok (.bipush 10, 2) := by decide +kernel
theorem dX8_ring_4 : decode cX8_ring 4 = .ok (.invokestatic 49, 3) := by decide +kernel
theorem dX8_ring_7 : decode cX8_ring 7 = .ok (.ifCond .ne 6, 3) := by decide +kernel
theorem dX8_ring_10 : decode cX8_ring 10 = .ok (.bipush (-2), 2) := by decide +kernel
theorem dX8_ring_12 : decode cX8_ring 12 = .ok (.ireturn, 1) := by decide +kernel
theorem dX8_ring_13 : decode cX8_ring 13 = .ok (.aload_n 0, 1) := by decide +kernel
theorem dX8_ring_14 : decode cX8_ring 14 = .ok (.invokevirtual 45, 3) := by decide +kernel
theorem dX8_ring_17 : decode cX8_ring 17 = .ok (.istore_n 2, 1) := by decide +kernel
theorem dX8_ring_18 : decode cX8_ring 18 = .ok (.aload_n 0, 1) := by decide +kernel
theorem dX8_ring_19 : decode cX8_ring 19 = .ok (.getfield 7, 3) := by decide +kernel
theorem dX8_ring_22 : decode cX8_ring 22 = .ok (.iconst 0, 1) := by decide +kernel
theorem dX8_ring_23 : decode cX8_ring 23 = .ok (.iload_n 1, 1) := by decide +kernel
theorem dX8_ring_24 : decode cX8_ring 24 = .ok (.iastore, 1) := by decide +kernel
theorem dX8_ring_25 : decode cX8_ring 25 = .ok (.iconst 0, 1) := by decide +kernel
theorem dX8_ring_26 : decode cX8_ring 26 = .ok (.istore_n 3, 1) := by decide +kernel
theorem dX8_ring_27 : decode cX8_ring 27 = .ok (.iload_n 3, 1) := by decide +kernel
theorem dX8_ring_28 : decode cX8_ring 28 = .ok (.bipush 10, 2) := by decide +kernel
theorem dX8_ring_30 : decode cX8_ring 30 = .ok (.if_icmp .ge 18, 3) := by decide +kernel
theorem dX8_ring_33 : decode cX8_ring 33 = .ok (.aload_n 0, 1) := by decide +kernel
theorem dX8_ring_34 : decode cX8_ring 34 = .ok (.getfield 7, 3) := by decide +kernel
theorem dX8_ring_37 : decode cX8_ring 37 = .ok (.iconst 1, 1) := by decide +kernel
theorem dX8_ring_38 : decode cX8_ring 38 = .ok (.iload_n 3, 1) := by decide +kernel
theorem dX8_ring_39 : decode cX8_ring 39 = .ok (.iadd, 1) := by decide +kernel
theorem dX8_ring_40 : decode cX8_ring 40 = .ok (.iconst 0, 1) := by decide +kernel
theorem dX8_ring_41 : decode cX8_ring 41 = .ok (.iastore, 1) := by decide +kernel
theorem dX8_ring_42 : decode cX8_ring 42 = .ok (.iinc 3 1, 3) := by decide +kernel
theorem dX8_ring_45 : decode cX8_ring 45 = .ok (.goto (-18), 3) := by decide +kernel
theorem dX8_ring_48 : decode cX8_ring 48 = .ok (.iload_n 2, 1) := by decide +kernel
theorem dX8_ring_49 : decode cX8_ring 49 = .ok (.ireturn, 1) := by decide +kernel
set_option maxRecDepth 20000 in
theorem ggX8_stand_X8_isCell : GoodIn wsX8_stand wsX8_isCell := goodIn_r _ [6, 7, 8, 9, 5, 10, 1, 11, 12, 13, 18, 19, 20, 21, 22, 23, 24, 25, 26, 27, 28, 29, 30, 31] (by decide +kernel) (by decide +kernel)
set_option maxRecDepth 20000 in
theorem gX8_stand_X8_isCell : GoodIn wsX8_stand (wsV RX8 53 RX8 yX8_isCell wsX8_isCell) := goodIn_app (goodIn_of _ (by decide +kernel)) ggX8_stand_X8_isCell
set_option maxRecDepth 20000 in
theorem ggX8_stand_X8_in : GoodIn wsX8_stand wsX8_in := goodIn_r _ [13] (by decide +kernel) (by decide +kernel)
set_option maxRecDepth 20000 in
theorem gX8_stand_X8_in : GoodIn wsX8_stand (va_wsS RX8 49 yX8_in wsX8_in) := goodIn_app (goodIn_of _ (by decide +kernel)) ggX8_stand_X8_in
set_option maxRecDepth 20000 in
theorem ggX8_stand_X8_walkers : GoodIn wsX8_stand wsX8_walkers := goodIn_r _ [17, 1, 18, 19, 20, 21, 22, 23, 24, 25, 26, 27, 28, 29, 30, 31] (by decide +kernel) (by decide +kernel)
set_option maxRecDepth 20000 in
theorem gX8_stand_X8_walkers : GoodIn wsX8_stand (wsV RX8 57 RX8 yX8_walkers wsX8_walkers) := goodIn_app (goodIn_of _ (by decide +kernel)) ggX8_stand_X8_walkers
theorem dX8_stand_0 : decode cX8_stand 0 = .ok (.aload_n 0, 1) := by decide +kernel
theorem dX8_stand_1 : decode cX8_stand 1 = .ok (.iload_n 1, 1) := by decide +kernel
theorem dX8_stand_2 : decode cX8_stand 2 = .ok (.invokevirtual 53, 3) := by decide +kernel
theorem dX8_stand_5 : decode cX8_stand 5 = .ok (.ifCond .ne 5, 3) := by decide +kernel
theorem dX8_stand_8 : decode cX8_stand 8 = .ok (.iconst (-1), 1) := by decide +kernel
theorem dX8_stand_9 : decode cX8_stand 9 = .ok (.ireturn, 1) := by decide +kernel
theorem dX8_stand_10 : decode cX8_stand 10 = .ok (.iload_n 2, 1) := by decide +kernel
theorem dX8_stand_11 : decode cX8_stand 11 = .ok (.iconst 0, 1) := by decide +kernel
theorem dX8_stand_12 : decode cX8_stand 12 = .ok (.iconst 5, 1) := by decide +kernel
theorem dX8_stand_13 : decode cX8_stand 13 = .ok (.invokestatic 49, 3) := by decide +kernel
theorem dX8_stand_16 : decode cX8_stand 16 = .ok (.ifCond .ne 6, 3) := by decide +kernel
theorem dX8_stand_19 : decode cX8_stand 19 = .ok (.bipush (-2), 2) := by decide +kernel
theorem dX8_stand_21 : decode cX8_stand 21 = .ok (.ireturn, 1) := by decide +kernel
theorem dX8_stand_22 : decode cX8_stand 22 = .ok (.aload_n 0, 1) := by decide +kernel
theorem dX8_stand_23 : decode cX8_stand 23 = .ok (.getfield 7, 3) := by decide +kernel
theorem dX8_stand_26 : decode cX8_stand 26 = .ok (.iconst 1, 1) := by decide +kernel
theorem dX8_stand_27 : decode cX8_stand 27 = .ok (.iload_n 1, 1) := by decide +kernel
theorem dX8_stand_28 : decode cX8_stand 28 = .ok (.iadd, 1) := by decide +kernel
theorem dX8_stand_29 : decode cX8_stand 29 = .ok (.iaload, 1) := by decide +kernel
theorem dX8_stand_30 : decode cX8_stand 30 = .ok (.istore_n 3, 1) := by decide +kernel
theorem dX8_stand_31 : decode cX8_stand 31 = .ok (.aload_n 0, 1) := by decide +kernel
theorem dX8_stand_32 : decode cX8_stand 32 = .ok (.invokevirtual 57, 3) := by decide +kernel
theorem dX8_stand_35 : decode cX8_stand 35 = .ok (.iload_n 3, 1) := by decide +kernel
theorem dX8_stand_36 : decode cX8_stand 36 = .ok (.isub, 1) := by decide +kernel
theorem dX8_stand_37 : decode cX8_stand 37 = .ok (.iload_n 2, 1) := by decide +kernel
theorem dX8_stand_38 : decode cX8_stand 38 = .ok (.iadd, 1) := by decide +kernel
theorem dX8_stand_39 : decode cX8_stand 39 = .ok (.iconst 5, 1) := by decide +kernel
theorem dX8_stand_40 : decode cX8_stand 40 = .ok (.if_icmp .le 6, 3) := by decide +kernel
theorem dX8_stand_43 : decode cX8_stand 43 = .ok (.bipush (-4), 2) := by decide +kernel
theorem dX8_stand_45 : decode cX8_stand 45 = .ok (.ireturn, 1) := by decide +kernel
theorem dX8_stand_46 : decode cX8_stand 46 = .ok (.aload_n 0, 1) := by decide +kernel
theorem dX8_stand_47 : decode cX8_stand 47 = .ok (.getfield 7, 3) := by decide +kernel
theorem dX8_stand_50 : decode cX8_stand 50 = .ok (.iconst 1, 1) := by decide +kernel
theorem dX8_stand_51 : decode cX8_stand 51 = .ok (.iload_n 1, 1) := by decide +kernel
theorem dX8_stand_52 : decode cX8_stand 52 = .ok (.iadd, 1) := by decide +kernel
theorem dX8_stand_53 : decode cX8_stand 53 = .ok (.iload_n 2, 1) := by decide +kernel
theorem dX8_stand_54 : decode cX8_stand 54 = .ok (.iastore, 1) := by decide +kernel
theorem dX8_stand_55 : decode cX8_stand 55 = .ok (.iload_n 3, 1) := by decide +kernel
theorem dX8_stand_56 : decode cX8_stand 56 = .ok (.ireturn, 1) := by decide +kernel
set_option maxRecDepth 20000 in
theorem ggX8_beside_X8_cells : GoodIn wsX8_beside wsX8_cells := goodIn_r _ [5, 6, 7, 8, 9, 10, 11, 12, 13, 14, 15, 16, 17, 18, 19, 20] (by decide +kernel) (by decide +kernel)
set_option maxRecDepth 20000 in
theorem gX8_beside_X8_cells : GoodIn wsX8_beside (wsV RX8 45 RX8 yX8_cells wsX8_cells) := goodIn_app (goodIn_of _ (by decide +kernel)) ggX8_beside_X8_cells
theorem dX8_beside_0 : decode cX8_beside 0 = .ok (.iload_n 1, 1) := by decide +kernel
theorem dX8_beside_1 : decode cX8_beside 1 = .ok (.iload_n 2, 1) := by decide +kernel
theorem dX8_beside_2 : decode cX8_beside 2 = .ok (.iadd, 1) := by decide +kernel
theorem dX8_beside_3 : decode cX8_beside 3 = .ok (.aload_n 0, 1) := by decide +kernel
theorem dX8_beside_4 : decode cX8_beside 4 = .ok (.invokevirtual 45, 3) := by decide +kernel
theorem dX8_beside_7 : decode cX8_beside 7 = .ok (.iadd, 1) := by decide +kernel
theorem dX8_beside_8 : decode cX8_beside 8 = .ok (.aload_n 0, 1) := by decide +kernel
theorem dX8_beside_9 : decode cX8_beside 9 = .ok (.invokevirtual 45, 3) := by decide +kernel
theorem dX8_beside_12 : decode cX8_beside 12 = .ok (.irem, 1) := by decide +kernel
theorem dX8_beside_13 : decode cX8_beside 13 = .ok (.ireturn, 1) := by decide +kernel
set_option maxRecDepth 20000 in
theorem ggX8_far_X8_beside : GoodIn wsX8_far wsX8_beside := goodIn_r _ [5, 6, 7, 8, 4, 9, 10, 11, 12, 13, 14, 15, 16, 17, 18, 19, 20, 21, 22, 23, 24] (by decide +kernel) (by decide +kernel)
set_option maxRecDepth 20000 in
theorem gX8_far_X8_beside : GoodIn wsX8_far (wsV RX8 60 RX8 yX8_beside wsX8_beside) := goodIn_app (goodIn_of _ (by decide +kernel)) ggX8_far_X8_beside
theorem dX8_far_0 : decode cX8_far 0 = .ok (.iconst 1, 1) := by decide +kernel
theorem dX8_far_1 : decode cX8_far 1 = .ok (.istore 4, 2) := by decide +kernel
theorem dX8_far_3 : decode cX8_far 3 = .ok (.aload_n 0, 1) := by decide +kernel
theorem dX8_far_4 : decode cX8_far 4 = .ok (.iload_n 2, 1) := by decide +kernel
theorem dX8_far_5 : decode cX8_far 5 = .ok (.iload_n 3, 1) := by decide +kernel
theorem dX8_far_6 : decode cX8_far 6 = .ok (.invokevirtual 60, 3) := by decide +kernel
theorem dX8_far_9 : decode cX8_far 9 = .ok (.istore 5, 2) := by decide +kernel
theorem dX8_far_11 : decode cX8_far 11 = .ok (.iload_n 1, 1) := by decide +kernel
theorem dX8_far_12 : decode cX8_far 12 = .ok (.iload 5, 2) := by decide +kernel
theorem dX8_far_14 : decode cX8_far 14 = .ok (.ishr, 1) := by decide +kernel
theorem dX8_far_15 : decode cX8_far 15 = .ok (.iconst 1, 1) := by decide +kernel
theorem dX8_far_16 : decode cX8_far 16 = .ok (.iand, 1) := by decide +kernel
theorem dX8_far_17 : decode cX8_far 17 = .ok (.ifCond .ne 18, 3) := by decide +kernel
theorem dX8_far_20 : decode cX8_far 20 = .ok (.aload_n 0, 1) := by decide +kernel
theorem dX8_far_21 : decode cX8_far 21 = .ok (.iload 5, 2) := by decide +kernel
theorem dX8_far_23 : decode cX8_far 23 = .ok (.iload_n 3, 1) := by decide +kernel
theorem dX8_far_24 : decode cX8_far 24 = .ok (.invokevirtual 60, 3) := by decide +kernel
theorem dX8_far_27 : decode cX8_far 27 = .ok (.istore 5, 2) := by decide +kernel
theorem dX8_far_29 : decode cX8_far 29 = .ok (.iinc 4 1, 3) := by decide +kernel
theorem dX8_far_32 : decode cX8_far 32 = .ok (.goto (-21), 3) := by decide +kernel
theorem dX8_far_35 : decode cX8_far 35 = .ok (.iload 4, 2) := by decide +kernel
theorem dX8_far_37 : decode cX8_far 37 = .ok (.ireturn, 1) := by decide +kernel
set_option maxRecDepth 20000 in
theorem ggX8_gapAt_X8_far : GoodIn wsX8_gapAt wsX8_far := goodIn_r _ [5, 6, 7, 8, 4, 9, 10, 11, 12, 13, 14, 15, 16, 17, 18, 19, 20, 21, 22, 23, 24, 25, 26, 27, 28] (by decide +kernel) (by decide +kernel)
set_option maxRecDepth 20000 in
theorem gX8_gapAt_X8_far : GoodIn wsX8_gapAt (wsV RX8 64 RX8 yX8_far wsX8_far) := goodIn_app (goodIn_of _ (by decide +kernel)) ggX8_gapAt_X8_far
set_option maxRecDepth 20000 in
theorem ggX8_gapAt_X8_beside : GoodIn wsX8_gapAt wsX8_beside := goodIn_r _ [9, 10, 11, 12, 4, 13, 14, 15, 16, 17, 18, 19, 20, 21, 22, 23, 24, 25, 26, 27, 28] (by decide +kernel) (by decide +kernel)
set_option maxRecDepth 20000 in
theorem gX8_gapAt_X8_beside : GoodIn wsX8_gapAt (wsV RX8 60 RX8 yX8_beside wsX8_beside) := goodIn_app (goodIn_of _ (by decide +kernel)) ggX8_gapAt_X8_beside
theorem dX8_gapAt_0 : decode cX8_gapAt 0 = .ok (.iload_n 2, 1) := by decide +kernel
theorem dX8_gapAt_1 : decode cX8_gapAt 1 = .ok (.istore 5, 2) := by decide +kernel
theorem dX8_gapAt_3 : decode cX8_gapAt 3 = .ok (.iconst 0, 1) := by decide +kernel
theorem dX8_gapAt_4 : decode cX8_gapAt 4 = .ok (.istore 6, 2) := by decide +kernel
theorem dX8_gapAt_6 : decode cX8_gapAt 6 = .ok (.iload 6, 2) := by decide +kernel
theorem dX8_gapAt_8 : decode cX8_gapAt 8 = .ok (.iload 4, 2) := by decide +kernel
theorem dX8_gapAt_10 : decode cX8_gapAt 10 = .ok (.if_icmp .ge 27, 3) := by decide +kernel
theorem dX8_gapAt_13 : decode cX8_gapAt 13 = .ok (.aload_n 0, 1) := by decide +kernel
theorem dX8_gapAt_14 : decode cX8_gapAt 14 = .ok (.iload 5, 2) := by decide +kernel
theorem dX8_gapAt_16 : decode cX8_gapAt 16 = .ok (.iload_n 3, 1) := by decide +kernel
theorem dX8_gapAt_17 : decode cX8_gapAt 17 = .ok (.aload_n 0, 1) := by decide +kernel
theorem dX8_gapAt_18 : decode cX8_gapAt 18 = .ok (.iload_n 1, 1) := by decide +kernel
theorem dX8_gapAt_19 : decode cX8_gapAt 19 = .ok (.iload 5, 2) := by decide +kernel
theorem dX8_gapAt_21 : decode cX8_gapAt 21 = .ok (.iload_n 3, 1) := by decide +kernel
theorem dX8_gapAt_22 : decode cX8_gapAt 22 = .ok (.invokevirtual 64, 3) := by decide +kernel
theorem dX8_gapAt_25 : decode cX8_gapAt 25 = .ok (.imul, 1) := by decide +kernel
theorem dX8_gapAt_26 : decode cX8_gapAt 26 = .ok (.invokevirtual 60, 3) := by decide +kernel
theorem dX8_gapAt_29 : decode cX8_gapAt 29 = .ok (.istore 5, 2) := by decide +kernel
theorem dX8_gapAt_31 : decode cX8_gapAt 31 = .ok (.iinc 6 1, 3) := by decide +kernel
theorem dX8_gapAt_34 : decode cX8_gapAt 34 = .ok (.goto (-28), 3) := by decide +kernel
theorem dX8_gapAt_37 : decode cX8_gapAt 37 = .ok (.aload_n 0, 1) := by decide +kernel
theorem dX8_gapAt_38 : decode cX8_gapAt 38 = .ok (.iload_n 1, 1) := by decide +kernel
theorem dX8_gapAt_39 : decode cX8_gapAt 39 = .ok (.iload 5, 2) := by decide +kernel
theorem dX8_gapAt_41 : decode cX8_gapAt 41 = .ok (.iload_n 3, 1) := by decide +kernel
theorem dX8_gapAt_42 : decode cX8_gapAt 42 = .ok (.invokevirtual 64, 3) := by decide +kernel
theorem dX8_gapAt_45 : decode cX8_gapAt 45 = .ok (.ireturn, 1) := by decide +kernel
set_option maxRecDepth 20000 in
theorem ggX8_held_X8_size : GoodIn wsX8_held wsX8_size := goodIn_r _ [4] (by decide +kernel) (by decide +kernel)
set_option maxRecDepth 20000 in
theorem gX8_held_X8_size : GoodIn wsX8_held (va_wsS RX8 68 yX8_size wsX8_size) := goodIn_app (goodIn_of _ (by decide +kernel)) ggX8_held_X8_size
set_option maxRecDepth 20000 in
theorem ggX8_held_X8_gapAt : GoodIn wsX8_held wsX8_gapAt := goodIn_r _ [8, 9, 10, 11, 3, 12, 13, 14, 15, 16, 17, 18, 19, 20, 21, 22, 23, 24, 25, 26, 27, 28, 29, 30, 31, 32, 33, 34, 35] (by decide +kernel) (by decide +kernel)
set_option maxRecDepth 20000 in
theorem gX8_held_X8_gapAt : GoodIn wsX8_held (wsV RX8 72 RX8 yX8_gapAt wsX8_gapAt) := goodIn_app (goodIn_of _ (by decide +kernel)) ggX8_held_X8_gapAt
theorem dX8_held_0 : decode cX8_held 0 = .ok (.iload_n 1, 1) := by decide +kernel
theorem dX8_held_1 : decode cX8_held 1 = .ok (.invokestatic 68, 3) := by decide +kernel
theorem dX8_held_4 : decode cX8_held 4 = .ok (.istore 6, 2) := by decide +kernel
theorem dX8_held_6 : decode cX8_held 6 = .ok (.iconst 0, 1) := by decide +kernel
theorem dX8_held_7 : decode cX8_held 7 = .ok (.istore 7, 2) := by decide +kernel
theorem dX8_held_9 : decode cX8_held 9 = .ok (.iload 7, 2) := by decide +kernel
theorem dX8_held_11 : decode cX8_held 11 = .ok (.iload 6, 2) := by decide +kernel
theorem dX8_held_13 : decode cX8_held 13 = .ok (.if_icmp .ge 40, 3) := by decide +kernel
theorem dX8_held_16 : decode cX8_held 16 = .ok (.aload_n 0, 1) := by decide +kernel
theorem dX8_held_17 : decode cX8_held 17 = .ok (.iload_n 1, 1) := by decide +kernel
theorem dX8_held_18 : decode cX8_held 18 = .ok (.iload_n 2, 1) := by decide +kernel
theorem dX8_held_19 : decode cX8_held 19 = .ok (.iload_n 3, 1) := by decide +kernel
theorem dX8_held_20 : decode cX8_held 20 = .ok (.iload 7, 2) := by decide +kernel
theorem dX8_held_22 : decode cX8_held 22 = .ok (.invokevirtual 72, 3) := by decide +kernel
theorem dX8_held_25 : decode cX8_held 25 = .ok (.aload_n 0, 1) := by decide +kernel
theorem dX8_held_26 : decode cX8_held 26 = .ok (.iload_n 1, 1) := by decide +kernel
theorem dX8_held_27 : decode cX8_held 27 = .ok (.iload 4, 2) := by decide +kernel
theorem dX8_held_29 : decode cX8_held 29 = .ok (.iload 5, 2) := by decide +kernel
theorem dX8_held_31 : decode cX8_held 31 = .ok (.iload 7, 2) := by decide +kernel
theorem dX8_held_33 : decode cX8_held 33 = .ok (.invokevirtual 72, 3) := by decide +kernel
theorem dX8_held_36 : decode cX8_held 36 = .ok (.isub, 1) := by decide +kernel
theorem dX8_held_37 : decode cX8_held 37 = .ok (.istore 8, 2) := by decide +kernel
theorem dX8_held_39 : decode cX8_held 39 = .ok (.iload 8, 2) := by decide +kernel
theorem dX8_held_41 : decode cX8_held 41 = .ok (.ifCond .eq 6, 3) := by decide +kernel
theorem dX8_held_44 : decode cX8_held 44 = .ok (.iload 8, 2) := by decide +kernel
theorem dX8_held_46 : decode cX8_held 46 = .ok (.ireturn, 1) := by decide +kernel
theorem dX8_held_47 : decode cX8_held 47 = .ok (.iinc 7 1, 3) := by decide +kernel
theorem dX8_held_50 : decode cX8_held 50 = .ok (.goto (-41), 3) := by decide +kernel
theorem dX8_held_53 : decode cX8_held 53 = .ok (.iconst 0, 1) := by decide +kernel
theorem dX8_held_54 : decode cX8_held 54 = .ok (.ireturn, 1) := by decide +kernel
set_option maxRecDepth 20000 in
theorem ggX8_viewWay_X8_held : GoodIn wsX8_viewWay wsX8_held := goodIn_r _ [5, 6, 7, 4, 8, 9, 10, 11, 12, 13, 14, 15, 16, 17, 18, 19, 20, 21, 22, 23, 24, 25, 26, 27, 28, 29, 30, 31, 32, 33, 34, 35, 36, 37, 38, 39] (by decide +kernel) (by decide +kernel)
set_option maxRecDepth 20000 in
theorem gX8_viewWay_X8_held : GoodIn wsX8_viewWay (wsV RX8 76 RX8 yX8_held wsX8_held) := goodIn_app (goodIn_of _ (by decide +kernel)) ggX8_viewWay_X8_held
theorem dX8_viewWay_0 : decode cX8_viewWay 0 = .ok (.aload_n 0, 1) := by decide +kernel
theorem dX8_viewWay_1 : decode cX8_viewWay 1 = .ok (.iload_n 1, 1) := by decide +kernel
theorem dX8_viewWay_2 : decode cX8_viewWay 2 = .ok (.iload_n 2, 1) := by decide +kernel
theorem dX8_viewWay_3 : decode cX8_viewWay 3 = .ok (.iconst 1, 1) := by decide +kernel
theorem dX8_viewWay_4 : decode cX8_viewWay 4 = .ok (.iload_n 2, 1) := by decide +kernel
theorem dX8_viewWay_5 : decode cX8_viewWay 5 = .ok (.iconst (-1), 1) := by decide +kernel
theorem dX8_viewWay_6 : decode cX8_viewWay 6 = .ok (.invokevirtual 76, 3) := by decide +kernel
theorem dX8_viewWay_9 : decode cX8_viewWay 9 = .ok (.ifCond .gt 7, 3) := by decide +kernel
theorem dX8_viewWay_12 : decode cX8_viewWay 12 = .ok (.iconst 1, 1) := by decide +kernel
theorem dX8_viewWay_13 : decode cX8_viewWay 13 = .ok (.goto 4, 3) := by decide +kernel
theorem dX8_viewWay_16 : decode cX8_viewWay 16 = .ok (.iconst (-1), 1) := by decide +kernel
theorem dX8_viewWay_17 : decode cX8_viewWay 17 = .ok (.ireturn, 1) := by decide +kernel
set_option maxRecDepth 20000 in
theorem ggX8_gap_X8_isStand : GoodIn wsX8_gap wsX8_isStand := goodIn_r _ [5, 6, 7, 8, 9, 4, 10, 11, 12, 13, 14, 15, 16, 17, 50, 51, 52, 53, 54, 55, 56, 57, 58, 59, 60, 61, 62, 63] (by decide +kernel) (by decide +kernel)
set_option maxRecDepth 20000 in
theorem gX8_gap_X8_isStand : GoodIn wsX8_gap (wsV RX8 80 RX8 yX8_isStand wsX8_isStand) := goodIn_app (goodIn_of _ (by decide +kernel)) ggX8_gap_X8_isStand
set_option maxRecDepth 20000 in
theorem ggX8_gap_X8_in : GoodIn wsX8_gap wsX8_in := goodIn_r _ [17] (by decide +kernel) (by decide +kernel)
set_option maxRecDepth 20000 in
theorem gX8_gap_X8_in : GoodIn wsX8_gap (va_wsS RX8 49 yX8_in wsX8_in) := goodIn_app (goodIn_of _ (by decide +kernel)) ggX8_gap_X8_in
set_option maxRecDepth 20000 in
theorem ggX8_gap_X8_now : GoodIn wsX8_gap wsX8_now := goodIn_r _ [21, 6, 22, 11, 12, 13, 4, 14, 50, 51, 52, 53, 54, 55, 56, 57, 58, 59, 60, 61, 62, 63] (by decide +kernel) (by decide +kernel)
set_option maxRecDepth 20000 in
theorem gX8_gap_X8_now : GoodIn wsX8_gap (wsV RX8 83 RX8 yX8_now wsX8_now) := goodIn_app (goodIn_of _ (by decide +kernel)) ggX8_gap_X8_now
set_option maxRecDepth 20000 in
theorem ggX8_gap_X8_standsOf : GoodIn wsX8_gap wsX8_standsOf := goodIn_r _ [26, 22, 11, 12, 13, 4, 14, 6, 50, 51, 52, 53, 54, 55, 56, 57, 58, 59, 60, 61, 62, 63] (by decide +kernel) (by decide +kernel)
set_option maxRecDepth 20000 in
theorem gX8_gap_X8_standsOf : GoodIn wsX8_gap (wsV RX8 86 RX8 yX8_standsOf wsX8_standsOf) := goodIn_app (goodIn_of _ (by decide +kernel)) ggX8_gap_X8_standsOf
set_option maxRecDepth 20000 in
theorem ggX8_gap_X8_size : GoodIn wsX8_gap wsX8_size := goodIn_r _ [29] (by decide +kernel) (by decide +kernel)
set_option maxRecDepth 20000 in
theorem gX8_gap_X8_size : GoodIn wsX8_gap (va_wsS RX8 68 yX8_size wsX8_size) := goodIn_app (goodIn_of _ (by decide +kernel)) ggX8_gap_X8_size
set_option maxRecDepth 20000 in
theorem ggX8_gap_X8_viewWay : GoodIn wsX8_gap wsX8_viewWay := goodIn_r _ [33, 34, 35, 36, 4, 37, 27, 28, 29, 38, 39, 40, 41, 42, 43, 44, 45, 46, 47, 48, 49, 11, 12, 13, 14, 6, 50, 51, 52, 53, 54, 55, 56, 57, 58, 59, 60, 61, 62, 63] (by decide +kernel) (by decide +kernel)
set_option maxRecDepth 20000 in
theorem gX8_gap_X8_viewWay : GoodIn wsX8_gap (wsV RX8 89 RX8 yX8_viewWay wsX8_viewWay) := goodIn_app (goodIn_of _ (by decide +kernel)) ggX8_gap_X8_viewWay
set_option maxRecDepth 20000 in
theorem ggX8_gap_X8_gapAt : GoodIn wsX8_gap wsX8_gapAt := goodIn_r _ [41, 42, 43, 44, 4, 45, 46, 47, 48, 49, 11, 12, 13, 14, 6, 50, 51, 52, 53, 54, 55, 56, 57, 58, 59, 60, 61, 62, 63] (by decide +kernel) (by decide +kernel)
set_option maxRecDepth 20000 in
theorem gX8_gap_X8_gapAt : GoodIn wsX8_gap (wsV RX8 72 RX8 yX8_gapAt wsX8_gapAt) := goodIn_app (goodIn_of _ (by decide +kernel)) ggX8_gap_X8_gapAt
theorem dX8_gap_0 : decode cX8_gap 0 = .ok (.aload_n 0, 1) := by decide +kernel
theorem dX8_gap_1 : decode cX8_gap 1 = .ok (.iload_n 1, 1) := by decide +kernel
theorem dX8_gap_2 : decode cX8_gap 2 = .ok (.invokevirtual 80, 3) := by decide +kernel
theorem dX8_gap_5 : decode cX8_gap 5 = .ok (.ifCond .ne 5, 3) := by decide +kernel
theorem dX8_gap_8 : decode cX8_gap 8 = .ok (.iconst (-1), 1) := by decide +kernel
theorem dX8_gap_9 : decode cX8_gap 9 = .ok (.ireturn, 1) := by decide +kernel
theorem dX8_gap_10 : decode cX8_gap 10 = .ok (.iload_n 2, 1) := by decide +kernel
theorem dX8_gap_11 : decode cX8_gap 11 = .ok (.iconst 0, 1) := by decide +kernel
theorem dX8_gap_12 : decode cX8_gap 12 = .ok (.iconst 2, 1) := by decide +kernel
theorem dX8_gap_13 : decode cX8_gap 13 = .ok (.invokestatic 49, 3) := by decide +kernel
theorem dX8_gap_16 : decode cX8_gap 16 = .ok (.ifCond .ne 6, 3) := by decide +kernel
theorem dX8_gap_19 : decode cX8_gap 19 = .ok (.bipush (-2), 2) := by decide +kernel
theorem dX8_gap_21 : decode cX8_gap 21 = .ok (.ireturn, 1) := by decide +kernel
theorem dX8_gap_22 : decode cX8_gap 22 = .ok (.aload_n 0, 1) := by decide +kernel
theorem dX8_gap_23 : decode cX8_gap 23 = .ok (.aload_n 0, 1) := by decide +kernel
theorem dX8_gap_24 : decode cX8_gap 24 = .ok (.invokevirtual 83, 3) := by decide +kernel
theorem dX8_gap_27 : decode cX8_gap 27 = .ok (.invokevirtual 86, 3) := by decide +kernel
theorem dX8_gap_30 : decode cX8_gap 30 = .ok (.istore 4, 2) := by decide +kernel
theorem dX8_gap_32 : decode cX8_gap 32 = .ok (.iload 4, 2) := by decide +kernel
theorem dX8_gap_34 : decode cX8_gap 34 = .ok (.invokestatic 68, 3) := by decide +kernel
theorem dX8_gap_37 : decode cX8_gap 37 = .ok (.istore 5, 2) := by decide +kernel
theorem dX8_gap_39 : decode cX8_gap 39 = .ok (.iload_n 3, 1) := by decide +kernel
theorem dX8_gap_40 : decode cX8_gap 40 = .ok (.iconst (-1), 1) := by decide +kernel
theorem dX8_gap_41 : decode cX8_gap 41 = .ok (.if_icmp .ne 6, 3) := by decide +kernel
theorem dX8_gap_44 : decode cX8_gap 44 = .ok (.iload 5, 2) := by decide +kernel
theorem dX8_gap_46 : decode cX8_gap 46 = .ok (.ireturn, 1) := by decide +kernel
theorem dX8_gap_47 : decode cX8_gap 47 = .ok (.iload_n 2, 1) := by decide +kernel
theorem dX8_gap_48 : decode cX8_gap 48 = .ok (.ifCond .ne 7, 3) := by decide +kernel
theorem dX8_gap_51 : decode cX8_gap 51 = .ok (.iconst 1, 1) := by decide +kernel
theorem dX8_gap_52 : decode cX8_gap 52 = .ok (.goto 19, 3) := by decide +kernel
theorem dX8_gap_55 : decode cX8_gap 55 = .ok (.iload_n 2, 1) := by decide +kernel
theorem dX8_gap_56 : decode cX8_gap 56 = .ok (.iconst 1, 1) := by decide +kernel
theorem dX8_gap_57 : decode cX8_gap 57 = .ok (.if_icmp .ne 7, 3) := by decide +kernel
theorem dX8_gap_60 : decode cX8_gap 60 = .ok (.iconst (-1), 1) := by decide +kernel
theorem dX8_gap_61 : decode cX8_gap 61 = .ok (.goto 10, 3) := by decide +kernel
theorem dX8_gap_64 : decode cX8_gap 64 = .ok (.aload_n 0, 1) := by decide +kernel
theorem dX8_gap_65 : decode cX8_gap 65 = .ok (.iload 4, 2) := by decide +kernel
theorem dX8_gap_67 : decode cX8_gap 67 = .ok (.iload_n 1, 1) := by decide +kernel
theorem dX8_gap_68 : decode cX8_gap 68 = .ok (.invokevirtual 89, 3) := by decide +kernel
theorem dX8_gap_71 : decode cX8_gap 71 = .ok (.istore 6, 2) := by decide +kernel
theorem dX8_gap_73 : decode cX8_gap 73 = .ok (.iload_n 3, 1) := by decide +kernel
theorem dX8_gap_74 : decode cX8_gap 74 = .ok (.iconst 0, 1) := by decide +kernel
theorem dX8_gap_75 : decode cX8_gap 75 = .ok (.iload 5, 2) := by decide +kernel
theorem dX8_gap_77 : decode cX8_gap 77 = .ok (.iconst 1, 1) := by decide +kernel
theorem dX8_gap_78 : decode cX8_gap 78 = .ok (.isub, 1) := by decide +kernel
theorem dX8_gap_79 : decode cX8_gap 79 = .ok (.invokestatic 49, 3) := by decide +kernel
theorem dX8_gap_82 : decode cX8_gap 82 = .ok (.ifCond .eq 16, 3) := by decide +kernel
theorem dX8_gap_85 : decode cX8_gap 85 = .ok (.aload_n 0, 1) := by decide +kernel
theorem dX8_gap_86 : decode cX8_gap 86 = .ok (.iload 4, 2) := by decide +kernel
theorem dX8_gap_88 : decode cX8_gap 88 = .ok (.iload_n 1, 1) := by decide +kernel
theorem dX8_gap_89 : decode cX8_gap 89 = .ok (.iload 6, 2) := by decide +kernel
theorem dX8_gap_91 : decode cX8_gap 91 = .ok (.iload_n 3, 1) := by decide +kernel
theorem dX8_gap_92 : decode cX8_gap 92 = .ok (.invokevirtual 72, 3) := by decide +kernel
theorem dX8_gap_95 : decode cX8_gap 95 = .ok (.goto 5, 3) := by decide +kernel
theorem dX8_gap_98 : decode cX8_gap 98 = .ok (.bipush (-6), 2) := by decide +kernel
theorem dX8_gap_100 : decode cX8_gap 100 = .ok (.ireturn, 1) := by decide +kernel
theorem dX8_has_0 : decode cX8_has 0 = .ok (.iload_n 0, 1) := by decide +kernel
theorem dX8_has_1 : decode cX8_has 1 = .ok (.iload_n 1, 1) := by decide +kernel
theorem dX8_has_2 : decode cX8_has 2 = .ok (.ishr, 1) := by decide +kernel
theorem dX8_has_3 : decode cX8_has 3 = .ok (.iconst 1, 1) := by decide +kernel
theorem dX8_has_4 : decode cX8_has 4 = .ok (.iand, 1) := by decide +kernel
theorem dX8_has_5 : decode cX8_has 5 = .ok (.iconst 1, 1) := by decide +kernel
theorem dX8_has_6 : decode cX8_has 6 = .ok (.if_icmp .ne 7, 3) := by decide +kernel
theorem dX8_has_9 : decode cX8_has 9 = .ok (.iconst 1, 1) := by decide +kernel
theorem dX8_has_10 : decode cX8_has 10 = .ok (.goto 4, 3) := by decide +kernel
theorem dX8_has_13 : decode cX8_has 13 = .ok (.iconst 0, 1) := by decide +kernel
theorem dX8_has_14 : decode cX8_has 14 = .ok (.ireturn, 1) := by decide +kernel
set_option maxRecDepth 20000 in
theorem ggX8_isTurned_X8_cells : GoodIn wsX8_isTurned wsX8_cells := goodIn_r _ [5, 6, 29, 30, 31, 32, 33, 34, 35, 36, 37, 38, 39, 40, 41, 42] (by decide +kernel) (by decide +kernel)
set_option maxRecDepth 20000 in
theorem gX8_isTurned_X8_cells : GoodIn wsX8_isTurned (wsV RX8 45 RX8 yX8_cells wsX8_cells) := goodIn_app (goodIn_of _ (by decide +kernel)) ggX8_isTurned_X8_cells
set_option maxRecDepth 20000 in
theorem ggX8_isTurned_X8_has : GoodIn wsX8_isTurned wsX8_has := goodIn_r _ [9] (by decide +kernel) (by decide +kernel)
set_option maxRecDepth 20000 in
theorem gX8_isTurned_X8_has : GoodIn wsX8_isTurned (va_wsS RX8 92 yX8_has wsX8_has) := goodIn_app (goodIn_of _ (by decide +kernel)) ggX8_isTurned_X8_has
set_option maxRecDepth 20000 in
theorem ggX8_isTurned_X8_held : GoodIn wsX8_isTurned wsX8_held := goodIn_r _ [13, 14, 15, 4, 16, 17, 18, 19, 20, 21, 22, 23, 24, 25, 26, 27, 28, 1, 2, 3, 5, 6, 29, 30, 31, 32, 33, 34, 35, 36, 37, 38, 39, 40, 41, 42] (by decide +kernel) (by decide +kernel)
set_option maxRecDepth 20000 in
theorem gX8_isTurned_X8_held : GoodIn wsX8_isTurned (wsV RX8 76 RX8 yX8_held wsX8_held) := goodIn_app (goodIn_of _ (by decide +kernel)) ggX8_isTurned_X8_held
theorem dX8_isTurned_0 : decode cX8_isTurned 0 = .ok (.iconst 0, 1) := by decide +kernel
theorem dX8_isTurned_1 : decode cX8_isTurned 1 = .ok (.istore_n 2, 1) := by decide +kernel
theorem dX8_isTurned_2 : decode cX8_isTurned 2 = .ok (.iconst 0, 1) := by decide +kernel
theorem dX8_isTurned_3 : decode cX8_isTurned 3 = .ok (.istore_n 3, 1) := by decide +kernel
theorem dX8_isTurned_4 : decode cX8_isTurned 4 = .ok (.iload_n 3, 1) := by decide +kernel
theorem dX8_isTurned_5 : decode cX8_isTurned 5 = .ok (.aload_n 0, 1) := by decide +kernel
theorem dX8_isTurned_6 : decode cX8_isTurned 6 = .ok (.invokevirtual 45, 3) := by decide +kernel
theorem dX8_isTurned_9 : decode cX8_isTurned 9 = .ok (.if_icmp .ge 64, 3) := by decide +kernel
theorem dX8_isTurned_12 : decode cX8_isTurned 12 = .ok (.iconst 0, 1) := by decide +kernel
theorem dX8_isTurned_13 : decode cX8_isTurned 13 = .ok (.istore 4, 2) := by decide +kernel
theorem dX8_isTurned_15 : decode cX8_isTurned 15 = .ok (.iload 4, 2) := by decide +kernel
theorem dX8_isTurned_17 : decode cX8_isTurned 17 = .ok (.iload_n 3, 1) := by decide +kernel
theorem dX8_isTurned_18 : decode cX8_isTurned 18 = .ok (.if_icmp .ge 49, 3) := by decide +kernel
theorem dX8_isTurned_21 : decode cX8_isTurned 21 = .ok (.iload_n 2, 1) := by decide +kernel
theorem dX8_isTurned_22 : decode cX8_isTurned 22 = .ok (.ifCond .ne 33, 3) := by decide +kernel
theorem dX8_isTurned_25 : decode cX8_isTurned 25 = .ok (.iload_n 1, 1) := by decide +kernel
theorem dX8_isTurned_26 : decode cX8_isTurned 26 = .ok (.iload_n 3, 1) := by decide +kernel
theorem dX8_isTurned_27 : decode cX8_isTurned 27 = .ok (.invokestatic 92, 3) := by decide +kernel
theorem dX8_isTurned_30 : decode cX8_isTurned 30 = .ok (.ifCond .eq 29, 3) := by decide +kernel
theorem dX8_isTurned_33 : decode cX8_isTurned 33 = .ok (.iload_n 1, 1) := by decide +kernel
theorem dX8_isTurned_34 : decode cX8_isTurned 34 = .ok (.iload 4, 2) := by decide +kernel
theorem dX8_isTurned_36 : decode cX8_isTurned 36 = .ok (.invokestatic 92, 3) := by decide +kernel
theorem dX8_isTurned_39 : decode cX8_isTurned 39 = .ok (.ifCond .eq 20, 3) := by decide +kernel
theorem dX8_isTurned_42 : decode cX8_isTurned 42 = .ok (.aload_n 0, 1) := by decide +kernel
theorem dX8_isTurned_43 : decode cX8_isTurned 43 = .ok (.iload_n 1, 1) := by decide +kernel
theorem dX8_isTurned_44 : decode cX8_isTurned 44 = .ok (.iload_n 3, 1) := by decide +kernel
theorem dX8_isTurned_45 : decode cX8_isTurned 45 = .ok (.iconst 1, 1) := by decide +kernel
theorem dX8_isTurned_46 : decode cX8_isTurned 46 = .ok (.iload 4, 2) := by decide +kernel
theorem dX8_isTurned_48 : decode cX8_isTurned 48 = .ok (.iconst 1, 1) := by decide +kernel
theorem dX8_isTurned_49 : decode cX8_isTurned 49 = .ok (.invokevirtual 76, 3) := by decide +kernel
theorem dX8_isTurned_52 : decode cX8_isTurned 52 = .ok (.ifCond .ne 7, 3) := by decide +kernel
theorem dX8_isTurned_55 : decode cX8_isTurned 55 = .ok (.iconst 1, 1) := by decide +kernel
theorem dX8_isTurned_56 : decode cX8_isTurned 56 = .ok (.goto 4, 3) := by decide +kernel
theorem dX8_isTurned_59 : decode cX8_isTurned 59 = .ok (.iconst 0, 1) := by decide +kernel
theorem dX8_isTurned_60 : decode cX8_isTurned 60 = .ok (.istore_n 2, 1) := by decide +kernel
theorem dX8_isTurned_61 : decode cX8_isTurned 61 = .ok (.iinc 4 1, 3) := by decide +kernel
theorem dX8_isTurned_64 : decode cX8_isTurned 64 = .ok (.goto (-49), 3) := by decide +kernel
theorem dX8_isTurned_67 : decode cX8_isTurned 67 = .ok (.iinc 3 1, 3) := by decide +kernel
theorem dX8_isTurned_70 : decode cX8_isTurned 70 = .ok (.goto (-66), 3) := by decide +kernel
theorem dX8_isTurned_73 : decode cX8_isTurned 73 = .ok (.iload_n 2, 1) := by decide +kernel
theorem dX8_isTurned_74 : decode cX8_isTurned 74 = .ok (.ireturn, 1) := by decide +kernel
set_option maxRecDepth 20000 in
theorem ggX8_isMirrored_X8_cells : GoodIn wsX8_isMirrored wsX8_cells := goodIn_r _ [5, 6, 29, 30, 31, 32, 33, 34, 35, 36, 37, 38, 39, 40, 41, 42] (by decide +kernel) (by decide +kernel)
set_option maxRecDepth 20000 in
theorem gX8_isMirrored_X8_cells : GoodIn wsX8_isMirrored (wsV RX8 45 RX8 yX8_cells wsX8_cells) := goodIn_app (goodIn_of _ (by decide +kernel)) ggX8_isMirrored_X8_cells
set_option maxRecDepth 20000 in
theorem ggX8_isMirrored_X8_has : GoodIn wsX8_isMirrored wsX8_has := goodIn_r _ [9] (by decide +kernel) (by decide +kernel)
set_option maxRecDepth 20000 in
theorem gX8_isMirrored_X8_has : GoodIn wsX8_isMirrored (va_wsS RX8 92 yX8_has wsX8_has) := goodIn_app (goodIn_of _ (by decide +kernel)) ggX8_isMirrored_X8_has
set_option maxRecDepth 20000 in
theorem ggX8_isMirrored_X8_held : GoodIn wsX8_isMirrored wsX8_held := goodIn_r _ [13, 14, 15, 4, 16, 17, 18, 19, 20, 21, 22, 23, 24, 25, 26, 27, 28, 1, 2, 3, 5, 6, 29, 30, 31, 32, 33, 34, 35, 36, 37, 38, 39, 40, 41, 42] (by decide +kernel) (by decide +kernel)
set_option maxRecDepth 20000 in
theorem gX8_isMirrored_X8_held : GoodIn wsX8_isMirrored (wsV RX8 76 RX8 yX8_held wsX8_held) := goodIn_app (goodIn_of _ (by decide +kernel)) ggX8_isMirrored_X8_held
theorem dX8_isMirrored_0 : decode cX8_isMirrored 0 = .ok (.iconst 0, 1) := by decide +kernel
theorem dX8_isMirrored_1 : decode cX8_isMirrored 1 = .ok (.istore_n 2, 1) := by decide +kernel
theorem dX8_isMirrored_2 : decode cX8_isMirrored 2 = .ok (.iconst 0, 1) := by decide +kernel
theorem dX8_isMirrored_3 : decode cX8_isMirrored 3 = .ok (.istore_n 3, 1) := by decide +kernel
theorem dX8_isMirrored_4 : decode cX8_isMirrored 4 = .ok (.iload_n 3, 1) := by decide +kernel
theorem dX8_isMirrored_5 : decode cX8_isMirrored 5 = .ok (.aload_n 0, 1) := by decide +kernel
theorem dX8_isMirrored_6 : decode cX8_isMirrored 6 = .ok (.invokevirtual 45, 3) := by decide +kernel
theorem dX8_isMirrored_9 : decode cX8_isMirrored 9 = .ok (.if_icmp .ge 67, 3) := by decide +kernel
theorem dX8_isMirrored_12 : decode cX8_isMirrored 12 = .ok (.iconst 0, 1) := by decide +kernel
theorem dX8_isMirrored_13 : decode cX8_isMirrored 13 = .ok (.istore 4, 2) := by decide +kernel
theorem dX8_isMirrored_15 : decode cX8_isMirrored 15 = .ok (.iload 4, 2) := by decide +kernel
theorem dX8_isMirrored_17 : decode cX8_isMirrored 17 = .ok (.aload_n 0, 1) := by decide +kernel
theorem dX8_isMirrored_18 : decode cX8_isMirrored 18 = .ok (.invokevirtual 45, 3) := by decide +kernel
theorem dX8_isMirrored_21 : decode cX8_isMirrored 21 = .ok (.if_icmp .ge 49, 3) := by decide +kernel
theorem dX8_isMirrored_24 : decode cX8_isMirrored 24 = .ok (.iload_n 2, 1) := by decide +kernel
theorem dX8_isMirrored_25 : decode cX8_isMirrored 25 = .ok (.ifCond .ne 33, 3) := by decide +kernel
theorem dX8_isMirrored_28 : decode cX8_isMirrored 28 = .ok (.iload_n 1, 1) := by decide +kernel
theorem dX8_isMirrored_29 : decode cX8_isMirrored 29 = .ok (.iload_n 3, 1) := by decide +kernel
theorem dX8_isMirrored_30 : decode cX8_isMirrored 30 = .ok (.invokestatic 92, 3) := by decide +kernel
theorem dX8_isMirrored_33 : decode cX8_isMirrored 33 = .ok (.ifCond .eq 29, 3) := by decide +kernel
theorem dX8_isMirrored_36 : decode cX8_isMirrored 36 = .ok (.iload_n 1, 1) := by decide +kernel
theorem dX8_isMirrored_37 : decode cX8_isMirrored 37 = .ok (.iload 4, 2) := by decide +kernel
theorem dX8_isMirrored_39 : decode cX8_isMirrored 39 = .ok (.invokestatic 92, 3) := by decide +kernel
theorem dX8_isMirrored_42 : decode cX8_isMirrored 42 = .ok (.ifCond .eq 20, 3) := by decide +kernel
theorem dX8_isMirrored_45 : decode cX8_isMirrored 45 = .ok (.aload_n 0, 1) := by decide +kernel
theorem dX8_isMirrored_46 : decode cX8_isMirrored 46 = .ok (.iload_n 1, 1) := by decide +kernel
theorem dX8_isMirrored_47 : decode cX8_isMirrored 47 = .ok (.iload_n 3, 1) := by decide +kernel
theorem dX8_isMirrored_48 : decode cX8_isMirrored 48 = .ok (.iconst 1, 1) := by decide +kernel
theorem dX8_isMirrored_49 : decode cX8_isMirrored 49 = .ok (.iload 4, 2) := by decide +kernel
theorem dX8_isMirrored_51 : decode cX8_isMirrored 51 = .ok (.iconst (-1), 1) := by decide +kernel
theorem dX8_isMirrored_52 : decode cX8_isMirrored 52 = .ok (.invokevirtual 76, 3) := by decide +kernel
theorem dX8_isMirrored_55 : decode cX8_isMirrored 55 = .ok (.ifCond .ne 7, 3) := by decide +kernel
theorem dX8_isMirrored_58 : decode cX8_isMirrored 58 = .ok (.iconst 1, 1) := by decide +kernel
theorem dX8_isMirrored_59 : decode cX8_isMirrored 59 = .ok (.goto 4, 3) := by decide +kernel
theorem dX8_isMirrored_62 : decode cX8_isMirrored 62 = .ok (.iconst 0, 1) := by decide +kernel
theorem dX8_isMirrored_63 : decode cX8_isMirrored 63 = .ok (.istore_n 2, 1) := by decide +kernel
theorem dX8_isMirrored_64 : decode cX8_isMirrored 64 = .ok (.iinc 4 1, 3) := by decide +kernel
theorem dX8_isMirrored_67 : decode cX8_isMirrored 67 = .ok (.goto (-52), 3) := by decide +kernel
theorem dX8_isMirrored_70 : decode cX8_isMirrored 70 = .ok (.iinc 3 1, 3) := by decide +kernel
theorem dX8_isMirrored_73 : decode cX8_isMirrored 73 = .ok (.goto (-69), 3) := by decide +kernel
theorem dX8_isMirrored_76 : decode cX8_isMirrored 76 = .ok (.iload_n 2, 1) := by decide +kernel
theorem dX8_isMirrored_77 : decode cX8_isMirrored 77 = .ok (.ireturn, 1) := by decide +kernel
set_option maxRecDepth 20000 in
theorem ggX8_even_X8_cells : GoodIn wsX8_even wsX8_cells := goodIn_r _ [5, 6, 29, 30, 31, 32, 33, 34, 35, 36, 37, 38, 39, 40, 41, 42] (by decide +kernel) (by decide +kernel)
set_option maxRecDepth 20000 in
theorem gX8_even_X8_cells : GoodIn wsX8_even (wsV RX8 45 RX8 yX8_cells wsX8_cells) := goodIn_app (goodIn_of _ (by decide +kernel)) ggX8_even_X8_cells
set_option maxRecDepth 20000 in
theorem ggX8_even_X8_has : GoodIn wsX8_even wsX8_has := goodIn_r _ [9] (by decide +kernel) (by decide +kernel)
set_option maxRecDepth 20000 in
theorem gX8_even_X8_has : GoodIn wsX8_even (va_wsS RX8 92 yX8_has wsX8_has) := goodIn_app (goodIn_of _ (by decide +kernel)) ggX8_even_X8_has
set_option maxRecDepth 20000 in
theorem ggX8_even_X8_held : GoodIn wsX8_even wsX8_held := goodIn_r _ [13, 14, 15, 4, 16, 17, 18, 19, 20, 21, 22, 23, 24, 25, 26, 27, 28, 1, 2, 3, 5, 6, 29, 30, 31, 32, 33, 34, 35, 36, 37, 38, 39, 40, 41, 42] (by decide +kernel) (by decide +kernel)
set_option maxRecDepth 20000 in
theorem gX8_even_X8_held : GoodIn wsX8_even (wsV RX8 76 RX8 yX8_held wsX8_held) := goodIn_app (goodIn_of _ (by decide +kernel)) ggX8_even_X8_held
theorem dX8_even_0 : decode cX8_even 0 = .ok (.iconst 0, 1) := by decide +kernel
theorem dX8_even_1 : decode cX8_even 1 = .ok (.istore_n 2, 1) := by decide +kernel
theorem dX8_even_2 : decode cX8_even 2 = .ok (.iconst 0, 1) := by decide +kernel
theorem dX8_even_3 : decode cX8_even 3 = .ok (.istore_n 3, 1) := by decide +kernel
theorem dX8_even_4 : decode cX8_even 4 = .ok (.iload_n 3, 1) := by decide +kernel
theorem dX8_even_5 : decode cX8_even 5 = .ok (.aload_n 0, 1) := by decide +kernel
theorem dX8_even_6 : decode cX8_even 6 = .ok (.invokevirtual 45, 3) := by decide +kernel
theorem dX8_even_9 : decode cX8_even 9 = .ok (.if_icmp .ge 37, 3) := by decide +kernel
theorem dX8_even_12 : decode cX8_even 12 = .ok (.iload_n 2, 1) := by decide +kernel
theorem dX8_even_13 : decode cX8_even 13 = .ok (.iload_n 1, 1) := by decide +kernel
theorem dX8_even_14 : decode cX8_even 14 = .ok (.iload_n 3, 1) := by decide +kernel
theorem dX8_even_15 : decode cX8_even 15 = .ok (.invokestatic 92, 3) := by decide +kernel
theorem dX8_even_18 : decode cX8_even 18 = .ok (.ifCond .eq 19, 3) := by decide +kernel
theorem dX8_even_21 : decode cX8_even 21 = .ok (.aload_n 0, 1) := by decide +kernel
theorem dX8_even_22 : decode cX8_even 22 = .ok (.iload_n 1, 1) := by decide +kernel
theorem dX8_even_23 : decode cX8_even 23 = .ok (.iload_n 3, 1) := by decide +kernel
theorem dX8_even_24 : decode cX8_even 24 = .ok (.iconst 1, 1) := by decide +kernel
theorem dX8_even_25 : decode cX8_even 25 = .ok (.iload_n 3, 1) := by decide +kernel
theorem dX8_even_26 : decode cX8_even 26 = .ok (.iconst (-1), 1) := by decide +kernel
theorem dX8_even_27 : decode cX8_even 27 = .ok (.invokevirtual 76, 3) := by decide +kernel
theorem dX8_even_30 : decode cX8_even 30 = .ok (.ifCond .ne 7, 3) := by decide +kernel
theorem dX8_even_33 : decode cX8_even 33 = .ok (.iconst 1, 1) := by decide +kernel
theorem dX8_even_34 : decode cX8_even 34 = .ok (.goto 4, 3) := by decide +kernel
theorem dX8_even_37 : decode cX8_even 37 = .ok (.iconst 0, 1) := by decide +kernel
theorem dX8_even_38 : decode cX8_even 38 = .ok (.iadd, 1) := by decide +kernel
theorem dX8_even_39 : decode cX8_even 39 = .ok (.istore_n 2, 1) := by decide +kernel
theorem dX8_even_40 : decode cX8_even 40 = .ok (.iinc 3 1, 3) := by decide +kernel
theorem dX8_even_43 : decode cX8_even 43 = .ok (.goto (-39), 3) := by decide +kernel
theorem dX8_even_46 : decode cX8_even 46 = .ok (.iload_n 2, 1) := by decide +kernel
theorem dX8_even_47 : decode cX8_even 47 = .ok (.ireturn, 1) := by decide +kernel
set_option maxRecDepth 20000 in
theorem ggX8_views_X8_cells : GoodIn wsX8_views wsX8_cells := goodIn_r _ [5, 6, 33, 34, 35, 36, 37, 38, 39, 40, 41, 42, 43, 44, 45, 46] (by decide +kernel) (by decide +kernel)
set_option maxRecDepth 20000 in
theorem gX8_views_X8_cells : GoodIn wsX8_views (wsV RX8 45 RX8 yX8_cells wsX8_cells) := goodIn_app (goodIn_of _ (by decide +kernel)) ggX8_views_X8_cells
set_option maxRecDepth 20000 in
theorem ggX8_views_X8_has : GoodIn wsX8_views wsX8_has := goodIn_r _ [9] (by decide +kernel) (by decide +kernel)
set_option maxRecDepth 20000 in
theorem gX8_views_X8_has : GoodIn wsX8_views (va_wsS RX8 92 yX8_has wsX8_has) := goodIn_app (goodIn_of _ (by decide +kernel)) ggX8_views_X8_has
set_option maxRecDepth 20000 in
theorem ggX8_views_X8_viewWay : GoodIn wsX8_views wsX8_viewWay := goodIn_r _ [13, 14, 15, 16, 4, 17, 18, 19, 20, 21, 22, 23, 24, 25, 26, 27, 28, 29, 30, 31, 32, 1, 2, 3, 5, 6, 33, 34, 35, 36, 37, 38, 39, 40, 41, 42, 43, 44, 45, 46] (by decide +kernel) (by decide +kernel)
set_option maxRecDepth 20000 in
theorem gX8_views_X8_viewWay : GoodIn wsX8_views (wsV RX8 89 RX8 yX8_viewWay wsX8_viewWay) := goodIn_app (goodIn_of _ (by decide +kernel)) ggX8_views_X8_viewWay
set_option maxRecDepth 20000 in
theorem ggX8_views_X8_held : GoodIn wsX8_views wsX8_held := goodIn_r _ [17, 18, 19, 4, 20, 21, 22, 23, 24, 25, 26, 27, 28, 29, 30, 31, 32, 1, 2, 3, 5, 6, 33, 34, 35, 36, 37, 38, 39, 40, 41, 42, 43, 44, 45, 46] (by decide +kernel) (by decide +kernel)
set_option maxRecDepth 20000 in
theorem gX8_views_X8_held : GoodIn wsX8_views (wsV RX8 76 RX8 yX8_held wsX8_held) := goodIn_app (goodIn_of _ (by decide +kernel)) ggX8_views_X8_held
theorem dX8_views_0 : decode cX8_views 0 = .ok (.iconst 0, 1) := by decide +kernel
theorem dX8_views_1 : decode cX8_views 1 = .ok (.istore_n 2, 1) := by decide +kernel
theorem dX8_views_2 : decode cX8_views 2 = .ok (.iconst 0, 1) := by decide +kernel
theorem dX8_views_3 : decode cX8_views 3 = .ok (.istore_n 3, 1) := by decide +kernel
theorem dX8_views_4 : decode cX8_views 4 = .ok (.iload_n 3, 1) := by decide +kernel
theorem dX8_views_5 : decode cX8_views 5 = .ok (.aload_n 0, 1) := by decide +kernel
theorem dX8_views_6 : decode cX8_views 6 = .ok (.invokevirtual 45, 3) := by decide +kernel
theorem dX8_views_9 : decode cX8_views 9 = .ok (.if_icmp .ge 89, 3) := by decide +kernel
theorem dX8_views_12 : decode cX8_views 12 = .ok (.iload_n 1, 1) := by decide +kernel
theorem dX8_views_13 : decode cX8_views 13 = .ok (.iload_n 3, 1) := by decide +kernel
theorem dX8_views_14 : decode cX8_views 14 = .ok (.invokestatic 92, 3) := by decide +kernel
theorem dX8_views_17 : decode cX8_views 17 = .ok (.istore 4, 2) := by decide +kernel
theorem dX8_views_19 : decode cX8_views 19 = .ok (.iconst 0, 1) := by decide +kernel
theorem dX8_views_20 : decode cX8_views 20 = .ok (.istore 5, 2) := by decide +kernel
theorem dX8_views_22 : decode cX8_views 22 = .ok (.iload 5, 2) := by decide +kernel
theorem dX8_views_24 : decode cX8_views 24 = .ok (.iload_n 3, 1) := by decide +kernel
theorem dX8_views_25 : decode cX8_views 25 = .ok (.if_icmp .ge 54, 3) := by decide +kernel
theorem dX8_views_28 : decode cX8_views 28 = .ok (.iload 4, 2) := by decide +kernel
theorem dX8_views_30 : decode cX8_views 30 = .ok (.ifCond .eq 49, 3) := by decide +kernel
theorem dX8_views_33 : decode cX8_views 33 = .ok (.iload_n 1, 1) := by decide +kernel
theorem dX8_views_34 : decode cX8_views 34 = .ok (.iload 5, 2) := by decide +kernel
theorem dX8_views_36 : decode cX8_views 36 = .ok (.invokestatic 92, 3) := by decide +kernel
theorem dX8_views_39 : decode cX8_views 39 = .ok (.ifCond .eq 27, 3) := by decide +kernel
theorem dX8_views_42 : decode cX8_views 42 = .ok (.aload_n 0, 1) := by decide +kernel
theorem dX8_views_43 : decode cX8_views 43 = .ok (.iload_n 1, 1) := by decide +kernel
theorem dX8_views_44 : decode cX8_views 44 = .ok (.iload_n 3, 1) := by decide +kernel
theorem dX8_views_45 : decode cX8_views 45 = .ok (.aload_n 0, 1) := by decide +kernel
theorem dX8_views_46 : decode cX8_views 46 = .ok (.iload_n 1, 1) := by decide +kernel
theorem dX8_views_47 : decode cX8_views 47 = .ok (.iload_n 3, 1) := by decide +kernel
theorem dX8_views_48 : decode cX8_views 48 = .ok (.invokevirtual 89, 3) := by decide +kernel
theorem dX8_views_51 : decode cX8_views 51 = .ok (.iload 5, 2) := by decide +kernel
theorem dX8_views_53 : decode cX8_views 53 = .ok (.aload_n 0, 1) := by decide +kernel
theorem dX8_views_54 : decode cX8_views 54 = .ok (.iload_n 1, 1) := by decide +kernel
theorem dX8_views_55 : decode cX8_views 55 = .ok (.iload 5, 2) := by decide +kernel
theorem dX8_views_57 : decode cX8_views 57 = .ok (.invokevirtual 89, 3) := by decide +kernel
theorem dX8_views_60 : decode cX8_views 60 = .ok (.invokevirtual 76, 3) := by decide +kernel
theorem dX8_views_63 : decode cX8_views 63 = .ok (.ifCond .eq 7, 3) := by decide +kernel
theorem dX8_views_66 : decode cX8_views 66 = .ok (.iconst 1, 1) := by decide +kernel
theorem dX8_views_67 : decode cX8_views 67 = .ok (.goto 4, 3) := by decide +kernel
theorem dX8_views_70 : decode cX8_views 70 = .ok (.iconst 0, 1) := by decide +kernel
theorem dX8_views_71 : decode cX8_views 71 = .ok (.istore 4, 2) := by decide +kernel
theorem dX8_views_73 : decode cX8_views 73 = .ok (.iinc 5 1, 3) := by decide +kernel
theorem dX8_views_76 : decode cX8_views 76 = .ok (.goto (-54), 3) := by decide +kernel
theorem dX8_views_79 : decode cX8_views 79 = .ok (.iload_n 2, 1) := by decide +kernel
theorem dX8_views_80 : decode cX8_views 80 = .ok (.iload 4, 2) := by decide +kernel
theorem dX8_views_82 : decode cX8_views 82 = .ok (.ifCond .eq 7, 3) := by decide +kernel
theorem dX8_views_85 : decode cX8_views 85 = .ok (.iconst 1, 1) := by decide +kernel
theorem dX8_views_86 : decode cX8_views 86 = .ok (.goto 4, 3) := by decide +kernel
theorem dX8_views_89 : decode cX8_views 89 = .ok (.iconst 0, 1) := by decide +kernel
theorem dX8_views_90 : decode cX8_views 90 = .ok (.iadd, 1) := by decide +kernel
theorem dX8_views_91 : decode cX8_views 91 = .ok (.istore_n 2, 1) := by decide +kernel
theorem dX8_views_92 : decode cX8_views 92 = .ok (.iinc 3 1, 3) := by decide +kernel
theorem dX8_views_95 : decode cX8_views 95 = .ok (.goto (-91), 3) := by decide +kernel
theorem dX8_views_98 : decode cX8_views 98 = .ok (.iload_n 2, 1) := by decide +kernel
theorem dX8_views_99 : decode cX8_views 99 = .ok (.ireturn, 1) := by decide +kernel
set_option maxRecDepth 20000 in
theorem ggX8_turnedBy_X8_cells : GoodIn wsX8_turnedBy wsX8_cells := goodIn_r _ [5, 6, 10, 11, 12, 13, 14, 15, 16, 17, 18, 19, 20, 21, 22, 23] (by decide +kernel) (by decide +kernel)
set_option maxRecDepth 20000 in
theorem gX8_turnedBy_X8_cells : GoodIn wsX8_turnedBy (wsV RX8 45 RX8 yX8_cells wsX8_cells) := goodIn_app (goodIn_of _ (by decide +kernel)) ggX8_turnedBy_X8_cells
set_option maxRecDepth 20000 in
theorem ggX8_turnedBy_X8_has : GoodIn wsX8_turnedBy wsX8_has := goodIn_r _ [9] (by decide +kernel) (by decide +kernel)
set_option maxRecDepth 20000 in
theorem gX8_turnedBy_X8_has : GoodIn wsX8_turnedBy (va_wsS RX8 92 yX8_has wsX8_has) := goodIn_app (goodIn_of _ (by decide +kernel)) ggX8_turnedBy_X8_has
theorem dX8_turnedBy_0 : decode cX8_turnedBy 0 = .ok (.iload_n 1, 1) := by decide +kernel
theorem dX8_turnedBy_1 : decode cX8_turnedBy 1 = .ok (.ifCond .ne 6, 3) := by decide +kernel
theorem dX8_turnedBy_4 : decode cX8_turnedBy 4 = .ok (.bipush (-6), 2) := by decide +kernel
theorem dX8_turnedBy_6 : decode cX8_turnedBy 6 = .ok (.ireturn, 1) := by decide +kernel
theorem dX8_turnedBy_7 : decode cX8_turnedBy 7 = .ok (.iconst 1, 1) := by decide +kernel
theorem dX8_turnedBy_8 : decode cX8_turnedBy 8 = .ok (.istore_n 2, 1) := by decide +kernel
theorem dX8_turnedBy_9 : decode cX8_turnedBy 9 = .ok (.iload_n 2, 1) := by decide +kernel
theorem dX8_turnedBy_10 : decode cX8_turnedBy 10 = .ok (.aload_n 0, 1) := by decide +kernel
theorem dX8_turnedBy_11 : decode cX8_turnedBy 11 = .ok (.invokevirtual 45, 3) := by decide +kernel
theorem dX8_turnedBy_14 : decode cX8_turnedBy 14 = .ok (.if_icmp .ge 67, 3) := by decide +kernel
theorem dX8_turnedBy_17 : decode cX8_turnedBy 17 = .ok (.iconst 1, 1) := by decide +kernel
theorem dX8_turnedBy_18 : decode cX8_turnedBy 18 = .ok (.istore_n 3, 1) := by decide +kernel
theorem dX8_turnedBy_19 : decode cX8_turnedBy 19 = .ok (.iconst 0, 1) := by decide +kernel
theorem dX8_turnedBy_20 : decode cX8_turnedBy 20 = .ok (.istore 4, 2) := by decide +kernel
theorem dX8_turnedBy_22 : decode cX8_turnedBy 22 = .ok (.iload 4, 2) := by decide +kernel
theorem dX8_turnedBy_24 : decode cX8_turnedBy 24 = .ok (.aload_n 0, 1) := by decide +kernel
theorem dX8_turnedBy_25 : decode cX8_turnedBy 25 = .ok (.invokevirtual 45, 3) := by decide +kernel
theorem dX8_turnedBy_28 : decode cX8_turnedBy 28 = .ok (.if_icmp .ge 41, 3) := by decide +kernel
theorem dX8_turnedBy_31 : decode cX8_turnedBy 31 = .ok (.iload_n 3, 1) := by decide +kernel
theorem dX8_turnedBy_32 : decode cX8_turnedBy 32 = .ok (.ifCond .eq 29, 3) := by decide +kernel
theorem dX8_turnedBy_35 : decode cX8_turnedBy 35 = .ok (.iload_n 1, 1) := by decide +kernel
theorem dX8_turnedBy_36 : decode cX8_turnedBy 36 = .ok (.iload 4, 2) := by decide +kernel
theorem dX8_turnedBy_38 : decode cX8_turnedBy 38 = .ok (.invokestatic 92, 3) := by decide +kernel
theorem dX8_turnedBy_41 : decode cX8_turnedBy 41 = .ok (.iload_n 1, 1) := by decide +kernel
theorem dX8_turnedBy_42 : decode cX8_turnedBy 42 = .ok (.iload 4, 2) := by decide +kernel
theorem dX8_turnedBy_44 : decode cX8_turnedBy 44 = .ok (.iload_n 2, 1) := by decide +kernel
theorem dX8_turnedBy_45 : decode cX8_turnedBy 45 = .ok (.iadd, 1) := by decide +kernel
theorem dX8_turnedBy_46 : decode cX8_turnedBy 46 = .ok (.aload_n 0, 1) := by decide +kernel
theorem dX8_turnedBy_47 : decode cX8_turnedBy 47 = .ok (.invokevirtual 45, 3) := by decide +kernel
theorem dX8_turnedBy_50 : decode cX8_turnedBy 50 = .ok (.irem, 1) := by decide +kernel
theorem dX8_turnedBy_51 : decode cX8_turnedBy 51 = .ok (.invokestatic 92, 3) := by decide +kernel
theorem dX8_turnedBy_54 : decode cX8_turnedBy 54 = .ok (.if_icmp .ne 7, 3) := by decide +kernel
theorem dX8_turnedBy_57 : decode cX8_turnedBy 57 = .ok (.iconst 1, 1) := by decide +kernel
theorem dX8_turnedBy_58 : decode cX8_turnedBy 58 = .ok (.goto 4, 3) := by decide +kernel
theorem dX8_turnedBy_61 : decode cX8_turnedBy 61 = .ok (.iconst 0, 1) := by decide +kernel
theorem dX8_turnedBy_62 : decode cX8_turnedBy 62 = .ok (.istore_n 3, 1) := by decide +kernel
theorem dX8_turnedBy_63 : decode cX8_turnedBy 63 = .ok (.iinc 4 1, 3) := by decide +kernel
theorem dX8_turnedBy_66 : decode cX8_turnedBy 66 = .ok (.goto (-44), 3) := by decide +kernel
theorem dX8_turnedBy_69 : decode cX8_turnedBy 69 = .ok (.iload_n 3, 1) := by decide +kernel
theorem dX8_turnedBy_70 : decode cX8_turnedBy 70 = .ok (.ifCond .eq 5, 3) := by decide +kernel
theorem dX8_turnedBy_73 : decode cX8_turnedBy 73 = .ok (.iload_n 2, 1) := by decide +kernel
theorem dX8_turnedBy_74 : decode cX8_turnedBy 74 = .ok (.ireturn, 1) := by decide +kernel
theorem dX8_turnedBy_75 : decode cX8_turnedBy 75 = .ok (.iinc 2 1, 3) := by decide +kernel
theorem dX8_turnedBy_78 : decode cX8_turnedBy 78 = .ok (.goto (-69), 3) := by decide +kernel
theorem dX8_turnedBy_81 : decode cX8_turnedBy 81 = .ok (.aload_n 0, 1) := by decide +kernel
theorem dX8_turnedBy_82 : decode cX8_turnedBy 82 = .ok (.invokevirtual 45, 3) := by decide +kernel
theorem dX8_turnedBy_85 : decode cX8_turnedBy 85 = .ok (.ireturn, 1) := by decide +kernel
set_option maxRecDepth 20000 in
theorem ggX8_shape_X8_now : GoodIn wsX8_shape wsX8_now := goodIn_r _ [5, 6, 7, 8, 9, 10, 4, 11, 62, 63, 64, 65, 66, 67, 68, 69, 70, 71, 72, 73, 74, 75] (by decide +kernel) (by decide +kernel)
set_option maxRecDepth 20000 in
theorem gX8_shape_X8_now : GoodIn wsX8_shape (wsV RX8 83 RX8 yX8_now wsX8_now) := goodIn_app (goodIn_of _ (by decide +kernel)) ggX8_shape_X8_now
set_option maxRecDepth 20000 in
theorem ggX8_shape_X8_standsOf : GoodIn wsX8_shape wsX8_standsOf := goodIn_r _ [15, 7, 8, 9, 10, 4, 11, 6, 62, 63, 64, 65, 66, 67, 68, 69, 70, 71, 72, 73, 74, 75] (by decide +kernel) (by decide +kernel)
set_option maxRecDepth 20000 in
theorem gX8_shape_X8_standsOf : GoodIn wsX8_shape (wsV RX8 86 RX8 yX8_standsOf wsX8_standsOf) := goodIn_app (goodIn_of _ (by decide +kernel)) ggX8_shape_X8_standsOf
set_option maxRecDepth 20000 in
theorem ggX8_shape_X8_isTurned : GoodIn wsX8_shape wsX8_isTurned := goodIn_r _ [19, 8, 9, 10, 4, 11, 6, 20, 21, 22, 23, 24, 25, 26, 27, 28, 29, 30, 31, 32, 33, 34, 35, 36, 37, 38, 39, 40, 41, 62, 63, 64, 65, 66, 67, 68, 69, 70, 71, 72, 73, 74, 75] (by decide +kernel) (by decide +kernel)
set_option maxRecDepth 20000 in
theorem gX8_shape_X8_isTurned : GoodIn wsX8_shape (wsV RX8 96 RX8 yX8_isTurned wsX8_isTurned) := goodIn_app (goodIn_of _ (by decide +kernel)) ggX8_shape_X8_isTurned
set_option maxRecDepth 20000 in
theorem ggX8_shape_X8_isMirrored : GoodIn wsX8_shape wsX8_isMirrored := goodIn_r _ [45, 8, 9, 10, 4, 11, 6, 20, 21, 22, 23, 24, 25, 26, 27, 28, 29, 30, 31, 32, 33, 34, 35, 36, 37, 38, 39, 40, 41, 62, 63, 64, 65, 66, 67, 68, 69, 70, 71, 72, 73, 74, 75] (by decide +kernel) (by decide +kernel)
set_option maxRecDepth 20000 in
theorem gX8_shape_X8_isMirrored : GoodIn wsX8_shape (wsV RX8 99 RX8 yX8_isMirrored wsX8_isMirrored) := goodIn_app (goodIn_of _ (by decide +kernel)) ggX8_shape_X8_isMirrored
set_option maxRecDepth 20000 in
theorem ggX8_shape_X8_even : GoodIn wsX8_shape wsX8_even := goodIn_r _ [49, 8, 9, 10, 4, 11, 6, 20, 21, 22, 23, 24, 25, 26, 27, 28, 29, 30, 31, 32, 33, 34, 35, 36, 37, 38, 39, 40, 41, 62, 63, 64, 65, 66, 67, 68, 69, 70, 71, 72, 73, 74, 75] (by decide +kernel) (by decide +kernel)
set_option maxRecDepth 20000 in
theorem gX8_shape_X8_even : GoodIn wsX8_shape (wsV RX8 102 RX8 yX8_even wsX8_even) := goodIn_app (goodIn_of _ (by decide +kernel)) ggX8_shape_X8_even
set_option maxRecDepth 20000 in
theorem ggX8_shape_X8_views : GoodIn wsX8_shape wsX8_views := goodIn_r _ [53, 8, 9, 10, 4, 11, 6, 20, 21, 22, 54, 55, 56, 57, 23, 24, 25, 26, 27, 28, 29, 30, 31, 32, 33, 34, 35, 36, 37, 38, 39, 40, 41, 62, 63, 64, 65, 66, 67, 68, 69, 70, 71, 72, 73, 74, 75] (by decide +kernel) (by decide +kernel)
set_option maxRecDepth 20000 in
theorem gX8_shape_X8_views : GoodIn wsX8_shape (wsV RX8 105 RX8 yX8_views wsX8_views) := goodIn_app (goodIn_of _ (by decide +kernel)) ggX8_shape_X8_views
set_option maxRecDepth 20000 in
theorem ggX8_shape_X8_turnedBy : GoodIn wsX8_shape wsX8_turnedBy := goodIn_r _ [61, 8, 9, 10, 4, 11, 6, 20, 21, 22, 62, 63, 64, 65, 66, 67, 68, 69, 70, 71, 72, 73, 74, 75] (by decide +kernel) (by decide +kernel)
set_option maxRecDepth 20000 in
theorem gX8_shape_X8_turnedBy : GoodIn wsX8_shape (wsV RX8 108 RX8 yX8_turnedBy wsX8_turnedBy) := goodIn_app (goodIn_of _ (by decide +kernel)) ggX8_shape_X8_turnedBy
theorem dX8_shape_0 : decode cX8_shape 0 = .ok (.aload_n 0, 1) := by decide +kernel
theorem dX8_shape_1 : decode cX8_shape 1 = .ok (.aload_n 0, 1) := by decide +kernel
theorem dX8_shape_2 : decode cX8_shape 2 = .ok (.invokevirtual 83, 3) := by decide +kernel
theorem dX8_shape_5 : decode cX8_shape 5 = .ok (.invokevirtual 86, 3) := by decide +kernel
theorem dX8_shape_8 : decode cX8_shape 8 = .ok (.istore_n 2, 1) := by decide +kernel
theorem dX8_shape_9 : decode cX8_shape 9 = .ok (.iload_n 1, 1) := by decide +kernel
theorem dX8_shape_10 : decode cX8_shape 10 = .ok (.tableswitch 110 0 5 #[38, 52, 66, 92, 98, 104], 38) := by decide +kernel
theorem dX8_shape_48 : decode cX8_shape 48 = .ok (.aload_n 0, 1) := by decide +kernel
theorem dX8_shape_49 : decode cX8_shape 49 = .ok (.iload_n 2, 1) := by decide +kernel
theorem dX8_shape_50 : decode cX8_shape 50 = .ok (.invokevirtual 96, 3) := by decide +kernel
theorem dX8_shape_53 : decode cX8_shape 53 = .ok (.ifCond .eq 7, 3) := by decide +kernel
theorem dX8_shape_56 : decode cX8_shape 56 = .ok (.iconst 1, 1) := by decide +kernel
theorem dX8_shape_57 : decode cX8_shape 57 = .ok (.goto 4, 3) := by decide +kernel
theorem dX8_shape_60 : decode cX8_shape 60 = .ok (.iconst 0, 1) := by decide +kernel
theorem dX8_shape_61 : decode cX8_shape 61 = .ok (.ireturn, 1) := by decide +kernel
theorem dX8_shape_62 : decode cX8_shape 62 = .ok (.aload_n 0, 1) := by decide +kernel
theorem dX8_shape_63 : decode cX8_shape 63 = .ok (.iload_n 2, 1) := by decide +kernel
theorem dX8_shape_64 : decode cX8_shape 64 = .ok (.invokevirtual 99, 3) := by decide +kernel
theorem dX8_shape_67 : decode cX8_shape 67 = .ok (.ifCond .eq 7, 3) := by decide +kernel
theorem dX8_shape_70 : decode cX8_shape 70 = .ok (.iconst 1, 1) := by decide +kernel
theorem dX8_shape_71 : decode cX8_shape 71 = .ok (.goto 4, 3) := by decide +kernel
theorem dX8_shape_74 : decode cX8_shape 74 = .ok (.iconst 0, 1) := by decide +kernel
theorem dX8_shape_75 : decode cX8_shape 75 = .ok (.ireturn, 1) := by decide +kernel
theorem dX8_shape_76 : decode cX8_shape 76 = .ok (.iload_n 2, 1) := by decide +kernel
theorem dX8_shape_77 : decode cX8_shape 77 = .ok (.ifCond .eq 23, 3) := by decide +kernel
theorem dX8_shape_80 : decode cX8_shape 80 = .ok (.aload_n 0, 1) := by decide +kernel
theorem dX8_shape_81 : decode cX8_shape 81 = .ok (.iload_n 2, 1) := by decide +kernel
theorem dX8_shape_82 : decode cX8_shape 82 = .ok (.invokevirtual 96, 3) := by decide +kernel
theorem dX8_shape_85 : decode cX8_shape 85 = .ok (.ifCond .ne 15, 3) := by decide +kernel
theorem dX8_shape_88 : decode cX8_shape 88 = .ok (.aload_n 0, 1) := by decide +kernel
theorem dX8_shape_89 : decode cX8_shape 89 = .ok (.iload_n 2, 1) := by decide +kernel
theorem dX8_shape_90 : decode cX8_shape 90 = .ok (.invokevirtual 99, 3) := by decide +kernel
theorem dX8_shape_93 : decode cX8_shape 93 = .ok (.ifCond .ne 7, 3) := by decide +kernel
theorem dX8_shape_96 : decode cX8_shape 96 = .ok (.iconst 1, 1) := by decide +kernel
theorem dX8_shape_97 : decode cX8_shape 97 = .ok (.goto 4, 3) := by decide +kernel
theorem dX8_shape_100 : decode cX8_shape 100 = .ok (.iconst 0, 1) := by decide +kernel
theorem dX8_shape_101 : decode cX8_shape 101 = .ok (.ireturn, 1) := by decide +kernel
theorem dX8_shape_102 : decode cX8_shape 102 = .ok (.aload_n 0, 1) := by decide +kernel
theorem dX8_shape_103 : decode cX8_shape 103 = .ok (.iload_n 2, 1) := by decide +kernel
theorem dX8_shape_104 : decode cX8_shape 104 = .ok (.invokevirtual 102, 3) := by decide +kernel
theorem dX8_shape_107 : decode cX8_shape 107 = .ok (.ireturn, 1) := by decide +kernel
theorem dX8_shape_108 : decode cX8_shape 108 = .ok (.aload_n 0, 1) := by decide +kernel
theorem dX8_shape_109 : decode cX8_shape 109 = .ok (.iload_n 2, 1) := by decide +kernel
theorem dX8_shape_110 : decode cX8_shape 110 = .ok (.invokevirtual 105, 3) := by decide +kernel
theorem dX8_shape_113 : decode cX8_shape 113 = .ok (.ireturn, 1) := by decide +kernel
theorem dX8_shape_114 : decode cX8_shape 114 = .ok (.aload_n 0, 1) := by decide +kernel
theorem dX8_shape_115 : decode cX8_shape 115 = .ok (.iload_n 2, 1) := by decide +kernel
theorem dX8_shape_116 : decode cX8_shape 116 = .ok (.invokevirtual 108, 3) := by decide +kernel
theorem dX8_shape_119 : decode cX8_shape 119 = .ok (.ireturn, 1) := by decide +kernel
theorem dX8_shape_120 : decode cX8_shape 120 = .ok (.bipush (-2), 2) := by decide +kernel
theorem dX8_shape_122 : decode cX8_shape 122 = .ok (.ireturn, 1) := by decide +kernel
set_option maxRecDepth 20000 in
theorem ggX8_rule_X8_in : GoodIn wsX8_rule wsX8_in := goodIn_r _ [5] (by decide +kernel) (by decide +kernel)
set_option maxRecDepth 20000 in
theorem gX8_rule_X8_in : GoodIn wsX8_rule (va_wsS RX8 49 yX8_in wsX8_in) := goodIn_app (goodIn_of _ (by decide +kernel)) ggX8_rule_X8_in
theorem dX8_rule_0 : decode cX8_rule 0 = .ok (.iload_n 1, 1) := by decide +kernel
theorem dX8_rule_1 : decode cX8_rule 1 = .ok (.iconst 0, 1) := by decide +kernel
theorem dX8_rule_2 : decode cX8_rule 2 = .ok (.iconst 5, 1) := by decide +kernel
theorem dX8_rule_3 : decode cX8_rule 3 = .ok (.invokestatic 49, 3) := by decide +kernel
theorem dX8_rule_6 : decode cX8_rule 6 = .ok (.ifCond .eq 42, 3) := by decide +kernel
theorem dX8_rule_9 : decode cX8_rule 9 = .ok (.iload_n 2, 1) := by decide +kernel
theorem dX8_rule_10 : decode cX8_rule 10 = .ok (.iconst 0, 1) := by decide +kernel
theorem dX8_rule_11 : decode cX8_rule 11 = .ok (.iconst 4, 1) := by decide +kernel
theorem dX8_rule_12 : decode cX8_rule 12 = .ok (.invokestatic 49, 3) := by decide +kernel
theorem dX8_rule_15 : decode cX8_rule 15 = .ok (.ifCond .eq 33, 3) := by decide +kernel
theorem dX8_rule_18 : decode cX8_rule 18 = .ok (.iload_n 3, 1) := by decide +kernel
theorem dX8_rule_19 : decode cX8_rule 19 = .ok (.iconst 0, 1) := by decide +kernel
theorem dX8_rule_20 : decode cX8_rule 20 = .ok (.iconst 2, 1) := by decide +kernel
theorem dX8_rule_21 : decode cX8_rule 21 = .ok (.invokestatic 49, 3) := by decide +kernel
theorem dX8_rule_24 : decode cX8_rule 24 = .ok (.ifCond .eq 24, 3) := by decide +kernel
theorem dX8_rule_27 : decode cX8_rule 27 = .ok (.iload 4, 2) := by decide +kernel
theorem dX8_rule_29 : decode cX8_rule 29 = .ok (.iconst 1, 1) := by decide +kernel
theorem dX8_rule_30 : decode cX8_rule 30 = .ok (.bipush 10, 2) := by decide +kernel
theorem dX8_rule_32 : decode cX8_rule 32 = .ok (.invokestatic 49, 3) := by decide +kernel
theorem dX8_rule_35 : decode cX8_rule 35 = .ok (.ifCond .eq 13, 3) := by decide +kernel
theorem dX8_rule_38 : decode cX8_rule 38 = .ok (.iload 5, 2) := by decide +kernel
theorem dX8_rule_40 : decode cX8_rule 40 = .ok (.iconst 0, 1) := by decide +kernel
theorem dX8_rule_41 : decode cX8_rule 41 = .ok (.iconst 2, 1) := by decide +kernel
theorem dX8_rule_42 : decode cX8_rule 42 = .ok (.invokestatic 49, 3) := by decide +kernel
theorem dX8_rule_45 : decode cX8_rule 45 = .ok (.ifCond .ne 6, 3) := by decide +kernel
theorem dX8_rule_48 : decode cX8_rule 48 = .ok (.bipush (-2), 2) := by decide +kernel
theorem dX8_rule_50 : decode cX8_rule 50 = .ok (.ireturn, 1) := by decide +kernel
theorem dX8_rule_51 : decode cX8_rule 51 = .ok (.aload_n 0, 1) := by decide +kernel
theorem dX8_rule_52 : decode cX8_rule 52 = .ok (.getfield 7, 3) := by decide +kernel
theorem dX8_rule_55 : decode cX8_rule 55 = .ok (.bipush 11, 2) := by decide +kernel
theorem dX8_rule_57 : decode cX8_rule 57 = .ok (.iaload, 1) := by decide +kernel
theorem dX8_rule_58 : decode cX8_rule 58 = .ok (.bipush 10, 2) := by decide +kernel
theorem dX8_rule_60 : decode cX8_rule 60 = .ok (.if_icmp .ne 6, 3) := by decide +kernel
theorem dX8_rule_63 : decode cX8_rule 63 = .ok (.bipush (-4), 2) := by decide +kernel
theorem dX8_rule_65 : decode cX8_rule 65 = .ok (.ireturn, 1) := by decide +kernel
theorem dX8_rule_66 : decode cX8_rule 66 = .ok (.bipush 12, 2) := by decide +kernel
theorem dX8_rule_68 : decode cX8_rule 68 = .ok (.bipush 6, 2) := by decide +kernel
theorem dX8_rule_70 : decode cX8_rule 70 = .ok (.aload_n 0, 1) := by decide +kernel
theorem dX8_rule_71 : decode cX8_rule 71 = .ok (.getfield 7, 3) := by decide +kernel
theorem dX8_rule_74 : decode cX8_rule 74 = .ok (.bipush 11, 2) := by decide +kernel
theorem dX8_rule_76 : decode cX8_rule 76 = .ok (.iaload, 1) := by decide +kernel
theorem dX8_rule_77 : decode cX8_rule 77 = .ok (.imul, 1) := by decide +kernel
theorem dX8_rule_78 : decode cX8_rule 78 = .ok (.iadd, 1) := by decide +kernel
theorem dX8_rule_79 : decode cX8_rule 79 = .ok (.istore 6, 2) := by decide +kernel
theorem dX8_rule_81 : decode cX8_rule 81 = .ok (.aload_n 0, 1) := by decide +kernel
theorem dX8_rule_82 : decode cX8_rule 82 = .ok (.getfield 7, 3) := by decide +kernel
theorem dX8_rule_85 : decode cX8_rule 85 = .ok (.iload 6, 2) := by decide +kernel
theorem dX8_rule_87 : decode cX8_rule 87 = .ok (.iload_n 1, 1) := by decide +kernel
theorem dX8_rule_88 : decode cX8_rule 88 = .ok (.iastore, 1) := by decide +kernel
theorem dX8_rule_89 : decode cX8_rule 89 = .ok (.aload_n 0, 1) := by decide +kernel
theorem dX8_rule_90 : decode cX8_rule 90 = .ok (.getfield 7, 3) := by decide +kernel
theorem dX8_rule_93 : decode cX8_rule 93 = .ok (.iload 6, 2) := by decide +kernel
theorem dX8_rule_95 : decode cX8_rule 95 = .ok (.iconst 1, 1) := by decide +kernel
theorem dX8_rule_96 : decode cX8_rule 96 = .ok (.iadd, 1) := by decide +kernel
theorem dX8_rule_97 : decode cX8_rule 97 = .ok (.iload_n 2, 1) := by decide +kernel
theorem dX8_rule_98 : decode cX8_rule 98 = .ok (.iastore, 1) := by decide +kernel
theorem dX8_rule_99 : decode cX8_rule 99 = .ok (.aload_n 0, 1) := by decide +kernel
theorem dX8_rule_100 : decode cX8_rule 100 = .ok (.getfield 7, 3) := by decide +kernel
theorem dX8_rule_103 : decode cX8_rule 103 = .ok (.iload 6, 2) := by decide +kernel
theorem dX8_rule_105 : decode cX8_rule 105 = .ok (.iconst 2, 1) := by decide +kernel
theorem dX8_rule_106 : decode cX8_rule 106 = .ok (.iadd, 1) := by decide +kernel
theorem dX8_rule_107 : decode cX8_rule 107 = .ok (.iload_n 3, 1) := by decide +kernel
theorem dX8_rule_108 : decode cX8_rule 108 = .ok (.iastore, 1) := by decide +kernel
theorem dX8_rule_109 : decode cX8_rule 109 = .ok (.aload_n 0, 1) := by decide +kernel
theorem dX8_rule_110 : decode cX8_rule 110 = .ok (.getfield 7, 3) := by decide +kernel
theorem dX8_rule_113 : decode cX8_rule 113 = .ok (.iload 6, 2) := by decide +kernel
theorem dX8_rule_115 : decode cX8_rule 115 = .ok (.iconst 3, 1) := by decide +kernel
theorem dX8_rule_116 : decode cX8_rule 116 = .ok (.iadd, 1) := by decide +kernel
theorem dX8_rule_117 : decode cX8_rule 117 = .ok (.iload 4, 2) := by decide +kernel
theorem dX8_rule_119 : decode cX8_rule 119 = .ok (.iastore, 1) := by decide +kernel
theorem dX8_rule_120 : decode cX8_rule 120 = .ok (.aload_n 0, 1) := by decide +kernel
theorem dX8_rule_121 : decode cX8_rule 121 = .ok (.getfield 7, 3) := by decide +kernel
theorem dX8_rule_124 : decode cX8_rule 124 = .ok (.iload 6, 2) := by decide +kernel
theorem dX8_rule_126 : decode cX8_rule 126 = .ok (.iconst 4, 1) := by decide +kernel
theorem dX8_rule_127 : decode cX8_rule 127 = .ok (.iadd, 1) := by decide +kernel
theorem dX8_rule_128 : decode cX8_rule 128 = .ok (.iload 5, 2) := by decide +kernel
theorem dX8_rule_130 : decode cX8_rule 130 = .ok (.iastore, 1) := by decide +kernel
theorem dX8_rule_131 : decode cX8_rule 131 = .ok (.aload_n 0, 1) := by decide +kernel
theorem dX8_rule_132 : decode cX8_rule 132 = .ok (.getfield 7, 3) := by decide +kernel
theorem dX8_rule_135 : decode cX8_rule 135 = .ok (.iload 6, 2) := by decide +kernel
theorem dX8_rule_137 : decode cX8_rule 137 = .ok (.iconst 5, 1) := by decide +kernel
theorem dX8_rule_138 : decode cX8_rule 138 = .ok (.iadd, 1) := by decide +kernel
theorem dX8_rule_139 : decode cX8_rule 139 = .ok (.iconst 2, 1) := by decide +kernel
theorem dX8_rule_140 : decode cX8_rule 140 = .ok (.iastore, 1) := by decide +kernel
theorem dX8_rule_141 : decode cX8_rule 141 = .ok (.aload_n 0, 1) := by decide +kernel
theorem dX8_rule_142 : decode cX8_rule 142 = .ok (.getfield 7, 3) := by decide +kernel
theorem dX8_rule_145 : decode cX8_rule 145 = .ok (.bipush 11, 2) := by decide +kernel
theorem dX8_rule_147 : decode cX8_rule 147 = .ok (.dup2, 1) := by decide +kernel
theorem dX8_rule_148 : decode cX8_rule 148 = .ok (.iaload, 1) := by decide +kernel
theorem dX8_rule_149 : decode cX8_rule 149 = .ok (.iconst 1, 1) := by decide +kernel
theorem dX8_rule_150 : decode cX8_rule 150 = .ok (.iadd, 1) := by decide +kernel
theorem dX8_rule_151 : decode cX8_rule 151 = .ok (.iastore, 1) := by decide +kernel
theorem dX8_rule_152 : decode cX8_rule 152 = .ok (.aload_n 0, 1) := by decide +kernel
theorem dX8_rule_153 : decode cX8_rule 153 = .ok (.getfield 7, 3) := by decide +kernel
theorem dX8_rule_156 : decode cX8_rule 156 = .ok (.bipush 11, 2) := by decide +kernel
theorem dX8_rule_158 : decode cX8_rule 158 = .ok (.iaload, 1) := by decide +kernel
theorem dX8_rule_159 : decode cX8_rule 159 = .ok (.iconst 1, 1) := by decide +kernel
theorem dX8_rule_160 : decode cX8_rule 160 = .ok (.isub, 1) := by decide +kernel
theorem dX8_rule_161 : decode cX8_rule 161 = .ok (.ireturn, 1) := by decide +kernel
set_option maxRecDepth 20000 in
theorem ggX8_whom_X8_isRule : GoodIn wsX8_whom wsX8_isRule := goodIn_r _ [6, 1, 7, 8, 5, 9, 10, 11, 12, 13, 14, 15, 16, 17, 18, 19, 20, 21, 22, 23] (by decide +kernel) (by decide +kernel)
set_option maxRecDepth 20000 in
theorem gX8_whom_X8_isRule : GoodIn wsX8_whom (wsV RX8 111 RX8 yX8_isRule wsX8_isRule) := goodIn_app (goodIn_of _ (by decide +kernel)) ggX8_whom_X8_isRule
set_option maxRecDepth 20000 in
theorem ggX8_whom_X8_in : GoodIn wsX8_whom wsX8_in := goodIn_r _ [9] (by decide +kernel) (by decide +kernel)
set_option maxRecDepth 20000 in
theorem gX8_whom_X8_in : GoodIn wsX8_whom (va_wsS RX8 49 yX8_in wsX8_in) := goodIn_app (goodIn_of _ (by decide +kernel)) ggX8_whom_X8_in
theorem dX8_whom_0 : decode cX8_whom 0 = .ok (.aload_n 0, 1) := by decide +kernel
theorem dX8_whom_1 : decode cX8_whom 1 = .ok (.iload_n 1, 1) := by decide +kernel
theorem dX8_whom_2 : decode cX8_whom 2 = .ok (.invokevirtual 111, 3) := by decide +kernel
theorem dX8_whom_5 : decode cX8_whom 5 = .ok (.ifCond .ne 5, 3) := by decide +kernel
theorem dX8_whom_8 : decode cX8_whom 8 = .ok (.iconst (-1), 1) := by decide +kernel
theorem dX8_whom_9 : decode cX8_whom 9 = .ok (.ireturn, 1) := by decide +kernel
theorem dX8_whom_10 : decode cX8_whom 10 = .ok (.iload_n 2, 1) := by decide +kernel
theorem dX8_whom_11 : decode cX8_whom 11 = .ok (.iconst 0, 1) := by decide +kernel
theorem dX8_whom_12 : decode cX8_whom 12 = .ok (.iconst 2, 1) := by decide +kernel
theorem dX8_whom_13 : decode cX8_whom 13 = .ok (.invokestatic 49, 3) := by decide +kernel
theorem dX8_whom_16 : decode cX8_whom 16 = .ok (.ifCond .ne 6, 3) := by decide +kernel
theorem dX8_whom_19 : decode cX8_whom 19 = .ok (.bipush (-2), 2) := by decide +kernel
theorem dX8_whom_21 : decode cX8_whom 21 = .ok (.ireturn, 1) := by decide +kernel
theorem dX8_whom_22 : decode cX8_whom 22 = .ok (.aload_n 0, 1) := by decide +kernel
theorem dX8_whom_23 : decode cX8_whom 23 = .ok (.getfield 7, 3) := by decide +kernel
theorem dX8_whom_26 : decode cX8_whom 26 = .ok (.bipush 12, 2) := by decide +kernel
theorem dX8_whom_28 : decode cX8_whom 28 = .ok (.bipush 6, 2) := by decide +kernel
theorem dX8_whom_30 : decode cX8_whom 30 = .ok (.iload_n 1, 1) := by decide +kernel
theorem dX8_whom_31 : decode cX8_whom 31 = .ok (.imul, 1) := by decide +kernel
theorem dX8_whom_32 : decode cX8_whom 32 = .ok (.iadd, 1) := by decide +kernel
theorem dX8_whom_33 : decode cX8_whom 33 = .ok (.iconst 5, 1) := by decide +kernel
theorem dX8_whom_34 : decode cX8_whom 34 = .ok (.iadd, 1) := by decide +kernel
theorem dX8_whom_35 : decode cX8_whom 35 = .ok (.iaload, 1) := by decide +kernel
theorem dX8_whom_36 : decode cX8_whom 36 = .ok (.istore_n 3, 1) := by decide +kernel
theorem dX8_whom_37 : decode cX8_whom 37 = .ok (.aload_n 0, 1) := by decide +kernel
theorem dX8_whom_38 : decode cX8_whom 38 = .ok (.getfield 7, 3) := by decide +kernel
theorem dX8_whom_41 : decode cX8_whom 41 = .ok (.bipush 12, 2) := by decide +kernel
theorem dX8_whom_43 : decode cX8_whom 43 = .ok (.bipush 6, 2) := by decide +kernel
theorem dX8_whom_45 : decode cX8_whom 45 = .ok (.iload_n 1, 1) := by decide +kernel
theorem dX8_whom_46 : decode cX8_whom 46 = .ok (.imul, 1) := by decide +kernel
theorem dX8_whom_47 : decode cX8_whom 47 = .ok (.iadd, 1) := by decide +kernel
theorem dX8_whom_48 : decode cX8_whom 48 = .ok (.iconst 5, 1) := by decide +kernel
theorem dX8_whom_49 : decode cX8_whom 49 = .ok (.iadd, 1) := by decide +kernel
theorem dX8_whom_50 : decode cX8_whom 50 = .ok (.iload_n 2, 1) := by decide +kernel
theorem dX8_whom_51 : decode cX8_whom 51 = .ok (.iastore, 1) := by decide +kernel
theorem dX8_whom_52 : decode cX8_whom 52 = .ok (.iload_n 3, 1) := by decide +kernel
theorem dX8_whom_53 : decode cX8_whom 53 = .ok (.ireturn, 1) := by decide +kernel
set_option maxRecDepth 20000 in
theorem ggX8_drop_X8_isRule : GoodIn wsX8_drop wsX8_isRule := goodIn_r _ [6, 1, 7, 8, 5, 9, 10, 11, 12, 13, 14, 15, 16, 17, 18, 19, 20, 21, 22, 23] (by decide +kernel) (by decide +kernel)
set_option maxRecDepth 20000 in
theorem gX8_drop_X8_isRule : GoodIn wsX8_drop (wsV RX8 111 RX8 yX8_isRule wsX8_isRule) := goodIn_app (goodIn_of _ (by decide +kernel)) ggX8_drop_X8_isRule
theorem dX8_drop_0 : decode cX8_drop 0 = .ok (.aload_n 0, 1) := by decide +kernel
theorem dX8_drop_1 : decode cX8_drop 1 = .ok (.iload_n 1, 1) := by decide +kernel
theorem dX8_drop_2 : decode cX8_drop 2 = .ok (.invokevirtual 111, 3) := by decide +kernel
theorem dX8_drop_5 : decode cX8_drop 5 = .ok (.ifCond .ne 5, 3) := by decide +kernel
theorem dX8_drop_8 : decode cX8_drop 8 = .ok (.iconst (-1), 1) := by decide +kernel
theorem dX8_drop_9 : decode cX8_drop 9 = .ok (.ireturn, 1) := by decide +kernel
theorem dX8_drop_10 : decode cX8_drop 10 = .ok (.bipush 12, 2) := by decide +kernel
theorem dX8_drop_12 : decode cX8_drop 12 = .ok (.bipush 6, 2) := by decide +kernel
theorem dX8_drop_14 : decode cX8_drop 14 = .ok (.iload_n 1, 1) := by decide +kernel
theorem dX8_drop_15 : decode cX8_drop 15 = .ok (.imul, 1) := by decide +kernel
theorem dX8_drop_16 : decode cX8_drop 16 = .ok (.iadd, 1) := by decide +kernel
theorem dX8_drop_17 : decode cX8_drop 17 = .ok (.istore_n 2, 1) := by decide +kernel
theorem dX8_drop_18 : decode cX8_drop 18 = .ok (.iload_n 2, 1) := by decide +kernel
theorem dX8_drop_19 : decode cX8_drop 19 = .ok (.bipush 6, 2) := by decide +kernel
theorem dX8_drop_21 : decode cX8_drop 21 = .ok (.iadd, 1) := by decide +kernel
theorem dX8_drop_22 : decode cX8_drop 22 = .ok (.bipush 72, 2) := by decide +kernel
theorem dX8_drop_24 : decode cX8_drop 24 = .ok (.if_icmp .ge 24, 3) := by decide +kernel
theorem dX8_drop_27 : decode cX8_drop 27 = .ok (.aload_n 0, 1) := by decide +kernel
theorem dX8_drop_28 : decode cX8_drop 28 = .ok (.getfield 7, 3) := by decide +kernel
theorem dX8_drop_31 : decode cX8_drop 31 = .ok (.iload_n 2, 1) := by decide +kernel
theorem dX8_drop_32 : decode cX8_drop 32 = .ok (.aload_n 0, 1) := by decide +kernel
theorem dX8_drop_33 : decode cX8_drop 33 = .ok (.getfield 7, 3) := by decide +kernel
theorem dX8_drop_36 : decode cX8_drop 36 = .ok (.iload_n 2, 1) := by decide +kernel
theorem dX8_drop_37 : decode cX8_drop 37 = .ok (.bipush 6, 2) := by decide +kernel
theorem dX8_drop_39 : decode cX8_drop 39 = .ok (.iadd, 1) := by decide +kernel
theorem dX8_drop_40 : decode cX8_drop 40 = .ok (.iaload, 1) := by decide +kernel
theorem dX8_drop_41 : decode cX8_drop 41 = .ok (.iastore, 1) := by decide +kernel
theorem dX8_drop_42 : decode cX8_drop 42 = .ok (.iinc 2 1, 3) := by decide +kernel
theorem dX8_drop_45 : decode cX8_drop 45 = .ok (.goto (-27), 3) := by decide +kernel
theorem dX8_drop_48 : decode cX8_drop 48 = .ok (.aload_n 0, 1) := by decide +kernel
theorem dX8_drop_49 : decode cX8_drop 49 = .ok (.getfield 7, 3) := by decide +kernel
theorem dX8_drop_52 : decode cX8_drop 52 = .ok (.bipush 11, 2) := by decide +kernel
theorem dX8_drop_54 : decode cX8_drop 54 = .ok (.dup2, 1) := by decide +kernel
theorem dX8_drop_55 : decode cX8_drop 55 = .ok (.iaload, 1) := by decide +kernel
theorem dX8_drop_56 : decode cX8_drop 56 = .ok (.iconst 1, 1) := by decide +kernel
theorem dX8_drop_57 : decode cX8_drop 57 = .ok (.isub, 1) := by decide +kernel
theorem dX8_drop_58 : decode cX8_drop 58 = .ok (.iastore, 1) := by decide +kernel
theorem dX8_drop_59 : decode cX8_drop 59 = .ok (.aload_n 0, 1) := by decide +kernel
theorem dX8_drop_60 : decode cX8_drop 60 = .ok (.getfield 7, 3) := by decide +kernel
theorem dX8_drop_63 : decode cX8_drop 63 = .ok (.bipush 11, 2) := by decide +kernel
theorem dX8_drop_65 : decode cX8_drop 65 = .ok (.iaload, 1) := by decide +kernel
theorem dX8_drop_66 : decode cX8_drop 66 = .ok (.ireturn, 1) := by decide +kernel
set_option maxRecDepth 20000 in
theorem ggX8_of_X8_isRule : GoodIn wsX8_of wsX8_isRule := goodIn_r _ [6, 1, 7, 8, 5, 9, 10, 11, 12, 13, 14, 15, 16, 17, 18, 19, 20, 21, 22, 23] (by decide +kernel) (by decide +kernel)
set_option maxRecDepth 20000 in
theorem gX8_of_X8_isRule : GoodIn wsX8_of (wsV RX8 111 RX8 yX8_isRule wsX8_isRule) := goodIn_app (goodIn_of _ (by decide +kernel)) ggX8_of_X8_isRule
set_option maxRecDepth 20000 in
theorem ggX8_of_X8_in : GoodIn wsX8_of wsX8_in := goodIn_r _ [9] (by decide +kernel) (by decide +kernel)
set_option maxRecDepth 20000 in
theorem gX8_of_X8_in : GoodIn wsX8_of (va_wsS RX8 49 yX8_in wsX8_in) := goodIn_app (goodIn_of _ (by decide +kernel)) ggX8_of_X8_in
theorem dX8_of_0 : decode cX8_of 0 = .ok (.aload_n 0, 1) := by decide +kernel
theorem dX8_of_1 : decode cX8_of 1 = .ok (.iload_n 1, 1) := by decide +kernel
theorem dX8_of_2 : decode cX8_of 2 = .ok (.invokevirtual 111, 3) := by decide +kernel
theorem dX8_of_5 : decode cX8_of 5 = .ok (.ifCond .ne 5, 3) := by decide +kernel
theorem dX8_of_8 : decode cX8_of 8 = .ok (.iconst (-1), 1) := by decide +kernel
theorem dX8_of_9 : decode cX8_of 9 = .ok (.ireturn, 1) := by decide +kernel
theorem dX8_of_10 : decode cX8_of 10 = .ok (.iload_n 2, 1) := by decide +kernel
theorem dX8_of_11 : decode cX8_of 11 = .ok (.iconst 0, 1) := by decide +kernel
theorem dX8_of_12 : decode cX8_of 12 = .ok (.iconst 5, 1) := by decide +kernel
theorem dX8_of_13 : decode cX8_of 13 = .ok (.invokestatic 49, 3) := by decide +kernel
theorem dX8_of_16 : decode cX8_of 16 = .ok (.ifCond .eq 20, 3) := by decide +kernel
theorem dX8_of_19 : decode cX8_of 19 = .ok (.aload_n 0, 1) := by decide +kernel
theorem dX8_of_20 : decode cX8_of 20 = .ok (.getfield 7, 3) := by decide +kernel
theorem dX8_of_23 : decode cX8_of 23 = .ok (.bipush 12, 2) := by decide +kernel
theorem dX8_of_25 : decode cX8_of 25 = .ok (.bipush 6, 2) := by decide +kernel
theorem dX8_of_27 : decode cX8_of 27 = .ok (.iload_n 1, 1) := by decide +kernel
theorem dX8_of_28 : decode cX8_of 28 = .ok (.imul, 1) := by decide +kernel
theorem dX8_of_29 : decode cX8_of 29 = .ok (.iadd, 1) := by decide +kernel
theorem dX8_of_30 : decode cX8_of 30 = .ok (.iload_n 2, 1) := by decide +kernel
theorem dX8_of_31 : decode cX8_of 31 = .ok (.iadd, 1) := by decide +kernel
theorem dX8_of_32 : decode cX8_of 32 = .ok (.iaload, 1) := by decide +kernel
theorem dX8_of_33 : decode cX8_of 33 = .ok (.goto 5, 3) := by decide +kernel
theorem dX8_of_36 : decode cX8_of 36 = .ok (.bipush (-2), 2) := by decide +kernel
theorem dX8_of_38 : decode cX8_of 38 = .ok (.ireturn, 1) := by decide +kernel
set_option maxRecDepth 20000 in
theorem ggX8_fits_X8_size : GoodIn wsX8_fits wsX8_size := goodIn_r _ [5] (by decide +kernel) (by decide +kernel)
set_option maxRecDepth 20000 in
theorem gX8_fits_X8_size : GoodIn wsX8_fits (va_wsS RX8 68 yX8_size wsX8_size) := goodIn_app (goodIn_of _ (by decide +kernel)) ggX8_fits_X8_size
set_option maxRecDepth 20000 in
theorem ggX8_fits_X8_viewWay : GoodIn wsX8_fits wsX8_viewWay := goodIn_r _ [9, 10, 11, 12, 4, 13, 2, 3, 5, 14, 15, 16, 17, 18, 19, 20, 21, 22, 23, 24, 25, 26, 27, 28, 29, 1, 30, 31, 32, 33, 34, 35, 36, 37, 38, 39, 40, 41, 42, 43] (by decide +kernel) (by decide +kernel)
set_option maxRecDepth 20000 in
theorem gX8_fits_X8_viewWay : GoodIn wsX8_fits (wsV RX8 89 RX8 yX8_viewWay wsX8_viewWay) := goodIn_app (goodIn_of _ (by decide +kernel)) ggX8_fits_X8_viewWay
set_option maxRecDepth 20000 in
theorem ggX8_fits_X8_gapAt : GoodIn wsX8_fits wsX8_gapAt := goodIn_r _ [17, 18, 19, 20, 4, 21, 22, 23, 24, 25, 26, 27, 28, 29, 1, 30, 31, 32, 33, 34, 35, 36, 37, 38, 39, 40, 41, 42, 43] (by decide +kernel) (by decide +kernel)
set_option maxRecDepth 20000 in
theorem gX8_fits_X8_gapAt : GoodIn wsX8_fits (wsV RX8 72 RX8 yX8_gapAt wsX8_gapAt) := goodIn_app (goodIn_of _ (by decide +kernel)) ggX8_fits_X8_gapAt
theorem dX8_fits_0 : decode cX8_fits 0 = .ok (.bipush 12, 2) := by decide +kernel
theorem dX8_fits_2 : decode cX8_fits 2 = .ok (.bipush 6, 2) := by decide +kernel
theorem dX8_fits_4 : decode cX8_fits 4 = .ok (.iload_n 1, 1) := by decide +kernel
theorem dX8_fits_5 : decode cX8_fits 5 = .ok (.imul, 1) := by decide +kernel
theorem dX8_fits_6 : decode cX8_fits 6 = .ok (.iadd, 1) := by decide +kernel
theorem dX8_fits_7 : decode cX8_fits 7 = .ok (.istore 5, 2) := by decide +kernel
theorem dX8_fits_9 : decode cX8_fits 9 = .ok (.iload_n 2, 1) := by decide +kernel
theorem dX8_fits_10 : decode cX8_fits 10 = .ok (.invokestatic 68, 3) := by decide +kernel
theorem dX8_fits_13 : decode cX8_fits 13 = .ok (.istore 6, 2) := by decide +kernel
theorem dX8_fits_15 : decode cX8_fits 15 = .ok (.aload_n 0, 1) := by decide +kernel
theorem dX8_fits_16 : decode cX8_fits 16 = .ok (.getfield 7, 3) := by decide +kernel
theorem dX8_fits_19 : decode cX8_fits 19 = .ok (.iload 5, 2) := by decide +kernel
theorem dX8_fits_21 : decode cX8_fits 21 = .ok (.iaload, 1) := by decide +kernel
theorem dX8_fits_22 : decode cX8_fits 22 = .ok (.ifCond .le 15, 3) := by decide +kernel
theorem dX8_fits_25 : decode cX8_fits 25 = .ok (.aload_n 0, 1) := by decide +kernel
theorem dX8_fits_26 : decode cX8_fits 26 = .ok (.getfield 7, 3) := by decide +kernel
theorem dX8_fits_29 : decode cX8_fits 29 = .ok (.iload 5, 2) := by decide +kernel
theorem dX8_fits_31 : decode cX8_fits 31 = .ok (.iaload, 1) := by decide +kernel
theorem dX8_fits_32 : decode cX8_fits 32 = .ok (.iload 6, 2) := by decide +kernel
theorem dX8_fits_34 : decode cX8_fits 34 = .ok (.if_icmp .ne 39, 3) := by decide +kernel
theorem dX8_fits_37 : decode cX8_fits 37 = .ok (.aload_n 0, 1) := by decide +kernel
theorem dX8_fits_38 : decode cX8_fits 38 = .ok (.getfield 7, 3) := by decide +kernel
theorem dX8_fits_41 : decode cX8_fits 41 = .ok (.iload 5, 2) := by decide +kernel
theorem dX8_fits_43 : decode cX8_fits 43 = .ok (.iconst 1, 1) := by decide +kernel
theorem dX8_fits_44 : decode cX8_fits 44 = .ok (.iadd, 1) := by decide +kernel
theorem dX8_fits_45 : decode cX8_fits 45 = .ok (.iaload, 1) := by decide +kernel
theorem dX8_fits_46 : decode cX8_fits 46 = .ok (.iload 6, 2) := by decide +kernel
theorem dX8_fits_48 : decode cX8_fits 48 = .ok (.if_icmp .ge 25, 3) := by decide +kernel
theorem dX8_fits_51 : decode cX8_fits 51 = .ok (.aload_n 0, 1) := by decide +kernel
theorem dX8_fits_52 : decode cX8_fits 52 = .ok (.getfield 7, 3) := by decide +kernel
theorem dX8_fits_55 : decode cX8_fits 55 = .ok (.iload 5, 2) := by decide +kernel
theorem dX8_fits_57 : decode cX8_fits 57 = .ok (.iconst 5, 1) := by decide +kernel
theorem dX8_fits_58 : decode cX8_fits 58 = .ok (.iadd, 1) := by decide +kernel
theorem dX8_fits_59 : decode cX8_fits 59 = .ok (.iaload, 1) := by decide +kernel
theorem dX8_fits_60 : decode cX8_fits 60 = .ok (.iload 4, 2) := by decide +kernel
theorem dX8_fits_62 : decode cX8_fits 62 = .ok (.ifCond .eq 7, 3) := by decide +kernel
theorem dX8_fits_65 : decode cX8_fits 65 = .ok (.iconst 0, 1) := by decide +kernel
theorem dX8_fits_66 : decode cX8_fits 66 = .ok (.goto 4, 3) := by decide +kernel
theorem dX8_fits_69 : decode cX8_fits 69 = .ok (.iconst 1, 1) := by decide +kernel
theorem dX8_fits_70 : decode cX8_fits 70 = .ok (.if_icmp .ne 5, 3) := by decide +kernel
theorem dX8_fits_73 : decode cX8_fits 73 = .ok (.iconst 0, 1) := by decide +kernel
theorem dX8_fits_74 : decode cX8_fits 74 = .ok (.ireturn, 1) := by decide +kernel
theorem dX8_fits_75 : decode cX8_fits 75 = .ok (.aload_n 0, 1) := by decide +kernel
theorem dX8_fits_76 : decode cX8_fits 76 = .ok (.iload_n 2, 1) := by decide +kernel
theorem dX8_fits_77 : decode cX8_fits 77 = .ok (.iload_n 3, 1) := by decide +kernel
theorem dX8_fits_78 : decode cX8_fits 78 = .ok (.aload_n 0, 1) := by decide +kernel
theorem dX8_fits_79 : decode cX8_fits 79 = .ok (.iload_n 2, 1) := by decide +kernel
theorem dX8_fits_80 : decode cX8_fits 80 = .ok (.iload_n 3, 1) := by decide +kernel
theorem dX8_fits_81 : decode cX8_fits 81 = .ok (.invokevirtual 89, 3) := by decide +kernel
theorem dX8_fits_84 : decode cX8_fits 84 = .ok (.aload_n 0, 1) := by decide +kernel
theorem dX8_fits_85 : decode cX8_fits 85 = .ok (.getfield 7, 3) := by decide +kernel
theorem dX8_fits_88 : decode cX8_fits 88 = .ok (.iload 5, 2) := by decide +kernel
theorem dX8_fits_90 : decode cX8_fits 90 = .ok (.iconst 1, 1) := by decide +kernel
theorem dX8_fits_91 : decode cX8_fits 91 = .ok (.iadd, 1) := by decide +kernel
theorem dX8_fits_92 : decode cX8_fits 92 = .ok (.iaload, 1) := by decide +kernel
theorem dX8_fits_93 : decode cX8_fits 93 = .ok (.invokevirtual 72, 3) := by decide +kernel
theorem dX8_fits_96 : decode cX8_fits 96 = .ok (.istore 7, 2) := by decide +kernel
theorem dX8_fits_98 : decode cX8_fits 98 = .ok (.aload_n 0, 1) := by decide +kernel
theorem dX8_fits_99 : decode cX8_fits 99 = .ok (.getfield 7, 3) := by decide +kernel
theorem dX8_fits_102 : decode cX8_fits 102 = .ok (.iload 5, 2) := by decide +kernel
theorem dX8_fits_104 : decode cX8_fits 104 = .ok (.iconst 2, 1) := by decide +kernel
theorem dX8_fits_105 : decode cX8_fits 105 = .ok (.iadd, 1) := by decide +kernel
theorem dX8_fits_106 : decode cX8_fits 106 = .ok (.iaload, 1) := by decide +kernel
theorem dX8_fits_107 : decode cX8_fits 107 = .ok (.ifCond .ne 25, 3) := by decide +kernel
theorem dX8_fits_110 : decode cX8_fits 110 = .ok (.iload 7, 2) := by decide +kernel
theorem dX8_fits_112 : decode cX8_fits 112 = .ok (.aload_n 0, 1) := by decide +kernel
theorem dX8_fits_113 : decode cX8_fits 113 = .ok (.getfield 7, 3) := by decide +kernel
theorem dX8_fits_116 : decode cX8_fits 116 = .ok (.iload 5, 2) := by decide +kernel
theorem dX8_fits_118 : decode cX8_fits 118 = .ok (.iconst 3, 1) := by decide +kernel
theorem dX8_fits_119 : decode cX8_fits 119 = .ok (.iadd, 1) := by decide +kernel
theorem dX8_fits_120 : decode cX8_fits 120 = .ok (.iaload, 1) := by decide +kernel
theorem dX8_fits_121 : decode cX8_fits 121 = .ok (.if_icmp .ge 7, 3) := by decide +kernel
theorem dX8_fits_124 : decode cX8_fits 124 = .ok (.iconst 1, 1) := by decide +kernel
theorem dX8_fits_125 : decode cX8_fits 125 = .ok (.goto 61, 3) := by decide +kernel
theorem dX8_fits_128 : decode cX8_fits 128 = .ok (.iconst 0, 1) := by decide +kernel
theorem dX8_fits_129 : decode cX8_fits 129 = .ok (.goto 57, 3) := by decide +kernel
theorem dX8_fits_132 : decode cX8_fits 132 = .ok (.aload_n 0, 1) := by decide +kernel
theorem dX8_fits_133 : decode cX8_fits 133 = .ok (.getfield 7, 3) := by decide +kernel
theorem dX8_fits_136 : decode cX8_fits 136 = .ok (.iload 5, 2) := by decide +kernel
theorem dX8_fits_138 : decode cX8_fits 138 = .ok (.iconst 2, 1) := by decide +kernel
theorem dX8_fits_139 : decode cX8_fits 139 = .ok (.iadd, 1) := by decide +kernel
theorem dX8_fits_140 : decode cX8_fits 140 = .ok (.iaload, 1) := by decide +kernel
theorem dX8_fits_141 : decode cX8_fits 141 = .ok (.iconst 1, 1) := by decide +kernel
theorem dX8_fits_142 : decode cX8_fits 142 = .ok (.if_icmp .ne 25, 3) := by decide +kernel
theorem dX8_fits_145 : decode cX8_fits 145 = .ok (.iload 7, 2) := by decide +kernel
theorem dX8_fits_147 : decode cX8_fits 147 = .ok (.aload_n 0, 1) := by decide +kernel
theorem dX8_fits_148 : decode cX8_fits 148 = .ok (.getfield 7, 3) := by decide +kernel
theorem dX8_fits_151 : decode cX8_fits 151 = .ok (.iload 5, 2) := by decide +kernel
theorem dX8_fits_153 : decode cX8_fits 153 = .ok (.iconst 3, 1) := by decide +kernel
theorem dX8_fits_154 : decode cX8_fits 154 = .ok (.iadd, 1) := by decide +kernel
theorem dX8_fits_155 : decode cX8_fits 155 = .ok (.iaload, 1) := by decide +kernel
theorem dX8_fits_156 : decode cX8_fits 156 = .ok (.if_icmp .ne 7, 3) := by decide +kernel
theorem dX8_fits_159 : decode cX8_fits 159 = .ok (.iconst 1, 1) := by decide +kernel
theorem dX8_fits_160 : decode cX8_fits 160 = .ok (.goto 26, 3) := by decide +kernel
theorem dX8_fits_163 : decode cX8_fits 163 = .ok (.iconst 0, 1) := by decide +kernel
theorem dX8_fits_164 : decode cX8_fits 164 = .ok (.goto 22, 3) := by decide +kernel
theorem dX8_fits_167 : decode cX8_fits 167 = .ok (.iload 7, 2) := by decide +kernel
theorem dX8_fits_169 : decode cX8_fits 169 = .ok (.aload_n 0, 1) := by decide +kernel
theorem dX8_fits_170 : decode cX8_fits 170 = .ok (.getfield 7, 3) := by decide +kernel
theorem dX8_fits_173 : decode cX8_fits 173 = .ok (.iload 5, 2) := by decide +kernel
theorem dX8_fits_175 : decode cX8_fits 175 = .ok (.iconst 3, 1) := by decide +kernel
theorem dX8_fits_176 : decode cX8_fits 176 = .ok (.iadd, 1) := by decide +kernel
theorem dX8_fits_177 : decode cX8_fits 177 = .ok (.iaload, 1) := by decide +kernel
theorem dX8_fits_178 : decode cX8_fits 178 = .ok (.if_icmp .le 7, 3) := by decide +kernel
theorem dX8_fits_181 : decode cX8_fits 181 = .ok (.iconst 1, 1) := by decide +kernel
theorem dX8_fits_182 : decode cX8_fits 182 = .ok (.goto 4, 3) := by decide +kernel
theorem dX8_fits_185 : decode cX8_fits 185 = .ok (.iconst 0, 1) := by decide +kernel
theorem dX8_fits_186 : decode cX8_fits 186 = .ok (.ireturn, 1) := by decide +kernel
set_option maxRecDepth 20000 in
theorem ggX8_ruleOf_X8_fits : GoodIn wsX8_ruleOf wsX8_fits := goodIn_r _ [6, 1, 7, 8, 5, 9, 10, 11, 12, 13, 14, 15, 16, 17, 18, 19, 20, 21, 22, 23, 24, 25, 26, 27, 28, 29, 30, 31, 32, 33, 34, 35, 36, 37, 38, 39, 40, 41, 42, 43, 44, 45, 46, 47] (by decide +kernel) (by decide +kernel)
set_option maxRecDepth 20000 in
theorem gX8_ruleOf_X8_fits : GoodIn wsX8_ruleOf (wsV RX8 114 RX8 yX8_fits wsX8_fits) := goodIn_app (goodIn_of _ (by decide +kernel)) ggX8_ruleOf_X8_fits
theorem dX8_ruleOf_0 : decode cX8_ruleOf 0 = .ok (.iconst 0, 1) := by decide +kernel
theorem dX8_ruleOf_1 : decode cX8_ruleOf 1 = .ok (.istore 4, 2) := by decide +kernel
theorem dX8_ruleOf_3 : decode cX8_ruleOf 3 = .ok (.iload 4, 2) := by decide +kernel
theorem dX8_ruleOf_5 : decode cX8_ruleOf 5 = .ok (.aload_n 0, 1) := by decide +kernel
theorem dX8_ruleOf_6 : decode cX8_ruleOf 6 = .ok (.getfield 7, 3) := by decide +kernel
theorem dX8_ruleOf_9 : decode cX8_ruleOf 9 = .ok (.bipush 11, 2) := by decide +kernel
theorem dX8_ruleOf_11 : decode cX8_ruleOf 11 = .ok (.iaload, 1) := by decide +kernel
theorem dX8_ruleOf_12 : decode cX8_ruleOf 12 = .ok (.if_icmp .ge 24, 3) := by decide +kernel
theorem dX8_ruleOf_15 : decode cX8_ruleOf 15 = .ok (.aload_n 0, 1) := by decide +kernel
theorem dX8_ruleOf_16 : decode cX8_ruleOf 16 = .ok (.iload 4, 2) := by decide +kernel
theorem dX8_ruleOf_18 : decode cX8_ruleOf 18 = .ok (.iload_n 1, 1) := by decide +kernel
theorem dX8_ruleOf_19 : decode cX8_ruleOf 19 = .ok (.iload_n 2, 1) := by decide +kernel
theorem dX8_ruleOf_20 : decode cX8_ruleOf 20 = .ok (.iload_n 3, 1) := by decide +kernel
theorem dX8_ruleOf_21 : decode cX8_ruleOf 21 = .ok (.invokevirtual 114, 3) := by decide +kernel
theorem dX8_ruleOf_24 : decode cX8_ruleOf 24 = .ok (.ifCond .eq 6, 3) := by decide +kernel
theorem dX8_ruleOf_27 : decode cX8_ruleOf 27 = .ok (.iload 4, 2) := by decide +kernel
theorem dX8_ruleOf_29 : decode cX8_ruleOf 29 = .ok (.ireturn, 1) := by decide +kernel
theorem dX8_ruleOf_30 : decode cX8_ruleOf 30 = .ok (.iinc 4 1, 3) := by decide +kernel
theorem dX8_ruleOf_33 : decode cX8_ruleOf 33 = .ok (.goto (-30), 3) := by decide +kernel
theorem dX8_ruleOf_36 : decode cX8_ruleOf 36 = .ok (.bipush (-6), 2) := by decide +kernel
theorem dX8_ruleOf_38 : decode cX8_ruleOf 38 = .ok (.ireturn, 1) := by decide +kernel
theorem dX8_doneBy_0 : decode cX8_doneBy 0 = .ok (.iload_n 1, 1) := by decide +kernel
theorem dX8_doneBy_1 : decode cX8_doneBy 1 = .ok (.ifCond .ge 7, 3) := by decide +kernel
theorem dX8_doneBy_4 : decode cX8_doneBy 4 = .ok (.iconst 0, 1) := by decide +kernel
theorem dX8_doneBy_5 : decode cX8_doneBy 5 = .ok (.goto 17, 3) := by decide +kernel
theorem dX8_doneBy_8 : decode cX8_doneBy 8 = .ok (.aload_n 0, 1) := by decide +kernel
theorem dX8_doneBy_9 : decode cX8_doneBy 9 = .ok (.getfield 7, 3) := by decide +kernel
theorem dX8_doneBy_12 : decode cX8_doneBy 12 = .ok (.bipush 12, 2) := by decide +kernel
theorem dX8_doneBy_14 : decode cX8_doneBy 14 = .ok (.bipush 6, 2) := by decide +kernel
theorem dX8_doneBy_16 : decode cX8_doneBy 16 = .ok (.iload_n 1, 1) := by decide +kernel
theorem dX8_doneBy_17 : decode cX8_doneBy 17 = .ok (.imul, 1) := by decide +kernel
theorem dX8_doneBy_18 : decode cX8_doneBy 18 = .ok (.iadd, 1) := by decide +kernel
theorem dX8_doneBy_19 : decode cX8_doneBy 19 = .ok (.iconst 4, 1) := by decide +kernel
theorem dX8_doneBy_20 : decode cX8_doneBy 20 = .ok (.iadd, 1) := by decide +kernel
theorem dX8_doneBy_21 : decode cX8_doneBy 21 = .ok (.iaload, 1) := by decide +kernel
theorem dX8_doneBy_22 : decode cX8_doneBy 22 = .ok (.ireturn, 1) := by decide +kernel
set_option maxRecDepth 20000 in
theorem ggX8_behind_X8_viewWay : GoodIn wsX8_behind wsX8_viewWay := goodIn_r _ [5, 6, 7, 8, 4, 9, 10, 11, 12, 13, 14, 15, 16, 17, 18, 19, 20, 21, 22, 23, 24, 25, 26, 27, 28, 29, 30, 31, 32, 33, 34, 35, 36, 37, 38, 39, 40, 41, 42, 43] (by decide +kernel) (by decide +kernel)
set_option maxRecDepth 20000 in
theorem gX8_behind_X8_viewWay : GoodIn wsX8_behind (wsV RX8 89 RX8 yX8_viewWay wsX8_viewWay) := goodIn_app (goodIn_of _ (by decide +kernel)) ggX8_behind_X8_viewWay
set_option maxRecDepth 20000 in
theorem ggX8_behind_X8_beside : GoodIn wsX8_behind wsX8_beside := goodIn_r _ [24, 25, 26, 27, 4, 28, 29, 30, 31, 32, 33, 34, 35, 36, 37, 38, 39, 40, 41, 42, 43] (by decide +kernel) (by decide +kernel)
set_option maxRecDepth 20000 in
theorem gX8_behind_X8_beside : GoodIn wsX8_behind (wsV RX8 60 RX8 yX8_beside wsX8_beside) := goodIn_app (goodIn_of _ (by decide +kernel)) ggX8_behind_X8_beside
theorem dX8_behind_0 : decode cX8_behind 0 = .ok (.aload_n 0, 1) := by decide +kernel
theorem dX8_behind_1 : decode cX8_behind 1 = .ok (.iload_n 1, 1) := by decide +kernel
theorem dX8_behind_2 : decode cX8_behind 2 = .ok (.iload_n 2, 1) := by decide +kernel
theorem dX8_behind_3 : decode cX8_behind 3 = .ok (.invokevirtual 89, 3) := by decide +kernel
theorem dX8_behind_6 : decode cX8_behind 6 = .ok (.istore 4, 2) := by decide +kernel
theorem dX8_behind_8 : decode cX8_behind 8 = .ok (.iload_n 3, 1) := by decide +kernel
theorem dX8_behind_9 : decode cX8_behind 9 = .ok (.ifCond .ne 7, 3) := by decide +kernel
theorem dX8_behind_12 : decode cX8_behind 12 = .ok (.iload_n 2, 1) := by decide +kernel
theorem dX8_behind_13 : decode cX8_behind 13 = .ok (.goto 21, 3) := by decide +kernel
theorem dX8_behind_16 : decode cX8_behind 16 = .ok (.aload_n 0, 1) := by decide +kernel
theorem dX8_behind_17 : decode cX8_behind 17 = .ok (.iload_n 2, 1) := by decide +kernel
theorem dX8_behind_18 : decode cX8_behind 18 = .ok (.iload_n 3, 1) := by decide +kernel
theorem dX8_behind_19 : decode cX8_behind 19 = .ok (.iconst 1, 1) := by decide +kernel
theorem dX8_behind_20 : decode cX8_behind 20 = .ok (.if_icmp .ne 8, 3) := by decide +kernel
theorem dX8_behind_23 : decode cX8_behind 23 = .ok (.iload 4, 2) := by decide +kernel
theorem dX8_behind_25 : decode cX8_behind 25 = .ok (.goto 6, 3) := by decide +kernel
theorem dX8_behind_28 : decode cX8_behind 28 = .ok (.iload 4, 2) := by decide +kernel
theorem dX8_behind_30 : decode cX8_behind 30 = .ok (.ineg, 1) := by decide +kernel
theorem dX8_behind_31 : decode cX8_behind 31 = .ok (.invokevirtual 60, 3) := by decide +kernel
theorem dX8_behind_34 : decode cX8_behind 34 = .ok (.ireturn, 1) := by decide +kernel
set_option maxRecDepth 20000 in
theorem ggX8_does_X8_isStand : GoodIn wsX8_does wsX8_isStand := goodIn_r _ [6, 1, 7, 8, 9, 5, 10, 11, 12, 13, 14, 15, 16, 17, 66, 67, 68, 69, 70, 71, 72, 73, 74, 75, 76, 77, 78, 79] (by decide +kernel) (by decide +kernel)
set_option maxRecDepth 20000 in
theorem gX8_does_X8_isStand : GoodIn wsX8_does (wsV RX8 80 RX8 yX8_isStand wsX8_isStand) := goodIn_app (goodIn_of _ (by decide +kernel)) ggX8_does_X8_isStand
set_option maxRecDepth 20000 in
theorem ggX8_does_X8_now : GoodIn wsX8_does wsX8_now := goodIn_r _ [21, 1, 22, 11, 12, 13, 5, 14, 66, 67, 68, 69, 70, 71, 72, 73, 74, 75, 76, 77, 78, 79] (by decide +kernel) (by decide +kernel)
set_option maxRecDepth 20000 in
theorem gX8_does_X8_now : GoodIn wsX8_does (wsV RX8 83 RX8 yX8_now wsX8_now) := goodIn_app (goodIn_of _ (by decide +kernel)) ggX8_does_X8_now
set_option maxRecDepth 20000 in
theorem ggX8_does_X8_standsOf : GoodIn wsX8_does wsX8_standsOf := goodIn_r _ [26, 22, 11, 12, 13, 5, 14, 1, 66, 67, 68, 69, 70, 71, 72, 73, 74, 75, 76, 77, 78, 79] (by decide +kernel) (by decide +kernel)
set_option maxRecDepth 20000 in
theorem gX8_does_X8_standsOf : GoodIn wsX8_does (wsV RX8 86 RX8 yX8_standsOf wsX8_standsOf) := goodIn_app (goodIn_of _ (by decide +kernel)) ggX8_does_X8_standsOf
set_option maxRecDepth 20000 in
theorem ggX8_does_X8_ruleOf : GoodIn wsX8_does wsX8_ruleOf := goodIn_r _ [30, 1, 31, 32, 33, 5, 34, 35, 36, 37, 38, 39, 40, 41, 42, 43, 44, 45, 46, 47, 48, 49, 50, 51, 52, 53, 54, 55, 56, 57, 11, 12, 13, 14, 66, 67, 68, 69, 70, 71, 72, 73, 74, 75, 76, 77, 78, 79] (by decide +kernel) (by decide +kernel)
set_option maxRecDepth 20000 in
theorem gX8_does_X8_ruleOf : GoodIn wsX8_does (wsV RX8 118 RX8 yX8_ruleOf wsX8_ruleOf) := goodIn_app (goodIn_of _ (by decide +kernel)) ggX8_does_X8_ruleOf
set_option maxRecDepth 20000 in
theorem ggX8_does_X8_viewWay : GoodIn wsX8_does wsX8_viewWay := goodIn_r _ [41, 42, 43, 44, 5, 45, 35, 36, 37, 46, 47, 48, 49, 50, 51, 52, 53, 54, 55, 56, 57, 11, 12, 13, 14, 1, 66, 67, 68, 69, 70, 71, 72, 73, 74, 75, 76, 77, 78, 79] (by decide +kernel) (by decide +kernel)
set_option maxRecDepth 20000 in
theorem gX8_does_X8_viewWay : GoodIn wsX8_does (wsV RX8 89 RX8 yX8_viewWay wsX8_viewWay) := goodIn_app (goodIn_of _ (by decide +kernel)) ggX8_does_X8_viewWay
set_option maxRecDepth 20000 in
theorem ggX8_does_X8_held : GoodIn wsX8_does wsX8_held := goodIn_r _ [45, 35, 36, 5, 37, 46, 47, 48, 49, 50, 51, 52, 53, 54, 55, 56, 57, 11, 12, 13, 14, 1, 66, 67, 68, 69, 70, 71, 72, 73, 74, 75, 76, 77, 78, 79] (by decide +kernel) (by decide +kernel)
set_option maxRecDepth 20000 in
theorem gX8_does_X8_held : GoodIn wsX8_does (wsV RX8 76 RX8 yX8_held wsX8_held) := goodIn_app (goodIn_of _ (by decide +kernel)) ggX8_does_X8_held
set_option maxRecDepth 20000 in
theorem ggX8_does_X8_doneBy : GoodIn wsX8_does wsX8_doneBy := goodIn_r _ [61, 1, 66, 67, 68, 69, 70, 71, 72, 73, 74, 75, 76, 77, 78, 79] (by decide +kernel) (by decide +kernel)
set_option maxRecDepth 20000 in
theorem gX8_does_X8_doneBy : GoodIn wsX8_does (wsV RX8 122 RX8 yX8_doneBy wsX8_doneBy) := goodIn_app (goodIn_of _ (by decide +kernel)) ggX8_does_X8_doneBy
set_option maxRecDepth 20000 in
theorem ggX8_does_X8_behind : GoodIn wsX8_does wsX8_behind := goodIn_r _ [65, 38, 39, 40, 5, 41, 42, 43, 44, 45, 35, 36, 37, 46, 47, 48, 49, 50, 51, 52, 53, 54, 55, 56, 57, 11, 12, 13, 14, 1, 66, 67, 68, 69, 70, 71, 72, 73, 74, 75, 76, 77, 78, 79] (by decide +kernel) (by decide +kernel)
set_option maxRecDepth 20000 in
theorem gX8_does_X8_behind : GoodIn wsX8_does (wsV RX8 125 RX8 yX8_behind wsX8_behind) := goodIn_app (goodIn_of _ (by decide +kernel)) ggX8_does_X8_behind
theorem dX8_does_0 : decode cX8_does 0 = .ok (.aload_n 0, 1) := by decide +kernel
theorem dX8_does_1 : decode cX8_does 1 = .ok (.iload_n 1, 1) := by decide +kernel
theorem dX8_does_2 : decode cX8_does 2 = .ok (.invokevirtual 80, 3) := by decide +kernel
theorem dX8_does_5 : decode cX8_does 5 = .ok (.ifCond .ne 5, 3) := by decide +kernel
theorem dX8_does_8 : decode cX8_does 8 = .ok (.iconst (-1), 1) := by decide +kernel
theorem dX8_does_9 : decode cX8_does 9 = .ok (.ireturn, 1) := by decide +kernel
theorem dX8_does_10 : decode cX8_does 10 = .ok (.aload_n 0, 1) := by decide +kernel
theorem dX8_does_11 : decode cX8_does 11 = .ok (.aload_n 0, 1) := by decide +kernel
theorem dX8_does_12 : decode cX8_does 12 = .ok (.invokevirtual 83, 3) := by decide +kernel
theorem dX8_does_15 : decode cX8_does 15 = .ok (.invokevirtual 86, 3) := by decide +kernel
theorem dX8_does_18 : decode cX8_does 18 = .ok (.istore_n 3, 1) := by decide +kernel
theorem dX8_does_19 : decode cX8_does 19 = .ok (.aload_n 0, 1) := by decide +kernel
theorem dX8_does_20 : decode cX8_does 20 = .ok (.iload_n 3, 1) := by decide +kernel
theorem dX8_does_21 : decode cX8_does 21 = .ok (.iload_n 1, 1) := by decide +kernel
theorem dX8_does_22 : decode cX8_does 22 = .ok (.aload_n 0, 1) := by decide +kernel
theorem dX8_does_23 : decode cX8_does 23 = .ok (.getfield 7, 3) := by decide +kernel
theorem dX8_does_26 : decode cX8_does 26 = .ok (.iconst 1, 1) := by decide +kernel
theorem dX8_does_27 : decode cX8_does 27 = .ok (.iload_n 1, 1) := by decide +kernel
theorem dX8_does_28 : decode cX8_does 28 = .ok (.iadd, 1) := by decide +kernel
theorem dX8_does_29 : decode cX8_does 29 = .ok (.iaload, 1) := by decide +kernel
theorem dX8_does_30 : decode cX8_does 30 = .ok (.iconst 1, 1) := by decide +kernel
theorem dX8_does_31 : decode cX8_does 31 = .ok (.if_icmp .le 7, 3) := by decide +kernel
theorem dX8_does_34 : decode cX8_does 34 = .ok (.iconst 1, 1) := by decide +kernel
theorem dX8_does_35 : decode cX8_does 35 = .ok (.goto 4, 3) := by decide +kernel
theorem dX8_does_38 : decode cX8_does 38 = .ok (.iconst 0, 1) := by decide +kernel
theorem dX8_does_39 : decode cX8_does 39 = .ok (.invokevirtual 118, 3) := by decide +kernel
theorem dX8_does_42 : decode cX8_does 42 = .ok (.istore 4, 2) := by decide +kernel
theorem dX8_does_44 : decode cX8_does 44 = .ok (.iload_n 2, 1) := by decide +kernel
theorem dX8_does_45 : decode cX8_does 45 = .ok (.tableswitch 92 0 4 #[35, 51, 69, 72, 79], 35) := by decide +kernel
theorem dX8_does_80 : decode cX8_does 80 = .ok (.aload_n 0, 1) := by decide +kernel
theorem dX8_does_81 : decode cX8_does 81 = .ok (.iload_n 3, 1) := by decide +kernel
theorem dX8_does_82 : decode cX8_does 82 = .ok (.iload_n 1, 1) := by decide +kernel
theorem dX8_does_83 : decode cX8_does 83 = .ok (.invokevirtual 89, 3) := by decide +kernel
theorem dX8_does_86 : decode cX8_does 86 = .ok (.iconst 1, 1) := by decide +kernel
theorem dX8_does_87 : decode cX8_does 87 = .ok (.if_icmp .ne 7, 3) := by decide +kernel
theorem dX8_does_90 : decode cX8_does 90 = .ok (.iconst 1, 1) := by decide +kernel
theorem dX8_does_91 : decode cX8_does 91 = .ok (.goto 4, 3) := by decide +kernel
theorem dX8_does_94 : decode cX8_does 94 = .ok (.iconst 0, 1) := by decide +kernel
theorem dX8_does_95 : decode cX8_does 95 = .ok (.ireturn, 1) := by decide +kernel
theorem dX8_does_96 : decode cX8_does 96 = .ok (.aload_n 0, 1) := by decide +kernel
theorem dX8_does_97 : decode cX8_does 97 = .ok (.iload_n 3, 1) := by decide +kernel
theorem dX8_does_98 : decode cX8_does 98 = .ok (.iload_n 1, 1) := by decide +kernel
theorem dX8_does_99 : decode cX8_does 99 = .ok (.iconst 1, 1) := by decide +kernel
theorem dX8_does_100 : decode cX8_does 100 = .ok (.iload_n 1, 1) := by decide +kernel
theorem dX8_does_101 : decode cX8_does 101 = .ok (.iconst (-1), 1) := by decide +kernel
theorem dX8_does_102 : decode cX8_does 102 = .ok (.invokevirtual 76, 3) := by decide +kernel
theorem dX8_does_105 : decode cX8_does 105 = .ok (.ifCond .ne 7, 3) := by decide +kernel
theorem dX8_does_108 : decode cX8_does 108 = .ok (.iconst 1, 1) := by decide +kernel
theorem dX8_does_109 : decode cX8_does 109 = .ok (.goto 4, 3) := by decide +kernel
theorem dX8_does_112 : decode cX8_does 112 = .ok (.iconst 0, 1) := by decide +kernel
theorem dX8_does_113 : decode cX8_does 113 = .ok (.ireturn, 1) := by decide +kernel
theorem dX8_does_114 : decode cX8_does 114 = .ok (.iload 4, 2) := by decide +kernel
theorem dX8_does_116 : decode cX8_does 116 = .ok (.ireturn, 1) := by decide +kernel
theorem dX8_does_117 : decode cX8_does 117 = .ok (.aload_n 0, 1) := by decide +kernel
theorem dX8_does_118 : decode cX8_does 118 = .ok (.iload 4, 2) := by decide +kernel
theorem dX8_does_120 : decode cX8_does 120 = .ok (.invokevirtual 122, 3) := by decide +kernel
theorem dX8_does_123 : decode cX8_does 123 = .ok (.ireturn, 1) := by decide +kernel
theorem dX8_does_124 : decode cX8_does 124 = .ok (.aload_n 0, 1) := by decide +kernel
theorem dX8_does_125 : decode cX8_does 125 = .ok (.iload_n 3, 1) := by decide +kernel
theorem dX8_does_126 : decode cX8_does 126 = .ok (.iload_n 1, 1) := by decide +kernel
theorem dX8_does_127 : decode cX8_does 127 = .ok (.aload_n 0, 1) := by decide +kernel
theorem dX8_does_128 : decode cX8_does 128 = .ok (.iload 4, 2) := by decide +kernel
theorem dX8_does_130 : decode cX8_does 130 = .ok (.invokevirtual 122, 3) := by decide +kernel
theorem dX8_does_133 : decode cX8_does 133 = .ok (.invokevirtual 125, 3) := by decide +kernel
theorem dX8_does_136 : decode cX8_does 136 = .ok (.ireturn, 1) := by decide +kernel
theorem dX8_does_137 : decode cX8_does 137 = .ok (.bipush (-2), 2) := by decide +kernel
theorem dX8_does_139 : decode cX8_does 139 = .ok (.ireturn, 1) := by decide +kernel
set_option maxRecDepth 20000 in
theorem ggX8_step_X8_now : GoodIn wsX8_step wsX8_now := goodIn_r _ [7, 2, 8, 9, 10, 11, 6, 12, 59, 60, 61, 62, 63, 64, 65, 66, 67, 68, 69, 70, 71, 72] (by decide +kernel) (by decide +kernel)
set_option maxRecDepth 20000 in
theorem gX8_step_X8_now : GoodIn wsX8_step (wsV RX8 83 RX8 yX8_now wsX8_now) := goodIn_app (goodIn_of _ (by decide +kernel)) ggX8_step_X8_now
set_option maxRecDepth 20000 in
theorem ggX8_step_X8_standsOf : GoodIn wsX8_step wsX8_standsOf := goodIn_r _ [16, 8, 9, 10, 11, 6, 12, 2, 59, 60, 61, 62, 63, 64, 65, 66, 67, 68, 69, 70, 71, 72] (by decide +kernel) (by decide +kernel)
set_option maxRecDepth 20000 in
theorem gX8_step_X8_standsOf : GoodIn wsX8_step (wsV RX8 86 RX8 yX8_standsOf wsX8_standsOf) := goodIn_app (goodIn_of _ (by decide +kernel)) ggX8_step_X8_standsOf
set_option maxRecDepth 20000 in
theorem ggX8_step_X8_cells : GoodIn wsX8_step wsX8_cells := goodIn_r _ [12, 2, 59, 60, 61, 62, 63, 64, 65, 66, 67, 68, 69, 70, 71, 72] (by decide +kernel) (by decide +kernel)
set_option maxRecDepth 20000 in
theorem gX8_step_X8_cells : GoodIn wsX8_step (wsV RX8 45 RX8 yX8_cells wsX8_cells) := goodIn_app (goodIn_of _ (by decide +kernel)) ggX8_step_X8_cells
set_option maxRecDepth 20000 in
theorem ggX8_step_X8_has : GoodIn wsX8_step wsX8_has := goodIn_r _ [19] (by decide +kernel) (by decide +kernel)
set_option maxRecDepth 20000 in
theorem gX8_step_X8_has : GoodIn wsX8_step (va_wsS RX8 92 yX8_has wsX8_has) := goodIn_app (goodIn_of _ (by decide +kernel)) ggX8_step_X8_has
set_option maxRecDepth 20000 in
theorem ggX8_step_X8_ruleOf : GoodIn wsX8_step wsX8_ruleOf := goodIn_r _ [23, 2, 24, 25, 26, 6, 27, 28, 29, 30, 31, 32, 33, 34, 35, 36, 37, 38, 39, 40, 41, 42, 43, 44, 45, 46, 47, 48, 49, 50, 9, 10, 11, 12, 59, 60, 61, 62, 63, 64, 65, 66, 67, 68, 69, 70, 71, 72] (by decide +kernel) (by decide +kernel)
set_option maxRecDepth 20000 in
theorem gX8_step_X8_ruleOf : GoodIn wsX8_step (wsV RX8 118 RX8 yX8_ruleOf wsX8_ruleOf) := goodIn_app (goodIn_of _ (by decide +kernel)) ggX8_step_X8_ruleOf
set_option maxRecDepth 20000 in
theorem ggX8_step_X8_doneBy : GoodIn wsX8_step wsX8_doneBy := goodIn_r _ [54, 2, 59, 60, 61, 62, 63, 64, 65, 66, 67, 68, 69, 70, 71, 72] (by decide +kernel) (by decide +kernel)
set_option maxRecDepth 20000 in
theorem gX8_step_X8_doneBy : GoodIn wsX8_step (wsV RX8 122 RX8 yX8_doneBy wsX8_doneBy) := goodIn_app (goodIn_of _ (by decide +kernel)) ggX8_step_X8_doneBy
set_option maxRecDepth 20000 in
theorem ggX8_step_X8_behind : GoodIn wsX8_step wsX8_behind := goodIn_r _ [58, 31, 32, 33, 6, 34, 35, 36, 37, 38, 28, 29, 30, 39, 40, 41, 42, 43, 44, 45, 46, 47, 48, 49, 50, 9, 10, 11, 12, 2, 59, 60, 61, 62, 63, 64, 65, 66, 67, 68, 69, 70, 71, 72] (by decide +kernel) (by decide +kernel)
set_option maxRecDepth 20000 in
theorem gX8_step_X8_behind : GoodIn wsX8_step (wsV RX8 125 RX8 yX8_behind wsX8_behind) := goodIn_app (goodIn_of _ (by decide +kernel)) ggX8_step_X8_behind
set_option maxRecDepth 20000 in
theorem ggX8_step_X8_size : GoodIn wsX8_step wsX8_size := goodIn_r _ [30] (by decide +kernel) (by decide +kernel)
set_option maxRecDepth 20000 in
theorem gX8_step_X8_size : GoodIn wsX8_step (va_wsS RX8 68 yX8_size wsX8_size) := goodIn_app (goodIn_of _ (by decide +kernel)) ggX8_step_X8_size
theorem dX8_step_0 : decode cX8_step 0 = .ok (.aload_n 0, 1) := by decide +kernel
theorem dX8_step_1 : decode cX8_step 1 = .ok (.aload_n 0, 1) := by decide +kernel
theorem dX8_step_2 : decode cX8_step 2 = .ok (.invokevirtual 83, 3) := by decide +kernel
theorem dX8_step_5 : decode cX8_step 5 = .ok (.invokevirtual 86, 3) := by decide +kernel
theorem dX8_step_8 : decode cX8_step 8 = .ok (.istore_n 2, 1) := by decide +kernel
theorem dX8_step_9 : decode cX8_step 9 = .ok (.iload_n 1, 1) := by decide +kernel
theorem dX8_step_10 : decode cX8_step 10 = .ok (.ifCond .lt 11, 3) := by decide +kernel
theorem dX8_step_13 : decode cX8_step 13 = .ok (.iload_n 1, 1) := by decide +kernel
theorem dX8_step_14 : decode cX8_step 14 = .ok (.iload_n 2, 1) := by decide +kernel
theorem dX8_step_15 : decode cX8_step 15 = .ok (.iconst (-1), 1) := by decide +kernel
theorem dX8_step_16 : decode cX8_step 16 = .ok (.ixor, 1) := by decide +kernel
theorem dX8_step_17 : decode cX8_step 17 = .ok (.iand, 1) := by decide +kernel
theorem dX8_step_18 : decode cX8_step 18 = .ok (.ifCond .eq 6, 3) := by decide +kernel
theorem dX8_step_21 : decode cX8_step 21 = .ok (.bipush (-2), 2) := by decide +kernel
theorem dX8_step_23 : decode cX8_step 23 = .ok (.ireturn, 1) := by decide +kernel
theorem dX8_step_24 : decode cX8_step 24 = .ok (.iconst 0, 1) := by decide +kernel
theorem dX8_step_25 : decode cX8_step 25 = .ok (.istore_n 3, 1) := by decide +kernel
theorem dX8_step_26 : decode cX8_step 26 = .ok (.iload_n 3, 1) := by decide +kernel
theorem dX8_step_27 : decode cX8_step 27 = .ok (.bipush 10, 2) := by decide +kernel
theorem dX8_step_29 : decode cX8_step 29 = .ok (.if_icmp .ge 16, 3) := by decide +kernel
theorem dX8_step_32 : decode cX8_step 32 = .ok (.aload_n 0, 1) := by decide +kernel
theorem dX8_step_33 : decode cX8_step 33 = .ok (.getfield 23, 3) := by decide +kernel
theorem dX8_step_36 : decode cX8_step 36 = .ok (.iload_n 3, 1) := by decide +kernel
theorem dX8_step_37 : decode cX8_step 37 = .ok (.iconst 0, 1) := by decide +kernel
theorem dX8_step_38 : decode cX8_step 38 = .ok (.iastore, 1) := by decide +kernel
theorem dX8_step_39 : decode cX8_step 39 = .ok (.iinc 3 1, 3) := by decide +kernel
theorem dX8_step_42 : decode cX8_step 42 = .ok (.goto (-16), 3) := by decide +kernel
theorem dX8_step_45 : decode cX8_step 45 = .ok (.iconst 0, 1) := by decide +kernel
theorem dX8_step_46 : decode cX8_step 46 = .ok (.istore_n 3, 1) := by decide +kernel
theorem dX8_step_47 : decode cX8_step 47 = .ok (.iload_n 3, 1) := by decide +kernel
theorem dX8_step_48 : decode cX8_step 48 = .ok (.aload_n 0, 1) := by decide +kernel
theorem dX8_step_49 : decode cX8_step 49 = .ok (.invokevirtual 45, 3) := by decide +kernel
theorem dX8_step_52 : decode cX8_step 52 = .ok (.if_icmp .ge 82, 3) := by decide +kernel
theorem dX8_step_55 : decode cX8_step 55 = .ok (.iload_n 2, 1) := by decide +kernel
theorem dX8_step_56 : decode cX8_step 56 = .ok (.iload_n 3, 1) := by decide +kernel
theorem dX8_step_57 : decode cX8_step 57 = .ok (.invokestatic 92, 3) := by decide +kernel
theorem dX8_step_60 : decode cX8_step 60 = .ok (.ifCond .eq 68, 3) := by decide +kernel
theorem dX8_step_63 : decode cX8_step 63 = .ok (.iload_n 1, 1) := by decide +kernel
theorem dX8_step_64 : decode cX8_step 64 = .ok (.iload_n 3, 1) := by decide +kernel
theorem dX8_step_65 : decode cX8_step 65 = .ok (.invokestatic 92, 3) := by decide +kernel
theorem dX8_step_68 : decode cX8_step 68 = .ok (.ifCond .eq 33, 3) := by decide +kernel
theorem dX8_step_71 : decode cX8_step 71 = .ok (.aload_n 0, 1) := by decide +kernel
theorem dX8_step_72 : decode cX8_step 72 = .ok (.aload_n 0, 1) := by decide +kernel
theorem dX8_step_73 : decode cX8_step 73 = .ok (.iload_n 2, 1) := by decide +kernel
theorem dX8_step_74 : decode cX8_step 74 = .ok (.iload_n 3, 1) := by decide +kernel
theorem dX8_step_75 : decode cX8_step 75 = .ok (.aload_n 0, 1) := by decide +kernel
theorem dX8_step_76 : decode cX8_step 76 = .ok (.getfield 7, 3) := by decide +kernel
theorem dX8_step_79 : decode cX8_step 79 = .ok (.iconst 1, 1) := by decide +kernel
theorem dX8_step_80 : decode cX8_step 80 = .ok (.iload_n 3, 1) := by decide +kernel
theorem dX8_step_81 : decode cX8_step 81 = .ok (.iadd, 1) := by decide +kernel
theorem dX8_step_82 : decode cX8_step 82 = .ok (.iaload, 1) := by decide +kernel
theorem dX8_step_83 : decode cX8_step 83 = .ok (.iconst 1, 1) := by decide +kernel
theorem dX8_step_84 : decode cX8_step 84 = .ok (.if_icmp .le 7, 3) := by decide +kernel
theorem dX8_step_87 : decode cX8_step 87 = .ok (.iconst 1, 1) := by decide +kernel
theorem dX8_step_88 : decode cX8_step 88 = .ok (.goto 4, 3) := by decide +kernel
theorem dX8_step_91 : decode cX8_step 91 = .ok (.iconst 0, 1) := by decide +kernel
theorem dX8_step_92 : decode cX8_step 92 = .ok (.invokevirtual 118, 3) := by decide +kernel
theorem dX8_step_95 : decode cX8_step 95 = .ok (.invokevirtual 122, 3) := by decide +kernel
theorem dX8_step_98 : decode cX8_step 98 = .ok (.goto 4, 3) := by decide +kernel
theorem dX8_step_101 : decode cX8_step 101 = .ok (.iconst 0, 1) := by decide +kernel
theorem dX8_step_102 : decode cX8_step 102 = .ok (.istore 4, 2) := by decide +kernel
theorem dX8_step_104 : decode cX8_step 104 = .ok (.aload_n 0, 1) := by decide +kernel
theorem dX8_step_105 : decode cX8_step 105 = .ok (.getfield 23, 3) := by decide +kernel
theorem dX8_step_108 : decode cX8_step 108 = .ok (.aload_n 0, 1) := by decide +kernel
theorem dX8_step_109 : decode cX8_step 109 = .ok (.iload_n 2, 1) := by decide +kernel
theorem dX8_step_110 : decode cX8_step 110 = .ok (.iload_n 3, 1) := by decide +kernel
theorem dX8_step_111 : decode cX8_step 111 = .ok (.iload 4, 2) := by decide +kernel
theorem dX8_step_113 : decode cX8_step 113 = .ok (.invokevirtual 125, 3) := by decide +kernel
theorem dX8_step_116 : decode cX8_step 116 = .ok (.dup2, 1) := by decide +kernel
theorem dX8_step_117 : decode cX8_step 117 = .ok (.iaload, 1) := by decide +kernel
theorem dX8_step_118 : decode cX8_step 118 = .ok (.aload_n 0, 1) := by decide +kernel
theorem dX8_step_119 : decode cX8_step 119 = .ok (.getfield 7, 3) := by decide +kernel
theorem dX8_step_122 : decode cX8_step 122 = .ok (.iconst 1, 1) := by decide +kernel
theorem dX8_step_123 : decode cX8_step 123 = .ok (.iload_n 3, 1) := by decide +kernel
theorem dX8_step_124 : decode cX8_step 124 = .ok (.iadd, 1) := by decide +kernel
theorem dX8_step_125 : decode cX8_step 125 = .ok (.iaload, 1) := by decide +kernel
theorem dX8_step_126 : decode cX8_step 126 = .ok (.iadd, 1) := by decide +kernel
theorem dX8_step_127 : decode cX8_step 127 = .ok (.iastore, 1) := by decide +kernel
theorem dX8_step_128 : decode cX8_step 128 = .ok (.iinc 3 1, 3) := by decide +kernel
theorem dX8_step_131 : decode cX8_step 131 = .ok (.goto (-84), 3) := by decide +kernel
theorem dX8_step_134 : decode cX8_step 134 = .ok (.iconst 0, 1) := by decide +kernel
theorem dX8_step_135 : decode cX8_step 135 = .ok (.istore_n 3, 1) := by decide +kernel
theorem dX8_step_136 : decode cX8_step 136 = .ok (.iload_n 3, 1) := by decide +kernel
theorem dX8_step_137 : decode cX8_step 137 = .ok (.bipush 10, 2) := by decide +kernel
theorem dX8_step_139 : decode cX8_step 139 = .ok (.if_icmp .ge 23, 3) := by decide +kernel
theorem dX8_step_142 : decode cX8_step 142 = .ok (.aload_n 0, 1) := by decide +kernel
theorem dX8_step_143 : decode cX8_step 143 = .ok (.getfield 7, 3) := by decide +kernel
theorem dX8_step_146 : decode cX8_step 146 = .ok (.iconst 1, 1) := by decide +kernel
theorem dX8_step_147 : decode cX8_step 147 = .ok (.iload_n 3, 1) := by decide +kernel
theorem dX8_step_148 : decode cX8_step 148 = .ok (.iadd, 1) := by decide +kernel
theorem dX8_step_149 : decode cX8_step 149 = .ok (.aload_n 0, 1) := by decide +kernel
theorem dX8_step_150 : decode cX8_step 150 = .ok (.getfield 23, 3) := by decide +kernel
theorem dX8_step_153 : decode cX8_step 153 = .ok (.iload_n 3, 1) := by decide +kernel
theorem dX8_step_154 : decode cX8_step 154 = .ok (.iaload, 1) := by decide +kernel
theorem dX8_step_155 : decode cX8_step 155 = .ok (.iastore, 1) := by decide +kernel
theorem dX8_step_156 : decode cX8_step 156 = .ok (.iinc 3 1, 3) := by decide +kernel
theorem dX8_step_159 : decode cX8_step 159 = .ok (.goto (-23), 3) := by decide +kernel
theorem dX8_step_162 : decode cX8_step 162 = .ok (.aload_n 0, 1) := by decide +kernel
theorem dX8_step_163 : decode cX8_step 163 = .ok (.aload_n 0, 1) := by decide +kernel
theorem dX8_step_164 : decode cX8_step 164 = .ok (.invokevirtual 83, 3) := by decide +kernel
theorem dX8_step_167 : decode cX8_step 167 = .ok (.invokevirtual 86, 3) := by decide +kernel
theorem dX8_step_170 : decode cX8_step 170 = .ok (.invokestatic 68, 3) := by decide +kernel
theorem dX8_step_173 : decode cX8_step 173 = .ok (.ireturn, 1) := by decide +kernel
set_option maxRecDepth 20000 in
theorem ggX8_note_X8_standsOf : GoodIn wsX8_note wsX8_standsOf := goodIn_r _ [12, 5, 13, 14, 15, 11, 16, 17, 60, 61, 62, 63, 64, 65, 66, 67, 68, 69, 70, 71, 72, 73] (by decide +kernel) (by decide +kernel)
set_option maxRecDepth 20000 in
theorem gX8_note_X8_standsOf : GoodIn wsX8_note (wsV RX8 86 RX8 yX8_standsOf wsX8_standsOf) := goodIn_app (goodIn_of _ (by decide +kernel)) ggX8_note_X8_standsOf
set_option maxRecDepth 20000 in
theorem ggX8_note_X8_cells : GoodIn wsX8_note wsX8_cells := goodIn_r _ [16, 17, 60, 61, 62, 63, 64, 65, 66, 67, 68, 69, 70, 71, 72, 73] (by decide +kernel) (by decide +kernel)
set_option maxRecDepth 20000 in
theorem gX8_note_X8_cells : GoodIn wsX8_note (wsV RX8 45 RX8 yX8_cells wsX8_cells) := goodIn_app (goodIn_of _ (by decide +kernel)) ggX8_note_X8_cells
set_option maxRecDepth 20000 in
theorem ggX8_note_X8_has : GoodIn wsX8_note wsX8_has := goodIn_r _ [20] (by decide +kernel) (by decide +kernel)
set_option maxRecDepth 20000 in
theorem gX8_note_X8_has : GoodIn wsX8_note (va_wsS RX8 92 yX8_has wsX8_has) := goodIn_app (goodIn_of _ (by decide +kernel)) ggX8_note_X8_has
set_option maxRecDepth 20000 in
theorem ggX8_note_X8_ruleOf : GoodIn wsX8_note wsX8_ruleOf := goodIn_r _ [24, 17, 25, 26, 27, 11, 28, 29, 30, 31, 32, 33, 34, 35, 36, 37, 38, 39, 40, 41, 42, 43, 44, 45, 46, 47, 48, 49, 50, 51, 13, 14, 15, 16, 60, 61, 62, 63, 64, 65, 66, 67, 68, 69, 70, 71, 72, 73] (by decide +kernel) (by decide +kernel)
set_option maxRecDepth 20000 in
theorem gX8_note_X8_ruleOf : GoodIn wsX8_note (wsV RX8 118 RX8 yX8_ruleOf wsX8_ruleOf) := goodIn_app (goodIn_of _ (by decide +kernel)) ggX8_note_X8_ruleOf
set_option maxRecDepth 20000 in
theorem ggX8_note_X8_doneBy : GoodIn wsX8_note wsX8_doneBy := goodIn_r _ [55, 17, 60, 61, 62, 63, 64, 65, 66, 67, 68, 69, 70, 71, 72, 73] (by decide +kernel) (by decide +kernel)
set_option maxRecDepth 20000 in
theorem gX8_note_X8_doneBy : GoodIn wsX8_note (wsV RX8 122 RX8 yX8_doneBy wsX8_doneBy) := goodIn_app (goodIn_of _ (by decide +kernel)) ggX8_note_X8_doneBy
set_option maxRecDepth 20000 in
theorem ggX8_note_X8_behind : GoodIn wsX8_note wsX8_behind := goodIn_r _ [59, 32, 33, 34, 11, 35, 36, 37, 38, 39, 29, 30, 31, 40, 41, 42, 43, 44, 45, 46, 47, 48, 49, 50, 51, 13, 14, 15, 16, 17, 60, 61, 62, 63, 64, 65, 66, 67, 68, 69, 70, 71, 72, 73] (by decide +kernel) (by decide +kernel)
set_option maxRecDepth 20000 in
theorem gX8_note_X8_behind : GoodIn wsX8_note (wsV RX8 125 RX8 yX8_behind wsX8_behind) := goodIn_app (goodIn_of _ (by decide +kernel)) ggX8_note_X8_behind
set_option maxRecDepth 20000 in
theorem ggX8_note_X8_beside : GoodIn wsX8_note wsX8_beside := goodIn_r _ [51, 13, 14, 15, 11, 16, 17, 60, 61, 62, 63, 64, 65, 66, 67, 68, 69, 70, 71, 72, 73] (by decide +kernel) (by decide +kernel)
set_option maxRecDepth 20000 in
theorem gX8_note_X8_beside : GoodIn wsX8_note (wsV RX8 60 RX8 yX8_beside wsX8_beside) := goodIn_app (goodIn_of _ (by decide +kernel)) ggX8_note_X8_beside
set_option maxRecDepth 20000 in
theorem ggX8_note_X8_size : GoodIn wsX8_note wsX8_size := goodIn_r _ [31] (by decide +kernel) (by decide +kernel)
set_option maxRecDepth 20000 in
theorem gX8_note_X8_size : GoodIn wsX8_note (va_wsS RX8 68 yX8_size wsX8_size) := goodIn_app (goodIn_of _ (by decide +kernel)) ggX8_note_X8_size
theorem dX8_note_0 : decode cX8_note 0 = .ok (.aload_n 0, 1) := by decide +kernel
theorem dX8_note_1 : decode cX8_note 1 = .ok (.getfield 30, 3) := by decide +kernel
theorem dX8_note_4 : decode cX8_note 4 = .ok (.iload_n 1, 1) := by decide +kernel
theorem dX8_note_5 : decode cX8_note 5 = .ok (.baload, 1) := by decide +kernel
theorem dX8_note_6 : decode cX8_note 6 = .ok (.ifCond .eq 4, 3) := by decide +kernel
theorem dX8_note_9 : decode cX8_note 9 = .ok (.return_, 1) := by decide +kernel
theorem dX8_note_10 : decode cX8_note 10 = .ok (.aload_n 0, 1) := by decide +kernel
theorem dX8_note_11 : decode cX8_note 11 = .ok (.getfield 30, 3) := by decide +kernel
theorem dX8_note_14 : decode cX8_note 14 = .ok (.iload_n 1, 1) := by decide +kernel
theorem dX8_note_15 : decode cX8_note 15 = .ok (.iconst 1, 1) := by decide +kernel
theorem dX8_note_16 : decode cX8_note 16 = .ok (.bastore, 1) := by decide +kernel
theorem dX8_note_17 : decode cX8_note 17 = .ok (.aload_n 0, 1) := by decide +kernel
theorem dX8_note_18 : decode cX8_note 18 = .ok (.getfield 27, 3) := by decide +kernel
theorem dX8_note_21 : decode cX8_note 21 = .ok (.aload_n 0, 1) := by decide +kernel
theorem dX8_note_22 : decode cX8_note 22 = .ok (.getfield 128, 3) := by decide +kernel
theorem dX8_note_25 : decode cX8_note 25 = .ok (.iload_n 1, 1) := by decide +kernel
theorem dX8_note_26 : decode cX8_note 26 = .ok (.iastore, 1) := by decide +kernel
theorem dX8_note_27 : decode cX8_note 27 = .ok (.aload_n 0, 1) := by decide +kernel
theorem dX8_note_28 : decode cX8_note 28 = .ok (.dup, 1) := by decide +kernel
theorem dX8_note_29 : decode cX8_note 29 = .ok (.getfield 128, 3) := by decide +kernel
theorem dX8_note_32 : decode cX8_note 32 = .ok (.iconst 1, 1) := by decide +kernel
theorem dX8_note_33 : decode cX8_note 33 = .ok (.iadd, 1) := by decide +kernel
theorem dX8_note_34 : decode cX8_note 34 = .ok (.putfield 128, 3) := by decide +kernel
theorem dX8_note_37 : decode cX8_note 37 = .ok (.aload_n 0, 1) := by decide +kernel
theorem dX8_note_38 : decode cX8_note 38 = .ok (.iload_n 1, 1) := by decide +kernel
theorem dX8_note_39 : decode cX8_note 39 = .ok (.invokevirtual 86, 3) := by decide +kernel
theorem dX8_note_42 : decode cX8_note 42 = .ok (.istore_n 2, 1) := by decide +kernel
theorem dX8_note_43 : decode cX8_note 43 = .ok (.iconst 0, 1) := by decide +kernel
theorem dX8_note_44 : decode cX8_note 44 = .ok (.istore_n 3, 1) := by decide +kernel
theorem dX8_note_45 : decode cX8_note 45 = .ok (.iconst 0, 1) := by decide +kernel
theorem dX8_note_46 : decode cX8_note 46 = .ok (.istore 4, 2) := by decide +kernel
theorem dX8_note_48 : decode cX8_note 48 = .ok (.iload 4, 2) := by decide +kernel
theorem dX8_note_50 : decode cX8_note 50 = .ok (.aload_n 0, 1) := by decide +kernel
theorem dX8_note_51 : decode cX8_note 51 = .ok (.invokevirtual 45, 3) := by decide +kernel
theorem dX8_note_54 : decode cX8_note 54 = .ok (.if_icmp .ge 138, 3) := by decide +kernel
theorem dX8_note_57 : decode cX8_note 57 = .ok (.iload_n 2, 1) := by decide +kernel
theorem dX8_note_58 : decode cX8_note 58 = .ok (.iload 4, 2) := by decide +kernel
theorem dX8_note_60 : decode cX8_note 60 = .ok (.invokestatic 92, 3) := by decide +kernel
theorem dX8_note_63 : decode cX8_note 63 = .ok (.ifCond .eq 123, 3) := by decide +kernel
theorem dX8_note_66 : decode cX8_note 66 = .ok (.aload_n 0, 1) := by decide +kernel
theorem dX8_note_67 : decode cX8_note 67 = .ok (.iload_n 2, 1) := by decide +kernel
theorem dX8_note_68 : decode cX8_note 68 = .ok (.iload 4, 2) := by decide +kernel
theorem dX8_note_70 : decode cX8_note 70 = .ok (.aload_n 0, 1) := by decide +kernel
theorem dX8_note_71 : decode cX8_note 71 = .ok (.getfield 132, 3) := by decide +kernel
theorem dX8_note_74 : decode cX8_note 74 = .ok (.ifCond .ne 22, 3) := by decide +kernel
theorem dX8_note_77 : decode cX8_note 77 = .ok (.iload_n 1, 1) := by decide +kernel
theorem dX8_note_78 : decode cX8_note 78 = .ok (.aload_n 0, 1) := by decide +kernel
theorem dX8_note_79 : decode cX8_note 79 = .ok (.getfield 20, 3) := by decide +kernel
theorem dX8_note_82 : decode cX8_note 82 = .ok (.iload 4, 2) := by decide +kernel
theorem dX8_note_84 : decode cX8_note 84 = .ok (.iaload, 1) := by decide +kernel
theorem dX8_note_85 : decode cX8_note 85 = .ok (.idiv, 1) := by decide +kernel
theorem dX8_note_86 : decode cX8_note 86 = .ok (.iconst 3, 1) := by decide +kernel
theorem dX8_note_87 : decode cX8_note 87 = .ok (.irem, 1) := by decide +kernel
theorem dX8_note_88 : decode cX8_note 88 = .ok (.iconst 2, 1) := by decide +kernel
theorem dX8_note_89 : decode cX8_note 89 = .ok (.if_icmp .ne 7, 3) := by decide +kernel
theorem dX8_note_92 : decode cX8_note 92 = .ok (.iconst 1, 1) := by decide +kernel
theorem dX8_note_93 : decode cX8_note 93 = .ok (.goto 4, 3) := by decide +kernel
theorem dX8_note_96 : decode cX8_note 96 = .ok (.iconst 0, 1) := by decide +kernel
theorem dX8_note_97 : decode cX8_note 97 = .ok (.invokevirtual 118, 3) := by decide +kernel
theorem dX8_note_100 : decode cX8_note 100 = .ok (.istore 5, 2) := by decide +kernel
theorem dX8_note_102 : decode cX8_note 102 = .ok (.aload_n 0, 1) := by decide +kernel
theorem dX8_note_103 : decode cX8_note 103 = .ok (.iload_n 2, 1) := by decide +kernel
theorem dX8_note_104 : decode cX8_note 104 = .ok (.iload 4, 2) := by decide +kernel
theorem dX8_note_106 : decode cX8_note 106 = .ok (.aload_n 0, 1) := by decide +kernel
theorem dX8_note_107 : decode cX8_note 107 = .ok (.iload 5, 2) := by decide +kernel
theorem dX8_note_109 : decode cX8_note 109 = .ok (.invokevirtual 122, 3) := by decide +kernel
theorem dX8_note_112 : decode cX8_note 112 = .ok (.invokevirtual 125, 3) := by decide +kernel
theorem dX8_note_115 : decode cX8_note 115 = .ok (.istore 6, 2) := by decide +kernel
theorem dX8_note_117 : decode cX8_note 117 = .ok (.iload_n 3, 1) := by decide +kernel
theorem dX8_note_118 : decode cX8_note 118 = .ok (.aload_n 0, 1) := by decide +kernel
theorem dX8_note_119 : decode cX8_note 119 = .ok (.getfield 20, 3) := by decide +kernel
theorem dX8_note_122 : decode cX8_note 122 = .ok (.iload 4, 2) := by decide +kernel
theorem dX8_note_124 : decode cX8_note 124 = .ok (.iaload, 1) := by decide +kernel
theorem dX8_note_125 : decode cX8_note 125 = .ok (.iload 6, 2) := by decide +kernel
theorem dX8_note_127 : decode cX8_note 127 = .ok (.iload 4, 2) := by decide +kernel
theorem dX8_note_129 : decode cX8_note 129 = .ok (.if_icmp .ne 7, 3) := by decide +kernel
theorem dX8_note_132 : decode cX8_note 132 = .ok (.iconst 0, 1) := by decide +kernel
theorem dX8_note_133 : decode cX8_note 133 = .ok (.goto 20, 3) := by decide +kernel
theorem dX8_note_136 : decode cX8_note 136 = .ok (.iload 6, 2) := by decide +kernel
theorem dX8_note_138 : decode cX8_note 138 = .ok (.aload_n 0, 1) := by decide +kernel
theorem dX8_note_139 : decode cX8_note 139 = .ok (.iload 4, 2) := by decide +kernel
theorem dX8_note_141 : decode cX8_note 141 = .ok (.iconst 1, 1) := by decide +kernel
theorem dX8_note_142 : decode cX8_note 142 = .ok (.invokevirtual 60, 3) := by decide +kernel
theorem dX8_note_145 : decode cX8_note 145 = .ok (.if_icmp .ne 7, 3) := by decide +kernel
theorem dX8_note_148 : decode cX8_note 148 = .ok (.iconst 1, 1) := by decide +kernel
theorem dX8_note_149 : decode cX8_note 149 = .ok (.goto 4, 3) := by decide +kernel
theorem dX8_note_152 : decode cX8_note 152 = .ok (.iconst 2, 1) := by decide +kernel
theorem dX8_note_153 : decode cX8_note 153 = .ok (.imul, 1) := by decide +kernel
theorem dX8_note_154 : decode cX8_note 154 = .ok (.iadd, 1) := by decide +kernel
theorem dX8_note_155 : decode cX8_note 155 = .ok (.istore_n 3, 1) := by decide +kernel
theorem dX8_note_156 : decode cX8_note 156 = .ok (.aload_n 0, 1) := by decide +kernel
theorem dX8_note_157 : decode cX8_note 157 = .ok (.dup, 1) := by decide +kernel
theorem dX8_note_158 : decode cX8_note 158 = .ok (.getfield 136, 3) := by decide +kernel
theorem dX8_note_161 : decode cX8_note 161 = .ok (.iload 5, 2) := by decide +kernel
theorem dX8_note_163 : decode cX8_note 163 = .ok (.ifCond .lt 18, 3) := by decide +kernel
theorem dX8_note_166 : decode cX8_note 166 = .ok (.iload_n 2, 1) := by decide +kernel
theorem dX8_note_167 : decode cX8_note 167 = .ok (.invokestatic 68, 3) := by decide +kernel
theorem dX8_note_170 : decode cX8_note 170 = .ok (.iconst 1, 1) := by decide +kernel
theorem dX8_note_171 : decode cX8_note 171 = .ok (.if_icmp .le 10, 3) := by decide +kernel
theorem dX8_note_174 : decode cX8_note 174 = .ok (.iconst 1, 1) := by decide +kernel
theorem dX8_note_175 : decode cX8_note 175 = .ok (.iload 5, 2) := by decide +kernel
theorem dX8_note_177 : decode cX8_note 177 = .ok (.ishl, 1) := by decide +kernel
theorem dX8_note_178 : decode cX8_note 178 = .ok (.goto 4, 3) := by decide +kernel
theorem dX8_note_181 : decode cX8_note 181 = .ok (.iconst 0, 1) := by decide +kernel
theorem dX8_note_182 : decode cX8_note 182 = .ok (.ior, 1) := by decide +kernel
theorem dX8_note_183 : decode cX8_note 183 = .ok (.putfield 136, 3) := by decide +kernel
theorem dX8_note_186 : decode cX8_note 186 = .ok (.iinc 4 1, 3) := by decide +kernel
theorem dX8_note_189 : decode cX8_note 189 = .ok (.goto (-141), 3) := by decide +kernel
theorem dX8_note_192 : decode cX8_note 192 = .ok (.aload_n 0, 1) := by decide +kernel
theorem dX8_note_193 : decode cX8_note 193 = .ok (.getfield 33, 3) := by decide +kernel
theorem dX8_note_196 : decode cX8_note 196 = .ok (.iload_n 1, 1) := by decide +kernel
theorem dX8_note_197 : decode cX8_note 197 = .ok (.iload_n 2, 1) := by decide +kernel
theorem dX8_note_198 : decode cX8_note 198 = .ok (.invokestatic 68, 3) := by decide +kernel
theorem dX8_note_201 : decode cX8_note 201 = .ok (.iconst 2, 1) := by decide +kernel
theorem dX8_note_202 : decode cX8_note 202 = .ok (.if_icmp .ge 7, 3) := by decide +kernel
theorem dX8_note_205 : decode cX8_note 205 = .ok (.iconst 0, 1) := by decide +kernel
theorem dX8_note_206 : decode cX8_note 206 = .ok (.goto 4, 3) := by decide +kernel
theorem dX8_note_209 : decode cX8_note 209 = .ok (.iload_n 3, 1) := by decide +kernel
theorem dX8_note_210 : decode cX8_note 210 = .ok (.iastore, 1) := by decide +kernel
theorem dX8_note_211 : decode cX8_note 211 = .ok (.return_, 1) := by decide +kernel
set_option maxRecDepth 20000 in
theorem ggX8_movers_X8_standsOf : GoodIn wsX8_movers wsX8_standsOf := goodIn_r _ [6, 7, 8, 9, 10, 5, 11, 12, 13, 14, 15, 16, 17, 18, 19, 20, 21, 22, 23, 24, 25, 26] (by decide +kernel) (by decide +kernel)
set_option maxRecDepth 20000 in
theorem gX8_movers_X8_standsOf : GoodIn wsX8_movers (wsV RX8 86 RX8 yX8_standsOf wsX8_standsOf) := goodIn_app (goodIn_of _ (by decide +kernel)) ggX8_movers_X8_standsOf
theorem dX8_movers_0 : decode cX8_movers 0 = .ok (.aload_n 0, 1) := by decide +kernel
theorem dX8_movers_1 : decode cX8_movers 1 = .ok (.aload_n 0, 1) := by decide +kernel
theorem dX8_movers_2 : decode cX8_movers 2 = .ok (.getfield 33, 3) := by decide +kernel
theorem dX8_movers_5 : decode cX8_movers 5 = .ok (.iload_n 1, 1) := by decide +kernel
theorem dX8_movers_6 : decode cX8_movers 6 = .ok (.iaload, 1) := by decide +kernel
theorem dX8_movers_7 : decode cX8_movers 7 = .ok (.invokevirtual 86, 3) := by decide +kernel
theorem dX8_movers_10 : decode cX8_movers 10 = .ok (.ireturn, 1) := by decide +kernel
set_option maxRecDepth 20000 in
theorem ggX8_behindStep_X8_cells : GoodIn wsX8_behindStep wsX8_cells := goodIn_r _ [8, 9, 17, 18, 19, 20, 21, 22, 23, 24, 25, 26, 27, 28, 29, 30] (by decide +kernel) (by decide +kernel)
set_option maxRecDepth 20000 in
theorem gX8_behindStep_X8_cells : GoodIn wsX8_behindStep (wsV RX8 45 RX8 yX8_cells wsX8_cells) := goodIn_app (goodIn_of _ (by decide +kernel)) ggX8_behindStep_X8_cells
set_option maxRecDepth 20000 in
theorem ggX8_behindStep_X8_has : GoodIn wsX8_behindStep wsX8_has := goodIn_r _ [12] (by decide +kernel) (by decide +kernel)
set_option maxRecDepth 20000 in
theorem gX8_behindStep_X8_has : GoodIn wsX8_behindStep (va_wsS RX8 92 yX8_has wsX8_has) := goodIn_app (goodIn_of _ (by decide +kernel)) ggX8_behindStep_X8_has
set_option maxRecDepth 20000 in
theorem ggX8_behindStep_X8_beside : GoodIn wsX8_behindStep wsX8_beside := goodIn_r _ [16, 4, 5, 6, 7, 8, 9, 17, 18, 19, 20, 21, 22, 23, 24, 25, 26, 27, 28, 29, 30] (by decide +kernel) (by decide +kernel)
set_option maxRecDepth 20000 in
theorem gX8_behindStep_X8_beside : GoodIn wsX8_behindStep (wsV RX8 60 RX8 yX8_beside wsX8_beside) := goodIn_app (goodIn_of _ (by decide +kernel)) ggX8_behindStep_X8_beside
theorem dX8_behindStep_0 : decode cX8_behindStep 0 = .ok (.iconst 0, 1) := by decide +kernel
theorem dX8_behindStep_1 : decode cX8_behindStep 1 = .ok (.istore_n 3, 1) := by decide +kernel
theorem dX8_behindStep_2 : decode cX8_behindStep 2 = .ok (.iload_n 3, 1) := by decide +kernel
theorem dX8_behindStep_3 : decode cX8_behindStep 3 = .ok (.aload_n 0, 1) := by decide +kernel
theorem dX8_behindStep_4 : decode cX8_behindStep 4 = .ok (.invokevirtual 45, 3) := by decide +kernel
theorem dX8_behindStep_7 : decode cX8_behindStep 7 = .ok (.if_icmp .ge 16, 3) := by decide +kernel
theorem dX8_behindStep_10 : decode cX8_behindStep 10 = .ok (.aload_n 0, 1) := by decide +kernel
theorem dX8_behindStep_11 : decode cX8_behindStep 11 = .ok (.getfield 42, 3) := by decide +kernel
theorem dX8_behindStep_14 : decode cX8_behindStep 14 = .ok (.iload_n 3, 1) := by decide +kernel
theorem dX8_behindStep_15 : decode cX8_behindStep 15 = .ok (.iconst 0, 1) := by decide +kernel
theorem dX8_behindStep_16 : decode cX8_behindStep 16 = .ok (.iastore, 1) := by decide +kernel
theorem dX8_behindStep_17 : decode cX8_behindStep 17 = .ok (.iinc 3 1, 3) := by decide +kernel
theorem dX8_behindStep_20 : decode cX8_behindStep 20 = .ok (.goto (-18), 3) := by decide +kernel
theorem dX8_behindStep_23 : decode cX8_behindStep 23 = .ok (.iconst 0, 1) := by decide +kernel
theorem dX8_behindStep_24 : decode cX8_behindStep 24 = .ok (.istore_n 3, 1) := by decide +kernel
theorem dX8_behindStep_25 : decode cX8_behindStep 25 = .ok (.iload_n 3, 1) := by decide +kernel
theorem dX8_behindStep_26 : decode cX8_behindStep 26 = .ok (.aload_n 0, 1) := by decide +kernel
theorem dX8_behindStep_27 : decode cX8_behindStep 27 = .ok (.invokevirtual 45, 3) := by decide +kernel
theorem dX8_behindStep_30 : decode cX8_behindStep 30 = .ok (.if_icmp .ge 105, 3) := by decide +kernel
theorem dX8_behindStep_33 : decode cX8_behindStep 33 = .ok (.iload_n 1, 1) := by decide +kernel
theorem dX8_behindStep_34 : decode cX8_behindStep 34 = .ok (.aload_n 0, 1) := by decide +kernel
theorem dX8_behindStep_35 : decode cX8_behindStep 35 = .ok (.getfield 20, 3) := by decide +kernel
theorem dX8_behindStep_38 : decode cX8_behindStep 38 = .ok (.iload_n 3, 1) := by decide +kernel
theorem dX8_behindStep_39 : decode cX8_behindStep 39 = .ok (.iaload, 1) := by decide +kernel
theorem dX8_behindStep_40 : decode cX8_behindStep 40 = .ok (.idiv, 1) := by decide +kernel
theorem dX8_behindStep_41 : decode cX8_behindStep 41 = .ok (.iconst 3, 1) := by decide +kernel
theorem dX8_behindStep_42 : decode cX8_behindStep 42 = .ok (.irem, 1) := by decide +kernel
theorem dX8_behindStep_43 : decode cX8_behindStep 43 = .ok (.istore 4, 2) := by decide +kernel
theorem dX8_behindStep_45 : decode cX8_behindStep 45 = .ok (.iload 4, 2) := by decide +kernel
theorem dX8_behindStep_47 : decode cX8_behindStep 47 = .ok (.ifCond .le 82, 3) := by decide +kernel
theorem dX8_behindStep_50 : decode cX8_behindStep 50 = .ok (.iload_n 2, 1) := by decide +kernel
theorem dX8_behindStep_51 : decode cX8_behindStep 51 = .ok (.iload_n 3, 1) := by decide +kernel
theorem dX8_behindStep_52 : decode cX8_behindStep 52 = .ok (.invokestatic 92, 3) := by decide +kernel
theorem dX8_behindStep_55 : decode cX8_behindStep 55 = .ok (.ifCond .eq 21, 3) := by decide +kernel
theorem dX8_behindStep_58 : decode cX8_behindStep 58 = .ok (.aload_n 0, 1) := by decide +kernel
theorem dX8_behindStep_59 : decode cX8_behindStep 59 = .ok (.getfield 33, 3) := by decide +kernel
theorem dX8_behindStep_62 : decode cX8_behindStep 62 = .ok (.iload_n 1, 1) := by decide +kernel
theorem dX8_behindStep_63 : decode cX8_behindStep 63 = .ok (.iaload, 1) := by decide +kernel
theorem dX8_behindStep_64 : decode cX8_behindStep 64 = .ok (.aload_n 0, 1) := by decide +kernel
theorem dX8_behindStep_65 : decode cX8_behindStep 65 = .ok (.getfield 20, 3) := by decide +kernel
theorem dX8_behindStep_68 : decode cX8_behindStep 68 = .ok (.iload_n 3, 1) := by decide +kernel
theorem dX8_behindStep_69 : decode cX8_behindStep 69 = .ok (.iaload, 1) := by decide +kernel
theorem dX8_behindStep_70 : decode cX8_behindStep 70 = .ok (.idiv, 1) := by decide +kernel
theorem dX8_behindStep_71 : decode cX8_behindStep 71 = .ok (.iconst 3, 1) := by decide +kernel
theorem dX8_behindStep_72 : decode cX8_behindStep 72 = .ok (.irem, 1) := by decide +kernel
theorem dX8_behindStep_73 : decode cX8_behindStep 73 = .ok (.goto 4, 3) := by decide +kernel
theorem dX8_behindStep_76 : decode cX8_behindStep 76 = .ok (.iconst 0, 1) := by decide +kernel
theorem dX8_behindStep_77 : decode cX8_behindStep 77 = .ok (.istore 5, 2) := by decide +kernel
theorem dX8_behindStep_79 : decode cX8_behindStep 79 = .ok (.iload 5, 2) := by decide +kernel
theorem dX8_behindStep_81 : decode cX8_behindStep 81 = .ok (.ifCond .ne 7, 3) := by decide +kernel
theorem dX8_behindStep_84 : decode cX8_behindStep 84 = .ok (.iload_n 3, 1) := by decide +kernel
theorem dX8_behindStep_85 : decode cX8_behindStep 85 = .ok (.goto 19, 3) := by decide +kernel
theorem dX8_behindStep_88 : decode cX8_behindStep 88 = .ok (.aload_n 0, 1) := by decide +kernel
theorem dX8_behindStep_89 : decode cX8_behindStep 89 = .ok (.iload_n 3, 1) := by decide +kernel
theorem dX8_behindStep_90 : decode cX8_behindStep 90 = .ok (.iload 5, 2) := by decide +kernel
theorem dX8_behindStep_92 : decode cX8_behindStep 92 = .ok (.iconst 1, 1) := by decide +kernel
theorem dX8_behindStep_93 : decode cX8_behindStep 93 = .ok (.if_icmp .ne 7, 3) := by decide +kernel
theorem dX8_behindStep_96 : decode cX8_behindStep 96 = .ok (.iconst 1, 1) := by decide +kernel
theorem dX8_behindStep_97 : decode cX8_behindStep 97 = .ok (.goto 4, 3) := by decide +kernel
theorem dX8_behindStep_100 : decode cX8_behindStep 100 = .ok (.iconst (-1), 1) := by decide +kernel
theorem dX8_behindStep_101 : decode cX8_behindStep 101 = .ok (.invokevirtual 60, 3) := by decide +kernel
theorem dX8_behindStep_104 : decode cX8_behindStep 104 = .ok (.istore 6, 2) := by decide +kernel
theorem dX8_behindStep_106 : decode cX8_behindStep 106 = .ok (.aload_n 0, 1) := by decide +kernel
theorem dX8_behindStep_107 : decode cX8_behindStep 107 = .ok (.getfield 42, 3) := by decide +kernel
theorem dX8_behindStep_110 : decode cX8_behindStep 110 = .ok (.iload 6, 2) := by decide +kernel
theorem dX8_behindStep_112 : decode cX8_behindStep 112 = .ok (.aload_n 0, 1) := by decide +kernel
theorem dX8_behindStep_113 : decode cX8_behindStep 113 = .ok (.getfield 42, 3) := by decide +kernel
theorem dX8_behindStep_116 : decode cX8_behindStep 116 = .ok (.iload 6, 2) := by decide +kernel
theorem dX8_behindStep_118 : decode cX8_behindStep 118 = .ok (.iaload, 1) := by decide +kernel
theorem dX8_behindStep_119 : decode cX8_behindStep 119 = .ok (.ifCond .le 7, 3) := by decide +kernel
theorem dX8_behindStep_122 : decode cX8_behindStep 122 = .ok (.iconst 2, 1) := by decide +kernel
theorem dX8_behindStep_123 : decode cX8_behindStep 123 = .ok (.goto 5, 3) := by decide +kernel
theorem dX8_behindStep_126 : decode cX8_behindStep 126 = .ok (.iload 4, 2) := by decide +kernel
theorem dX8_behindStep_128 : decode cX8_behindStep 128 = .ok (.iastore, 1) := by decide +kernel
theorem dX8_behindStep_129 : decode cX8_behindStep 129 = .ok (.iinc 3 1, 3) := by decide +kernel
theorem dX8_behindStep_132 : decode cX8_behindStep 132 = .ok (.goto (-107), 3) := by decide +kernel
theorem dX8_behindStep_135 : decode cX8_behindStep 135 = .ok (.iconst 0, 1) := by decide +kernel
theorem dX8_behindStep_136 : decode cX8_behindStep 136 = .ok (.istore_n 3, 1) := by decide +kernel
theorem dX8_behindStep_137 : decode cX8_behindStep 137 = .ok (.iconst 0, 1) := by decide +kernel
theorem dX8_behindStep_138 : decode cX8_behindStep 138 = .ok (.istore 4, 2) := by decide +kernel
theorem dX8_behindStep_140 : decode cX8_behindStep 140 = .ok (.iload 4, 2) := by decide +kernel
theorem dX8_behindStep_142 : decode cX8_behindStep 142 = .ok (.aload_n 0, 1) := by decide +kernel
theorem dX8_behindStep_143 : decode cX8_behindStep 143 = .ok (.invokevirtual 45, 3) := by decide +kernel
theorem dX8_behindStep_146 : decode cX8_behindStep 146 = .ok (.if_icmp .ge 27, 3) := by decide +kernel
theorem dX8_behindStep_149 : decode cX8_behindStep 149 = .ok (.iload_n 3, 1) := by decide +kernel
theorem dX8_behindStep_150 : decode cX8_behindStep 150 = .ok (.aload_n 0, 1) := by decide +kernel
theorem dX8_behindStep_151 : decode cX8_behindStep 151 = .ok (.getfield 20, 3) := by decide +kernel
theorem dX8_behindStep_154 : decode cX8_behindStep 154 = .ok (.iload 4, 2) := by decide +kernel
theorem dX8_behindStep_156 : decode cX8_behindStep 156 = .ok (.iaload, 1) := by decide +kernel
theorem dX8_behindStep_157 : decode cX8_behindStep 157 = .ok (.aload_n 0, 1) := by decide +kernel
theorem dX8_behindStep_158 : decode cX8_behindStep 158 = .ok (.getfield 42, 3) := by decide +kernel
theorem dX8_behindStep_161 : decode cX8_behindStep 161 = .ok (.iload 4, 2) := by decide +kernel
theorem dX8_behindStep_163 : decode cX8_behindStep 163 = .ok (.iaload, 1) := by decide +kernel
theorem dX8_behindStep_164 : decode cX8_behindStep 164 = .ok (.imul, 1) := by decide +kernel
theorem dX8_behindStep_165 : decode cX8_behindStep 165 = .ok (.iadd, 1) := by decide +kernel
theorem dX8_behindStep_166 : decode cX8_behindStep 166 = .ok (.istore_n 3, 1) := by decide +kernel
theorem dX8_behindStep_167 : decode cX8_behindStep 167 = .ok (.iinc 4 1, 3) := by decide +kernel
theorem dX8_behindStep_170 : decode cX8_behindStep 170 = .ok (.goto (-30), 3) := by decide +kernel
theorem dX8_behindStep_173 : decode cX8_behindStep 173 = .ok (.iload_n 3, 1) := by decide +kernel
theorem dX8_behindStep_174 : decode cX8_behindStep 174 = .ok (.ireturn, 1) := by decide +kernel
theorem dX8_mayBe_0 : decode cX8_mayBe 0 = .ok (.iload_n 0, 1) := by decide +kernel
theorem dX8_mayBe_1 : decode cX8_mayBe 1 = .ok (.ifCond .ne 19, 3) := by decide +kernel
theorem dX8_mayBe_4 : decode cX8_mayBe 4 = .ok (.iload_n 1, 1) := by decide +kernel
theorem dX8_mayBe_5 : decode cX8_mayBe 5 = .ok (.iload_n 1, 1) := by decide +kernel
theorem dX8_mayBe_6 : decode cX8_mayBe 6 = .ok (.iconst 1, 1) := by decide +kernel
theorem dX8_mayBe_7 : decode cX8_mayBe 7 = .ok (.isub, 1) := by decide +kernel
theorem dX8_mayBe_8 : decode cX8_mayBe 8 = .ok (.iand, 1) := by decide +kernel
theorem dX8_mayBe_9 : decode cX8_mayBe 9 = .ok (.ifCond .ne 7, 3) := by decide +kernel
theorem dX8_mayBe_12 : decode cX8_mayBe 12 = .ok (.iconst 1, 1) := by decide +kernel
theorem dX8_mayBe_13 : decode cX8_mayBe 13 = .ok (.goto 22, 3) := by decide +kernel
theorem dX8_mayBe_16 : decode cX8_mayBe 16 = .ok (.iconst 0, 1) := by decide +kernel
theorem dX8_mayBe_17 : decode cX8_mayBe 17 = .ok (.goto 18, 3) := by decide +kernel
theorem dX8_mayBe_20 : decode cX8_mayBe 20 = .ok (.iload_n 0, 1) := by decide +kernel
theorem dX8_mayBe_21 : decode cX8_mayBe 21 = .ok (.iconst 2, 1) := by decide +kernel
theorem dX8_mayBe_22 : decode cX8_mayBe 22 = .ok (.if_icmp .eq 8, 3) := by decide +kernel
theorem dX8_mayBe_25 : decode cX8_mayBe 25 = .ok (.iload_n 1, 1) := by decide +kernel
theorem dX8_mayBe_26 : decode cX8_mayBe 26 = .ok (.iload_n 2, 1) := by decide +kernel
theorem dX8_mayBe_27 : decode cX8_mayBe 27 = .ok (.if_icmp .ne 7, 3) := by decide +kernel
theorem dX8_mayBe_30 : decode cX8_mayBe 30 = .ok (.iconst 1, 1) := by decide +kernel
theorem dX8_mayBe_31 : decode cX8_mayBe 31 = .ok (.goto 4, 3) := by decide +kernel
theorem dX8_mayBe_34 : decode cX8_mayBe 34 = .ok (.iconst 0, 1) := by decide +kernel
theorem dX8_mayBe_35 : decode cX8_mayBe 35 = .ok (.ireturn, 1) := by decide +kernel
set_option maxRecDepth 20000 in
theorem ggX8_isMet_X8_standsOf : GoodIn wsX8_isMet wsX8_standsOf := goodIn_r _ [5, 6, 7, 8, 9, 4, 10, 11, 15, 16, 17, 18, 19, 20, 21, 22, 23, 24, 25, 26, 27, 28] (by decide +kernel) (by decide +kernel)
set_option maxRecDepth 20000 in
theorem gX8_isMet_X8_standsOf : GoodIn wsX8_isMet (wsV RX8 86 RX8 yX8_standsOf wsX8_standsOf) := goodIn_app (goodIn_of _ (by decide +kernel)) ggX8_isMet_X8_standsOf
set_option maxRecDepth 20000 in
theorem ggX8_isMet_X8_size : GoodIn wsX8_isMet wsX8_size := goodIn_r _ [14] (by decide +kernel) (by decide +kernel)
set_option maxRecDepth 20000 in
theorem gX8_isMet_X8_size : GoodIn wsX8_isMet (va_wsS RX8 68 yX8_size wsX8_size) := goodIn_app (goodIn_of _ (by decide +kernel)) ggX8_isMet_X8_size
theorem dX8_isMet_0 : decode cX8_isMet 0 = .ok (.aload_n 0, 1) := by decide +kernel
theorem dX8_isMet_1 : decode cX8_isMet 1 = .ok (.iload_n 1, 1) := by decide +kernel
theorem dX8_isMet_2 : decode cX8_isMet 2 = .ok (.invokevirtual 86, 3) := by decide +kernel
theorem dX8_isMet_5 : decode cX8_isMet 5 = .ok (.invokestatic 68, 3) := by decide +kernel
theorem dX8_isMet_8 : decode cX8_isMet 8 = .ok (.iconst 1, 1) := by decide +kernel
theorem dX8_isMet_9 : decode cX8_isMet 9 = .ok (.if_icmp .ne 7, 3) := by decide +kernel
theorem dX8_isMet_12 : decode cX8_isMet 12 = .ok (.iconst 1, 1) := by decide +kernel
theorem dX8_isMet_13 : decode cX8_isMet 13 = .ok (.goto 4, 3) := by decide +kernel
theorem dX8_isMet_16 : decode cX8_isMet 16 = .ok (.iconst 0, 1) := by decide +kernel
theorem dX8_isMet_17 : decode cX8_isMet 17 = .ok (.ireturn, 1) := by decide +kernel
theorem dX8_begin_0 : decode cX8_begin 0 = .ok (.iconst 0, 1) := by decide +kernel
theorem dX8_begin_1 : decode cX8_begin 1 = .ok (.istore_n 2, 1) := by decide +kernel
theorem dX8_begin_2 : decode cX8_begin 2 = .ok (.iload_n 2, 1) := by decide +kernel
theorem dX8_begin_3 : decode cX8_begin 3 = .ok (.ldc 26, 2) := by decide +kernel
theorem dX8_begin_5 : decode cX8_begin 5 = .ok (.if_icmp .ge 16, 3) := by decide +kernel
theorem dX8_begin_8 : decode cX8_begin 8 = .ok (.aload_n 0, 1) := by decide +kernel
theorem dX8_begin_9 : decode cX8_begin 9 = .ok (.getfield 30, 3) := by decide +kernel
theorem dX8_begin_12 : decode cX8_begin 12 = .ok (.iload_n 2, 1) := by decide +kernel
theorem dX8_begin_13 : decode cX8_begin 13 = .ok (.iconst 0, 1) := by decide +kernel
theorem dX8_begin_14 : decode cX8_begin 14 = .ok (.bastore, 1) := by decide +kernel
theorem dX8_begin_15 : decode cX8_begin 15 = .ok (.iinc 2 1, 3) := by decide +kernel
theorem dX8_begin_18 : decode cX8_begin 18 = .ok (.goto (-16), 3) := by decide +kernel
theorem dX8_begin_21 : decode cX8_begin 21 = .ok (.aload_n 0, 1) := by decide +kernel
theorem dX8_begin_22 : decode cX8_begin 22 = .ok (.iconst 0, 1) := by decide +kernel
theorem dX8_begin_23 : decode cX8_begin 23 = .ok (.putfield 128, 3) := by decide +kernel
theorem dX8_begin_26 : decode cX8_begin 26 = .ok (.aload_n 0, 1) := by decide +kernel
theorem dX8_begin_27 : decode cX8_begin 27 = .ok (.iconst 0, 1) := by decide +kernel
theorem dX8_begin_28 : decode cX8_begin 28 = .ok (.putfield 136, 3) := by decide +kernel
theorem dX8_begin_31 : decode cX8_begin 31 = .ok (.aload_n 0, 1) := by decide +kernel
theorem dX8_begin_32 : decode cX8_begin 32 = .ok (.iload_n 1, 1) := by decide +kernel
theorem dX8_begin_33 : decode cX8_begin 33 = .ok (.putfield 132, 3) := by decide +kernel
theorem dX8_begin_36 : decode cX8_begin 36 = .ok (.return_, 1) := by decide +kernel
set_option maxRecDepth 20000 in
theorem ggX8_listAll_X8_movers : GoodIn wsX8_listAll wsX8_movers := goodIn_r _ [9, 10, 11, 12, 13, 8, 14, 15, 16, 17, 18, 19, 20, 93, 94, 95, 96, 97, 98, 99, 100, 101, 102, 103, 104, 105, 106] (by decide +kernel) (by decide +kernel)
set_option maxRecDepth 20000 in
theorem gX8_listAll_X8_movers : GoodIn wsX8_listAll (wsV RX8 139 RX8 yX8_movers wsX8_movers) := goodIn_app (goodIn_of _ (by decide +kernel)) ggX8_listAll_X8_movers
set_option maxRecDepth 20000 in
theorem ggX8_listAll_X8_mayBe : GoodIn wsX8_listAll wsX8_mayBe := goodIn_r _ [23] (by decide +kernel) (by decide +kernel)
set_option maxRecDepth 20000 in
theorem gX8_listAll_X8_mayBe : GoodIn wsX8_listAll (va_wsS RX8 142 yX8_mayBe wsX8_mayBe) := goodIn_app (goodIn_of _ (by decide +kernel)) ggX8_listAll_X8_mayBe
set_option maxRecDepth 20000 in
theorem ggX8_listAll_X8_behindStep : GoodIn wsX8_listAll wsX8_behindStep := goodIn_r _ [27, 28, 15, 10, 16, 17, 18, 8, 19, 20, 29, 30, 31, 32, 33, 34, 35, 93, 94, 95, 96, 97, 98, 99, 100, 101, 102, 103, 104, 105, 106] (by decide +kernel) (by decide +kernel)
set_option maxRecDepth 20000 in
theorem gX8_listAll_X8_behindStep : GoodIn wsX8_listAll (wsV RX8 145 RX8 yX8_behindStep wsX8_behindStep) := goodIn_app (goodIn_of _ (by decide +kernel)) ggX8_listAll_X8_behindStep
set_option maxRecDepth 20000 in
theorem ggX8_listAll_X8_note : GoodIn wsX8_listAll wsX8_note := goodIn_r _ [39, 40, 2, 1, 41, 15, 42, 10, 11, 12, 13, 8, 14, 16, 17, 18, 19, 20, 29, 30, 31, 43, 44, 45, 46, 47, 48, 49, 50, 51, 52, 53, 54, 55, 56, 57, 58, 59, 60, 61, 62, 63, 64, 65, 66, 67, 68, 69, 32, 33, 34, 35, 70, 71, 72, 73, 74, 75, 76, 77, 93, 94, 95, 96, 97, 98, 99, 100, 101, 102, 103, 104, 105, 106] (by decide +kernel) (by decide +kernel)
set_option maxRecDepth 20000 in
theorem gX8_listAll_X8_note : GoodIn wsX8_listAll (wsV RX8 148 RX8 yX8_note wsX8_note) := goodIn_app (goodIn_of _ (by decide +kernel)) ggX8_listAll_X8_note
set_option maxRecDepth 20000 in
theorem ggX8_listAll_X8_isMet : GoodIn wsX8_listAll wsX8_isMet := goodIn_r _ [81, 11, 12, 13, 8, 14, 15, 16, 17, 18, 19, 20, 51, 52, 53, 93, 94, 95, 96, 97, 98, 99, 100, 101, 102, 103, 104, 105, 106] (by decide +kernel) (by decide +kernel)
set_option maxRecDepth 20000 in
theorem gX8_listAll_X8_isMet : GoodIn wsX8_listAll (wsV RX8 152 RX8 yX8_isMet wsX8_isMet) := goodIn_app (goodIn_of _ (by decide +kernel)) ggX8_listAll_X8_isMet
set_option maxRecDepth 20000 in
theorem ggX8_listAll_X8_layRound : GoodIn wsX8_listAll wsX8_layRound := goodIn_r _ [85, 1, 2, 3, 4, 86, 87, 88, 8, 89, 5, 6, 7, 9, 10, 11, 12, 13, 14, 15, 16, 17, 18, 19, 20, 21, 22, 23, 24, 25, 26, 27, 28, 29, 30, 31, 32, 33, 34, 35, 90, 91, 92, 93, 94, 95, 96, 97, 98, 99, 100, 101, 102, 103, 104, 105, 106] (by decide +kernel) (by decide +kernel)
set_option maxRecDepth 20000 in
theorem gX8_listAll_X8_layRound : GoodIn wsX8_listAll (wsV RX8 155 RX8 yX8_layRound wsX8_layRound) := goodIn_app (goodIn_of _ (by decide +kernel)) ggX8_listAll_X8_layRound
theorem dX8_listAll_0 : decode cX8_listAll 0 = .ok (.iconst 0, 1) := by decide +kernel
theorem dX8_listAll_1 : decode cX8_listAll 1 = .ok (.istore_n 2, 1) := by decide +kernel
theorem dX8_listAll_2 : decode cX8_listAll 2 = .ok (.iload_n 2, 1) := by decide +kernel
theorem dX8_listAll_3 : decode cX8_listAll 3 = .ok (.aload_n 0, 1) := by decide +kernel
theorem dX8_listAll_4 : decode cX8_listAll 4 = .ok (.getfield 128, 3) := by decide +kernel
theorem dX8_listAll_7 : decode cX8_listAll 7 = .ok (.if_icmp .ge 103, 3) := by decide +kernel
theorem dX8_listAll_10 : decode cX8_listAll 10 = .ok (.aload_n 0, 1) := by decide +kernel
theorem dX8_listAll_11 : decode cX8_listAll 11 = .ok (.getfield 27, 3) := by decide +kernel
theorem dX8_listAll_14 : decode cX8_listAll 14 = .ok (.iload_n 2, 1) := by decide +kernel
theorem dX8_listAll_15 : decode cX8_listAll 15 = .ok (.iaload, 1) := by decide +kernel
theorem dX8_listAll_16 : decode cX8_listAll 16 = .ok (.istore_n 3, 1) := by decide +kernel
theorem dX8_listAll_17 : decode cX8_listAll 17 = .ok (.aload_n 0, 1) := by decide +kernel
theorem dX8_listAll_18 : decode cX8_listAll 18 = .ok (.iload_n 3, 1) := by decide +kernel
theorem dX8_listAll_19 : decode cX8_listAll 19 = .ok (.invokevirtual 139, 3) := by decide +kernel
theorem dX8_listAll_22 : decode cX8_listAll 22 = .ok (.istore 4, 2) := by decide +kernel
theorem dX8_listAll_24 : decode cX8_listAll 24 = .ok (.iload 4, 2) := by decide +kernel
theorem dX8_listAll_26 : decode cX8_listAll 26 = .ok (.ineg, 1) := by decide +kernel
theorem dX8_listAll_27 : decode cX8_listAll 27 = .ok (.iload 4, 2) := by decide +kernel
theorem dX8_listAll_29 : decode cX8_listAll 29 = .ok (.iand, 1) := by decide +kernel
theorem dX8_listAll_30 : decode cX8_listAll 30 = .ok (.istore 5, 2) := by decide +kernel
theorem dX8_listAll_32 : decode cX8_listAll 32 = .ok (.iload 5, 2) := by decide +kernel
theorem dX8_listAll_34 : decode cX8_listAll 34 = .ok (.ifCond .eq 38, 3) := by decide +kernel
theorem dX8_listAll_37 : decode cX8_listAll 37 = .ok (.iload_n 1, 1) := by decide +kernel
theorem dX8_listAll_38 : decode cX8_listAll 38 = .ok (.iload 5, 2) := by decide +kernel
theorem dX8_listAll_40 : decode cX8_listAll 40 = .ok (.iload 4, 2) := by decide +kernel
theorem dX8_listAll_42 : decode cX8_listAll 42 = .ok (.invokestatic 142, 3) := by decide +kernel
theorem dX8_listAll_45 : decode cX8_listAll 45 = .ok (.ifCond .eq 14, 3) := by decide +kernel
theorem dX8_listAll_48 : decode cX8_listAll 48 = .ok (.aload_n 0, 1) := by decide +kernel
end
section
theorem dX8_listAll_49 : decode cX8_listAll 49 = .ok (.aload_n 0, 1) := by decide +kernel
theorem dX8_listAll_50 : decode cX8_listAll 50 = .ok (.iload_n 3, 1) := by decide +kernel
theorem dX8_listAll_51 : decode cX8_listAll 51 = .ok (.iload 5, 2) := by decide +kernel
theorem dX8_listAll_53 : decode cX8_listAll 53 = .ok (.invokevirtual 145, 3) := by decide +kernel
theorem dX8_listAll_56 : decode cX8_listAll 56 = .ok (.invokevirtual 148, 3) := by decide +kernel
theorem dX8_listAll_59 : decode cX8_listAll 59 = .ok (.iload 5, 2) := by decide +kernel
theorem dX8_listAll_61 : decode cX8_listAll 61 = .ok (.iload 4, 2) := by decide +kernel
theorem dX8_listAll_63 : decode cX8_listAll 63 = .ok (.isub, 1) := by decide +kernel
theorem dX8_listAll_64 : decode cX8_listAll 64 = .ok (.iload 4, 2) := by decide +kernel
theorem dX8_listAll_66 : decode cX8_listAll 66 = .ok (.iand, 1) := by decide +kernel
theorem dX8_listAll_67 : decode cX8_listAll 67 = .ok (.istore 5, 2) := by decide +kernel
theorem dX8_listAll_69 : decode cX8_listAll 69 = .ok (.goto (-37), 3) := by decide +kernel
theorem dX8_listAll_72 : decode cX8_listAll 72 = .ok (.aload_n 0, 1) := by decide +kernel
theorem dX8_listAll_73 : decode cX8_listAll 73 = .ok (.getfield 36, 3) := by decide +kernel
theorem dX8_listAll_76 : decode cX8_listAll 76 = .ok (.iload_n 3, 1) := by decide +kernel
theorem dX8_listAll_77 : decode cX8_listAll 77 = .ok (.aload_n 0, 1) := by decide +kernel
theorem dX8_listAll_78 : decode cX8_listAll 78 = .ok (.iload_n 3, 1) := by decide +kernel
theorem dX8_listAll_79 : decode cX8_listAll 79 = .ok (.invokevirtual 152, 3) := by decide +kernel
theorem dX8_listAll_82 : decode cX8_listAll 82 = .ok (.ifCond .eq 7, 3) := by decide +kernel
theorem dX8_listAll_85 : decode cX8_listAll 85 = .ok (.iconst 0, 1) := by decide +kernel
theorem dX8_listAll_86 : decode cX8_listAll 86 = .ok (.goto 5, 3) := by decide +kernel
theorem dX8_listAll_89 : decode cX8_listAll 89 = .ok (.bipush (-6), 2) := by decide +kernel
theorem dX8_listAll_91 : decode cX8_listAll 91 = .ok (.iastore, 1) := by decide +kernel
theorem dX8_listAll_92 : decode cX8_listAll 92 = .ok (.aload_n 0, 1) := by decide +kernel
theorem dX8_listAll_93 : decode cX8_listAll 93 = .ok (.getfield 39, 3) := by decide +kernel
theorem dX8_listAll_96 : decode cX8_listAll 96 = .ok (.iload_n 3, 1) := by decide +kernel
theorem dX8_listAll_97 : decode cX8_listAll 97 = .ok (.aload_n 0, 1) := by decide +kernel
theorem dX8_listAll_98 : decode cX8_listAll 98 = .ok (.getfield 36, 3) := by decide +kernel
theorem dX8_listAll_101 : decode cX8_listAll 101 = .ok (.iload_n 3, 1) := by decide +kernel
theorem dX8_listAll_102 : decode cX8_listAll 102 = .ok (.iaload, 1) := by decide +kernel
theorem dX8_listAll_103 : decode cX8_listAll 103 = .ok (.iastore, 1) := by decide +kernel
theorem dX8_listAll_104 : decode cX8_listAll 104 = .ok (.iinc 2 1, 3) := by decide +kernel
theorem dX8_listAll_107 : decode cX8_listAll 107 = .ok (.goto (-105), 3) := by decide +kernel
theorem dX8_listAll_110 : decode cX8_listAll 110 = .ok (.iconst 1, 1) := by decide +kernel
theorem dX8_listAll_111 : decode cX8_listAll 111 = .ok (.istore_n 2, 1) := by decide +kernel
theorem dX8_listAll_112 : decode cX8_listAll 112 = .ok (.iconst 1, 1) := by decide +kernel
theorem dX8_listAll_113 : decode cX8_listAll 113 = .ok (.istore_n 3, 1) := by decide +kernel
theorem dX8_listAll_114 : decode cX8_listAll 114 = .ok (.iload_n 2, 1) := by decide +kernel
theorem dX8_listAll_115 : decode cX8_listAll 115 = .ok (.ifCond .eq 16, 3) := by decide +kernel
theorem dX8_listAll_118 : decode cX8_listAll 118 = .ok (.aload_n 0, 1) := by decide +kernel
theorem dX8_listAll_119 : decode cX8_listAll 119 = .ok (.iload_n 1, 1) := by decide +kernel
theorem dX8_listAll_120 : decode cX8_listAll 120 = .ok (.iload_n 3, 1) := by decide +kernel
theorem dX8_listAll_121 : decode cX8_listAll 121 = .ok (.invokevirtual 155, 3) := by decide +kernel
theorem dX8_listAll_124 : decode cX8_listAll 124 = .ok (.istore_n 2, 1) := by decide +kernel
theorem dX8_listAll_125 : decode cX8_listAll 125 = .ok (.iinc 3 1, 3) := by decide +kernel
theorem dX8_listAll_128 : decode cX8_listAll 128 = .ok (.goto (-14), 3) := by decide +kernel
theorem dX8_listAll_131 : decode cX8_listAll 131 = .ok (.return_, 1) := by decide +kernel
set_option maxRecDepth 20000 in
theorem ggX8_layRound_X8_look : GoodIn wsX8_layRound wsX8_look := goodIn_r _ [9, 3, 4, 10, 11, 12, 8, 13, 14, 15, 16, 17, 18, 19, 20, 21, 22, 23, 24, 25, 26, 27, 28, 29, 30, 31, 32, 33, 34, 35, 36, 37, 38, 39, 40, 41, 42, 43, 44, 45, 46, 47, 48, 49, 50, 51, 52, 53, 54, 55, 56] (by decide +kernel) (by decide +kernel)
set_option maxRecDepth 20000 in
theorem gX8_layRound_X8_look : GoodIn wsX8_layRound (wsV RX8 158 RX8 yX8_look wsX8_look) := goodIn_app (goodIn_of _ (by decide +kernel)) ggX8_layRound_X8_look
theorem dX8_layRound_0 : decode cX8_layRound 0 = .ok (.iconst 0, 1) := by decide +kernel
theorem dX8_layRound_1 : decode cX8_layRound 1 = .ok (.istore_n 3, 1) := by decide +kernel
theorem dX8_layRound_2 : decode cX8_layRound 2 = .ok (.iconst 0, 1) := by decide +kernel
theorem dX8_layRound_3 : decode cX8_layRound 3 = .ok (.istore 4, 2) := by decide +kernel
theorem dX8_layRound_5 : decode cX8_layRound 5 = .ok (.iload 4, 2) := by decide +kernel
theorem dX8_layRound_7 : decode cX8_layRound 7 = .ok (.aload_n 0, 1) := by decide +kernel
theorem dX8_layRound_8 : decode cX8_layRound 8 = .ok (.getfield 128, 3) := by decide +kernel
theorem dX8_layRound_11 : decode cX8_layRound 11 = .ok (.if_icmp .ge 59, 3) := by decide +kernel
theorem dX8_layRound_14 : decode cX8_layRound 14 = .ok (.aload_n 0, 1) := by decide +kernel
theorem dX8_layRound_15 : decode cX8_layRound 15 = .ok (.getfield 27, 3) := by decide +kernel
theorem dX8_layRound_18 : decode cX8_layRound 18 = .ok (.iload 4, 2) := by decide +kernel
theorem dX8_layRound_20 : decode cX8_layRound 20 = .ok (.iaload, 1) := by decide +kernel
theorem dX8_layRound_21 : decode cX8_layRound 21 = .ok (.istore 5, 2) := by decide +kernel
theorem dX8_layRound_23 : decode cX8_layRound 23 = .ok (.aload_n 0, 1) := by decide +kernel
theorem dX8_layRound_24 : decode cX8_layRound 24 = .ok (.getfield 36, 3) := by decide +kernel
theorem dX8_layRound_27 : decode cX8_layRound 27 = .ok (.iload 5, 2) := by decide +kernel
theorem dX8_layRound_29 : decode cX8_layRound 29 = .ok (.iaload, 1) := by decide +kernel
theorem dX8_layRound_30 : decode cX8_layRound 30 = .ok (.ifCond .lt 13, 3) := by decide +kernel
theorem dX8_layRound_33 : decode cX8_layRound 33 = .ok (.aload_n 0, 1) := by decide +kernel
theorem dX8_layRound_34 : decode cX8_layRound 34 = .ok (.getfield 39, 3) := by decide +kernel
theorem dX8_layRound_37 : decode cX8_layRound 37 = .ok (.iload 5, 2) := by decide +kernel
theorem dX8_layRound_39 : decode cX8_layRound 39 = .ok (.iaload, 1) := by decide +kernel
theorem dX8_layRound_40 : decode cX8_layRound 40 = .ok (.ifCond .ge 24, 3) := by decide +kernel
theorem dX8_layRound_43 : decode cX8_layRound 43 = .ok (.aload_n 0, 1) := by decide +kernel
theorem dX8_layRound_44 : decode cX8_layRound 44 = .ok (.iload 5, 2) := by decide +kernel
theorem dX8_layRound_46 : decode cX8_layRound 46 = .ok (.iload_n 1, 1) := by decide +kernel
theorem dX8_layRound_47 : decode cX8_layRound 47 = .ok (.iload_n 2, 1) := by decide +kernel
theorem dX8_layRound_48 : decode cX8_layRound 48 = .ok (.invokevirtual 158, 3) := by decide +kernel
theorem dX8_layRound_51 : decode cX8_layRound 51 = .ok (.ifCond .ne 7, 3) := by decide +kernel
theorem dX8_layRound_54 : decode cX8_layRound 54 = .ok (.iload_n 3, 1) := by decide +kernel
theorem dX8_layRound_55 : decode cX8_layRound 55 = .ok (.ifCond .eq 7, 3) := by decide +kernel
theorem dX8_layRound_58 : decode cX8_layRound 58 = .ok (.iconst 1, 1) := by decide +kernel
theorem dX8_layRound_59 : decode cX8_layRound 59 = .ok (.goto 4, 3) := by decide +kernel
theorem dX8_layRound_62 : decode cX8_layRound 62 = .ok (.iconst 0, 1) := by decide +kernel
theorem dX8_layRound_63 : decode cX8_layRound 63 = .ok (.istore_n 3, 1) := by decide +kernel
theorem dX8_layRound_64 : decode cX8_layRound 64 = .ok (.iinc 4 1, 3) := by decide +kernel
theorem dX8_layRound_67 : decode cX8_layRound 67 = .ok (.goto (-62), 3) := by decide +kernel
theorem dX8_layRound_70 : decode cX8_layRound 70 = .ok (.iload_n 3, 1) := by decide +kernel
theorem dX8_layRound_71 : decode cX8_layRound 71 = .ok (.ireturn, 1) := by decide +kernel
set_option maxRecDepth 20000 in
theorem ggX8_look_X8_movers : GoodIn wsX8_look wsX8_movers := goodIn_r _ [7, 8, 9, 10, 11, 6, 12, 13, 14, 15, 16, 17, 18, 37, 38, 39, 40, 41, 42, 43, 44, 45, 46, 47, 48, 49, 50] (by decide +kernel) (by decide +kernel)
set_option maxRecDepth 20000 in
theorem gX8_look_X8_movers : GoodIn wsX8_look (wsV RX8 139 RX8 yX8_movers wsX8_movers) := goodIn_app (goodIn_of _ (by decide +kernel)) ggX8_look_X8_movers
set_option maxRecDepth 20000 in
theorem ggX8_look_X8_mayBe : GoodIn wsX8_look wsX8_mayBe := goodIn_r _ [21] (by decide +kernel) (by decide +kernel)
set_option maxRecDepth 20000 in
theorem gX8_look_X8_mayBe : GoodIn wsX8_look (va_wsS RX8 142 yX8_mayBe wsX8_mayBe) := goodIn_app (goodIn_of _ (by decide +kernel)) ggX8_look_X8_mayBe
set_option maxRecDepth 20000 in
theorem ggX8_look_X8_behindStep : GoodIn wsX8_look wsX8_behindStep := goodIn_r _ [25, 26, 13, 8, 14, 15, 16, 6, 17, 18, 27, 28, 29, 30, 31, 32, 33, 37, 38, 39, 40, 41, 42, 43, 44, 45, 46, 47, 48, 49, 50] (by decide +kernel) (by decide +kernel)
set_option maxRecDepth 20000 in
theorem gX8_look_X8_behindStep : GoodIn wsX8_look (wsV RX8 145 RX8 yX8_behindStep wsX8_behindStep) := goodIn_app (goodIn_of _ (by decide +kernel)) ggX8_look_X8_behindStep
set_option maxRecDepth 20000 in
theorem ggX8_look_X8_in : GoodIn wsX8_look wsX8_in := goodIn_r _ [36] (by decide +kernel) (by decide +kernel)
set_option maxRecDepth 20000 in
theorem gX8_look_X8_in : GoodIn wsX8_look (va_wsS RX8 49 yX8_in wsX8_in) := goodIn_app (goodIn_of _ (by decide +kernel)) ggX8_look_X8_in
theorem dX8_look_0 : decode cX8_look 0 = .ok (.aload_n 0, 1) := by decide +kernel
theorem dX8_look_1 : decode cX8_look 1 = .ok (.iload_n 1, 1) := by decide +kernel
theorem dX8_look_2 : decode cX8_look 2 = .ok (.invokevirtual 139, 3) := by decide +kernel
theorem dX8_look_5 : decode cX8_look 5 = .ok (.istore 4, 2) := by decide +kernel
theorem dX8_look_7 : decode cX8_look 7 = .ok (.iconst 0, 1) := by decide +kernel
theorem dX8_look_8 : decode cX8_look 8 = .ok (.istore 5, 2) := by decide +kernel
theorem dX8_look_10 : decode cX8_look 10 = .ok (.iload 4, 2) := by decide +kernel
theorem dX8_look_12 : decode cX8_look 12 = .ok (.ifCond .eq 7, 3) := by decide +kernel
theorem dX8_look_15 : decode cX8_look 15 = .ok (.iconst 1, 1) := by decide +kernel
theorem dX8_look_16 : decode cX8_look 16 = .ok (.goto 4, 3) := by decide +kernel
theorem dX8_look_19 : decode cX8_look 19 = .ok (.iconst 0, 1) := by decide +kernel
theorem dX8_look_20 : decode cX8_look 20 = .ok (.istore 6, 2) := by decide +kernel
theorem dX8_look_22 : decode cX8_look 22 = .ok (.iload 4, 2) := by decide +kernel
theorem dX8_look_24 : decode cX8_look 24 = .ok (.ineg, 1) := by decide +kernel
theorem dX8_look_25 : decode cX8_look 25 = .ok (.iload 4, 2) := by decide +kernel
theorem dX8_look_27 : decode cX8_look 27 = .ok (.iand, 1) := by decide +kernel
theorem dX8_look_28 : decode cX8_look 28 = .ok (.istore 7, 2) := by decide +kernel
theorem dX8_look_30 : decode cX8_look 30 = .ok (.iload 7, 2) := by decide +kernel
theorem dX8_look_32 : decode cX8_look 32 = .ok (.ifCond .eq 90, 3) := by decide +kernel
theorem dX8_look_35 : decode cX8_look 35 = .ok (.iload_n 2, 1) := by decide +kernel
theorem dX8_look_36 : decode cX8_look 36 = .ok (.iload 7, 2) := by decide +kernel
theorem dX8_look_38 : decode cX8_look 38 = .ok (.iload 4, 2) := by decide +kernel
theorem dX8_look_40 : decode cX8_look 40 = .ok (.invokestatic 142, 3) := by decide +kernel
theorem dX8_look_43 : decode cX8_look 43 = .ok (.ifCond .eq 66, 3) := by decide +kernel
theorem dX8_look_46 : decode cX8_look 46 = .ok (.aload_n 0, 1) := by decide +kernel
theorem dX8_look_47 : decode cX8_look 47 = .ok (.iload_n 1, 1) := by decide +kernel
theorem dX8_look_48 : decode cX8_look 48 = .ok (.iload 7, 2) := by decide +kernel
theorem dX8_look_50 : decode cX8_look 50 = .ok (.invokevirtual 145, 3) := by decide +kernel
theorem dX8_look_53 : decode cX8_look 53 = .ok (.istore 8, 2) := by decide +kernel
theorem dX8_look_55 : decode cX8_look 55 = .ok (.iload 5, 2) := by decide +kernel
theorem dX8_look_57 : decode cX8_look 57 = .ok (.ifCond .ne 16, 3) := by decide +kernel
theorem dX8_look_60 : decode cX8_look 60 = .ok (.aload_n 0, 1) := by decide +kernel
theorem dX8_look_61 : decode cX8_look 61 = .ok (.getfield 36, 3) := by decide +kernel
theorem dX8_look_64 : decode cX8_look 64 = .ok (.iload 8, 2) := by decide +kernel
theorem dX8_look_66 : decode cX8_look 66 = .ok (.iaload, 1) := by decide +kernel
theorem dX8_look_67 : decode cX8_look 67 = .ok (.iload_n 3, 1) := by decide +kernel
theorem dX8_look_68 : decode cX8_look 68 = .ok (.iconst 1, 1) := by decide +kernel
theorem dX8_look_69 : decode cX8_look 69 = .ok (.isub, 1) := by decide +kernel
theorem dX8_look_70 : decode cX8_look 70 = .ok (.if_icmp .ne 7, 3) := by decide +kernel
theorem dX8_look_73 : decode cX8_look 73 = .ok (.iconst 1, 1) := by decide +kernel
theorem dX8_look_74 : decode cX8_look 74 = .ok (.goto 4, 3) := by decide +kernel
theorem dX8_look_77 : decode cX8_look 77 = .ok (.iconst 0, 1) := by decide +kernel
theorem dX8_look_78 : decode cX8_look 78 = .ok (.istore 5, 2) := by decide +kernel
theorem dX8_look_80 : decode cX8_look 80 = .ok (.iload 6, 2) := by decide +kernel
theorem dX8_look_82 : decode cX8_look 82 = .ok (.ifCond .eq 24, 3) := by decide +kernel
theorem dX8_look_85 : decode cX8_look 85 = .ok (.aload_n 0, 1) := by decide +kernel
theorem dX8_look_86 : decode cX8_look 86 = .ok (.getfield 39, 3) := by decide +kernel
theorem dX8_look_89 : decode cX8_look 89 = .ok (.iload 8, 2) := by decide +kernel
theorem dX8_look_91 : decode cX8_look 91 = .ok (.iaload, 1) := by decide +kernel
theorem dX8_look_92 : decode cX8_look 92 = .ok (.iconst 0, 1) := by decide +kernel
theorem dX8_look_93 : decode cX8_look 93 = .ok (.iload_n 3, 1) := by decide +kernel
theorem dX8_look_94 : decode cX8_look 94 = .ok (.iconst 1, 1) := by decide +kernel
theorem dX8_look_95 : decode cX8_look 95 = .ok (.isub, 1) := by decide +kernel
theorem dX8_look_96 : decode cX8_look 96 = .ok (.invokestatic 49, 3) := by decide +kernel
theorem dX8_look_99 : decode cX8_look 99 = .ok (.ifCond .eq 7, 3) := by decide +kernel
theorem dX8_look_102 : decode cX8_look 102 = .ok (.iconst 1, 1) := by decide +kernel
theorem dX8_look_103 : decode cX8_look 103 = .ok (.goto 4, 3) := by decide +kernel
theorem dX8_look_106 : decode cX8_look 106 = .ok (.iconst 0, 1) := by decide +kernel
theorem dX8_look_107 : decode cX8_look 107 = .ok (.istore 6, 2) := by decide +kernel
theorem dX8_look_109 : decode cX8_look 109 = .ok (.iload 7, 2) := by decide +kernel
theorem dX8_look_111 : decode cX8_look 111 = .ok (.iload 4, 2) := by decide +kernel
theorem dX8_look_113 : decode cX8_look 113 = .ok (.isub, 1) := by decide +kernel
theorem dX8_look_114 : decode cX8_look 114 = .ok (.iload 4, 2) := by decide +kernel
theorem dX8_look_116 : decode cX8_look 116 = .ok (.iand, 1) := by decide +kernel
theorem dX8_look_117 : decode cX8_look 117 = .ok (.istore 7, 2) := by decide +kernel
theorem dX8_look_119 : decode cX8_look 119 = .ok (.goto (-89), 3) := by decide +kernel
theorem dX8_look_122 : decode cX8_look 122 = .ok (.aload_n 0, 1) := by decide +kernel
theorem dX8_look_123 : decode cX8_look 123 = .ok (.getfield 36, 3) := by decide +kernel
theorem dX8_look_126 : decode cX8_look 126 = .ok (.iload_n 1, 1) := by decide +kernel
theorem dX8_look_127 : decode cX8_look 127 = .ok (.iaload, 1) := by decide +kernel
theorem dX8_look_128 : decode cX8_look 128 = .ok (.ifCond .ge 12, 3) := by decide +kernel
theorem dX8_look_131 : decode cX8_look 131 = .ok (.iload 5, 2) := by decide +kernel
theorem dX8_look_133 : decode cX8_look 133 = .ok (.ifCond .eq 7, 3) := by decide +kernel
theorem dX8_look_136 : decode cX8_look 136 = .ok (.iconst 1, 1) := by decide +kernel
theorem dX8_look_137 : decode cX8_look 137 = .ok (.goto 4, 3) := by decide +kernel
theorem dX8_look_140 : decode cX8_look 140 = .ok (.iconst 0, 1) := by decide +kernel
theorem dX8_look_141 : decode cX8_look 141 = .ok (.istore 7, 2) := by decide +kernel
theorem dX8_look_143 : decode cX8_look 143 = .ok (.aload_n 0, 1) := by decide +kernel
theorem dX8_look_144 : decode cX8_look 144 = .ok (.getfield 39, 3) := by decide +kernel
theorem dX8_look_147 : decode cX8_look 147 = .ok (.iload_n 1, 1) := by decide +kernel
theorem dX8_look_148 : decode cX8_look 148 = .ok (.iaload, 1) := by decide +kernel
theorem dX8_look_149 : decode cX8_look 149 = .ok (.ifCond .ge 12, 3) := by decide +kernel
theorem dX8_look_152 : decode cX8_look 152 = .ok (.iload 6, 2) := by decide +kernel
theorem dX8_look_154 : decode cX8_look 154 = .ok (.ifCond .eq 7, 3) := by decide +kernel
theorem dX8_look_157 : decode cX8_look 157 = .ok (.iconst 1, 1) := by decide +kernel
theorem dX8_look_158 : decode cX8_look 158 = .ok (.goto 4, 3) := by decide +kernel
theorem dX8_look_161 : decode cX8_look 161 = .ok (.iconst 0, 1) := by decide +kernel
theorem dX8_look_162 : decode cX8_look 162 = .ok (.istore 8, 2) := by decide +kernel
theorem dX8_look_164 : decode cX8_look 164 = .ok (.aload_n 0, 1) := by decide +kernel
theorem dX8_look_165 : decode cX8_look 165 = .ok (.getfield 36, 3) := by decide +kernel
theorem dX8_look_168 : decode cX8_look 168 = .ok (.iload_n 1, 1) := by decide +kernel
theorem dX8_look_169 : decode cX8_look 169 = .ok (.iload 7, 2) := by decide +kernel
theorem dX8_look_171 : decode cX8_look 171 = .ok (.ifCond .eq 7, 3) := by decide +kernel
theorem dX8_look_174 : decode cX8_look 174 = .ok (.iload_n 3, 1) := by decide +kernel
theorem dX8_look_175 : decode cX8_look 175 = .ok (.goto 9, 3) := by decide +kernel
theorem dX8_look_178 : decode cX8_look 178 = .ok (.aload_n 0, 1) := by decide +kernel
theorem dX8_look_179 : decode cX8_look 179 = .ok (.getfield 36, 3) := by decide +kernel
theorem dX8_look_182 : decode cX8_look 182 = .ok (.iload_n 1, 1) := by decide +kernel
theorem dX8_look_183 : decode cX8_look 183 = .ok (.iaload, 1) := by decide +kernel
theorem dX8_look_184 : decode cX8_look 184 = .ok (.iastore, 1) := by decide +kernel
theorem dX8_look_185 : decode cX8_look 185 = .ok (.aload_n 0, 1) := by decide +kernel
theorem dX8_look_186 : decode cX8_look 186 = .ok (.getfield 39, 3) := by decide +kernel
theorem dX8_look_189 : decode cX8_look 189 = .ok (.iload_n 1, 1) := by decide +kernel
theorem dX8_look_190 : decode cX8_look 190 = .ok (.iload 8, 2) := by decide +kernel
theorem dX8_look_192 : decode cX8_look 192 = .ok (.ifCond .eq 7, 3) := by decide +kernel
theorem dX8_look_195 : decode cX8_look 195 = .ok (.iload_n 3, 1) := by decide +kernel
theorem dX8_look_196 : decode cX8_look 196 = .ok (.goto 9, 3) := by decide +kernel
theorem dX8_look_199 : decode cX8_look 199 = .ok (.aload_n 0, 1) := by decide +kernel
theorem dX8_look_200 : decode cX8_look 200 = .ok (.getfield 39, 3) := by decide +kernel
theorem dX8_look_203 : decode cX8_look 203 = .ok (.iload_n 1, 1) := by decide +kernel
theorem dX8_look_204 : decode cX8_look 204 = .ok (.iaload, 1) := by decide +kernel
theorem dX8_look_205 : decode cX8_look 205 = .ok (.iastore, 1) := by decide +kernel
theorem dX8_look_206 : decode cX8_look 206 = .ok (.iload 7, 2) := by decide +kernel
theorem dX8_look_208 : decode cX8_look 208 = .ok (.ifCond .ne 8, 3) := by decide +kernel
theorem dX8_look_211 : decode cX8_look 211 = .ok (.iload 8, 2) := by decide +kernel
theorem dX8_look_213 : decode cX8_look 213 = .ok (.ifCond .eq 7, 3) := by decide +kernel
theorem dX8_look_216 : decode cX8_look 216 = .ok (.iconst 1, 1) := by decide +kernel
theorem dX8_look_217 : decode cX8_look 217 = .ok (.goto 4, 3) := by decide +kernel
theorem dX8_look_220 : decode cX8_look 220 = .ok (.iconst 0, 1) := by decide +kernel
theorem dX8_look_221 : decode cX8_look 221 = .ok (.ireturn, 1) := by decide +kernel
set_option maxRecDepth 20000 in
theorem ggX8_kindOf_X8_isMet : GoodIn wsX8_kindOf wsX8_isMet := goodIn_r _ [7, 8, 9, 10, 6, 11, 12, 13, 14, 15, 16, 17, 18, 19, 20, 21, 22, 23, 24, 25, 26, 27, 28, 29, 30, 31, 32, 33, 34] (by decide +kernel) (by decide +kernel)
set_option maxRecDepth 20000 in
theorem gX8_kindOf_X8_isMet : GoodIn wsX8_kindOf (wsV RX8 152 RX8 yX8_isMet wsX8_isMet) := goodIn_app (goodIn_of _ (by decide +kernel)) ggX8_kindOf_X8_isMet
theorem dX8_kindOf_0 : decode cX8_kindOf 0 = .ok (.aload_n 0, 1) := by decide +kernel
theorem dX8_kindOf_1 : decode cX8_kindOf 1 = .ok (.iload_n 1, 1) := by decide +kernel
theorem dX8_kindOf_2 : decode cX8_kindOf 2 = .ok (.invokevirtual 152, 3) := by decide +kernel
theorem dX8_kindOf_5 : decode cX8_kindOf 5 = .ok (.ifCond .eq 7, 3) := by decide +kernel
theorem dX8_kindOf_8 : decode cX8_kindOf 8 = .ok (.iconst 0, 1) := by decide +kernel
theorem dX8_kindOf_9 : decode cX8_kindOf 9 = .ok (.goto 30, 3) := by decide +kernel
theorem dX8_kindOf_12 : decode cX8_kindOf 12 = .ok (.aload_n 0, 1) := by decide +kernel
theorem dX8_kindOf_13 : decode cX8_kindOf 13 = .ok (.getfield 39, 3) := by decide +kernel
theorem dX8_kindOf_16 : decode cX8_kindOf 16 = .ok (.iload_n 1, 1) := by decide +kernel
theorem dX8_kindOf_17 : decode cX8_kindOf 17 = .ok (.iaload, 1) := by decide +kernel
theorem dX8_kindOf_18 : decode cX8_kindOf 18 = .ok (.ifCond .lt 7, 3) := by decide +kernel
theorem dX8_kindOf_21 : decode cX8_kindOf 21 = .ok (.iconst 1, 1) := by decide +kernel
theorem dX8_kindOf_22 : decode cX8_kindOf 22 = .ok (.goto 17, 3) := by decide +kernel
theorem dX8_kindOf_25 : decode cX8_kindOf 25 = .ok (.aload_n 0, 1) := by decide +kernel
theorem dX8_kindOf_26 : decode cX8_kindOf 26 = .ok (.getfield 36, 3) := by decide +kernel
theorem dX8_kindOf_29 : decode cX8_kindOf 29 = .ok (.iload_n 1, 1) := by decide +kernel
theorem dX8_kindOf_30 : decode cX8_kindOf 30 = .ok (.iaload, 1) := by decide +kernel
theorem dX8_kindOf_31 : decode cX8_kindOf 31 = .ok (.ifCond .lt 7, 3) := by decide +kernel
theorem dX8_kindOf_34 : decode cX8_kindOf 34 = .ok (.iconst 2, 1) := by decide +kernel
theorem dX8_kindOf_35 : decode cX8_kindOf 35 = .ok (.goto 4, 3) := by decide +kernel
theorem dX8_kindOf_38 : decode cX8_kindOf 38 = .ok (.iconst 3, 1) := by decide +kernel
theorem dX8_kindOf_39 : decode cX8_kindOf 39 = .ok (.ireturn, 1) := by decide +kernel
set_option maxRecDepth 20000 in
theorem ggX8_layNow_X8_begin : GoodIn wsX8_layNow wsX8_begin := goodIn_r _ [5, 6, 7, 8, 9, 10, 106, 107, 108, 109, 110, 111, 112, 113, 114, 115, 116, 117, 118, 119] (by decide +kernel) (by decide +kernel)
set_option maxRecDepth 20000 in
theorem gX8_layNow_X8_begin : GoodIn wsX8_layNow (wsV RX8 161 RX8 yX8_begin wsX8_begin) := goodIn_app (goodIn_of _ (by decide +kernel)) ggX8_layNow_X8_begin
set_option maxRecDepth 20000 in
theorem ggX8_layNow_X8_now : GoodIn wsX8_layNow wsX8_now := goodIn_r _ [14, 15, 16, 17, 18, 19, 4, 20, 106, 107, 108, 109, 110, 111, 112, 113, 114, 115, 116, 117, 118, 119] (by decide +kernel) (by decide +kernel)
set_option maxRecDepth 20000 in
theorem gX8_layNow_X8_now : GoodIn wsX8_layNow (wsV RX8 83 RX8 yX8_now wsX8_now) := goodIn_app (goodIn_of _ (by decide +kernel)) ggX8_layNow_X8_now
set_option maxRecDepth 20000 in
theorem ggX8_layNow_X8_note : GoodIn wsX8_layNow wsX8_note := goodIn_r _ [24, 7, 25, 8, 10, 16, 9, 26, 27, 28, 29, 4, 30, 17, 18, 19, 20, 15, 31, 32, 33, 34, 35, 36, 37, 38, 39, 40, 41, 42, 43, 44, 45, 46, 47, 48, 49, 50, 51, 52, 53, 54, 55, 56, 57, 58, 59, 60, 61, 62, 63, 64, 65, 66, 67, 68, 69, 70, 71, 72, 106, 107, 108, 109, 110, 111, 112, 113, 114, 115, 116, 117, 118, 119] (by decide +kernel) (by decide +kernel)
set_option maxRecDepth 20000 in
theorem gX8_layNow_X8_note : GoodIn wsX8_layNow (wsV RX8 148 RX8 yX8_note wsX8_note) := goodIn_app (goodIn_of _ (by decide +kernel)) ggX8_layNow_X8_note
set_option maxRecDepth 20000 in
theorem ggX8_layNow_X8_listAll : GoodIn wsX8_layNow wsX8_listAll := goodIn_r _ [76, 8, 25, 77, 78, 79, 80, 81, 4, 82, 26, 27, 28, 29, 30, 16, 17, 18, 19, 20, 15, 83, 84, 85, 86, 87, 88, 89, 90, 31, 32, 33, 61, 62, 63, 64, 21, 22, 23, 24, 7, 10, 9, 34, 35, 36, 37, 38, 39, 40, 41, 42, 43, 44, 45, 46, 47, 48, 49, 50, 51, 52, 53, 54, 55, 56, 57, 58, 59, 60, 65, 66, 67, 68, 69, 70, 71, 72, 91, 92, 93, 94, 95, 96, 97, 98, 99, 100, 101, 102, 103, 104, 105, 106, 107, 108, 109, 110, 111, 112, 113, 114, 115, 116, 117, 118, 119] (by decide +kernel) (by decide +kernel)
set_option maxRecDepth 20000 in
theorem gX8_layNow_X8_listAll : GoodIn wsX8_layNow (wsV RX8 165 RX8 yX8_listAll wsX8_listAll) := goodIn_app (goodIn_of _ (by decide +kernel)) ggX8_layNow_X8_listAll
theorem dX8_layNow_0 : decode cX8_layNow 0 = .ok (.aload_n 0, 1) := by decide +kernel
theorem dX8_layNow_1 : decode cX8_layNow 1 = .ok (.iload_n 2, 1) := by decide +kernel
theorem dX8_layNow_2 : decode cX8_layNow 2 = .ok (.invokevirtual 161, 3) := by decide +kernel
theorem dX8_layNow_5 : decode cX8_layNow 5 = .ok (.aload_n 0, 1) := by decide +kernel
theorem dX8_layNow_6 : decode cX8_layNow 6 = .ok (.aload_n 0, 1) := by decide +kernel
theorem dX8_layNow_7 : decode cX8_layNow 7 = .ok (.invokevirtual 83, 3) := by decide +kernel
theorem dX8_layNow_10 : decode cX8_layNow 10 = .ok (.invokevirtual 148, 3) := by decide +kernel
theorem dX8_layNow_13 : decode cX8_layNow 13 = .ok (.aload_n 0, 1) := by decide +kernel
theorem dX8_layNow_14 : decode cX8_layNow 14 = .ok (.iload_n 1, 1) := by decide +kernel
theorem dX8_layNow_15 : decode cX8_layNow 15 = .ok (.invokevirtual 165, 3) := by decide +kernel
theorem dX8_layNow_18 : decode cX8_layNow 18 = .ok (.return_, 1) := by decide +kernel
set_option maxRecDepth 20000 in
theorem ggX8_stuck_X8_isMet : GoodIn wsX8_stuck wsX8_isMet := goodIn_r _ [7, 8, 9, 10, 6, 11, 12, 13, 14, 15, 16, 17, 18, 19, 20, 26, 27, 28, 29, 30, 31, 32, 33, 34, 35, 36, 37, 38, 39] (by decide +kernel) (by decide +kernel)
set_option maxRecDepth 20000 in
theorem gX8_stuck_X8_isMet : GoodIn wsX8_stuck (wsV RX8 152 RX8 yX8_isMet wsX8_isMet) := goodIn_app (goodIn_of _ (by decide +kernel)) ggX8_stuck_X8_isMet
set_option maxRecDepth 20000 in
theorem ggX8_stuck_X8_movers : GoodIn wsX8_stuck wsX8_movers := goodIn_r _ [24, 25, 8, 9, 10, 6, 11, 12, 13, 14, 15, 16, 17, 26, 27, 28, 29, 30, 31, 32, 33, 34, 35, 36, 37, 38, 39] (by decide +kernel) (by decide +kernel)
set_option maxRecDepth 20000 in
theorem gX8_stuck_X8_movers : GoodIn wsX8_stuck (wsV RX8 139 RX8 yX8_movers wsX8_movers) := goodIn_app (goodIn_of _ (by decide +kernel)) ggX8_stuck_X8_movers
theorem dX8_stuck_0 : decode cX8_stuck 0 = .ok (.iconst 0, 1) := by decide +kernel
theorem dX8_stuck_1 : decode cX8_stuck 1 = .ok (.istore_n 1, 1) := by decide +kernel
theorem dX8_stuck_2 : decode cX8_stuck 2 = .ok (.iconst 0, 1) := by decide +kernel
theorem dX8_stuck_3 : decode cX8_stuck 3 = .ok (.istore_n 2, 1) := by decide +kernel
theorem dX8_stuck_4 : decode cX8_stuck 4 = .ok (.iload_n 2, 1) := by decide +kernel
theorem dX8_stuck_5 : decode cX8_stuck 5 = .ok (.aload_n 0, 1) := by decide +kernel
theorem dX8_stuck_6 : decode cX8_stuck 6 = .ok (.getfield 128, 3) := by decide +kernel
theorem dX8_stuck_9 : decode cX8_stuck 9 = .ok (.if_icmp .ge 43, 3) := by decide +kernel
theorem dX8_stuck_12 : decode cX8_stuck 12 = .ok (.iload_n 1, 1) := by decide +kernel
theorem dX8_stuck_13 : decode cX8_stuck 13 = .ok (.aload_n 0, 1) := by decide +kernel
theorem dX8_stuck_14 : decode cX8_stuck 14 = .ok (.aload_n 0, 1) := by decide +kernel
theorem dX8_stuck_15 : decode cX8_stuck 15 = .ok (.getfield 27, 3) := by decide +kernel
theorem dX8_stuck_18 : decode cX8_stuck 18 = .ok (.iload_n 2, 1) := by decide +kernel
theorem dX8_stuck_19 : decode cX8_stuck 19 = .ok (.iaload, 1) := by decide +kernel
theorem dX8_stuck_20 : decode cX8_stuck 20 = .ok (.invokevirtual 152, 3) := by decide +kernel
theorem dX8_stuck_23 : decode cX8_stuck 23 = .ok (.ifCond .ne 20, 3) := by decide +kernel
theorem dX8_stuck_26 : decode cX8_stuck 26 = .ok (.aload_n 0, 1) := by decide +kernel
theorem dX8_stuck_27 : decode cX8_stuck 27 = .ok (.aload_n 0, 1) := by decide +kernel
theorem dX8_stuck_28 : decode cX8_stuck 28 = .ok (.getfield 27, 3) := by decide +kernel
theorem dX8_stuck_31 : decode cX8_stuck 31 = .ok (.iload_n 2, 1) := by decide +kernel
theorem dX8_stuck_32 : decode cX8_stuck 32 = .ok (.iaload, 1) := by decide +kernel
theorem dX8_stuck_33 : decode cX8_stuck 33 = .ok (.invokevirtual 139, 3) := by decide +kernel
theorem dX8_stuck_36 : decode cX8_stuck 36 = .ok (.ifCond .ne 7, 3) := by decide +kernel
theorem dX8_stuck_39 : decode cX8_stuck 39 = .ok (.iconst 1, 1) := by decide +kernel
theorem dX8_stuck_40 : decode cX8_stuck 40 = .ok (.goto 4, 3) := by decide +kernel
theorem dX8_stuck_43 : decode cX8_stuck 43 = .ok (.iconst 0, 1) := by decide +kernel
theorem dX8_stuck_44 : decode cX8_stuck 44 = .ok (.iadd, 1) := by decide +kernel
theorem dX8_stuck_45 : decode cX8_stuck 45 = .ok (.istore_n 1, 1) := by decide +kernel
theorem dX8_stuck_46 : decode cX8_stuck 46 = .ok (.iinc 2 1, 3) := by decide +kernel
theorem dX8_stuck_49 : decode cX8_stuck 49 = .ok (.goto (-45), 3) := by decide +kernel
theorem dX8_stuck_52 : decode cX8_stuck 52 = .ok (.iload_n 1, 1) := by decide +kernel
theorem dX8_stuck_53 : decode cX8_stuck 53 = .ok (.ireturn, 1) := by decide +kernel
set_option maxRecDepth 20000 in
theorem ggX8_meets_X8_isSchedule : GoodIn wsX8_meets wsX8_isSchedule := goodIn_r _ [7, 8, 9, 6, 10] (by decide +kernel) (by decide +kernel)
set_option maxRecDepth 20000 in
theorem gX8_meets_X8_isSchedule : GoodIn wsX8_meets (va_wsS RX8 168 yX8_isSchedule wsX8_isSchedule) := goodIn_app (goodIn_of _ (by decide +kernel)) ggX8_meets_X8_isSchedule
set_option maxRecDepth 20000 in
theorem ggX8_meets_X8_in : GoodIn wsX8_meets wsX8_in := goodIn_r _ [10] (by decide +kernel) (by decide +kernel)
set_option maxRecDepth 20000 in
theorem gX8_meets_X8_in : GoodIn wsX8_meets (va_wsS RX8 49 yX8_in wsX8_in) := goodIn_app (goodIn_of _ (by decide +kernel)) ggX8_meets_X8_in
set_option maxRecDepth 20000 in
theorem ggX8_meets_X8_now : GoodIn wsX8_meets wsX8_now := goodIn_r _ [14, 15, 16, 17, 18, 19, 6, 20, 121, 122, 123, 124, 125, 126, 127, 128, 129, 130, 131, 132, 133, 134] (by decide +kernel) (by decide +kernel)
set_option maxRecDepth 20000 in
theorem gX8_meets_X8_now : GoodIn wsX8_meets (wsV RX8 83 RX8 yX8_now wsX8_now) := goodIn_app (goodIn_of _ (by decide +kernel)) ggX8_meets_X8_now
set_option maxRecDepth 20000 in
theorem ggX8_meets_X8_layNow : GoodIn wsX8_meets wsX8_layNow := goodIn_r _ [24, 25, 26, 27, 6, 28, 29, 30, 3, 31, 32, 11, 12, 13, 14, 15, 16, 17, 18, 19, 20, 33, 34, 35, 36, 37, 38, 39, 40, 41, 42, 43, 44, 45, 46, 47, 48, 49, 50, 51, 52, 53, 54, 55, 56, 57, 58, 59, 60, 61, 62, 63, 64, 65, 66, 67, 68, 69, 70, 71, 72, 73, 74, 75, 76, 77, 78, 79, 80, 81, 82, 83, 84, 85, 86, 87, 88, 1, 2, 89, 90, 91, 92, 93, 94, 95, 96, 97, 98, 99, 100, 101, 102, 103, 104, 105, 106, 107, 108, 109, 110, 111, 112, 8, 9, 10, 121, 122, 123, 124, 125, 126, 127, 128, 129, 130, 131, 132, 133, 134] (by decide +kernel) (by decide +kernel)
set_option maxRecDepth 20000 in
theorem gX8_meets_X8_layNow : GoodIn wsX8_meets (wsV RX8 171 RX8 yX8_layNow wsX8_layNow) := goodIn_app (goodIn_of _ (by decide +kernel)) ggX8_meets_X8_layNow
set_option maxRecDepth 20000 in
theorem ggX8_meets_X8_kindOf : GoodIn wsX8_meets wsX8_kindOf := goodIn_r _ [116, 2, 1, 101, 102, 103, 6, 104, 39, 40, 41, 42, 16, 17, 18, 19, 20, 15, 54, 55, 56, 121, 122, 123, 124, 125, 126, 127, 128, 129, 130, 131, 132, 133, 134] (by decide +kernel) (by decide +kernel)
set_option maxRecDepth 20000 in
theorem gX8_meets_X8_kindOf : GoodIn wsX8_meets (wsV RX8 175 RX8 yX8_kindOf wsX8_kindOf) := goodIn_app (goodIn_of _ (by decide +kernel)) ggX8_meets_X8_kindOf
set_option maxRecDepth 20000 in
theorem ggX8_meets_X8_stuck : GoodIn wsX8_meets wsX8_stuck := goodIn_r _ [120, 3, 37, 101, 102, 103, 6, 104, 39, 40, 41, 42, 16, 17, 18, 19, 20, 15, 54, 55, 56, 89, 90, 91, 92, 38, 121, 122, 123, 124, 125, 126, 127, 128, 129, 130, 131, 132, 133, 134] (by decide +kernel) (by decide +kernel)
set_option maxRecDepth 20000 in
theorem gX8_meets_X8_stuck : GoodIn wsX8_meets (wsV RX8 178 RX8 yX8_stuck wsX8_stuck) := goodIn_app (goodIn_of _ (by decide +kernel)) ggX8_meets_X8_stuck
theorem dX8_meets_0 : decode cX8_meets 0 = .ok (.iload_n 1, 1) := by decide +kernel
theorem dX8_meets_1 : decode cX8_meets 1 = .ok (.invokestatic 168, 3) := by decide +kernel
theorem dX8_meets_4 : decode cX8_meets 4 = .ok (.ifCond .eq 12, 3) := by decide +kernel
theorem dX8_meets_7 : decode cX8_meets 7 = .ok (.iload_n 2, 1) := by decide +kernel
theorem dX8_meets_8 : decode cX8_meets 8 = .ok (.iconst 0, 1) := by decide +kernel
theorem dX8_meets_9 : decode cX8_meets 9 = .ok (.iconst 4, 1) := by decide +kernel
theorem dX8_meets_10 : decode cX8_meets 10 = .ok (.invokestatic 49, 3) := by decide +kernel
theorem dX8_meets_13 : decode cX8_meets 13 = .ok (.ifCond .ne 6, 3) := by decide +kernel
theorem dX8_meets_16 : decode cX8_meets 16 = .ok (.bipush (-2), 2) := by decide +kernel
theorem dX8_meets_18 : decode cX8_meets 18 = .ok (.ireturn, 1) := by decide +kernel
theorem dX8_meets_19 : decode cX8_meets 19 = .ok (.aload_n 0, 1) := by decide +kernel
theorem dX8_meets_20 : decode cX8_meets 20 = .ok (.invokevirtual 83, 3) := by decide +kernel
theorem dX8_meets_23 : decode cX8_meets 23 = .ok (.istore_n 3, 1) := by decide +kernel
theorem dX8_meets_24 : decode cX8_meets 24 = .ok (.iload_n 3, 1) := by decide +kernel
theorem dX8_meets_25 : decode cX8_meets 25 = .ok (.ifCond .ne 6, 3) := by decide +kernel
theorem dX8_meets_28 : decode cX8_meets 28 = .ok (.bipush (-3), 2) := by decide +kernel
theorem dX8_meets_30 : decode cX8_meets 30 = .ok (.ireturn, 1) := by decide +kernel
theorem dX8_meets_31 : decode cX8_meets 31 = .ok (.aload_n 0, 1) := by decide +kernel
theorem dX8_meets_32 : decode cX8_meets 32 = .ok (.iload_n 1, 1) := by decide +kernel
theorem dX8_meets_33 : decode cX8_meets 33 = .ok (.iconst 0, 1) := by decide +kernel
theorem dX8_meets_34 : decode cX8_meets 34 = .ok (.invokevirtual 171, 3) := by decide +kernel
theorem dX8_meets_37 : decode cX8_meets 37 = .ok (.iload_n 2, 1) := by decide +kernel
theorem dX8_meets_38 : decode cX8_meets 38 = .ok (.tableswitch 55 0 3 #[30, 37, 44, 50], 30) := by decide +kernel
theorem dX8_meets_68 : decode cX8_meets 68 = .ok (.aload_n 0, 1) := by decide +kernel
theorem dX8_meets_69 : decode cX8_meets 69 = .ok (.getfield 36, 3) := by decide +kernel
theorem dX8_meets_72 : decode cX8_meets 72 = .ok (.iload_n 3, 1) := by decide +kernel
theorem dX8_meets_73 : decode cX8_meets 73 = .ok (.iaload, 1) := by decide +kernel
theorem dX8_meets_74 : decode cX8_meets 74 = .ok (.ireturn, 1) := by decide +kernel
theorem dX8_meets_75 : decode cX8_meets 75 = .ok (.aload_n 0, 1) := by decide +kernel
theorem dX8_meets_76 : decode cX8_meets 76 = .ok (.getfield 39, 3) := by decide +kernel
theorem dX8_meets_79 : decode cX8_meets 79 = .ok (.iload_n 3, 1) := by decide +kernel
theorem dX8_meets_80 : decode cX8_meets 80 = .ok (.iaload, 1) := by decide +kernel
theorem dX8_meets_81 : decode cX8_meets 81 = .ok (.ireturn, 1) := by decide +kernel
theorem dX8_meets_82 : decode cX8_meets 82 = .ok (.aload_n 0, 1) := by decide +kernel
theorem dX8_meets_83 : decode cX8_meets 83 = .ok (.iload_n 3, 1) := by decide +kernel
theorem dX8_meets_84 : decode cX8_meets 84 = .ok (.invokevirtual 175, 3) := by decide +kernel
theorem dX8_meets_87 : decode cX8_meets 87 = .ok (.ireturn, 1) := by decide +kernel
theorem dX8_meets_88 : decode cX8_meets 88 = .ok (.aload_n 0, 1) := by decide +kernel
theorem dX8_meets_89 : decode cX8_meets 89 = .ok (.getfield 128, 3) := by decide +kernel
theorem dX8_meets_92 : decode cX8_meets 92 = .ok (.ireturn, 1) := by decide +kernel
theorem dX8_meets_93 : decode cX8_meets 93 = .ok (.aload_n 0, 1) := by decide +kernel
theorem dX8_meets_94 : decode cX8_meets 94 = .ok (.invokevirtual 178, 3) := by decide +kernel
theorem dX8_meets_97 : decode cX8_meets 97 = .ok (.ireturn, 1) := by decide +kernel
set_option maxRecDepth 20000 in
theorem ggX8_first_X8_isSchedule : GoodIn wsX8_first wsX8_isSchedule := goodIn_r _ [5, 6, 7, 4, 8] (by decide +kernel) (by decide +kernel)
set_option maxRecDepth 20000 in
theorem gX8_first_X8_isSchedule : GoodIn wsX8_first (va_wsS RX8 168 yX8_isSchedule wsX8_isSchedule) := goodIn_app (goodIn_of _ (by decide +kernel)) ggX8_first_X8_isSchedule
set_option maxRecDepth 20000 in
theorem ggX8_first_X8_now : GoodIn wsX8_first wsX8_now := goodIn_r _ [12, 13, 14, 15, 16, 17, 4, 18, 113, 114, 115, 116, 117, 118, 119, 120, 121, 122, 123, 124, 125, 126] (by decide +kernel) (by decide +kernel)
set_option maxRecDepth 20000 in
theorem gX8_first_X8_now : GoodIn wsX8_first (wsV RX8 83 RX8 yX8_now wsX8_now) := goodIn_app (goodIn_of _ (by decide +kernel)) ggX8_first_X8_now
set_option maxRecDepth 20000 in
theorem ggX8_first_X8_layNow : GoodIn wsX8_first wsX8_layNow := goodIn_r _ [22, 23, 24, 25, 4, 26, 27, 28, 29, 30, 31, 9, 10, 11, 12, 13, 14, 15, 16, 17, 18, 32, 33, 34, 35, 36, 37, 38, 39, 40, 41, 42, 43, 44, 45, 46, 47, 48, 49, 50, 51, 52, 53, 54, 55, 56, 57, 58, 59, 60, 61, 62, 63, 64, 65, 66, 67, 68, 69, 70, 71, 72, 73, 74, 75, 76, 77, 78, 79, 80, 81, 82, 83, 84, 85, 86, 87, 1, 88, 89, 90, 91, 92, 93, 94, 95, 96, 97, 98, 99, 100, 101, 102, 103, 104, 105, 106, 107, 108, 109, 110, 111, 112, 6, 7, 8, 113, 114, 115, 116, 117, 118, 119, 120, 121, 122, 123, 124, 125, 126] (by decide +kernel) (by decide +kernel)
set_option maxRecDepth 20000 in
theorem gX8_first_X8_layNow : GoodIn wsX8_first (wsV RX8 171 RX8 yX8_layNow wsX8_layNow) := goodIn_app (goodIn_of _ (by decide +kernel)) ggX8_first_X8_layNow
set_option maxRecDepth 20000 in
theorem ggX8_first_X8_movers : GoodIn wsX8_first wsX8_movers := goodIn_r _ [92, 37, 38, 39, 40, 4, 41, 14, 15, 16, 17, 18, 13, 113, 114, 115, 116, 117, 118, 119, 120, 121, 122, 123, 124, 125, 126] (by decide +kernel) (by decide +kernel)
set_option maxRecDepth 20000 in
theorem gX8_first_X8_movers : GoodIn wsX8_first (wsV RX8 139 RX8 yX8_movers wsX8_movers) := goodIn_app (goodIn_of _ (by decide +kernel)) ggX8_first_X8_movers
set_option maxRecDepth 20000 in
theorem ggX8_first_X8_mayBe : GoodIn wsX8_first wsX8_mayBe := goodIn_r _ [95] (by decide +kernel) (by decide +kernel)
set_option maxRecDepth 20000 in
theorem gX8_first_X8_mayBe : GoodIn wsX8_first (va_wsS RX8 142 yX8_mayBe wsX8_mayBe) := goodIn_app (goodIn_of _ (by decide +kernel)) ggX8_first_X8_mayBe
set_option maxRecDepth 20000 in
theorem ggX8_first_X8_behindStep : GoodIn wsX8_first wsX8_behindStep := goodIn_r _ [99, 100, 14, 37, 15, 16, 17, 4, 18, 13, 42, 43, 44, 72, 73, 74, 75, 113, 114, 115, 116, 117, 118, 119, 120, 121, 122, 123, 124, 125, 126] (by decide +kernel) (by decide +kernel)
set_option maxRecDepth 20000 in
theorem gX8_first_X8_behindStep : GoodIn wsX8_first (wsV RX8 145 RX8 yX8_behindStep wsX8_behindStep) := goodIn_app (goodIn_of _ (by decide +kernel)) ggX8_first_X8_behindStep
theorem dX8_first_0 : decode cX8_first 0 = .ok (.iload_n 1, 1) := by decide +kernel
theorem dX8_first_1 : decode cX8_first 1 = .ok (.invokestatic 168, 3) := by decide +kernel
theorem dX8_first_4 : decode cX8_first 4 = .ok (.ifCond .ne 6, 3) := by decide +kernel
theorem dX8_first_7 : decode cX8_first 7 = .ok (.bipush (-2), 2) := by decide +kernel
theorem dX8_first_9 : decode cX8_first 9 = .ok (.ireturn, 1) := by decide +kernel
theorem dX8_first_10 : decode cX8_first 10 = .ok (.aload_n 0, 1) := by decide +kernel
theorem dX8_first_11 : decode cX8_first 11 = .ok (.invokevirtual 83, 3) := by decide +kernel
theorem dX8_first_14 : decode cX8_first 14 = .ok (.istore_n 2, 1) := by decide +kernel
theorem dX8_first_15 : decode cX8_first 15 = .ok (.iload_n 2, 1) := by decide +kernel
theorem dX8_first_16 : decode cX8_first 16 = .ok (.ifCond .ne 6, 3) := by decide +kernel
theorem dX8_first_19 : decode cX8_first 19 = .ok (.bipush (-3), 2) := by decide +kernel
theorem dX8_first_21 : decode cX8_first 21 = .ok (.ireturn, 1) := by decide +kernel
theorem dX8_first_22 : decode cX8_first 22 = .ok (.aload_n 0, 1) := by decide +kernel
theorem dX8_first_23 : decode cX8_first 23 = .ok (.iload_n 1, 1) := by decide +kernel
theorem dX8_first_24 : decode cX8_first 24 = .ok (.iconst 0, 1) := by decide +kernel
theorem dX8_first_25 : decode cX8_first 25 = .ok (.invokevirtual 171, 3) := by decide +kernel
theorem dX8_first_28 : decode cX8_first 28 = .ok (.aload_n 0, 1) := by decide +kernel
theorem dX8_first_29 : decode cX8_first 29 = .ok (.iload_n 2, 1) := by decide +kernel
theorem dX8_first_30 : decode cX8_first 30 = .ok (.invokevirtual 139, 3) := by decide +kernel
theorem dX8_first_33 : decode cX8_first 33 = .ok (.istore_n 3, 1) := by decide +kernel
theorem dX8_first_34 : decode cX8_first 34 = .ok (.iload_n 3, 1) := by decide +kernel
theorem dX8_first_35 : decode cX8_first 35 = .ok (.ineg, 1) := by decide +kernel
theorem dX8_first_36 : decode cX8_first 36 = .ok (.iload_n 3, 1) := by decide +kernel
theorem dX8_first_37 : decode cX8_first 37 = .ok (.iand, 1) := by decide +kernel
theorem dX8_first_38 : decode cX8_first 38 = .ok (.istore 4, 2) := by decide +kernel
theorem dX8_first_40 : decode cX8_first 40 = .ok (.iload 4, 2) := by decide +kernel
theorem dX8_first_42 : decode cX8_first 42 = .ok (.ifCond .eq 59, 3) := by decide +kernel
theorem dX8_first_45 : decode cX8_first 45 = .ok (.aload_n 0, 1) := by decide +kernel
theorem dX8_first_46 : decode cX8_first 46 = .ok (.getfield 36, 3) := by decide +kernel
theorem dX8_first_49 : decode cX8_first 49 = .ok (.iload_n 2, 1) := by decide +kernel
theorem dX8_first_50 : decode cX8_first 50 = .ok (.iaload, 1) := by decide +kernel
theorem dX8_first_51 : decode cX8_first 51 = .ok (.ifCond .le 50, 3) := by decide +kernel
theorem dX8_first_54 : decode cX8_first 54 = .ok (.iload_n 1, 1) := by decide +kernel
theorem dX8_first_55 : decode cX8_first 55 = .ok (.iload 4, 2) := by decide +kernel
theorem dX8_first_57 : decode cX8_first 57 = .ok (.iload_n 3, 1) := by decide +kernel
theorem dX8_first_58 : decode cX8_first 58 = .ok (.invokestatic 142, 3) := by decide +kernel
theorem dX8_first_61 : decode cX8_first 61 = .ok (.ifCond .eq 29, 3) := by decide +kernel
theorem dX8_first_64 : decode cX8_first 64 = .ok (.aload_n 0, 1) := by decide +kernel
theorem dX8_first_65 : decode cX8_first 65 = .ok (.getfield 36, 3) := by decide +kernel
theorem dX8_first_68 : decode cX8_first 68 = .ok (.aload_n 0, 1) := by decide +kernel
theorem dX8_first_69 : decode cX8_first 69 = .ok (.iload_n 2, 1) := by decide +kernel
theorem dX8_first_70 : decode cX8_first 70 = .ok (.iload 4, 2) := by decide +kernel
theorem dX8_first_72 : decode cX8_first 72 = .ok (.invokevirtual 145, 3) := by decide +kernel
theorem dX8_first_75 : decode cX8_first 75 = .ok (.iaload, 1) := by decide +kernel
theorem dX8_first_76 : decode cX8_first 76 = .ok (.aload_n 0, 1) := by decide +kernel
theorem dX8_first_77 : decode cX8_first 77 = .ok (.getfield 36, 3) := by decide +kernel
theorem dX8_first_80 : decode cX8_first 80 = .ok (.iload_n 2, 1) := by decide +kernel
theorem dX8_first_81 : decode cX8_first 81 = .ok (.iaload, 1) := by decide +kernel
theorem dX8_first_82 : decode cX8_first 82 = .ok (.iconst 1, 1) := by decide +kernel
theorem dX8_first_83 : decode cX8_first 83 = .ok (.isub, 1) := by decide +kernel
theorem dX8_first_84 : decode cX8_first 84 = .ok (.if_icmp .ne 6, 3) := by decide +kernel
theorem dX8_first_87 : decode cX8_first 87 = .ok (.iload 4, 2) := by decide +kernel
theorem dX8_first_89 : decode cX8_first 89 = .ok (.ireturn, 1) := by decide +kernel
theorem dX8_first_90 : decode cX8_first 90 = .ok (.iload 4, 2) := by decide +kernel
theorem dX8_first_92 : decode cX8_first 92 = .ok (.iload_n 3, 1) := by decide +kernel
theorem dX8_first_93 : decode cX8_first 93 = .ok (.isub, 1) := by decide +kernel
theorem dX8_first_94 : decode cX8_first 94 = .ok (.iload_n 3, 1) := by decide +kernel
theorem dX8_first_95 : decode cX8_first 95 = .ok (.iand, 1) := by decide +kernel
theorem dX8_first_96 : decode cX8_first 96 = .ok (.istore 4, 2) := by decide +kernel
theorem dX8_first_98 : decode cX8_first 98 = .ok (.goto (-58), 3) := by decide +kernel
theorem dX8_first_101 : decode cX8_first 101 = .ok (.bipush (-6), 2) := by decide +kernel
theorem dX8_first_103 : decode cX8_first 103 = .ok (.ireturn, 1) := by decide +kernel
set_option maxRecDepth 20000 in
theorem ggX8_blind_X8_isSchedule : GoodIn wsX8_blind wsX8_isSchedule := goodIn_r _ [4, 5, 6, 3, 7] (by decide +kernel) (by decide +kernel)
set_option maxRecDepth 20000 in
theorem gX8_blind_X8_isSchedule : GoodIn wsX8_blind (va_wsS RX8 168 yX8_isSchedule wsX8_isSchedule) := goodIn_app (goodIn_of _ (by decide +kernel)) ggX8_blind_X8_isSchedule
set_option maxRecDepth 20000 in
theorem ggX8_blind_X8_now : GoodIn wsX8_blind wsX8_now := goodIn_r _ [11, 12, 13, 14, 15, 16, 3, 17, 117, 118, 119, 120, 121, 122, 123, 124, 125, 126, 127, 128, 129, 130] (by decide +kernel) (by decide +kernel)
set_option maxRecDepth 20000 in
theorem gX8_blind_X8_now : GoodIn wsX8_blind (wsV RX8 83 RX8 yX8_now wsX8_now) := goodIn_app (goodIn_of _ (by decide +kernel)) ggX8_blind_X8_now
set_option maxRecDepth 20000 in
theorem ggX8_blind_X8_layNow : GoodIn wsX8_blind wsX8_layNow := goodIn_r _ [21, 22, 23, 24, 3, 25, 26, 27, 28, 29, 30, 8, 9, 10, 11, 12, 13, 14, 15, 16, 17, 31, 32, 33, 34, 35, 36, 37, 38, 39, 40, 41, 42, 43, 44, 45, 46, 47, 48, 49, 50, 51, 52, 53, 54, 55, 56, 57, 58, 59, 60, 61, 62, 63, 64, 65, 66, 67, 68, 69, 70, 71, 72, 73, 74, 75, 76, 77, 78, 79, 80, 81, 82, 83, 84, 85, 86, 87, 88, 89, 90, 91, 92, 93, 94, 95, 96, 97, 98, 99, 100, 101, 102, 103, 104, 105, 106, 107, 108, 109, 110, 111, 112, 5, 6, 7, 117, 118, 119, 120, 121, 122, 123, 124, 125, 126, 127, 128, 129, 130] (by decide +kernel) (by decide +kernel)
set_option maxRecDepth 20000 in
theorem gX8_blind_X8_layNow : GoodIn wsX8_blind (wsV RX8 171 RX8 yX8_layNow wsX8_layNow) := goodIn_app (goodIn_of _ (by decide +kernel)) ggX8_blind_X8_layNow
set_option maxRecDepth 20000 in
theorem ggX8_blind_X8_kindOf : GoodIn wsX8_blind wsX8_kindOf := goodIn_r _ [116, 88, 87, 101, 102, 103, 3, 104, 37, 38, 39, 40, 13, 14, 15, 16, 17, 12, 52, 53, 54, 117, 118, 119, 120, 121, 122, 123, 124, 125, 126, 127, 128, 129, 130] (by decide +kernel) (by decide +kernel)
set_option maxRecDepth 20000 in
theorem gX8_blind_X8_kindOf : GoodIn wsX8_blind (wsV RX8 175 RX8 yX8_kindOf wsX8_kindOf) := goodIn_app (goodIn_of _ (by decide +kernel)) ggX8_blind_X8_kindOf
theorem dX8_blind_0 : decode cX8_blind 0 = .ok (.iload_n 1, 1) := by decide +kernel
theorem dX8_blind_1 : decode cX8_blind 1 = .ok (.invokestatic 168, 3) := by decide +kernel
theorem dX8_blind_4 : decode cX8_blind 4 = .ok (.ifCond .ne 6, 3) := by decide +kernel
theorem dX8_blind_7 : decode cX8_blind 7 = .ok (.bipush (-2), 2) := by decide +kernel
theorem dX8_blind_9 : decode cX8_blind 9 = .ok (.ireturn, 1) := by decide +kernel
theorem dX8_blind_10 : decode cX8_blind 10 = .ok (.aload_n 0, 1) := by decide +kernel
theorem dX8_blind_11 : decode cX8_blind 11 = .ok (.invokevirtual 83, 3) := by decide +kernel
theorem dX8_blind_14 : decode cX8_blind 14 = .ok (.istore_n 2, 1) := by decide +kernel
theorem dX8_blind_15 : decode cX8_blind 15 = .ok (.iload_n 2, 1) := by decide +kernel
theorem dX8_blind_16 : decode cX8_blind 16 = .ok (.ifCond .ne 6, 3) := by decide +kernel
theorem dX8_blind_19 : decode cX8_blind 19 = .ok (.bipush (-3), 2) := by decide +kernel
theorem dX8_blind_21 : decode cX8_blind 21 = .ok (.ireturn, 1) := by decide +kernel
theorem dX8_blind_22 : decode cX8_blind 22 = .ok (.aload_n 0, 1) := by decide +kernel
theorem dX8_blind_23 : decode cX8_blind 23 = .ok (.iload_n 1, 1) := by decide +kernel
theorem dX8_blind_24 : decode cX8_blind 24 = .ok (.iconst 1, 1) := by decide +kernel
theorem dX8_blind_25 : decode cX8_blind 25 = .ok (.invokevirtual 171, 3) := by decide +kernel
theorem dX8_blind_28 : decode cX8_blind 28 = .ok (.aload_n 0, 1) := by decide +kernel
theorem dX8_blind_29 : decode cX8_blind 29 = .ok (.iload_n 2, 1) := by decide +kernel
theorem dX8_blind_30 : decode cX8_blind 30 = .ok (.invokevirtual 175, 3) := by decide +kernel
theorem dX8_blind_33 : decode cX8_blind 33 = .ok (.ireturn, 1) := by decide +kernel
set_option maxRecDepth 20000 in
theorem ggX8_used_X8_isSchedule : GoodIn wsX8_used wsX8_isSchedule := goodIn_r _ [5, 6, 7, 4, 8] (by decide +kernel) (by decide +kernel)
set_option maxRecDepth 20000 in
theorem gX8_used_X8_isSchedule : GoodIn wsX8_used (va_wsS RX8 168 yX8_isSchedule wsX8_isSchedule) := goodIn_app (goodIn_of _ (by decide +kernel)) ggX8_used_X8_isSchedule
set_option maxRecDepth 20000 in
theorem ggX8_used_X8_now : GoodIn wsX8_used wsX8_now := goodIn_r _ [12, 13, 14, 15, 16, 17, 4, 18, 113, 114, 115, 116, 117, 118, 119, 120, 121, 122, 123, 124, 125, 126] (by decide +kernel) (by decide +kernel)
set_option maxRecDepth 20000 in
theorem gX8_used_X8_now : GoodIn wsX8_used (wsV RX8 83 RX8 yX8_now wsX8_now) := goodIn_app (goodIn_of _ (by decide +kernel)) ggX8_used_X8_now
set_option maxRecDepth 20000 in
theorem ggX8_used_X8_layNow : GoodIn wsX8_used wsX8_layNow := goodIn_r _ [22, 23, 24, 25, 4, 26, 27, 28, 29, 1, 30, 9, 10, 11, 12, 13, 14, 15, 16, 17, 18, 31, 32, 33, 34, 35, 36, 37, 38, 39, 40, 41, 42, 43, 44, 45, 46, 47, 48, 49, 50, 51, 52, 53, 54, 55, 56, 57, 58, 59, 60, 61, 62, 63, 64, 65, 66, 67, 68, 69, 70, 71, 72, 73, 74, 75, 76, 77, 78, 79, 80, 81, 82, 83, 84, 85, 86, 87, 88, 89, 90, 91, 92, 93, 94, 95, 96, 97, 98, 99, 100, 101, 102, 103, 104, 105, 106, 107, 108, 109, 110, 111, 112, 6, 7, 8, 113, 114, 115, 116, 117, 118, 119, 120, 121, 122, 123, 124, 125, 126] (by decide +kernel) (by decide +kernel)
set_option maxRecDepth 20000 in
theorem gX8_used_X8_layNow : GoodIn wsX8_used (wsV RX8 171 RX8 yX8_layNow wsX8_layNow) := goodIn_app (goodIn_of _ (by decide +kernel)) ggX8_used_X8_layNow
theorem dX8_used_0 : decode cX8_used 0 = .ok (.iload_n 1, 1) := by decide +kernel
theorem dX8_used_1 : decode cX8_used 1 = .ok (.invokestatic 168, 3) := by decide +kernel
theorem dX8_used_4 : decode cX8_used 4 = .ok (.ifCond .ne 6, 3) := by decide +kernel
theorem dX8_used_7 : decode cX8_used 7 = .ok (.bipush (-2), 2) := by decide +kernel
theorem dX8_used_9 : decode cX8_used 9 = .ok (.ireturn, 1) := by decide +kernel
theorem dX8_used_10 : decode cX8_used 10 = .ok (.aload_n 0, 1) := by decide +kernel
theorem dX8_used_11 : decode cX8_used 11 = .ok (.invokevirtual 83, 3) := by decide +kernel
theorem dX8_used_14 : decode cX8_used 14 = .ok (.ifCond .ne 6, 3) := by decide +kernel
theorem dX8_used_17 : decode cX8_used 17 = .ok (.bipush (-3), 2) := by decide +kernel
theorem dX8_used_19 : decode cX8_used 19 = .ok (.ireturn, 1) := by decide +kernel
theorem dX8_used_20 : decode cX8_used 20 = .ok (.aload_n 0, 1) := by decide +kernel
theorem dX8_used_21 : decode cX8_used 21 = .ok (.iload_n 1, 1) := by decide +kernel
theorem dX8_used_22 : decode cX8_used 22 = .ok (.iconst 0, 1) := by decide +kernel
theorem dX8_used_23 : decode cX8_used 23 = .ok (.invokevirtual 171, 3) := by decide +kernel
theorem dX8_used_26 : decode cX8_used 26 = .ok (.aload_n 0, 1) := by decide +kernel
theorem dX8_used_27 : decode cX8_used 27 = .ok (.getfield 136, 3) := by decide +kernel
theorem dX8_used_30 : decode cX8_used 30 = .ok (.ireturn, 1) := by decide +kernel
set_option maxRecDepth 20000 in
theorem ggX8_all_X8_in : GoodIn wsX8_all wsX8_in := goodIn_r _ [4] (by decide +kernel) (by decide +kernel)
set_option maxRecDepth 20000 in
theorem gX8_all_X8_in : GoodIn wsX8_all (va_wsS RX8 49 yX8_in wsX8_in) := goodIn_app (goodIn_of _ (by decide +kernel)) ggX8_all_X8_in
set_option maxRecDepth 20000 in
theorem ggX8_all_X8_cells : GoodIn wsX8_all wsX8_cells := goodIn_r _ [8, 9, 113, 114, 115, 116, 117, 118, 119, 120, 121, 122, 123, 124, 125, 126] (by decide +kernel) (by decide +kernel)
set_option maxRecDepth 20000 in
theorem gX8_all_X8_cells : GoodIn wsX8_all (wsV RX8 45 RX8 yX8_cells wsX8_cells) := goodIn_app (goodIn_of _ (by decide +kernel)) ggX8_all_X8_cells
set_option maxRecDepth 20000 in
theorem ggX8_all_X8_isSchedule : GoodIn wsX8_all wsX8_isSchedule := goodIn_r _ [12, 1, 2, 3, 4] (by decide +kernel) (by decide +kernel)
set_option maxRecDepth 20000 in
theorem gX8_all_X8_isSchedule : GoodIn wsX8_all (va_wsS RX8 168 yX8_isSchedule wsX8_isSchedule) := goodIn_app (goodIn_of _ (by decide +kernel)) ggX8_all_X8_isSchedule
set_option maxRecDepth 20000 in
theorem ggX8_all_X8_begin : GoodIn wsX8_all wsX8_begin := goodIn_r _ [16, 17, 18, 19, 20, 21, 113, 114, 115, 116, 117, 118, 119, 120, 121, 122, 123, 124, 125, 126] (by decide +kernel) (by decide +kernel)
set_option maxRecDepth 20000 in
theorem gX8_all_X8_begin : GoodIn wsX8_all (wsV RX8 161 RX8 yX8_begin wsX8_begin) := goodIn_app (goodIn_of _ (by decide +kernel)) ggX8_all_X8_begin
set_option maxRecDepth 20000 in
theorem ggX8_all_X8_size : GoodIn wsX8_all wsX8_size := goodIn_r _ [24] (by decide +kernel) (by decide +kernel)
set_option maxRecDepth 20000 in
theorem gX8_all_X8_size : GoodIn wsX8_all (va_wsS RX8 68 yX8_size wsX8_size) := goodIn_app (goodIn_of _ (by decide +kernel)) ggX8_all_X8_size
set_option maxRecDepth 20000 in
theorem ggX8_all_X8_singles : GoodIn wsX8_all wsX8_singles := goodIn_r _ [28, 29, 5, 6, 7, 3, 8, 9, 30, 31, 32, 113, 114, 115, 116, 117, 118, 119, 120, 121, 122, 123, 124, 125, 126] (by decide +kernel) (by decide +kernel)
set_option maxRecDepth 20000 in
theorem gX8_all_X8_singles : GoodIn wsX8_all (wsV RX8 181 RX8 yX8_singles wsX8_singles) := goodIn_app (goodIn_of _ (by decide +kernel)) ggX8_all_X8_singles
set_option maxRecDepth 20000 in
theorem ggX8_all_X8_note : GoodIn wsX8_all wsX8_note := goodIn_r _ [36, 18, 37, 19, 21, 29, 20, 38, 39, 40, 41, 3, 42, 5, 6, 7, 8, 9, 30, 31, 32, 43, 44, 45, 46, 47, 48, 49, 50, 22, 23, 24, 51, 52, 53, 54, 55, 56, 57, 58, 59, 60, 61, 62, 63, 64, 65, 66, 67, 68, 69, 70, 71, 72, 73, 74, 75, 76, 77, 78, 113, 114, 115, 116, 117, 118, 119, 120, 121, 122, 123, 124, 125, 126] (by decide +kernel) (by decide +kernel)
set_option maxRecDepth 20000 in
theorem gX8_all_X8_note : GoodIn wsX8_all (wsV RX8 148 RX8 yX8_note wsX8_note) := goodIn_app (goodIn_of _ (by decide +kernel)) ggX8_all_X8_note
set_option maxRecDepth 20000 in
theorem ggX8_all_X8_listAll : GoodIn wsX8_all wsX8_listAll := goodIn_r _ [82, 19, 37, 83, 84, 85, 86, 87, 3, 88, 38, 39, 40, 41, 42, 29, 5, 6, 7, 8, 9, 89, 90, 91, 92, 93, 94, 95, 96, 30, 31, 32, 67, 68, 69, 70, 33, 34, 35, 36, 18, 21, 20, 43, 44, 45, 46, 47, 48, 49, 50, 22, 23, 24, 51, 52, 53, 54, 55, 56, 57, 58, 59, 60, 61, 62, 63, 64, 65, 66, 71, 72, 73, 74, 75, 76, 77, 78, 97, 98, 99, 100, 101, 102, 103, 104, 105, 106, 107, 108, 1, 2, 4, 113, 114, 115, 116, 117, 118, 119, 120, 121, 122, 123, 124, 125, 126] (by decide +kernel) (by decide +kernel)
set_option maxRecDepth 20000 in
theorem gX8_all_X8_listAll : GoodIn wsX8_all (wsV RX8 165 RX8 yX8_listAll wsX8_listAll) := goodIn_app (goodIn_of _ (by decide +kernel)) ggX8_all_X8_listAll
set_option maxRecDepth 20000 in
theorem ggX8_all_X8_kindOf : GoodIn wsX8_all wsX8_kindOf := goodIn_r _ [112, 84, 83, 97, 98, 99, 3, 100, 39, 40, 41, 42, 29, 5, 6, 7, 8, 9, 22, 23, 24, 113, 114, 115, 116, 117, 118, 119, 120, 121, 122, 123, 124, 125, 126] (by decide +kernel) (by decide +kernel)
set_option maxRecDepth 20000 in
theorem gX8_all_X8_kindOf : GoodIn wsX8_all (wsV RX8 175 RX8 yX8_kindOf wsX8_kindOf) := goodIn_app (goodIn_of _ (by decide +kernel)) ggX8_all_X8_kindOf
theorem dX8_all_0 : decode cX8_all 0 = .ok (.iload_n 1, 1) := by decide +kernel
theorem dX8_all_1 : decode cX8_all 1 = .ok (.iconst 1, 1) := by decide +kernel
theorem dX8_all_2 : decode cX8_all 2 = .ok (.iconst 5, 1) := by decide +kernel
theorem dX8_all_3 : decode cX8_all 3 = .ok (.invokestatic 49, 3) := by decide +kernel
theorem dX8_all_6 : decode cX8_all 6 = .ok (.ifCond .eq 27, 3) := by decide +kernel
theorem dX8_all_9 : decode cX8_all 9 = .ok (.iload_n 1, 1) := by decide +kernel
theorem dX8_all_10 : decode cX8_all 10 = .ok (.aload_n 0, 1) := by decide +kernel
theorem dX8_all_11 : decode cX8_all 11 = .ok (.invokevirtual 45, 3) := by decide +kernel
theorem dX8_all_14 : decode cX8_all 14 = .ok (.if_icmp .gt 19, 3) := by decide +kernel
theorem dX8_all_17 : decode cX8_all 17 = .ok (.iload_n 2, 1) := by decide +kernel
theorem dX8_all_18 : decode cX8_all 18 = .ok (.invokestatic 168, 3) := by decide +kernel
theorem dX8_all_21 : decode cX8_all 21 = .ok (.ifCond .eq 12, 3) := by decide +kernel
theorem dX8_all_24 : decode cX8_all 24 = .ok (.iload_n 3, 1) := by decide +kernel
theorem dX8_all_25 : decode cX8_all 25 = .ok (.iconst 0, 1) := by decide +kernel
theorem dX8_all_26 : decode cX8_all 26 = .ok (.iconst 3, 1) := by decide +kernel
theorem dX8_all_27 : decode cX8_all 27 = .ok (.invokestatic 49, 3) := by decide +kernel
theorem dX8_all_30 : decode cX8_all 30 = .ok (.ifCond .ne 6, 3) := by decide +kernel
theorem dX8_all_33 : decode cX8_all 33 = .ok (.bipush (-2), 2) := by decide +kernel
theorem dX8_all_35 : decode cX8_all 35 = .ok (.ireturn, 1) := by decide +kernel
theorem dX8_all_36 : decode cX8_all 36 = .ok (.aload_n 0, 1) := by decide +kernel
theorem dX8_all_37 : decode cX8_all 37 = .ok (.iconst 0, 1) := by decide +kernel
theorem dX8_all_38 : decode cX8_all 38 = .ok (.invokevirtual 161, 3) := by decide +kernel
theorem dX8_all_41 : decode cX8_all 41 = .ok (.iconst 1, 1) := by decide +kernel
theorem dX8_all_42 : decode cX8_all 42 = .ok (.istore 4, 2) := by decide +kernel
theorem dX8_all_44 : decode cX8_all 44 = .ok (.iload 4, 2) := by decide +kernel
theorem dX8_all_46 : decode cX8_all 46 = .ok (.iconst 1, 1) := by decide +kernel
theorem dX8_all_47 : decode cX8_all 47 = .ok (.aload_n 0, 1) := by decide +kernel
theorem dX8_all_48 : decode cX8_all 48 = .ok (.invokevirtual 45, 3) := by decide +kernel
theorem dX8_all_51 : decode cX8_all 51 = .ok (.ishl, 1) := by decide +kernel
theorem dX8_all_52 : decode cX8_all 52 = .ok (.if_icmp .ge 28, 3) := by decide +kernel
theorem dX8_all_55 : decode cX8_all 55 = .ok (.iload 4, 2) := by decide +kernel
theorem dX8_all_57 : decode cX8_all 57 = .ok (.invokestatic 68, 3) := by decide +kernel
theorem dX8_all_60 : decode cX8_all 60 = .ok (.iload_n 1, 1) := by decide +kernel
theorem dX8_all_61 : decode cX8_all 61 = .ok (.if_icmp .ne 13, 3) := by decide +kernel
theorem dX8_all_64 : decode cX8_all 64 = .ok (.aload_n 0, 1) := by decide +kernel
theorem dX8_all_65 : decode cX8_all 65 = .ok (.aload_n 0, 1) := by decide +kernel
theorem dX8_all_66 : decode cX8_all 66 = .ok (.iload 4, 2) := by decide +kernel
theorem dX8_all_68 : decode cX8_all 68 = .ok (.invokevirtual 181, 3) := by decide +kernel
theorem dX8_all_71 : decode cX8_all 71 = .ok (.invokevirtual 148, 3) := by decide +kernel
theorem dX8_all_74 : decode cX8_all 74 = .ok (.iinc 4 1, 3) := by decide +kernel
theorem dX8_all_77 : decode cX8_all 77 = .ok (.goto (-33), 3) := by decide +kernel
theorem dX8_all_80 : decode cX8_all 80 = .ok (.aload_n 0, 1) := by decide +kernel
theorem dX8_all_81 : decode cX8_all 81 = .ok (.iload_n 2, 1) := by decide +kernel
theorem dX8_all_82 : decode cX8_all 82 = .ok (.invokevirtual 165, 3) := by decide +kernel
theorem dX8_all_85 : decode cX8_all 85 = .ok (.iconst 0, 1) := by decide +kernel
theorem dX8_all_86 : decode cX8_all 86 = .ok (.istore 4, 2) := by decide +kernel
theorem dX8_all_88 : decode cX8_all 88 = .ok (.iconst 1, 1) := by decide +kernel
theorem dX8_all_89 : decode cX8_all 89 = .ok (.istore 5, 2) := by decide +kernel
theorem dX8_all_91 : decode cX8_all 91 = .ok (.iload 5, 2) := by decide +kernel
theorem dX8_all_93 : decode cX8_all 93 = .ok (.iconst 1, 1) := by decide +kernel
theorem dX8_all_94 : decode cX8_all 94 = .ok (.aload_n 0, 1) := by decide +kernel
theorem dX8_all_95 : decode cX8_all 95 = .ok (.invokevirtual 45, 3) := by decide +kernel
theorem dX8_all_98 : decode cX8_all 98 = .ok (.ishl, 1) := by decide +kernel
theorem dX8_all_99 : decode cX8_all 99 = .ok (.if_icmp .ge 42, 3) := by decide +kernel
theorem dX8_all_102 : decode cX8_all 102 = .ok (.iload 4, 2) := by decide +kernel
theorem dX8_all_104 : decode cX8_all 104 = .ok (.iload 5, 2) := by decide +kernel
theorem dX8_all_106 : decode cX8_all 106 = .ok (.invokestatic 68, 3) := by decide +kernel
theorem dX8_all_109 : decode cX8_all 109 = .ok (.iload_n 1, 1) := by decide +kernel
theorem dX8_all_110 : decode cX8_all 110 = .ok (.if_icmp .ne 21, 3) := by decide +kernel
theorem dX8_all_113 : decode cX8_all 113 = .ok (.aload_n 0, 1) := by decide +kernel
theorem dX8_all_114 : decode cX8_all 114 = .ok (.aload_n 0, 1) := by decide +kernel
theorem dX8_all_115 : decode cX8_all 115 = .ok (.iload 5, 2) := by decide +kernel
theorem dX8_all_117 : decode cX8_all 117 = .ok (.invokevirtual 181, 3) := by decide +kernel
theorem dX8_all_120 : decode cX8_all 120 = .ok (.invokevirtual 175, 3) := by decide +kernel
theorem dX8_all_123 : decode cX8_all 123 = .ok (.iload_n 3, 1) := by decide +kernel
theorem dX8_all_124 : decode cX8_all 124 = .ok (.if_icmp .ne 7, 3) := by decide +kernel
theorem dX8_all_127 : decode cX8_all 127 = .ok (.iconst 1, 1) := by decide +kernel
theorem dX8_all_128 : decode cX8_all 128 = .ok (.goto 4, 3) := by decide +kernel
theorem dX8_all_131 : decode cX8_all 131 = .ok (.iconst 0, 1) := by decide +kernel
theorem dX8_all_132 : decode cX8_all 132 = .ok (.iadd, 1) := by decide +kernel
theorem dX8_all_133 : decode cX8_all 133 = .ok (.istore 4, 2) := by decide +kernel
theorem dX8_all_135 : decode cX8_all 135 = .ok (.iinc 5 1, 3) := by decide +kernel
theorem dX8_all_138 : decode cX8_all 138 = .ok (.goto (-47), 3) := by decide +kernel
theorem dX8_all_141 : decode cX8_all 141 = .ok (.iload 4, 2) := by decide +kernel
theorem dX8_all_143 : decode cX8_all 143 = .ok (.ireturn, 1) := by decide +kernel
set_option maxRecDepth 20000 in
theorem ggX8_singles_X8_cells : GoodIn wsX8_singles wsX8_cells := goodIn_r _ [6, 7, 11, 12, 13, 14, 15, 16, 17, 18, 19, 20, 21, 22, 23, 24] (by decide +kernel) (by decide +kernel)
set_option maxRecDepth 20000 in
theorem gX8_singles_X8_cells : GoodIn wsX8_singles (wsV RX8 45 RX8 yX8_cells wsX8_cells) := goodIn_app (goodIn_of _ (by decide +kernel)) ggX8_singles_X8_cells
set_option maxRecDepth 20000 in
theorem ggX8_singles_X8_has : GoodIn wsX8_singles wsX8_has := goodIn_r _ [10] (by decide +kernel) (by decide +kernel)
set_option maxRecDepth 20000 in
theorem gX8_singles_X8_has : GoodIn wsX8_singles (va_wsS RX8 92 yX8_has wsX8_has) := goodIn_app (goodIn_of _ (by decide +kernel)) ggX8_singles_X8_has
theorem dX8_singles_0 : decode cX8_singles 0 = .ok (.iconst 0, 1) := by decide +kernel
theorem dX8_singles_1 : decode cX8_singles 1 = .ok (.istore_n 2, 1) := by decide +kernel
theorem dX8_singles_2 : decode cX8_singles 2 = .ok (.iconst 0, 1) := by decide +kernel
theorem dX8_singles_3 : decode cX8_singles 3 = .ok (.istore_n 3, 1) := by decide +kernel
theorem dX8_singles_4 : decode cX8_singles 4 = .ok (.iload_n 3, 1) := by decide +kernel
theorem dX8_singles_5 : decode cX8_singles 5 = .ok (.aload_n 0, 1) := by decide +kernel
theorem dX8_singles_6 : decode cX8_singles 6 = .ok (.invokevirtual 45, 3) := by decide +kernel
theorem dX8_singles_9 : decode cX8_singles 9 = .ok (.if_icmp .ge 30, 3) := by decide +kernel
theorem dX8_singles_12 : decode cX8_singles 12 = .ok (.iload_n 2, 1) := by decide +kernel
theorem dX8_singles_13 : decode cX8_singles 13 = .ok (.iload_n 1, 1) := by decide +kernel
theorem dX8_singles_14 : decode cX8_singles 14 = .ok (.iload_n 3, 1) := by decide +kernel
theorem dX8_singles_15 : decode cX8_singles 15 = .ok (.invokestatic 92, 3) := by decide +kernel
theorem dX8_singles_18 : decode cX8_singles 18 = .ok (.ifCond .eq 12, 3) := by decide +kernel
theorem dX8_singles_21 : decode cX8_singles 21 = .ok (.aload_n 0, 1) := by decide +kernel
theorem dX8_singles_22 : decode cX8_singles 22 = .ok (.getfield 20, 3) := by decide +kernel
theorem dX8_singles_25 : decode cX8_singles 25 = .ok (.iload_n 3, 1) := by decide +kernel
theorem dX8_singles_26 : decode cX8_singles 26 = .ok (.iaload, 1) := by decide +kernel
theorem dX8_singles_27 : decode cX8_singles 27 = .ok (.goto 4, 3) := by decide +kernel
theorem dX8_singles_30 : decode cX8_singles 30 = .ok (.iconst 0, 1) := by decide +kernel
theorem dX8_singles_31 : decode cX8_singles 31 = .ok (.iadd, 1) := by decide +kernel
theorem dX8_singles_32 : decode cX8_singles 32 = .ok (.istore_n 2, 1) := by decide +kernel
theorem dX8_singles_33 : decode cX8_singles 33 = .ok (.iinc 3 1, 3) := by decide +kernel
theorem dX8_singles_36 : decode cX8_singles 36 = .ok (.goto (-32), 3) := by decide +kernel
theorem dX8_singles_39 : decode cX8_singles 39 = .ok (.iload_n 2, 1) := by decide +kernel
theorem dX8_singles_40 : decode cX8_singles 40 = .ok (.ireturn, 1) := by decide +kernel
set_option maxRecDepth 20000 in
theorem ggX8_image_X8_in : GoodIn wsX8_image wsX8_in := goodIn_r _ [7] (by decide +kernel) (by decide +kernel)
set_option maxRecDepth 20000 in
theorem gX8_image_X8_in : GoodIn wsX8_image (va_wsS RX8 49 yX8_in wsX8_in) := goodIn_app (goodIn_of _ (by decide +kernel)) ggX8_image_X8_in
theorem dX8_image_0 : decode cX8_image 0 = .ok (.iload_n 1, 1) := by decide +kernel
theorem dX8_image_1 : decode cX8_image 1 = .ok (.iconst 0, 1) := by decide +kernel
theorem dX8_image_2 : decode cX8_image 2 = .ok (.iconst 1, 1) := by decide +kernel
theorem dX8_image_3 : decode cX8_image 3 = .ok (.invokestatic 49, 3) := by decide +kernel
theorem dX8_image_6 : decode cX8_image 6 = .ok (.ifCond .ne 6, 3) := by decide +kernel
theorem dX8_image_9 : decode cX8_image 9 = .ok (.bipush (-2), 2) := by decide +kernel
theorem dX8_image_11 : decode cX8_image 11 = .ok (.ireturn, 1) := by decide +kernel
theorem dX8_image_12 : decode cX8_image 12 = .ok (.iconst 0, 1) := by decide +kernel
theorem dX8_image_13 : decode cX8_image 13 = .ok (.istore_n 2, 1) := by decide +kernel
theorem dX8_image_14 : decode cX8_image 14 = .ok (.iload_n 2, 1) := by decide +kernel
theorem dX8_image_15 : decode cX8_image 15 = .ok (.bipush 72, 2) := by decide +kernel
theorem dX8_image_17 : decode cX8_image 17 = .ok (.if_icmp .ge 26, 3) := by decide +kernel
theorem dX8_image_20 : decode cX8_image 20 = .ok (.aload_n 0, 1) := by decide +kernel
theorem dX8_image_21 : decode cX8_image 21 = .ok (.getfield 13, 3) := by decide +kernel
theorem dX8_image_24 : decode cX8_image 24 = .ok (.bipush 72, 2) := by decide +kernel
theorem dX8_image_26 : decode cX8_image 26 = .ok (.iload_n 1, 1) := by decide +kernel
theorem dX8_image_27 : decode cX8_image 27 = .ok (.imul, 1) := by decide +kernel
theorem dX8_image_28 : decode cX8_image 28 = .ok (.iload_n 2, 1) := by decide +kernel
theorem dX8_image_29 : decode cX8_image 29 = .ok (.iadd, 1) := by decide +kernel
theorem dX8_image_30 : decode cX8_image 30 = .ok (.aload_n 0, 1) := by decide +kernel
theorem dX8_image_31 : decode cX8_image 31 = .ok (.getfield 7, 3) := by decide +kernel
theorem dX8_image_34 : decode cX8_image 34 = .ok (.iload_n 2, 1) := by decide +kernel
theorem dX8_image_35 : decode cX8_image 35 = .ok (.iaload, 1) := by decide +kernel
theorem dX8_image_36 : decode cX8_image 36 = .ok (.iastore, 1) := by decide +kernel
theorem dX8_image_37 : decode cX8_image 37 = .ok (.iinc 2 1, 3) := by decide +kernel
theorem dX8_image_40 : decode cX8_image 40 = .ok (.goto (-26), 3) := by decide +kernel
theorem dX8_image_43 : decode cX8_image 43 = .ok (.aload_n 0, 1) := by decide +kernel
theorem dX8_image_44 : decode cX8_image 44 = .ok (.getfield 16, 3) := by decide +kernel
theorem dX8_image_47 : decode cX8_image 47 = .ok (.iload_n 1, 1) := by decide +kernel
theorem dX8_image_48 : decode cX8_image 48 = .ok (.iconst 1, 1) := by decide +kernel
theorem dX8_image_49 : decode cX8_image 49 = .ok (.bastore, 1) := by decide +kernel
theorem dX8_image_50 : decode cX8_image 50 = .ok (.iconst 1, 1) := by decide +kernel
theorem dX8_image_51 : decode cX8_image 51 = .ok (.ireturn, 1) := by decide +kernel
set_option maxRecDepth 20000 in
theorem ggX8_restore_X8_in : GoodIn wsX8_restore wsX8_in := goodIn_r _ [7] (by decide +kernel) (by decide +kernel)
set_option maxRecDepth 20000 in
theorem gX8_restore_X8_in : GoodIn wsX8_restore (va_wsS RX8 49 yX8_in wsX8_in) := goodIn_app (goodIn_of _ (by decide +kernel)) ggX8_restore_X8_in
theorem dX8_restore_0 : decode cX8_restore 0 = .ok (.iload_n 1, 1) := by decide +kernel
theorem dX8_restore_1 : decode cX8_restore 1 = .ok (.iconst 0, 1) := by decide +kernel
theorem dX8_restore_2 : decode cX8_restore 2 = .ok (.iconst 1, 1) := by decide +kernel
theorem dX8_restore_3 : decode cX8_restore 3 = .ok (.invokestatic 49, 3) := by decide +kernel
theorem dX8_restore_6 : decode cX8_restore 6 = .ok (.ifCond .ne 6, 3) := by decide +kernel
theorem dX8_restore_9 : decode cX8_restore 9 = .ok (.bipush (-2), 2) := by decide +kernel
theorem dX8_restore_11 : decode cX8_restore 11 = .ok (.ireturn, 1) := by decide +kernel
theorem dX8_restore_12 : decode cX8_restore 12 = .ok (.aload_n 0, 1) := by decide +kernel
theorem dX8_restore_13 : decode cX8_restore 13 = .ok (.getfield 16, 3) := by decide +kernel
theorem dX8_restore_16 : decode cX8_restore 16 = .ok (.iload_n 1, 1) := by decide +kernel
theorem dX8_restore_17 : decode cX8_restore 17 = .ok (.baload, 1) := by decide +kernel
theorem dX8_restore_18 : decode cX8_restore 18 = .ok (.ifCond .ne 6, 3) := by decide +kernel
theorem dX8_restore_21 : decode cX8_restore 21 = .ok (.bipush (-3), 2) := by decide +kernel
theorem dX8_restore_23 : decode cX8_restore 23 = .ok (.ireturn, 1) := by decide +kernel
theorem dX8_restore_24 : decode cX8_restore 24 = .ok (.iconst 0, 1) := by decide +kernel
theorem dX8_restore_25 : decode cX8_restore 25 = .ok (.istore_n 2, 1) := by decide +kernel
theorem dX8_restore_26 : decode cX8_restore 26 = .ok (.iload_n 2, 1) := by decide +kernel
theorem dX8_restore_27 : decode cX8_restore 27 = .ok (.bipush 72, 2) := by decide +kernel
theorem dX8_restore_29 : decode cX8_restore 29 = .ok (.if_icmp .ge 26, 3) := by decide +kernel
theorem dX8_restore_32 : decode cX8_restore 32 = .ok (.aload_n 0, 1) := by decide +kernel
theorem dX8_restore_33 : decode cX8_restore 33 = .ok (.getfield 7, 3) := by decide +kernel
theorem dX8_restore_36 : decode cX8_restore 36 = .ok (.iload_n 2, 1) := by decide +kernel
theorem dX8_restore_37 : decode cX8_restore 37 = .ok (.aload_n 0, 1) := by decide +kernel
theorem dX8_restore_38 : decode cX8_restore 38 = .ok (.getfield 13, 3) := by decide +kernel
theorem dX8_restore_41 : decode cX8_restore 41 = .ok (.bipush 72, 2) := by decide +kernel
theorem dX8_restore_43 : decode cX8_restore 43 = .ok (.iload_n 1, 1) := by decide +kernel
theorem dX8_restore_44 : decode cX8_restore 44 = .ok (.imul, 1) := by decide +kernel
theorem dX8_restore_45 : decode cX8_restore 45 = .ok (.iload_n 2, 1) := by decide +kernel
theorem dX8_restore_46 : decode cX8_restore 46 = .ok (.iadd, 1) := by decide +kernel
theorem dX8_restore_47 : decode cX8_restore 47 = .ok (.iaload, 1) := by decide +kernel
theorem dX8_restore_48 : decode cX8_restore 48 = .ok (.iastore, 1) := by decide +kernel
theorem dX8_restore_49 : decode cX8_restore 49 = .ok (.iinc 2 1, 3) := by decide +kernel
theorem dX8_restore_52 : decode cX8_restore 52 = .ok (.goto (-26), 3) := by decide +kernel
theorem dX8_restore_55 : decode cX8_restore 55 = .ok (.iconst 1, 1) := by decide +kernel
theorem dX8_restore_56 : decode cX8_restore 56 = .ok (.ireturn, 1) := by decide +kernel
set_option maxRecDepth 20000 in
theorem ggX8_towers_X8_cells : GoodIn wsX8_towers wsX8_cells := goodIn_r _ [6, 1, 7, 8, 9, 10, 11, 12, 13, 14, 15, 16, 17, 18, 19, 20] (by decide +kernel) (by decide +kernel)
set_option maxRecDepth 20000 in
theorem gX8_towers_X8_cells : GoodIn wsX8_towers (wsV RX8 45 RX8 yX8_cells wsX8_cells) := goodIn_app (goodIn_of _ (by decide +kernel)) ggX8_towers_X8_cells
theorem dX8_towers_0 : decode cX8_towers 0 = .ok (.iconst 0, 1) := by decide +kernel
theorem dX8_towers_1 : decode cX8_towers 1 = .ok (.istore_n 1, 1) := by decide +kernel
theorem dX8_towers_2 : decode cX8_towers 2 = .ok (.iconst 0, 1) := by decide +kernel
theorem dX8_towers_3 : decode cX8_towers 3 = .ok (.istore_n 2, 1) := by decide +kernel
theorem dX8_towers_4 : decode cX8_towers 4 = .ok (.iload_n 2, 1) := by decide +kernel
theorem dX8_towers_5 : decode cX8_towers 5 = .ok (.aload_n 0, 1) := by decide +kernel
theorem dX8_towers_6 : decode cX8_towers 6 = .ok (.invokevirtual 45, 3) := by decide +kernel
theorem dX8_towers_9 : decode cX8_towers 9 = .ok (.if_icmp .ge 31, 3) := by decide +kernel
theorem dX8_towers_12 : decode cX8_towers 12 = .ok (.iload_n 1, 1) := by decide +kernel
theorem dX8_towers_13 : decode cX8_towers 13 = .ok (.aload_n 0, 1) := by decide +kernel
theorem dX8_towers_14 : decode cX8_towers 14 = .ok (.getfield 7, 3) := by decide +kernel
theorem dX8_towers_17 : decode cX8_towers 17 = .ok (.iconst 1, 1) := by decide +kernel
theorem dX8_towers_18 : decode cX8_towers 18 = .ok (.iload_n 2, 1) := by decide +kernel
theorem dX8_towers_19 : decode cX8_towers 19 = .ok (.iadd, 1) := by decide +kernel
theorem dX8_towers_20 : decode cX8_towers 20 = .ok (.iaload, 1) := by decide +kernel
theorem dX8_towers_21 : decode cX8_towers 21 = .ok (.iconst 1, 1) := by decide +kernel
theorem dX8_towers_22 : decode cX8_towers 22 = .ok (.if_icmp .le 9, 3) := by decide +kernel
theorem dX8_towers_25 : decode cX8_towers 25 = .ok (.iconst 1, 1) := by decide +kernel
theorem dX8_towers_26 : decode cX8_towers 26 = .ok (.iload_n 2, 1) := by decide +kernel
theorem dX8_towers_27 : decode cX8_towers 27 = .ok (.ishl, 1) := by decide +kernel
theorem dX8_towers_28 : decode cX8_towers 28 = .ok (.goto 4, 3) := by decide +kernel
theorem dX8_towers_31 : decode cX8_towers 31 = .ok (.iconst 0, 1) := by decide +kernel
theorem dX8_towers_32 : decode cX8_towers 32 = .ok (.ior, 1) := by decide +kernel
theorem dX8_towers_33 : decode cX8_towers 33 = .ok (.istore_n 1, 1) := by decide +kernel
theorem dX8_towers_34 : decode cX8_towers 34 = .ok (.iinc 2 1, 3) := by decide +kernel
theorem dX8_towers_37 : decode cX8_towers 37 = .ok (.goto (-33), 3) := by decide +kernel
theorem dX8_towers_40 : decode cX8_towers 40 = .ok (.iload_n 1, 1) := by decide +kernel
theorem dX8_towers_41 : decode cX8_towers 41 = .ok (.ireturn, 1) := by decide +kernel
set_option maxRecDepth 20000 in
theorem ggX8_count_X8_in : GoodIn wsX8_count wsX8_in := goodIn_r _ [6] (by decide +kernel) (by decide +kernel)
set_option maxRecDepth 20000 in
theorem gX8_count_X8_in : GoodIn wsX8_count (va_wsS RX8 49 yX8_in wsX8_in) := goodIn_app (goodIn_of _ (by decide +kernel)) ggX8_count_X8_in
set_option maxRecDepth 20000 in
theorem ggX8_count_X8_cells : GoodIn wsX8_count wsX8_cells := goodIn_r _ [10, 1, 28, 29, 30, 31, 32, 33, 34, 35, 36, 37, 38, 39, 40, 41] (by decide +kernel) (by decide +kernel)
set_option maxRecDepth 20000 in
theorem gX8_count_X8_cells : GoodIn wsX8_count (wsV RX8 45 RX8 yX8_cells wsX8_cells) := goodIn_app (goodIn_of _ (by decide +kernel)) ggX8_count_X8_cells
set_option maxRecDepth 20000 in
theorem ggX8_count_X8_walkers : GoodIn wsX8_count wsX8_walkers := goodIn_r _ [14, 1, 28, 29, 30, 31, 32, 33, 34, 35, 36, 37, 38, 39, 40, 41] (by decide +kernel) (by decide +kernel)
set_option maxRecDepth 20000 in
theorem gX8_count_X8_walkers : GoodIn wsX8_count (wsV RX8 57 RX8 yX8_walkers wsX8_walkers) := goodIn_app (goodIn_of _ (by decide +kernel)) ggX8_count_X8_walkers
set_option maxRecDepth 20000 in
theorem ggX8_count_X8_now : GoodIn wsX8_count wsX8_now := goodIn_r _ [18, 1, 19, 7, 8, 9, 5, 10, 28, 29, 30, 31, 32, 33, 34, 35, 36, 37, 38, 39, 40, 41] (by decide +kernel) (by decide +kernel)
set_option maxRecDepth 20000 in
theorem gX8_count_X8_now : GoodIn wsX8_count (wsV RX8 83 RX8 yX8_now wsX8_now) := goodIn_app (goodIn_of _ (by decide +kernel)) ggX8_count_X8_now
set_option maxRecDepth 20000 in
theorem ggX8_count_X8_standsOf : GoodIn wsX8_count wsX8_standsOf := goodIn_r _ [23, 19, 7, 8, 9, 5, 10, 1, 28, 29, 30, 31, 32, 33, 34, 35, 36, 37, 38, 39, 40, 41] (by decide +kernel) (by decide +kernel)
set_option maxRecDepth 20000 in
theorem gX8_count_X8_standsOf : GoodIn wsX8_count (wsV RX8 86 RX8 yX8_standsOf wsX8_standsOf) := goodIn_app (goodIn_of _ (by decide +kernel)) ggX8_count_X8_standsOf
set_option maxRecDepth 20000 in
theorem ggX8_count_X8_towers : GoodIn wsX8_count wsX8_towers := goodIn_r _ [27, 1, 7, 8, 9, 5, 10, 28, 29, 30, 31, 32, 33, 34, 35, 36, 37, 38, 39, 40, 41] (by decide +kernel) (by decide +kernel)
set_option maxRecDepth 20000 in
theorem gX8_count_X8_towers : GoodIn wsX8_count (wsV RX8 184 RX8 yX8_towers wsX8_towers) := goodIn_app (goodIn_of _ (by decide +kernel)) ggX8_count_X8_towers
theorem dX8_count_0 : decode cX8_count 0 = .ok (.iload_n 1, 1) := by decide +kernel
theorem dX8_count_1 : decode cX8_count 1 = .ok (.bipush 10, 2) := by decide +kernel
theorem dX8_count_3 : decode cX8_count 3 = .ok (.bipush 19, 2) := by decide +kernel
theorem dX8_count_5 : decode cX8_count 5 = .ok (.invokestatic 49, 3) := by decide +kernel
theorem dX8_count_8 : decode cX8_count 8 = .ok (.ifCond .eq 15, 3) := by decide +kernel
theorem dX8_count_11 : decode cX8_count 11 = .ok (.aload_n 0, 1) := by decide +kernel
theorem dX8_count_12 : decode cX8_count 12 = .ok (.getfield 7, 3) := by decide +kernel
theorem dX8_count_15 : decode cX8_count 15 = .ok (.iconst 1, 1) := by decide +kernel
theorem dX8_count_16 : decode cX8_count 16 = .ok (.iload_n 1, 1) := by decide +kernel
theorem dX8_count_17 : decode cX8_count 17 = .ok (.iadd, 1) := by decide +kernel
theorem dX8_count_18 : decode cX8_count 18 = .ok (.bipush 10, 2) := by decide +kernel
theorem dX8_count_20 : decode cX8_count 20 = .ok (.isub, 1) := by decide +kernel
theorem dX8_count_21 : decode cX8_count 21 = .ok (.iaload, 1) := by decide +kernel
theorem dX8_count_22 : decode cX8_count 22 = .ok (.ireturn, 1) := by decide +kernel
theorem dX8_count_23 : decode cX8_count 23 = .ok (.iload_n 1, 1) := by decide +kernel
theorem dX8_count_24 : decode cX8_count 24 = .ok (.tableswitch 102 0 5 #[40, 45, 50, 59, 64, 72], 40) := by decide +kernel
theorem dX8_count_64 : decode cX8_count 64 = .ok (.aload_n 0, 1) := by decide +kernel
theorem dX8_count_65 : decode cX8_count 65 = .ok (.invokevirtual 45, 3) := by decide +kernel
theorem dX8_count_68 : decode cX8_count 68 = .ok (.ireturn, 1) := by decide +kernel
theorem dX8_count_69 : decode cX8_count 69 = .ok (.aload_n 0, 1) := by decide +kernel
theorem dX8_count_70 : decode cX8_count 70 = .ok (.invokevirtual 57, 3) := by decide +kernel
theorem dX8_count_73 : decode cX8_count 73 = .ok (.ireturn, 1) := by decide +kernel
theorem dX8_count_74 : decode cX8_count 74 = .ok (.aload_n 0, 1) := by decide +kernel
theorem dX8_count_75 : decode cX8_count 75 = .ok (.aload_n 0, 1) := by decide +kernel
theorem dX8_count_76 : decode cX8_count 76 = .ok (.invokevirtual 83, 3) := by decide +kernel
theorem dX8_count_79 : decode cX8_count 79 = .ok (.invokevirtual 86, 3) := by decide +kernel
theorem dX8_count_82 : decode cX8_count 82 = .ok (.ireturn, 1) := by decide +kernel
theorem dX8_count_83 : decode cX8_count 83 = .ok (.aload_n 0, 1) := by decide +kernel
theorem dX8_count_84 : decode cX8_count 84 = .ok (.invokevirtual 184, 3) := by decide +kernel
theorem dX8_count_87 : decode cX8_count 87 = .ok (.ireturn, 1) := by decide +kernel
theorem dX8_count_88 : decode cX8_count 88 = .ok (.aload_n 0, 1) := by decide +kernel
theorem dX8_count_89 : decode cX8_count 89 = .ok (.getfield 7, 3) := by decide +kernel
theorem dX8_count_92 : decode cX8_count 92 = .ok (.bipush 11, 2) := by decide +kernel
theorem dX8_count_94 : decode cX8_count 94 = .ok (.iaload, 1) := by decide +kernel
theorem dX8_count_95 : decode cX8_count 95 = .ok (.ireturn, 1) := by decide +kernel
theorem dX8_count_96 : decode cX8_count 96 = .ok (.aload_n 0, 1) := by decide +kernel
theorem dX8_count_97 : decode cX8_count 97 = .ok (.getfield 16, 3) := by decide +kernel
theorem dX8_count_100 : decode cX8_count 100 = .ok (.iconst 0, 1) := by decide +kernel
theorem dX8_count_101 : decode cX8_count 101 = .ok (.baload, 1) := by decide +kernel
theorem dX8_count_102 : decode cX8_count 102 = .ok (.ifCond .eq 7, 3) := by decide +kernel
theorem dX8_count_105 : decode cX8_count 105 = .ok (.iconst 1, 1) := by decide +kernel
theorem dX8_count_106 : decode cX8_count 106 = .ok (.goto 4, 3) := by decide +kernel
theorem dX8_count_109 : decode cX8_count 109 = .ok (.iconst 0, 1) := by decide +kernel
theorem dX8_count_110 : decode cX8_count 110 = .ok (.aload_n 0, 1) := by decide +kernel
theorem dX8_count_111 : decode cX8_count 111 = .ok (.getfield 16, 3) := by decide +kernel
theorem dX8_count_114 : decode cX8_count 114 = .ok (.iconst 1, 1) := by decide +kernel
theorem dX8_count_115 : decode cX8_count 115 = .ok (.baload, 1) := by decide +kernel
theorem dX8_count_116 : decode cX8_count 116 = .ok (.ifCond .eq 7, 3) := by decide +kernel
theorem dX8_count_119 : decode cX8_count 119 = .ok (.iconst 2, 1) := by decide +kernel
theorem dX8_count_120 : decode cX8_count 120 = .ok (.goto 4, 3) := by decide +kernel
theorem dX8_count_123 : decode cX8_count 123 = .ok (.iconst 0, 1) := by decide +kernel
theorem dX8_count_124 : decode cX8_count 124 = .ok (.iadd, 1) := by decide +kernel
theorem dX8_count_125 : decode cX8_count 125 = .ok (.ireturn, 1) := by decide +kernel
theorem dX8_count_126 : decode cX8_count 126 = .ok (.bipush (-2), 2) := by decide +kernel
theorem dX8_count_128 : decode cX8_count 128 = .ok (.ireturn, 1) := by decide +kernel
theorem dJ6_lowestOneBit_0f7a4_0 : decode cJ6_lowestOneBit_0f7a4 0 = .ok (.iload_n 0, 1) := by decide +kernel
theorem dJ6_lowestOneBit_0f7a4_1 : decode cJ6_lowestOneBit_0f7a4 1 = .ok (.iload_n 0, 1) := by decide +kernel
theorem dJ6_lowestOneBit_0f7a4_2 : decode cJ6_lowestOneBit_0f7a4 2 = .ok (.ineg, 1) := by decide +kernel
theorem dJ6_lowestOneBit_0f7a4_3 : decode cJ6_lowestOneBit_0f7a4 3 = .ok (.iand, 1) := by decide +kernel
theorem dJ6_lowestOneBit_0f7a4_4 : decode cJ6_lowestOneBit_0f7a4 4 = .ok (.ireturn, 1) := by decide +kernel
theorem dJ6_bitCount_0f7a4_0 : decode cJ6_bitCount_0f7a4 0 = .ok (.iload_n 0, 1) := by decide +kernel
theorem dJ6_bitCount_0f7a4_1 : decode cJ6_bitCount_0f7a4 1 = .ok (.iload_n 0, 1) := by decide +kernel
theorem dJ6_bitCount_0f7a4_2 : decode cJ6_bitCount_0f7a4 2 = .ok (.iconst 1, 1) := by decide +kernel
theorem dJ6_bitCount_0f7a4_3 : decode cJ6_bitCount_0f7a4 3 = .ok (.iushr, 1) := by decide +kernel
theorem dJ6_bitCount_0f7a4_4 : decode cJ6_bitCount_0f7a4 4 = .ok (.ldc_w 265, 3) := by decide +kernel
theorem dJ6_bitCount_0f7a4_7 : decode cJ6_bitCount_0f7a4 7 = .ok (.iand, 1) := by decide +kernel
theorem dJ6_bitCount_0f7a4_8 : decode cJ6_bitCount_0f7a4 8 = .ok (.isub, 1) := by decide +kernel
theorem dJ6_bitCount_0f7a4_9 : decode cJ6_bitCount_0f7a4 9 = .ok (.istore_n 0, 1) := by decide +kernel
theorem dJ6_bitCount_0f7a4_10 : decode cJ6_bitCount_0f7a4 10 = .ok (.iload_n 0, 1) := by decide +kernel
theorem dJ6_bitCount_0f7a4_11 : decode cJ6_bitCount_0f7a4 11 = .ok (.ldc_w 266, 3) := by decide +kernel
theorem dJ6_bitCount_0f7a4_14 : decode cJ6_bitCount_0f7a4 14 = .ok (.iand, 1) := by decide +kernel
theorem dJ6_bitCount_0f7a4_15 : decode cJ6_bitCount_0f7a4 15 = .ok (.iload_n 0, 1) := by decide +kernel
theorem dJ6_bitCount_0f7a4_16 : decode cJ6_bitCount_0f7a4 16 = .ok (.iconst 2, 1) := by decide +kernel
theorem dJ6_bitCount_0f7a4_17 : decode cJ6_bitCount_0f7a4 17 = .ok (.iushr, 1) := by decide +kernel
theorem dJ6_bitCount_0f7a4_18 : decode cJ6_bitCount_0f7a4 18 = .ok (.ldc_w 266, 3) := by decide +kernel
theorem dJ6_bitCount_0f7a4_21 : decode cJ6_bitCount_0f7a4 21 = .ok (.iand, 1) := by decide +kernel
theorem dJ6_bitCount_0f7a4_22 : decode cJ6_bitCount_0f7a4 22 = .ok (.iadd, 1) := by decide +kernel
theorem dJ6_bitCount_0f7a4_23 : decode cJ6_bitCount_0f7a4 23 = .ok (.istore_n 0, 1) := by decide +kernel
theorem dJ6_bitCount_0f7a4_24 : decode cJ6_bitCount_0f7a4 24 = .ok (.iload_n 0, 1) := by decide +kernel
theorem dJ6_bitCount_0f7a4_25 : decode cJ6_bitCount_0f7a4 25 = .ok (.iload_n 0, 1) := by decide +kernel
theorem dJ6_bitCount_0f7a4_26 : decode cJ6_bitCount_0f7a4 26 = .ok (.iconst 4, 1) := by decide +kernel
theorem dJ6_bitCount_0f7a4_27 : decode cJ6_bitCount_0f7a4 27 = .ok (.iushr, 1) := by decide +kernel
theorem dJ6_bitCount_0f7a4_28 : decode cJ6_bitCount_0f7a4 28 = .ok (.iadd, 1) := by decide +kernel
theorem dJ6_bitCount_0f7a4_29 : decode cJ6_bitCount_0f7a4 29 = .ok (.ldc_w 267, 3) := by decide +kernel
theorem dJ6_bitCount_0f7a4_32 : decode cJ6_bitCount_0f7a4 32 = .ok (.iand, 1) := by decide +kernel
theorem dJ6_bitCount_0f7a4_33 : decode cJ6_bitCount_0f7a4 33 = .ok (.istore_n 0, 1) := by decide +kernel
theorem dJ6_bitCount_0f7a4_34 : decode cJ6_bitCount_0f7a4 34 = .ok (.iload_n 0, 1) := by decide +kernel
theorem dJ6_bitCount_0f7a4_35 : decode cJ6_bitCount_0f7a4 35 = .ok (.iload_n 0, 1) := by decide +kernel
theorem dJ6_bitCount_0f7a4_36 : decode cJ6_bitCount_0f7a4 36 = .ok (.bipush 8, 2) := by decide +kernel
theorem dJ6_bitCount_0f7a4_38 : decode cJ6_bitCount_0f7a4 38 = .ok (.iushr, 1) := by decide +kernel
theorem dJ6_bitCount_0f7a4_39 : decode cJ6_bitCount_0f7a4 39 = .ok (.iadd, 1) := by decide +kernel
theorem dJ6_bitCount_0f7a4_40 : decode cJ6_bitCount_0f7a4 40 = .ok (.istore_n 0, 1) := by decide +kernel
theorem dJ6_bitCount_0f7a4_41 : decode cJ6_bitCount_0f7a4 41 = .ok (.iload_n 0, 1) := by decide +kernel
theorem dJ6_bitCount_0f7a4_42 : decode cJ6_bitCount_0f7a4 42 = .ok (.iload_n 0, 1) := by decide +kernel
theorem dJ6_bitCount_0f7a4_43 : decode cJ6_bitCount_0f7a4 43 = .ok (.bipush 16, 2) := by decide +kernel
theorem dJ6_bitCount_0f7a4_45 : decode cJ6_bitCount_0f7a4 45 = .ok (.iushr, 1) := by decide +kernel
theorem dJ6_bitCount_0f7a4_46 : decode cJ6_bitCount_0f7a4 46 = .ok (.iadd, 1) := by decide +kernel
theorem dJ6_bitCount_0f7a4_47 : decode cJ6_bitCount_0f7a4 47 = .ok (.istore_n 0, 1) := by decide +kernel
theorem dJ6_bitCount_0f7a4_48 : decode cJ6_bitCount_0f7a4 48 = .ok (.iload_n 0, 1) := by decide +kernel
theorem dJ6_bitCount_0f7a4_49 : decode cJ6_bitCount_0f7a4 49 = .ok (.bipush 63, 2) := by decide +kernel
theorem dJ6_bitCount_0f7a4_51 : decode cJ6_bitCount_0f7a4 51 = .ok (.iand, 1) := by decide +kernel
theorem dJ6_bitCount_0f7a4_52 : decode cJ6_bitCount_0f7a4 52 = .ok (.ireturn, 1) := by decide +kernel
theorem dJ9_min_7cf53_0 : decode cJ9_min_7cf53 0 = .ok (.iload_n 0, 1) := by decide +kernel
theorem dJ9_min_7cf53_1 : decode cJ9_min_7cf53 1 = .ok (.iload_n 1, 1) := by decide +kernel
theorem dJ9_min_7cf53_2 : decode cJ9_min_7cf53 2 = .ok (.if_icmp .gt 7, 3) := by decide +kernel
theorem dJ9_min_7cf53_5 : decode cJ9_min_7cf53 5 = .ok (.iload_n 0, 1) := by decide +kernel
theorem dJ9_min_7cf53_6 : decode cJ9_min_7cf53 6 = .ok (.goto 4, 3) := by decide +kernel
theorem dJ9_min_7cf53_9 : decode cJ9_min_7cf53 9 = .ok (.iload_n 1, 1) := by decide +kernel
theorem dJ9_min_7cf53_10 : decode cJ9_min_7cf53 10 = .ok (.ireturn, 1) := by decide +kernel
end
section
theorem dL_law_0 : decode cL_law 0 = .ok (.new 7, 3) := by decide +kernel
theorem dL_law_3 : decode cL_law 3 = .ok (.dup, 1) := by decide +kernel
theorem dL_law_4 : decode cL_law 4 = .ok (.invokespecial 9, 3) := by decide +kernel
theorem dL_law_7 : decode cL_law 7 = .ok (.astore_n 1, 1) := by decide +kernel
theorem dL_law_8 : decode cL_law 8 = .ok (.new 10, 3) := by decide +kernel
theorem dL_law_11 : decode cL_law 11 = .ok (.dup, 1) := by decide +kernel
theorem dL_law_12 : decode cL_law 12 = .ok (.invokespecial 12, 3) := by decide +kernel
theorem dL_law_15 : decode cL_law 15 = .ok (.astore_n 2, 1) := by decide +kernel
theorem dL_law_16 : decode cL_law 16 = .ok (.iconst 0, 1) := by decide +kernel
theorem dL_law_17 : decode cL_law 17 = .ok (.istore_n 3, 1) := by decide +kernel
theorem dL_law_18 : decode cL_law 18 = .ok (.iload_n 3, 1) := by decide +kernel
theorem dL_law_19 : decode cL_law 19 = .ok (.aload_n 0, 1) := by decide +kernel
theorem dL_law_20 : decode cL_law 20 = .ok (.arraylength, 1) := by decide +kernel
theorem dL_law_21 : decode cL_law 21 = .ok (.bipush 6, 2) := by decide +kernel
theorem dL_law_23 : decode cL_law 23 = .ok (.isub, 1) := by decide +kernel
theorem dL_law_24 : decode cL_law 24 = .ok (.if_icmp .gt 646, 3) := by decide +kernel
theorem dL_law_27 : decode cL_law 27 = .ok (.aload_n 0, 1) := by decide +kernel
theorem dL_law_28 : decode cL_law 28 = .ok (.iload_n 3, 1) := by decide +kernel
theorem dL_law_29 : decode cL_law 29 = .ok (.iaload, 1) := by decide +kernel
theorem dL_law_30 : decode cL_law 30 = .ok (.bipush 31, 2) := by decide +kernel
theorem dL_law_32 : decode cL_law 32 = .ok (.iand, 1) := by decide +kernel
theorem dL_law_33 : decode cL_law 33 = .ok (.tableswitch 631 0 17 #[87, 110, 143, 186, 209, 272, 305, 328, 361, 394, 417, 450, 473, 496, 519, 562, 585, 608], 87) := by decide +kernel
theorem dL_law_120 : decode cL_law 120 = .ok (.aload_n 1, 1) := by decide +kernel
theorem dL_law_121 : decode cL_law 121 = .ok (.aload_n 0, 1) := by decide +kernel
theorem dL_law_122 : decode cL_law 122 = .ok (.iload_n 3, 1) := by decide +kernel
theorem dL_law_123 : decode cL_law 123 = .ok (.iconst 1, 1) := by decide +kernel
theorem dL_law_124 : decode cL_law 124 = .ok (.iadd, 1) := by decide +kernel
theorem dL_law_125 : decode cL_law 125 = .ok (.iaload, 1) := by decide +kernel
theorem dL_law_126 : decode cL_law 126 = .ok (.invokevirtual 13, 3) := by decide +kernel
theorem dL_law_129 : decode cL_law 129 = .ok (.pop, 1) := by decide +kernel
theorem dL_law_130 : decode cL_law 130 = .ok (.aload_n 2, 1) := by decide +kernel
theorem dL_law_131 : decode cL_law 131 = .ok (.aload_n 0, 1) := by decide +kernel
theorem dL_law_132 : decode cL_law 132 = .ok (.iload_n 3, 1) := by decide +kernel
theorem dL_law_133 : decode cL_law 133 = .ok (.iconst 1, 1) := by decide +kernel
theorem dL_law_134 : decode cL_law 134 = .ok (.iadd, 1) := by decide +kernel
theorem dL_law_135 : decode cL_law 135 = .ok (.iaload, 1) := by decide +kernel
theorem dL_law_136 : decode cL_law 136 = .ok (.invokevirtual 17, 3) := by decide +kernel
theorem dL_law_139 : decode cL_law 139 = .ok (.pop, 1) := by decide +kernel
theorem dL_law_140 : decode cL_law 140 = .ok (.goto 524, 3) := by decide +kernel
theorem dL_law_143 : decode cL_law 143 = .ok (.aload_n 1, 1) := by decide +kernel
theorem dL_law_144 : decode cL_law 144 = .ok (.aload_n 0, 1) := by decide +kernel
theorem dL_law_145 : decode cL_law 145 = .ok (.iload_n 3, 1) := by decide +kernel
theorem dL_law_146 : decode cL_law 146 = .ok (.iconst 1, 1) := by decide +kernel
theorem dL_law_147 : decode cL_law 147 = .ok (.iadd, 1) := by decide +kernel
theorem dL_law_148 : decode cL_law 148 = .ok (.iaload, 1) := by decide +kernel
theorem dL_law_149 : decode cL_law 149 = .ok (.aload_n 0, 1) := by decide +kernel
theorem dL_law_150 : decode cL_law 150 = .ok (.iload_n 3, 1) := by decide +kernel
theorem dL_law_151 : decode cL_law 151 = .ok (.iconst 2, 1) := by decide +kernel
theorem dL_law_152 : decode cL_law 152 = .ok (.iadd, 1) := by decide +kernel
theorem dL_law_153 : decode cL_law 153 = .ok (.iaload, 1) := by decide +kernel
theorem dL_law_154 : decode cL_law 154 = .ok (.invokevirtual 18, 3) := by decide +kernel
theorem dL_law_157 : decode cL_law 157 = .ok (.pop, 1) := by decide +kernel
theorem dL_law_158 : decode cL_law 158 = .ok (.aload_n 2, 1) := by decide +kernel
theorem dL_law_159 : decode cL_law 159 = .ok (.aload_n 0, 1) := by decide +kernel
theorem dL_law_160 : decode cL_law 160 = .ok (.iload_n 3, 1) := by decide +kernel
theorem dL_law_161 : decode cL_law 161 = .ok (.iconst 1, 1) := by decide +kernel
theorem dL_law_162 : decode cL_law 162 = .ok (.iadd, 1) := by decide +kernel
theorem dL_law_163 : decode cL_law 163 = .ok (.iaload, 1) := by decide +kernel
theorem dL_law_164 : decode cL_law 164 = .ok (.aload_n 0, 1) := by decide +kernel
theorem dL_law_165 : decode cL_law 165 = .ok (.iload_n 3, 1) := by decide +kernel
theorem dL_law_166 : decode cL_law 166 = .ok (.iconst 2, 1) := by decide +kernel
theorem dL_law_167 : decode cL_law 167 = .ok (.iadd, 1) := by decide +kernel
theorem dL_law_168 : decode cL_law 168 = .ok (.iaload, 1) := by decide +kernel
theorem dL_law_169 : decode cL_law 169 = .ok (.invokevirtual 22, 3) := by decide +kernel
theorem dL_law_172 : decode cL_law 172 = .ok (.pop, 1) := by decide +kernel
theorem dL_law_173 : decode cL_law 173 = .ok (.goto 491, 3) := by decide +kernel
theorem dL_law_176 : decode cL_law 176 = .ok (.aload_n 1, 1) := by decide +kernel
theorem dL_law_177 : decode cL_law 177 = .ok (.aload_n 0, 1) := by decide +kernel
theorem dL_law_178 : decode cL_law 178 = .ok (.iload_n 3, 1) := by decide +kernel
theorem dL_law_179 : decode cL_law 179 = .ok (.iconst 1, 1) := by decide +kernel
theorem dL_law_180 : decode cL_law 180 = .ok (.iadd, 1) := by decide +kernel
theorem dL_law_181 : decode cL_law 181 = .ok (.iaload, 1) := by decide +kernel
theorem dL_law_182 : decode cL_law 182 = .ok (.aload_n 0, 1) := by decide +kernel
theorem dL_law_183 : decode cL_law 183 = .ok (.iload_n 3, 1) := by decide +kernel
theorem dL_law_184 : decode cL_law 184 = .ok (.iconst 2, 1) := by decide +kernel
theorem dL_law_185 : decode cL_law 185 = .ok (.iadd, 1) := by decide +kernel
theorem dL_law_186 : decode cL_law 186 = .ok (.iaload, 1) := by decide +kernel
theorem dL_law_187 : decode cL_law 187 = .ok (.aload_n 0, 1) := by decide +kernel
theorem dL_law_188 : decode cL_law 188 = .ok (.iload_n 3, 1) := by decide +kernel
theorem dL_law_189 : decode cL_law 189 = .ok (.iconst 3, 1) := by decide +kernel
theorem dL_law_190 : decode cL_law 190 = .ok (.iadd, 1) := by decide +kernel
theorem dL_law_191 : decode cL_law 191 = .ok (.iaload, 1) := by decide +kernel
theorem dL_law_192 : decode cL_law 192 = .ok (.invokevirtual 23, 3) := by decide +kernel
theorem dL_law_195 : decode cL_law 195 = .ok (.pop, 1) := by decide +kernel
theorem dL_law_196 : decode cL_law 196 = .ok (.aload_n 2, 1) := by decide +kernel
theorem dL_law_197 : decode cL_law 197 = .ok (.aload_n 0, 1) := by decide +kernel
theorem dL_law_198 : decode cL_law 198 = .ok (.iload_n 3, 1) := by decide +kernel
theorem dL_law_199 : decode cL_law 199 = .ok (.iconst 1, 1) := by decide +kernel
theorem dL_law_200 : decode cL_law 200 = .ok (.iadd, 1) := by decide +kernel
theorem dL_law_201 : decode cL_law 201 = .ok (.iaload, 1) := by decide +kernel
theorem dL_law_202 : decode cL_law 202 = .ok (.aload_n 0, 1) := by decide +kernel
theorem dL_law_203 : decode cL_law 203 = .ok (.iload_n 3, 1) := by decide +kernel
theorem dL_law_204 : decode cL_law 204 = .ok (.iconst 2, 1) := by decide +kernel
theorem dL_law_205 : decode cL_law 205 = .ok (.iadd, 1) := by decide +kernel
theorem dL_law_206 : decode cL_law 206 = .ok (.iaload, 1) := by decide +kernel
theorem dL_law_207 : decode cL_law 207 = .ok (.aload_n 0, 1) := by decide +kernel
theorem dL_law_208 : decode cL_law 208 = .ok (.iload_n 3, 1) := by decide +kernel
theorem dL_law_209 : decode cL_law 209 = .ok (.iconst 3, 1) := by decide +kernel
theorem dL_law_210 : decode cL_law 210 = .ok (.iadd, 1) := by decide +kernel
theorem dL_law_211 : decode cL_law 211 = .ok (.iaload, 1) := by decide +kernel
theorem dL_law_212 : decode cL_law 212 = .ok (.invokevirtual 27, 3) := by decide +kernel
theorem dL_law_215 : decode cL_law 215 = .ok (.pop, 1) := by decide +kernel
theorem dL_law_216 : decode cL_law 216 = .ok (.goto 448, 3) := by decide +kernel
theorem dL_law_219 : decode cL_law 219 = .ok (.aload_n 1, 1) := by decide +kernel
theorem dL_law_220 : decode cL_law 220 = .ok (.aload_n 0, 1) := by decide +kernel
theorem dL_law_221 : decode cL_law 221 = .ok (.iload_n 3, 1) := by decide +kernel
theorem dL_law_222 : decode cL_law 222 = .ok (.iconst 1, 1) := by decide +kernel
theorem dL_law_223 : decode cL_law 223 = .ok (.iadd, 1) := by decide +kernel
theorem dL_law_224 : decode cL_law 224 = .ok (.iaload, 1) := by decide +kernel
theorem dL_law_225 : decode cL_law 225 = .ok (.invokevirtual 28, 3) := by decide +kernel
theorem dL_law_228 : decode cL_law 228 = .ok (.pop, 1) := by decide +kernel
theorem dL_law_229 : decode cL_law 229 = .ok (.aload_n 2, 1) := by decide +kernel
theorem dL_law_230 : decode cL_law 230 = .ok (.aload_n 0, 1) := by decide +kernel
theorem dL_law_231 : decode cL_law 231 = .ok (.iload_n 3, 1) := by decide +kernel
theorem dL_law_232 : decode cL_law 232 = .ok (.iconst 1, 1) := by decide +kernel
theorem dL_law_233 : decode cL_law 233 = .ok (.iadd, 1) := by decide +kernel
theorem dL_law_234 : decode cL_law 234 = .ok (.iaload, 1) := by decide +kernel
theorem dL_law_235 : decode cL_law 235 = .ok (.invokevirtual 31, 3) := by decide +kernel
theorem dL_law_238 : decode cL_law 238 = .ok (.pop, 1) := by decide +kernel
theorem dL_law_239 : decode cL_law 239 = .ok (.goto 425, 3) := by decide +kernel
theorem dL_law_242 : decode cL_law 242 = .ok (.aload_n 1, 1) := by decide +kernel
theorem dL_law_243 : decode cL_law 243 = .ok (.aload_n 0, 1) := by decide +kernel
theorem dL_law_244 : decode cL_law 244 = .ok (.iload_n 3, 1) := by decide +kernel
theorem dL_law_245 : decode cL_law 245 = .ok (.iconst 1, 1) := by decide +kernel
theorem dL_law_246 : decode cL_law 246 = .ok (.iadd, 1) := by decide +kernel
theorem dL_law_247 : decode cL_law 247 = .ok (.iaload, 1) := by decide +kernel
theorem dL_law_248 : decode cL_law 248 = .ok (.aload_n 0, 1) := by decide +kernel
theorem dL_law_249 : decode cL_law 249 = .ok (.iload_n 3, 1) := by decide +kernel
theorem dL_law_250 : decode cL_law 250 = .ok (.iconst 2, 1) := by decide +kernel
theorem dL_law_251 : decode cL_law 251 = .ok (.iadd, 1) := by decide +kernel
theorem dL_law_252 : decode cL_law 252 = .ok (.iaload, 1) := by decide +kernel
theorem dL_law_253 : decode cL_law 253 = .ok (.aload_n 0, 1) := by decide +kernel
theorem dL_law_254 : decode cL_law 254 = .ok (.iload_n 3, 1) := by decide +kernel
theorem dL_law_255 : decode cL_law 255 = .ok (.iconst 3, 1) := by decide +kernel
theorem dL_law_256 : decode cL_law 256 = .ok (.iadd, 1) := by decide +kernel
theorem dL_law_257 : decode cL_law 257 = .ok (.iaload, 1) := by decide +kernel
theorem dL_law_258 : decode cL_law 258 = .ok (.aload_n 0, 1) := by decide +kernel
theorem dL_law_259 : decode cL_law 259 = .ok (.iload_n 3, 1) := by decide +kernel
theorem dL_law_260 : decode cL_law 260 = .ok (.iconst 4, 1) := by decide +kernel
theorem dL_law_261 : decode cL_law 261 = .ok (.iadd, 1) := by decide +kernel
theorem dL_law_262 : decode cL_law 262 = .ok (.iaload, 1) := by decide +kernel
theorem dL_law_263 : decode cL_law 263 = .ok (.aload_n 0, 1) := by decide +kernel
theorem dL_law_264 : decode cL_law 264 = .ok (.iload_n 3, 1) := by decide +kernel
theorem dL_law_265 : decode cL_law 265 = .ok (.iconst 5, 1) := by decide +kernel
theorem dL_law_266 : decode cL_law 266 = .ok (.iadd, 1) := by decide +kernel
theorem dL_law_267 : decode cL_law 267 = .ok (.iaload, 1) := by decide +kernel
theorem dL_law_268 : decode cL_law 268 = .ok (.invokevirtual 32, 3) := by decide +kernel
theorem dL_law_271 : decode cL_law 271 = .ok (.pop, 1) := by decide +kernel
theorem dL_law_272 : decode cL_law 272 = .ok (.aload_n 2, 1) := by decide +kernel
theorem dL_law_273 : decode cL_law 273 = .ok (.aload_n 0, 1) := by decide +kernel
theorem dL_law_274 : decode cL_law 274 = .ok (.iload_n 3, 1) := by decide +kernel
theorem dL_law_275 : decode cL_law 275 = .ok (.iconst 1, 1) := by decide +kernel
theorem dL_law_276 : decode cL_law 276 = .ok (.iadd, 1) := by decide +kernel
theorem dL_law_277 : decode cL_law 277 = .ok (.iaload, 1) := by decide +kernel
theorem dL_law_278 : decode cL_law 278 = .ok (.aload_n 0, 1) := by decide +kernel
theorem dL_law_279 : decode cL_law 279 = .ok (.iload_n 3, 1) := by decide +kernel
theorem dL_law_280 : decode cL_law 280 = .ok (.iconst 2, 1) := by decide +kernel
theorem dL_law_281 : decode cL_law 281 = .ok (.iadd, 1) := by decide +kernel
theorem dL_law_282 : decode cL_law 282 = .ok (.iaload, 1) := by decide +kernel
theorem dL_law_283 : decode cL_law 283 = .ok (.aload_n 0, 1) := by decide +kernel
theorem dL_law_284 : decode cL_law 284 = .ok (.iload_n 3, 1) := by decide +kernel
theorem dL_law_285 : decode cL_law 285 = .ok (.iconst 3, 1) := by decide +kernel
theorem dL_law_286 : decode cL_law 286 = .ok (.iadd, 1) := by decide +kernel
theorem dL_law_287 : decode cL_law 287 = .ok (.iaload, 1) := by decide +kernel
theorem dL_law_288 : decode cL_law 288 = .ok (.aload_n 0, 1) := by decide +kernel
theorem dL_law_289 : decode cL_law 289 = .ok (.iload_n 3, 1) := by decide +kernel
theorem dL_law_290 : decode cL_law 290 = .ok (.iconst 4, 1) := by decide +kernel
theorem dL_law_291 : decode cL_law 291 = .ok (.iadd, 1) := by decide +kernel
theorem dL_law_292 : decode cL_law 292 = .ok (.iaload, 1) := by decide +kernel
theorem dL_law_293 : decode cL_law 293 = .ok (.aload_n 0, 1) := by decide +kernel
theorem dL_law_294 : decode cL_law 294 = .ok (.iload_n 3, 1) := by decide +kernel
theorem dL_law_295 : decode cL_law 295 = .ok (.iconst 5, 1) := by decide +kernel
theorem dL_law_296 : decode cL_law 296 = .ok (.iadd, 1) := by decide +kernel
theorem dL_law_297 : decode cL_law 297 = .ok (.iaload, 1) := by decide +kernel
theorem dL_law_298 : decode cL_law 298 = .ok (.invokevirtual 36, 3) := by decide +kernel
theorem dL_law_301 : decode cL_law 301 = .ok (.pop, 1) := by decide +kernel
theorem dL_law_302 : decode cL_law 302 = .ok (.goto 362, 3) := by decide +kernel
theorem dL_law_305 : decode cL_law 305 = .ok (.aload_n 1, 1) := by decide +kernel
theorem dL_law_306 : decode cL_law 306 = .ok (.aload_n 0, 1) := by decide +kernel
theorem dL_law_307 : decode cL_law 307 = .ok (.iload_n 3, 1) := by decide +kernel
theorem dL_law_308 : decode cL_law 308 = .ok (.iconst 1, 1) := by decide +kernel
theorem dL_law_309 : decode cL_law 309 = .ok (.iadd, 1) := by decide +kernel
theorem dL_law_310 : decode cL_law 310 = .ok (.iaload, 1) := by decide +kernel
theorem dL_law_311 : decode cL_law 311 = .ok (.aload_n 0, 1) := by decide +kernel
theorem dL_law_312 : decode cL_law 312 = .ok (.iload_n 3, 1) := by decide +kernel
theorem dL_law_313 : decode cL_law 313 = .ok (.iconst 2, 1) := by decide +kernel
theorem dL_law_314 : decode cL_law 314 = .ok (.iadd, 1) := by decide +kernel
theorem dL_law_315 : decode cL_law 315 = .ok (.iaload, 1) := by decide +kernel
theorem dL_law_316 : decode cL_law 316 = .ok (.invokevirtual 37, 3) := by decide +kernel
theorem dL_law_319 : decode cL_law 319 = .ok (.pop, 1) := by decide +kernel
theorem dL_law_320 : decode cL_law 320 = .ok (.aload_n 2, 1) := by decide +kernel
theorem dL_law_321 : decode cL_law 321 = .ok (.aload_n 0, 1) := by decide +kernel
theorem dL_law_322 : decode cL_law 322 = .ok (.iload_n 3, 1) := by decide +kernel
theorem dL_law_323 : decode cL_law 323 = .ok (.iconst 1, 1) := by decide +kernel
theorem dL_law_324 : decode cL_law 324 = .ok (.iadd, 1) := by decide +kernel
theorem dL_law_325 : decode cL_law 325 = .ok (.iaload, 1) := by decide +kernel
theorem dL_law_326 : decode cL_law 326 = .ok (.aload_n 0, 1) := by decide +kernel
theorem dL_law_327 : decode cL_law 327 = .ok (.iload_n 3, 1) := by decide +kernel
theorem dL_law_328 : decode cL_law 328 = .ok (.iconst 2, 1) := by decide +kernel
theorem dL_law_329 : decode cL_law 329 = .ok (.iadd, 1) := by decide +kernel
theorem dL_law_330 : decode cL_law 330 = .ok (.iaload, 1) := by decide +kernel
theorem dL_law_331 : decode cL_law 331 = .ok (.invokevirtual 40, 3) := by decide +kernel
theorem dL_law_334 : decode cL_law 334 = .ok (.pop, 1) := by decide +kernel
theorem dL_law_335 : decode cL_law 335 = .ok (.goto 329, 3) := by decide +kernel
theorem dL_law_338 : decode cL_law 338 = .ok (.aload_n 1, 1) := by decide +kernel
theorem dL_law_339 : decode cL_law 339 = .ok (.aload_n 0, 1) := by decide +kernel
theorem dL_law_340 : decode cL_law 340 = .ok (.iload_n 3, 1) := by decide +kernel
theorem dL_law_341 : decode cL_law 341 = .ok (.iconst 1, 1) := by decide +kernel
theorem dL_law_342 : decode cL_law 342 = .ok (.iadd, 1) := by decide +kernel
theorem dL_law_343 : decode cL_law 343 = .ok (.iaload, 1) := by decide +kernel
theorem dL_law_344 : decode cL_law 344 = .ok (.invokevirtual 41, 3) := by decide +kernel
theorem dL_law_347 : decode cL_law 347 = .ok (.pop, 1) := by decide +kernel
theorem dL_law_348 : decode cL_law 348 = .ok (.aload_n 2, 1) := by decide +kernel
theorem dL_law_349 : decode cL_law 349 = .ok (.aload_n 0, 1) := by decide +kernel
theorem dL_law_350 : decode cL_law 350 = .ok (.iload_n 3, 1) := by decide +kernel
theorem dL_law_351 : decode cL_law 351 = .ok (.iconst 1, 1) := by decide +kernel
theorem dL_law_352 : decode cL_law 352 = .ok (.iadd, 1) := by decide +kernel
theorem dL_law_353 : decode cL_law 353 = .ok (.iaload, 1) := by decide +kernel
theorem dL_law_354 : decode cL_law 354 = .ok (.invokevirtual 44, 3) := by decide +kernel
theorem dL_law_357 : decode cL_law 357 = .ok (.pop, 1) := by decide +kernel
theorem dL_law_358 : decode cL_law 358 = .ok (.goto 306, 3) := by decide +kernel
theorem dL_law_361 : decode cL_law 361 = .ok (.aload_n 1, 1) := by decide +kernel
theorem dL_law_362 : decode cL_law 362 = .ok (.aload_n 0, 1) := by decide +kernel
theorem dL_law_363 : decode cL_law 363 = .ok (.iload_n 3, 1) := by decide +kernel
theorem dL_law_364 : decode cL_law 364 = .ok (.iconst 1, 1) := by decide +kernel
theorem dL_law_365 : decode cL_law 365 = .ok (.iadd, 1) := by decide +kernel
theorem dL_law_366 : decode cL_law 366 = .ok (.iaload, 1) := by decide +kernel
theorem dL_law_367 : decode cL_law 367 = .ok (.aload_n 0, 1) := by decide +kernel
theorem dL_law_368 : decode cL_law 368 = .ok (.iload_n 3, 1) := by decide +kernel
theorem dL_law_369 : decode cL_law 369 = .ok (.iconst 2, 1) := by decide +kernel
end
section
theorem dL_law_370 : decode cL_law 370 = .ok (.iadd, 1) := by decide +kernel
theorem dL_law_371 : decode cL_law 371 = .ok (.iaload, 1) := by decide +kernel
theorem dL_law_372 : decode cL_law 372 = .ok (.invokevirtual 45, 3) := by decide +kernel
theorem dL_law_375 : decode cL_law 375 = .ok (.pop, 1) := by decide +kernel
theorem dL_law_376 : decode cL_law 376 = .ok (.aload_n 2, 1) := by decide +kernel
theorem dL_law_377 : decode cL_law 377 = .ok (.aload_n 0, 1) := by decide +kernel
theorem dL_law_378 : decode cL_law 378 = .ok (.iload_n 3, 1) := by decide +kernel
theorem dL_law_379 : decode cL_law 379 = .ok (.iconst 1, 1) := by decide +kernel
theorem dL_law_380 : decode cL_law 380 = .ok (.iadd, 1) := by decide +kernel
theorem dL_law_381 : decode cL_law 381 = .ok (.iaload, 1) := by decide +kernel
theorem dL_law_382 : decode cL_law 382 = .ok (.aload_n 0, 1) := by decide +kernel
theorem dL_law_383 : decode cL_law 383 = .ok (.iload_n 3, 1) := by decide +kernel
theorem dL_law_384 : decode cL_law 384 = .ok (.iconst 2, 1) := by decide +kernel
theorem dL_law_385 : decode cL_law 385 = .ok (.iadd, 1) := by decide +kernel
theorem dL_law_386 : decode cL_law 386 = .ok (.iaload, 1) := by decide +kernel
theorem dL_law_387 : decode cL_law 387 = .ok (.invokevirtual 48, 3) := by decide +kernel
theorem dL_law_390 : decode cL_law 390 = .ok (.pop, 1) := by decide +kernel
theorem dL_law_391 : decode cL_law 391 = .ok (.goto 273, 3) := by decide +kernel
theorem dL_law_394 : decode cL_law 394 = .ok (.aload_n 1, 1) := by decide +kernel
theorem dL_law_395 : decode cL_law 395 = .ok (.aload_n 0, 1) := by decide +kernel
theorem dL_law_396 : decode cL_law 396 = .ok (.iload_n 3, 1) := by decide +kernel
theorem dL_law_397 : decode cL_law 397 = .ok (.iconst 1, 1) := by decide +kernel
theorem dL_law_398 : decode cL_law 398 = .ok (.iadd, 1) := by decide +kernel
theorem dL_law_399 : decode cL_law 399 = .ok (.iaload, 1) := by decide +kernel
theorem dL_law_400 : decode cL_law 400 = .ok (.aload_n 0, 1) := by decide +kernel
theorem dL_law_401 : decode cL_law 401 = .ok (.iload_n 3, 1) := by decide +kernel
theorem dL_law_402 : decode cL_law 402 = .ok (.iconst 2, 1) := by decide +kernel
theorem dL_law_403 : decode cL_law 403 = .ok (.iadd, 1) := by decide +kernel
theorem dL_law_404 : decode cL_law 404 = .ok (.iaload, 1) := by decide +kernel
theorem dL_law_405 : decode cL_law 405 = .ok (.invokevirtual 49, 3) := by decide +kernel
theorem dL_law_408 : decode cL_law 408 = .ok (.pop, 1) := by decide +kernel
theorem dL_law_409 : decode cL_law 409 = .ok (.aload_n 2, 1) := by decide +kernel
theorem dL_law_410 : decode cL_law 410 = .ok (.aload_n 0, 1) := by decide +kernel
theorem dL_law_411 : decode cL_law 411 = .ok (.iload_n 3, 1) := by decide +kernel
theorem dL_law_412 : decode cL_law 412 = .ok (.iconst 1, 1) := by decide +kernel
theorem dL_law_413 : decode cL_law 413 = .ok (.iadd, 1) := by decide +kernel
theorem dL_law_414 : decode cL_law 414 = .ok (.iaload, 1) := by decide +kernel
theorem dL_law_415 : decode cL_law 415 = .ok (.aload_n 0, 1) := by decide +kernel
theorem dL_law_416 : decode cL_law 416 = .ok (.iload_n 3, 1) := by decide +kernel
theorem dL_law_417 : decode cL_law 417 = .ok (.iconst 2, 1) := by decide +kernel
theorem dL_law_418 : decode cL_law 418 = .ok (.iadd, 1) := by decide +kernel
theorem dL_law_419 : decode cL_law 419 = .ok (.iaload, 1) := by decide +kernel
theorem dL_law_420 : decode cL_law 420 = .ok (.invokevirtual 52, 3) := by decide +kernel
theorem dL_law_423 : decode cL_law 423 = .ok (.pop, 1) := by decide +kernel
theorem dL_law_424 : decode cL_law 424 = .ok (.goto 240, 3) := by decide +kernel
theorem dL_law_427 : decode cL_law 427 = .ok (.aload_n 1, 1) := by decide +kernel
theorem dL_law_428 : decode cL_law 428 = .ok (.aload_n 0, 1) := by decide +kernel
theorem dL_law_429 : decode cL_law 429 = .ok (.iload_n 3, 1) := by decide +kernel
theorem dL_law_430 : decode cL_law 430 = .ok (.iconst 1, 1) := by decide +kernel
theorem dL_law_431 : decode cL_law 431 = .ok (.iadd, 1) := by decide +kernel
theorem dL_law_432 : decode cL_law 432 = .ok (.iaload, 1) := by decide +kernel
theorem dL_law_433 : decode cL_law 433 = .ok (.invokevirtual 53, 3) := by decide +kernel
theorem dL_law_436 : decode cL_law 436 = .ok (.pop, 1) := by decide +kernel
theorem dL_law_437 : decode cL_law 437 = .ok (.aload_n 2, 1) := by decide +kernel
theorem dL_law_438 : decode cL_law 438 = .ok (.aload_n 0, 1) := by decide +kernel
theorem dL_law_439 : decode cL_law 439 = .ok (.iload_n 3, 1) := by decide +kernel
theorem dL_law_440 : decode cL_law 440 = .ok (.iconst 1, 1) := by decide +kernel
theorem dL_law_441 : decode cL_law 441 = .ok (.iadd, 1) := by decide +kernel
theorem dL_law_442 : decode cL_law 442 = .ok (.iaload, 1) := by decide +kernel
theorem dL_law_443 : decode cL_law 443 = .ok (.invokevirtual 56, 3) := by decide +kernel
theorem dL_law_446 : decode cL_law 446 = .ok (.pop, 1) := by decide +kernel
theorem dL_law_447 : decode cL_law 447 = .ok (.goto 217, 3) := by decide +kernel
theorem dL_law_450 : decode cL_law 450 = .ok (.aload_n 1, 1) := by decide +kernel
theorem dL_law_451 : decode cL_law 451 = .ok (.aload_n 0, 1) := by decide +kernel
theorem dL_law_452 : decode cL_law 452 = .ok (.iload_n 3, 1) := by decide +kernel
theorem dL_law_453 : decode cL_law 453 = .ok (.iconst 1, 1) := by decide +kernel
theorem dL_law_454 : decode cL_law 454 = .ok (.iadd, 1) := by decide +kernel
theorem dL_law_455 : decode cL_law 455 = .ok (.iaload, 1) := by decide +kernel
theorem dL_law_456 : decode cL_law 456 = .ok (.aload_n 0, 1) := by decide +kernel
theorem dL_law_457 : decode cL_law 457 = .ok (.iload_n 3, 1) := by decide +kernel
theorem dL_law_458 : decode cL_law 458 = .ok (.iconst 2, 1) := by decide +kernel
theorem dL_law_459 : decode cL_law 459 = .ok (.iadd, 1) := by decide +kernel
theorem dL_law_460 : decode cL_law 460 = .ok (.iaload, 1) := by decide +kernel
theorem dL_law_461 : decode cL_law 461 = .ok (.invokevirtual 57, 3) := by decide +kernel
theorem dL_law_464 : decode cL_law 464 = .ok (.pop, 1) := by decide +kernel
theorem dL_law_465 : decode cL_law 465 = .ok (.aload_n 2, 1) := by decide +kernel
theorem dL_law_466 : decode cL_law 466 = .ok (.aload_n 0, 1) := by decide +kernel
theorem dL_law_467 : decode cL_law 467 = .ok (.iload_n 3, 1) := by decide +kernel
theorem dL_law_468 : decode cL_law 468 = .ok (.iconst 1, 1) := by decide +kernel
theorem dL_law_469 : decode cL_law 469 = .ok (.iadd, 1) := by decide +kernel
theorem dL_law_470 : decode cL_law 470 = .ok (.iaload, 1) := by decide +kernel
theorem dL_law_471 : decode cL_law 471 = .ok (.aload_n 0, 1) := by decide +kernel
theorem dL_law_472 : decode cL_law 472 = .ok (.iload_n 3, 1) := by decide +kernel
theorem dL_law_473 : decode cL_law 473 = .ok (.iconst 2, 1) := by decide +kernel
theorem dL_law_474 : decode cL_law 474 = .ok (.iadd, 1) := by decide +kernel
theorem dL_law_475 : decode cL_law 475 = .ok (.iaload, 1) := by decide +kernel
theorem dL_law_476 : decode cL_law 476 = .ok (.invokevirtual 60, 3) := by decide +kernel
theorem dL_law_479 : decode cL_law 479 = .ok (.pop, 1) := by decide +kernel
theorem dL_law_480 : decode cL_law 480 = .ok (.goto 184, 3) := by decide +kernel
theorem dL_law_483 : decode cL_law 483 = .ok (.aload_n 1, 1) := by decide +kernel
theorem dL_law_484 : decode cL_law 484 = .ok (.aload_n 0, 1) := by decide +kernel
theorem dL_law_485 : decode cL_law 485 = .ok (.iload_n 3, 1) := by decide +kernel
theorem dL_law_486 : decode cL_law 486 = .ok (.iconst 1, 1) := by decide +kernel
theorem dL_law_487 : decode cL_law 487 = .ok (.iadd, 1) := by decide +kernel
theorem dL_law_488 : decode cL_law 488 = .ok (.iaload, 1) := by decide +kernel
theorem dL_law_489 : decode cL_law 489 = .ok (.invokevirtual 61, 3) := by decide +kernel
theorem dL_law_492 : decode cL_law 492 = .ok (.pop, 1) := by decide +kernel
theorem dL_law_493 : decode cL_law 493 = .ok (.aload_n 2, 1) := by decide +kernel
theorem dL_law_494 : decode cL_law 494 = .ok (.aload_n 0, 1) := by decide +kernel
theorem dL_law_495 : decode cL_law 495 = .ok (.iload_n 3, 1) := by decide +kernel
theorem dL_law_496 : decode cL_law 496 = .ok (.iconst 1, 1) := by decide +kernel
theorem dL_law_497 : decode cL_law 497 = .ok (.iadd, 1) := by decide +kernel
theorem dL_law_498 : decode cL_law 498 = .ok (.iaload, 1) := by decide +kernel
theorem dL_law_499 : decode cL_law 499 = .ok (.invokevirtual 64, 3) := by decide +kernel
theorem dL_law_502 : decode cL_law 502 = .ok (.pop, 1) := by decide +kernel
theorem dL_law_503 : decode cL_law 503 = .ok (.goto 161, 3) := by decide +kernel
theorem dL_law_506 : decode cL_law 506 = .ok (.aload_n 1, 1) := by decide +kernel
theorem dL_law_507 : decode cL_law 507 = .ok (.aload_n 0, 1) := by decide +kernel
theorem dL_law_508 : decode cL_law 508 = .ok (.iload_n 3, 1) := by decide +kernel
theorem dL_law_509 : decode cL_law 509 = .ok (.iconst 1, 1) := by decide +kernel
theorem dL_law_510 : decode cL_law 510 = .ok (.iadd, 1) := by decide +kernel
theorem dL_law_511 : decode cL_law 511 = .ok (.iaload, 1) := by decide +kernel
theorem dL_law_512 : decode cL_law 512 = .ok (.invokevirtual 65, 3) := by decide +kernel
theorem dL_law_515 : decode cL_law 515 = .ok (.pop, 1) := by decide +kernel
theorem dL_law_516 : decode cL_law 516 = .ok (.aload_n 2, 1) := by decide +kernel
theorem dL_law_517 : decode cL_law 517 = .ok (.aload_n 0, 1) := by decide +kernel
theorem dL_law_518 : decode cL_law 518 = .ok (.iload_n 3, 1) := by decide +kernel
theorem dL_law_519 : decode cL_law 519 = .ok (.iconst 1, 1) := by decide +kernel
theorem dL_law_520 : decode cL_law 520 = .ok (.iadd, 1) := by decide +kernel
theorem dL_law_521 : decode cL_law 521 = .ok (.iaload, 1) := by decide +kernel
theorem dL_law_522 : decode cL_law 522 = .ok (.invokevirtual 68, 3) := by decide +kernel
theorem dL_law_525 : decode cL_law 525 = .ok (.pop, 1) := by decide +kernel
theorem dL_law_526 : decode cL_law 526 = .ok (.goto 138, 3) := by decide +kernel
theorem dL_law_529 : decode cL_law 529 = .ok (.aload_n 1, 1) := by decide +kernel
theorem dL_law_530 : decode cL_law 530 = .ok (.aload_n 0, 1) := by decide +kernel
theorem dL_law_531 : decode cL_law 531 = .ok (.iload_n 3, 1) := by decide +kernel
theorem dL_law_532 : decode cL_law 532 = .ok (.iconst 1, 1) := by decide +kernel
theorem dL_law_533 : decode cL_law 533 = .ok (.iadd, 1) := by decide +kernel
theorem dL_law_534 : decode cL_law 534 = .ok (.iaload, 1) := by decide +kernel
theorem dL_law_535 : decode cL_law 535 = .ok (.invokevirtual 69, 3) := by decide +kernel
theorem dL_law_538 : decode cL_law 538 = .ok (.pop, 1) := by decide +kernel
theorem dL_law_539 : decode cL_law 539 = .ok (.aload_n 2, 1) := by decide +kernel
theorem dL_law_540 : decode cL_law 540 = .ok (.aload_n 0, 1) := by decide +kernel
theorem dL_law_541 : decode cL_law 541 = .ok (.iload_n 3, 1) := by decide +kernel
theorem dL_law_542 : decode cL_law 542 = .ok (.iconst 1, 1) := by decide +kernel
theorem dL_law_543 : decode cL_law 543 = .ok (.iadd, 1) := by decide +kernel
theorem dL_law_544 : decode cL_law 544 = .ok (.iaload, 1) := by decide +kernel
theorem dL_law_545 : decode cL_law 545 = .ok (.invokevirtual 72, 3) := by decide +kernel
theorem dL_law_548 : decode cL_law 548 = .ok (.pop, 1) := by decide +kernel
theorem dL_law_549 : decode cL_law 549 = .ok (.goto 115, 3) := by decide +kernel
theorem dL_law_552 : decode cL_law 552 = .ok (.aload_n 1, 1) := by decide +kernel
theorem dL_law_553 : decode cL_law 553 = .ok (.aload_n 0, 1) := by decide +kernel
theorem dL_law_554 : decode cL_law 554 = .ok (.iload_n 3, 1) := by decide +kernel
theorem dL_law_555 : decode cL_law 555 = .ok (.iconst 1, 1) := by decide +kernel
theorem dL_law_556 : decode cL_law 556 = .ok (.iadd, 1) := by decide +kernel
theorem dL_law_557 : decode cL_law 557 = .ok (.iaload, 1) := by decide +kernel
theorem dL_law_558 : decode cL_law 558 = .ok (.aload_n 0, 1) := by decide +kernel
theorem dL_law_559 : decode cL_law 559 = .ok (.iload_n 3, 1) := by decide +kernel
theorem dL_law_560 : decode cL_law 560 = .ok (.iconst 2, 1) := by decide +kernel
theorem dL_law_561 : decode cL_law 561 = .ok (.iadd, 1) := by decide +kernel
theorem dL_law_562 : decode cL_law 562 = .ok (.iaload, 1) := by decide +kernel
theorem dL_law_563 : decode cL_law 563 = .ok (.aload_n 0, 1) := by decide +kernel
theorem dL_law_564 : decode cL_law 564 = .ok (.iload_n 3, 1) := by decide +kernel
theorem dL_law_565 : decode cL_law 565 = .ok (.iconst 3, 1) := by decide +kernel
theorem dL_law_566 : decode cL_law 566 = .ok (.iadd, 1) := by decide +kernel
theorem dL_law_567 : decode cL_law 567 = .ok (.iaload, 1) := by decide +kernel
theorem dL_law_568 : decode cL_law 568 = .ok (.invokevirtual 73, 3) := by decide +kernel
theorem dL_law_571 : decode cL_law 571 = .ok (.pop, 1) := by decide +kernel
theorem dL_law_572 : decode cL_law 572 = .ok (.aload_n 2, 1) := by decide +kernel
theorem dL_law_573 : decode cL_law 573 = .ok (.aload_n 0, 1) := by decide +kernel
theorem dL_law_574 : decode cL_law 574 = .ok (.iload_n 3, 1) := by decide +kernel
theorem dL_law_575 : decode cL_law 575 = .ok (.iconst 1, 1) := by decide +kernel
theorem dL_law_576 : decode cL_law 576 = .ok (.iadd, 1) := by decide +kernel
theorem dL_law_577 : decode cL_law 577 = .ok (.iaload, 1) := by decide +kernel
theorem dL_law_578 : decode cL_law 578 = .ok (.aload_n 0, 1) := by decide +kernel
theorem dL_law_579 : decode cL_law 579 = .ok (.iload_n 3, 1) := by decide +kernel
theorem dL_law_580 : decode cL_law 580 = .ok (.iconst 2, 1) := by decide +kernel
theorem dL_law_581 : decode cL_law 581 = .ok (.iadd, 1) := by decide +kernel
theorem dL_law_582 : decode cL_law 582 = .ok (.iaload, 1) := by decide +kernel
theorem dL_law_583 : decode cL_law 583 = .ok (.aload_n 0, 1) := by decide +kernel
theorem dL_law_584 : decode cL_law 584 = .ok (.iload_n 3, 1) := by decide +kernel
theorem dL_law_585 : decode cL_law 585 = .ok (.iconst 3, 1) := by decide +kernel
theorem dL_law_586 : decode cL_law 586 = .ok (.iadd, 1) := by decide +kernel
theorem dL_law_587 : decode cL_law 587 = .ok (.iaload, 1) := by decide +kernel
theorem dL_law_588 : decode cL_law 588 = .ok (.invokevirtual 76, 3) := by decide +kernel
theorem dL_law_591 : decode cL_law 591 = .ok (.pop, 1) := by decide +kernel
theorem dL_law_592 : decode cL_law 592 = .ok (.goto 72, 3) := by decide +kernel
theorem dL_law_595 : decode cL_law 595 = .ok (.aload_n 1, 1) := by decide +kernel
theorem dL_law_596 : decode cL_law 596 = .ok (.aload_n 0, 1) := by decide +kernel
theorem dL_law_597 : decode cL_law 597 = .ok (.iload_n 3, 1) := by decide +kernel
theorem dL_law_598 : decode cL_law 598 = .ok (.iconst 1, 1) := by decide +kernel
theorem dL_law_599 : decode cL_law 599 = .ok (.iadd, 1) := by decide +kernel
theorem dL_law_600 : decode cL_law 600 = .ok (.iaload, 1) := by decide +kernel
theorem dL_law_601 : decode cL_law 601 = .ok (.invokevirtual 77, 3) := by decide +kernel
theorem dL_law_604 : decode cL_law 604 = .ok (.aload_n 2, 1) := by decide +kernel
theorem dL_law_605 : decode cL_law 605 = .ok (.aload_n 0, 1) := by decide +kernel
theorem dL_law_606 : decode cL_law 606 = .ok (.iload_n 3, 1) := by decide +kernel
theorem dL_law_607 : decode cL_law 607 = .ok (.iconst 1, 1) := by decide +kernel
theorem dL_law_608 : decode cL_law 608 = .ok (.iadd, 1) := by decide +kernel
theorem dL_law_609 : decode cL_law 609 = .ok (.iaload, 1) := by decide +kernel
theorem dL_law_610 : decode cL_law 610 = .ok (.invokevirtual 80, 3) := by decide +kernel
theorem dL_law_613 : decode cL_law 613 = .ok (.if_icmp .eq 51, 3) := by decide +kernel
theorem dL_law_616 : decode cL_law 616 = .ok (.iconst 0, 1) := by decide +kernel
theorem dL_law_617 : decode cL_law 617 = .ok (.ireturn, 1) := by decide +kernel
theorem dL_law_618 : decode cL_law 618 = .ok (.aload_n 1, 1) := by decide +kernel
theorem dL_law_619 : decode cL_law 619 = .ok (.aload_n 0, 1) := by decide +kernel
theorem dL_law_620 : decode cL_law 620 = .ok (.iload_n 3, 1) := by decide +kernel
theorem dL_law_621 : decode cL_law 621 = .ok (.iconst 1, 1) := by decide +kernel
theorem dL_law_622 : decode cL_law 622 = .ok (.iadd, 1) := by decide +kernel
theorem dL_law_623 : decode cL_law 623 = .ok (.iaload, 1) := by decide +kernel
theorem dL_law_624 : decode cL_law 624 = .ok (.invokevirtual 81, 3) := by decide +kernel
theorem dL_law_627 : decode cL_law 627 = .ok (.pop, 1) := by decide +kernel
theorem dL_law_628 : decode cL_law 628 = .ok (.aload_n 2, 1) := by decide +kernel
theorem dL_law_629 : decode cL_law 629 = .ok (.aload_n 0, 1) := by decide +kernel
theorem dL_law_630 : decode cL_law 630 = .ok (.iload_n 3, 1) := by decide +kernel
theorem dL_law_631 : decode cL_law 631 = .ok (.iconst 1, 1) := by decide +kernel
theorem dL_law_632 : decode cL_law 632 = .ok (.iadd, 1) := by decide +kernel
theorem dL_law_633 : decode cL_law 633 = .ok (.iaload, 1) := by decide +kernel
theorem dL_law_634 : decode cL_law 634 = .ok (.invokevirtual 84, 3) := by decide +kernel
theorem dL_law_637 : decode cL_law 637 = .ok (.pop, 1) := by decide +kernel
theorem dL_law_638 : decode cL_law 638 = .ok (.goto 26, 3) := by decide +kernel
theorem dL_law_641 : decode cL_law 641 = .ok (.aload_n 1, 1) := by decide +kernel
theorem dL_law_642 : decode cL_law 642 = .ok (.aload_n 0, 1) := by decide +kernel
theorem dL_law_643 : decode cL_law 643 = .ok (.iload_n 3, 1) := by decide +kernel
theorem dL_law_644 : decode cL_law 644 = .ok (.iconst 1, 1) := by decide +kernel
theorem dL_law_645 : decode cL_law 645 = .ok (.iadd, 1) := by decide +kernel
theorem dL_law_646 : decode cL_law 646 = .ok (.iaload, 1) := by decide +kernel
theorem dL_law_647 : decode cL_law 647 = .ok (.invokevirtual 85, 3) := by decide +kernel
theorem dL_law_650 : decode cL_law 650 = .ok (.pop, 1) := by decide +kernel
theorem dL_law_651 : decode cL_law 651 = .ok (.aload_n 2, 1) := by decide +kernel
theorem dL_law_652 : decode cL_law 652 = .ok (.aload_n 0, 1) := by decide +kernel
theorem dL_law_653 : decode cL_law 653 = .ok (.iload_n 3, 1) := by decide +kernel
theorem dL_law_654 : decode cL_law 654 = .ok (.iconst 1, 1) := by decide +kernel
theorem dL_law_655 : decode cL_law 655 = .ok (.iadd, 1) := by decide +kernel
theorem dL_law_656 : decode cL_law 656 = .ok (.iaload, 1) := by decide +kernel
theorem dL_law_657 : decode cL_law 657 = .ok (.invokevirtual 88, 3) := by decide +kernel
theorem dL_law_660 : decode cL_law 660 = .ok (.pop, 1) := by decide +kernel
theorem dL_law_661 : decode cL_law 661 = .ok (.goto 3, 3) := by decide +kernel
theorem dL_law_664 : decode cL_law 664 = .ok (.iinc 3 6, 3) := by decide +kernel
theorem dL_law_667 : decode cL_law 667 = .ok (.goto (-649), 3) := by decide +kernel
end
section
theorem dL_law_670 : decode cL_law 670 = .ok (.iconst 1, 1) := by decide +kernel
theorem dL_law_671 : decode cL_law 671 = .ok (.ireturn, 1) := by decide +kernel
end
section
/-! nest words: they stand in a contract's start, since a word list can't hold them -/
def nsL : List Cond := [.methodLinkNest RX7 9 yX4_init "RingMeets", .methodLinkNest RX4 17 yX3_init "RingMeets", .fieldLinkNest RX7 122 "RingMeets$Rules" "size" "I" "RingMeets", .fieldLinkNest RX7 100 "RingMeets$Scene" "rules" "LRingMeets$Rules;" "RingMeets", .fieldLinkNest RX7 33 "RingMeets$Scene" "cells" "I" "RingMeets", .methodLinkNest RX7 24 yX1_init "RingMeets", .fieldLinkNest RX7 132 "RingMeets$Look" "side" "I" "RingMeets", .fieldLinkNest RX2 42 "RingMeets$Look" "rule" "I" "RingMeets", .fieldLinkNest RX7 139 "RingMeets$Look" "rule" "I" "RingMeets", .fieldLinkNest RX2 45 "RingMeets$Look" "done" "I" "RingMeets", .fieldLinkNest RX7 142 "RingMeets$Look" "done" "I" "RingMeets", .fieldLinkNest RX7 145 "RingMeets$Look" "goal" "I" "RingMeets", .fieldLinkNest RX7 135 "RingMeets$Look" "even" "Z" "RingMeets", .methodLinkNest RX6 11 yX2_init "RingMeets", .methodLinkNest RX2 11 yX1_init "RingMeets", .fieldLinkNest RX6 115 "RingMeets$Moves" "rulesUsed" "I" "RingMeets", .fieldLinkNest RX7 169 "RingMeets$Walks" "size" "I" "RingMeets", .fieldLinkNest RX7 170 "RingMeets$Walks" "stuck" "I" "RingMeets", .fieldLinkNest RX7 176 "RingMeets$Walks" "rulesUsed" "I" "RingMeets"]
def ns_W (U : State) : Prop := ∀ w ∈ nsL, va_Nw w U
theorem ns_kind : ∀ w ∈ nsL, (∃ a i b n d h, w = Cond.fieldLinkNest a i b n d h) ∨ (∃ a i x h, w = Cond.methodLinkNest a i x h) := by
  intro w hw
  simp only [nsL, List.mem_cons, List.not_mem_nil, or_false] at hw
  rcases hw with rfl | rfl | rfl | rfl | rfl | rfl | rfl | rfl | rfl | rfl | rfl | rfl | rfl | rfl | rfl | rfl | rfl | rfl | rfl <;> first | exact Or.inl ⟨_, _, _, _, _, _, rfl⟩ | exact Or.inr ⟨_, _, _, _, rfl⟩
theorem ns_W.warm {s U : State} (hW : s.WarmedH U.vm) (h : ns_W s) : ns_W U := by
  intro w hw
  have h1 := h w hw
  rcases ns_kind w hw with ⟨a, i, b, n, d, q, rfl⟩ | ⟨a, i, x, q, rfl⟩
  · exact va_Nw.warmF hW h1
  · exact va_Nw.warmM hW h1
theorem ns_W.same {u U : State} (hv : u.vm = U.vm) (h : ns_W u) : ns_W U := by
  intro w hw
  have h1 := h w hw
  rcases ns_kind w hw with ⟨a, i, b, n, d, q, rfl⟩ | ⟨a, i, x, q, rfl⟩
  · exact va_Nw.same rfl hv h1
  · exact va_Nw.same rfl hv h1
theorem ns_W.at {s : State} (h : ns_W s) (k : Nat) {w : Cond} (hk : nsL[k]? = some w) : va_Nw w s := h w (List.mem_of_getElem? hk)
theorem ns_W.fld {s : State} {args : Array Value} (h : ns_W s) (k : Nat) {a : String} {i : Nat} {b n d q : String} (hk : nsL[k]? = some (.fieldLinkNest a i b n d q)) : (Cond.fieldLinkNest a i b n d q).before args s = true := va_Nw.use rfl (h.at k hk)
/-- the tables' side of a world: the classes, the two kinds of rows, the nest words -/
def bs_K (dC : Nat → ClassId) (dI : Nat → Nat → Nat) (cyI cyZ : ClassId) (U : State) : Prop := va_K (dC, dI) vwCl [(cyI, .int), (cyZ, .boolean)] U ∧ ns_W U
theorem bs_K.warm {dC : Nat → ClassId} {dI : Nat → Nat → Nat} {cyI cyZ : ClassId} {s U : State} (hW : s.WarmedH U.vm) (h : bs_K dC dI cyI cyZ s) : bs_K dC dI cyI cyZ U := ⟨va_K.moved hW.alike h.1, h.2.warm hW⟩
theorem bs_K.calling {dC : Nat → ClassId} {dI : Nat → Nat → Nat} {cyI cyZ : ClassId} {U : State} {g : JFrame} {mk : MethodId} {a : Array Value} (h : bs_K dC dI cyI cyZ U) : bs_K dC dI cyI cyZ (U.calling g mk a) := ⟨va_K.moved (u := U) (U := U.calling g mk a) (Vm.Alike.refl U.vm) h.1, h.2.same (u := U) (U := U.calling g mk a) rfl⟩
/-- the start of a method that only reads -/
def bs_R (dC : Nat → ClassId) (dI : Nat → Nat → Nat) (cyI cyZ : ClassId) (av : List Value) (ws : va_W) : Array Value → State → Prop := va_Pc av (fun U => bs_K dC dI cyI cyZ U ∧ va_P (dC, dI) vwCl ws U.heap)
/-- the start of a method that writes or makes cells -/
def bs_W (dC : Nat → ClassId) (dI : Nat → Nat → Nat) (cyI cyZ : ClassId) (av : List Value) (ws : va_W) (sz : Nat) : Array Value → State → Prop := va_Pc av (fun U => U.heap.size = sz ∧ bs_K dC dI cyI cyZ U ∧ va_P (dC, dI) vwCl ws U.heap ∧ va_D (fun _ => True) ws)
theorem bs_R.blind {dC : Nat → ClassId} {dI : Nat → Nat → Nat} {cyI cyZ : ClassId} {av : List Value} {ws : va_W} : FrameBlind (bs_R dC dI cyI cyZ av ws) := fun _ _ _ _ q => ⟨q.1, q.2.1.calling, q.2.2⟩
theorem bs_W.blind {dC : Nat → ClassId} {dI : Nat → Nat → Nat} {cyI cyZ : ClassId} {av : List Value} {ws : va_W} {sz : Nat} : FrameBlind (bs_W dC dI cyI cyZ av ws sz) := fun _ _ _ _ q => ⟨q.1, q.2.1, q.2.2.1.calling, q.2.2.2⟩
theorem bs_RS {dC : Nat → ClassId} {dI : Nat → Nat → Nat} {cyI cyZ : ClassId} {s : State} {H : Heap} {As : List Value} {ws : va_W} (hB : bs_K dC dI cyI cyZ s) (hP : va_P (dC, dI) vwCl ws H) : PreS s H (bs_R dC dI cyI cyZ As ws) As := ⟨bs_R.blind, fun U hU hW => ⟨rfl, hB.warm hW, by rw [hU]; exact hP⟩⟩
theorem bs_RV {dC : Nat → ClassId} {dI : Nat → Nat → Nat} {cyI cyZ : ClassId} {s : State} {H : Heap} {As : List Value} {ws : va_W} {b ci : Nat} {q : vw_C} {fs : List Value} (hB : bs_K dC dI cyI cyZ s) (hP : va_P (dC, dI) vwCl ws H) (q0 : Nat) (hc : vwCl[ci]? = some q) (he : ws[q0]? = some (b, .inr (ci, fs))) : PreV s H q.1 b (bs_R dC dI cyI cyZ (.ref b :: As) ws) As := ⟨bs_R.blind, va_recv hB.1 hP hc he, fun U hU hW => ⟨rfl, hB.warm hW, by rw [hU]; exact hP⟩⟩
theorem bs_WS {dC : Nat → ClassId} {dI : Nat → Nat → Nat} {cyI cyZ : ClassId} {s : State} {H : Heap} {As : List Value} {ws : va_W} {A : Nat → Prop} (hB : bs_K dC dI cyI cyZ s) (hP : va_P (dC, dI) vwCl ws H) (hD : va_D A ws) : PreS s H (bs_W dC dI cyI cyZ As ws H.size) As := ⟨bs_W.blind, fun U hU hW => ⟨rfl, by rw [hU], hB.warm hW, by rw [hU]; exact hP, hD.weaken (fun _ _ _ _ => trivial)⟩⟩
theorem bs_WV {dC : Nat → ClassId} {dI : Nat → Nat → Nat} {cyI cyZ : ClassId} {s : State} {H : Heap} {As : List Value} {ws : va_W} {A : Nat → Prop} {b ci : Nat} {q : vw_C} {fs : List Value} (hB : bs_K dC dI cyI cyZ s) (hP : va_P (dC, dI) vwCl ws H) (hD : va_D A ws) (q0 : Nat) (hc : vwCl[ci]? = some q) (he : ws[q0]? = some (b, .inr (ci, fs))) : PreV s H q.1 b (bs_W dC dI cyI cyZ (.ref b :: As) ws H.size) As := ⟨bs_W.blind, va_recv hB.1 hP hc he, fun U hU hW => ⟨rfl, by rw [hU], hB.warm hW, by rw [hU]; exact hP, hD.weaken (fun _ _ _ _ => trivial)⟩⟩
/-- the world behind a method that writes -/
def bs_E (dC : Nat → ClassId) (dI : Nat → Nat → Nat) (A : Nat → Prop) (ws : va_W) (t : State) : Prop := va_P (dC, dI) vwCl ws t.heap ∧ va_D A ws
theorem bs_nil {dC : Nat → ClassId} {dI : Nat → Nat → Nat} {H : Heap} : va_P (dC, dI) vwCl [] H := fun k q h => by simp at h
theorem bs_nilD {A : Nat → Prop} : va_D A [] := ⟨fun i j p q h => by simp at h, fun k q h => by simp at h⟩
/-- one row class of a kind: a new row's class is the known one -/
theorem bs_same {s : State} {a b : ClassId} {ty : FieldType} (hty : ty = .int ∨ ty = .boolean) (h1 : va_RA s a ty) (h2 : va_RA s b ty) : a = b := by
  rcases hty with rfl | rfl
  · exact Option.some.inj (h1.symm.trans h2)
  · exact Option.some.inj (h1.symm.trans h2)
theorem bs_vI {cA : ClassId} {N : Nat} : vp_cell cA (N, .inl (fun _ => (0 : Int32))) = arrV cA N (fun _ => defaultValue .int) := rfl
theorem bs_vZ {cA : ClassId} {N : Nat} : vp_cell cA (N, .inl (fun _ => (0 : Int32))) = arrV cA N (fun _ => defaultValue .boolean) := rfl
section BSN
variable {p : Program} {l : Launch} {e : Env} {R : Room} {s : State} {m : MethodId} {args : Array Value} {below : List Frame} {meth : Method} {c : Code} {H H0 : Heap} {locs : List Loc} {cells slots : Nat} {Q : State → Prop} {A : Nat → Prop}
variable {cc : ByteArray} {pc : Nat} {ls : Array Slot} {rest : List Value} {dC : Nat → ClassId} {dI : Nat → Nat → Nat} {cyI cyZ : ClassId} {ws : va_W}
theorem bs_newI (hexec : p.tables.exec = Jvm.exec) (hb : c.code = cc) (harr : (Cond.arrayClass .int).before args s = true) (hB : bs_K dC dI cyI cyZ s) (hP : va_P (dC, dI) vwCl ws H) (hD : va_D A ws) (hS : va_S A H0 H locs) (hA : ∀ q, H0.size ≤ q → A q)
    {n : Int32} (N : Nat) (hn : ¬ n < 0) (hN : n.toNatClampNeg = N) (hbytes : N * componentBytes .int ≤ 536870912) (hcells : cells + 1 ≤ R.cells) (hslots : slots + N ≤ R.slots) (hdg : decode cc pc = .ok (.newarray .int, 2))
    (kk : ∀ (q : Nat) (H1 : Heap), va_P (dC, dI) vwCl (ws ++ [(q, .inl (cyI, N, .inl (fun _ => (0 : Int32))))]) H1 → va_D A (ws ++ [(q, .inl (cyI, N, .inl (fun _ => (0 : Int32))))]) → va_S A H0 H1 locs →
      W p l e R s m args below meth c H1 locs (cells + 1) (slots + N) Q (F0 m (pc + 2) ls (.ref q :: rest))) : W p l e R s m args below meth c H locs cells slots Q (F0 m pc ls (.int n :: rest)) := by
  refine va_newa (atype := .int) (ty := .int) (a0 := (N, .inl (fun _ => (0 : Int32)))) hexec hb harr rfl hB.1 hP hD hS hA (fun cA => bs_vI) hn hN hbytes hcells hslots hdg (fun q cA H1 hK1 hP1 hD1 hS1 => ?_)
  have h1 := (hK1.2 2 (cA, .int) rfl).2
  have h2 := (hB.1.2 0 (cyI, .int) rfl).2
  have h3 : cA = cyI := bs_same (Or.inl rfl) h1 h2
  subst h3
  exact kk q H1 hP1 hD1 hS1
theorem bs_newZ (hexec : p.tables.exec = Jvm.exec) (hb : c.code = cc) (harr : (Cond.arrayClass .boolean).before args s = true) (hB : bs_K dC dI cyI cyZ s) (hP : va_P (dC, dI) vwCl ws H) (hD : va_D A ws) (hS : va_S A H0 H locs) (hA : ∀ q, H0.size ≤ q → A q)
    {n : Int32} (N : Nat) (hn : ¬ n < 0) (hN : n.toNatClampNeg = N) (hbytes : N * componentBytes .boolean ≤ 536870912) (hcells : cells + 1 ≤ R.cells) (hslots : slots + N ≤ R.slots) (hdg : decode cc pc = .ok (.newarray .boolean, 2))
    (kk : ∀ (q : Nat) (H1 : Heap), va_P (dC, dI) vwCl (ws ++ [(q, .inl (cyZ, N, .inl (fun _ => (0 : Int32))))]) H1 → va_D A (ws ++ [(q, .inl (cyZ, N, .inl (fun _ => (0 : Int32))))]) → va_S A H0 H1 locs →
      W p l e R s m args below meth c H1 locs (cells + 1) (slots + N) Q (F0 m (pc + 2) ls (.ref q :: rest))) : W p l e R s m args below meth c H locs cells slots Q (F0 m pc ls (.int n :: rest)) := by
  refine va_newa (atype := .boolean) (ty := .boolean) (a0 := (N, .inl (fun _ => (0 : Int32)))) hexec hb harr rfl hB.1 hP hD hS hA (fun cA => bs_vZ) hn hN hbytes hcells hslots hdg (fun q cA H1 hK1 hP1 hD1 hS1 => ?_)
  have h1 := (hK1.2 2 (cA, .boolean) rfl).2
  have h2 := (hB.1.2 1 (cyZ, .boolean) rfl).2
  have h3 : cA = cyZ := bs_same (Or.inr rfl) h1 h2
  subst h3
  exact kk q H1 hP1 hD1 hS1
end BSN
/-! numbers -/
theorem nb_ltL {a : Nat} {y : Int32} {b : Nat} (hy : y = nI b) (ha : a < 2 ^ 31) (hb : b < 2 ^ 31) : nI a < y ↔ a < b := by subst hy; exact nI_ltI ha hb
theorem nb_z : (0 : Int32) = nI 0 := rfl
theorem ci_lt {x y : Int32} {a b : Int} (hx : x.toInt = a) (hy : y.toInt = b) (h : x < y) : a < b := by rw [← hx, ← hy]; exact Int32.lt_iff_toInt_lt.mp h
theorem ci_le {x y : Int32} {a b : Int} (hx : x.toInt = a) (hy : y.toInt = b) (h : x ≤ y) : a ≤ b := by rw [← hx, ← hy]; exact Int32.le_iff_toInt_le.mp h
theorem ci_nlt {x y : Int32} {a b : Int} (hx : x.toInt = a) (hy : y.toInt = b) (h : ¬ x < y) : b ≤ a := by
  rw [← hx, ← hy]; exact Int.not_lt.mp (fun q => h (Int32.lt_iff_toInt_lt.mpr q))
theorem ci_nle {x y : Int32} {a b : Int} (hx : x.toInt = a) (hy : y.toInt = b) (h : ¬ x ≤ y) : b < a := by
  rw [← hx, ← hy]; exact Int.not_le.mp (fun q => h (Int32.le_iff_toInt_le.mpr q))
theorem ci_eq {x y : Int32} {a b : Int} (hx : x.toInt = a) (hy : y.toInt = b) (h : x = y) : a = b := by rw [← hx, ← hy, h]
theorem ci_ne {x y : Int32} {a b : Int} (hx : x.toInt = a) (hy : y.toInt = b) (h : ¬ x = y) : ¬ a = b := by rw [← hx, ← hy]; exact fun q => h (Int32.toInt_inj.mp q)
theorem nb_in {x : Int32} {n : Nat} (h0 : 0 ≤ x.toInt) (h1 : x.toInt < n) : vp_in x n := vp_in_iff.mpr ⟨h0, h1⟩
theorem nb_of {x : Int32} {n : Nat} (h0 : 0 ≤ x.toInt) (h1 : x.toInt ≤ n) (hn : n + 1 < 2 ^ 31) : ∃ k : Nat, k ≤ n ∧ x = nI k := by
  obtain ⟨j, hj, e⟩ := vp_in_of (n := n + 1) (vp_in_iff.mpr ⟨h0, by omega⟩) hn
  exact ⟨j, by omega, e⟩
theorem nb_sw (x : Int32) (n : Nat) (i : Int) (hi : i = n) (hn : n < 100 := by decide) : (x.toInt < 0 ∨ i < x.toInt) ∨ ∃ k : Nat, k ≤ n ∧ x = nI k := by
  by_cases h : x.toInt < 0 ∨ i < x.toInt
  · exact Or.inl h
  · exact Or.inr (nb_of (by omega) (by omega) (by omega))
theorem nb_shr0 (y : Int32) : (0 : Int32) >>> y = 0 := by
  apply Int32.toBitVec_inj.mp
  simp
theorem nb_int (x : Int32) : -2147483648 ≤ x.toInt ∧ x.toInt ≤ 2147483647 := by
  have h1 := Int32.le_toInt x
  have h2 := Int32.toInt_lt x
  omega
theorem nb_andm1 (x : Int32) : x &&& (-1) = x := by
  apply Int32.toBitVec_inj.mp
  simp
theorem nb_sub {a b : Nat} (h : b ≤ a) : nI a - nI b = nI (a - b) := by
  have e : nI (a - b) + nI b = nI a := by rw [nI_add, Nat.sub_add_cancel h]
  rw [← e, Int32.add_sub_cancel]
theorem nb_mul (a b : Nat) : nI a * nI b = nI (a * b) := by
  unfold nI
  rw [Int32.ofNat_mul]
theorem nb_nar {r : Int32} (h : r = 0 ∨ r = 1) : narrow .boolean (.int r) = .int r := by rcases h with rfl | rfl <;> rfl
theorem nb_p3 {k : Nat} (h : k ≤ 10) : ¬ nI (3 ^ k) = 0 := by
  rcases (show k = 0 ∨ k = 1 ∨ k = 2 ∨ k = 3 ∨ k = 4 ∨ k = 5 ∨ k = 6 ∨ k = 7 ∨ k = 8 ∨ k = 9 ∨ k = 10 by omega) with rfl | rfl | rfl | rfl | rfl | rfl | rfl | rfl | rfl | rfl | rfl <;> decide
theorem nb_p3s {k : Nat} (h : 1 ≤ k) : 3 * nI (3 ^ (k - 1)) = nI (3 ^ k) := by
  obtain ⟨j, rfl⟩ : ∃ j, k = j + 1 := ⟨k - 1, by omega⟩
  have e : (3 : Int32) = nI 3 := rfl
  rw [e, nb_mul, Nat.add_sub_cancel, Nat.pow_succ, Nat.mul_comm]
theorem nb_01 {x : Int32} (h0 : 0 ≤ x.toInt) (h1 : x.toInt ≤ 1) : x = 0 ∨ x = 1 := by
  obtain ⟨k, hk, rfl⟩ := nb_of (n := 1) h0 (by omega) (by decide)
  rcases (show k = 0 ∨ k = 1 by omega) with rfl | rfl
  · exact Or.inl rfl
  · exact Or.inr rfl
end
