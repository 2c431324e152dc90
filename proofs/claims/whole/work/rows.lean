section
-- ===== PART A: goes FIRST, ahead of the names: the tables' words, and 'selects' of the private methods out of them =====
/-- a private method of a class that the tables say can be made, by its rows of tables_1 -/
def lw_okq (q : MethodName × Nat) : Prop := (q.1.cls ≠ "java/lang/invoke/MethodHandle" ∧ q.1.cls ≠ "java/lang/invoke/VarHandle") ∧ Cond.instantiable q.1.cls q.2 ∈ tables_1 ∧ Cond.privateMethod q.1 ∈ tables_1 ∧ Cond.instanceMethod q.1 ∈ tables_1
theorem lw_p0 : lw_okq (⟨"ShareServer", "attempt", "(LShareServer$Request;)I"⟩, 9) := ⟨⟨by decide +kernel, by decide +kernel⟩, List.mem_of_getElem? (i := 10) (by decide +kernel), List.mem_of_getElem? (i := 154) (by decide +kernel), List.mem_of_getElem? (i := 155) (by decide +kernel)⟩
theorem lw_p1 : lw_okq (⟨"ShareServer", "isFolderThere", "(I)Z"⟩, 9) := ⟨⟨by decide +kernel, by decide +kernel⟩, List.mem_of_getElem? (i := 10) (by decide +kernel), List.mem_of_getElem? (i := 158) (by decide +kernel), List.mem_of_getElem? (i := 159) (by decide +kernel)⟩
theorem lw_p2 : lw_okq (⟨"ShareServer", "nodeAt", "(II)LShareServer$Node;"⟩, 9) := ⟨⟨by decide +kernel, by decide +kernel⟩, List.mem_of_getElem? (i := 10) (by decide +kernel), List.mem_of_getElem? (i := 162) (by decide +kernel), List.mem_of_getElem? (i := 163) (by decide +kernel)⟩
theorem lw_p3 : lw_okq (⟨"ShareServer", "openNew", "(LShareServer$Request;)I"⟩, 9) := ⟨⟨by decide +kernel, by decide +kernel⟩, List.mem_of_getElem? (i := 10) (by decide +kernel), List.mem_of_getElem? (i := 166) (by decide +kernel), List.mem_of_getElem? (i := 167) (by decide +kernel)⟩
theorem lw_p4 : lw_okq (⟨"ShareServer", "makeNode", "(LShareServer$Request;)LShareServer$Node;"⟩, 9) := ⟨⟨by decide +kernel, by decide +kernel⟩, List.mem_of_getElem? (i := 10) (by decide +kernel), List.mem_of_getElem? (i := 174) (by decide +kernel), List.mem_of_getElem? (i := 175) (by decide +kernel)⟩
theorem lw_p5 : lw_okq (⟨"ShareServer", "makeHandle", "(LShareServer$Request;LShareServer$Node;)I"⟩, 9) := ⟨⟨by decide +kernel, by decide +kernel⟩, List.mem_of_getElem? (i := 10) (by decide +kernel), List.mem_of_getElem? (i := 209) (by decide +kernel), List.mem_of_getElem? (i := 210) (by decide +kernel)⟩
theorem lw_p6 : lw_okq (⟨"ShareServer", "grantFor", "(LShareServer$Request;LShareServer$Node;)I"⟩, 9) := ⟨⟨by decide +kernel, by decide +kernel⟩, List.mem_of_getElem? (i := 10) (by decide +kernel), List.mem_of_getElem? (i := 213) (by decide +kernel), List.mem_of_getElem? (i := 214) (by decide +kernel)⟩
theorem lw_p7 : lw_okq (⟨"ShareServer", "opensOf", "(LShareServer$Node;)I"⟩, 9) := ⟨⟨by decide +kernel, by decide +kernel⟩, List.mem_of_getElem? (i := 10) (by decide +kernel), List.mem_of_getElem? (i := 217) (by decide +kernel), List.mem_of_getElem? (i := 218) (by decide +kernel)⟩
theorem lw_p8 : lw_okq (⟨"ShareServer", "openThere", "(LShareServer$Request;LShareServer$Node;)I"⟩, 9) := ⟨⟨by decide +kernel, by decide +kernel⟩, List.mem_of_getElem? (i := 10) (by decide +kernel), List.mem_of_getElem? (i := 264) (by decide +kernel), List.mem_of_getElem? (i := 265) (by decide +kernel)⟩
theorem lw_p9 : lw_okq (⟨"ShareServer", "breaksGrant", "(LShareServer$Node;)Z"⟩, 9) := ⟨⟨by decide +kernel, by decide +kernel⟩, List.mem_of_getElem? (i := 10) (by decide +kernel), List.mem_of_getElem? (i := 268) (by decide +kernel), List.mem_of_getElem? (i := 269) (by decide +kernel)⟩
theorem lw_p10 : lw_okq (⟨"ShareServer", "clashesWithOpens", "(LShareServer$Request;LShareServer$Node;)Z"⟩, 9) := ⟨⟨by decide +kernel, by decide +kernel⟩, List.mem_of_getElem? (i := 10) (by decide +kernel), List.mem_of_getElem? (i := 272) (by decide +kernel), List.mem_of_getElem? (i := 273) (by decide +kernel)⟩
theorem lw_p11 : lw_okq (⟨"ShareServer", "requestNumbered", "(I)LShareServer$Request;"⟩, 9) := ⟨⟨by decide +kernel, by decide +kernel⟩, List.mem_of_getElem? (i := 10) (by decide +kernel), List.mem_of_getElem? (i := 282) (by decide +kernel), List.mem_of_getElem? (i := 283) (by decide +kernel)⟩
theorem lw_p12 : lw_okq (⟨"ShareServer", "openHandle", "(I)LShareServer$Handle;"⟩, 9) := ⟨⟨by decide +kernel, by decide +kernel⟩, List.mem_of_getElem? (i := 10) (by decide +kernel), List.mem_of_getElem? (i := 294) (by decide +kernel), List.mem_of_getElem? (i := 295) (by decide +kernel)⟩
theorem lw_p13 : lw_okq (⟨"ShareServer", "tryWaitingAgain", "()V"⟩, 9) := ⟨⟨by decide +kernel, by decide +kernel⟩, List.mem_of_getElem? (i := 10) (by decide +kernel), List.mem_of_getElem? (i := 298) (by decide +kernel), List.mem_of_getElem? (i := 299) (by decide +kernel)⟩
theorem lw_p14 : lw_okq (⟨"ShareServer", "dropFromOpens", "(LShareServer$Handle;)V"⟩, 9) := ⟨⟨by decide +kernel, by decide +kernel⟩, List.mem_of_getElem? (i := 10) (by decide +kernel), List.mem_of_getElem? (i := 310) (by decide +kernel), List.mem_of_getElem? (i := 311) (by decide +kernel)⟩
theorem lw_p15 : lw_okq (⟨"ShareServer", "doomIfItRemoves", "(LShareServer$Handle;)V"⟩, 9) := ⟨⟨by decide +kernel, by decide +kernel⟩, List.mem_of_getElem? (i := 10) (by decide +kernel), List.mem_of_getElem? (i := 314) (by decide +kernel), List.mem_of_getElem? (i := 315) (by decide +kernel)⟩
def lw_privs_1 : List (MethodName × Nat) := [(⟨"ShareServer", "attempt", "(LShareServer$Request;)I"⟩, 9), (⟨"ShareServer", "isFolderThere", "(I)Z"⟩, 9), (⟨"ShareServer", "nodeAt", "(II)LShareServer$Node;"⟩, 9), (⟨"ShareServer", "openNew", "(LShareServer$Request;)I"⟩, 9), (⟨"ShareServer", "makeNode", "(LShareServer$Request;)LShareServer$Node;"⟩, 9), (⟨"ShareServer", "makeHandle", "(LShareServer$Request;LShareServer$Node;)I"⟩, 9), (⟨"ShareServer", "grantFor", "(LShareServer$Request;LShareServer$Node;)I"⟩, 9), (⟨"ShareServer", "opensOf", "(LShareServer$Node;)I"⟩, 9), (⟨"ShareServer", "openThere", "(LShareServer$Request;LShareServer$Node;)I"⟩, 9), (⟨"ShareServer", "breaksGrant", "(LShareServer$Node;)Z"⟩, 9), (⟨"ShareServer", "clashesWithOpens", "(LShareServer$Request;LShareServer$Node;)Z"⟩, 9), (⟨"ShareServer", "requestNumbered", "(I)LShareServer$Request;"⟩, 9), (⟨"ShareServer", "openHandle", "(I)LShareServer$Handle;"⟩, 9), (⟨"ShareServer", "tryWaitingAgain", "()V"⟩, 9), (⟨"ShareServer", "dropFromOpens", "(LShareServer$Handle;)V"⟩, 9), (⟨"ShareServer", "doomIfItRemoves", "(LShareServer$Handle;)V"⟩, 9)]
theorem lw_r1 : ∀ q ∈ lw_privs_1, lw_okq q := List.forall_mem_cons.mpr ⟨lw_p0, List.forall_mem_cons.mpr ⟨lw_p1, List.forall_mem_cons.mpr ⟨lw_p2, List.forall_mem_cons.mpr ⟨lw_p3, List.forall_mem_cons.mpr ⟨lw_p4, List.forall_mem_cons.mpr ⟨lw_p5, List.forall_mem_cons.mpr ⟨lw_p6, List.forall_mem_cons.mpr ⟨lw_p7, List.forall_mem_cons.mpr ⟨lw_p8, List.forall_mem_cons.mpr ⟨lw_p9, List.forall_mem_cons.mpr ⟨lw_p10, List.forall_mem_cons.mpr ⟨lw_p11, List.forall_mem_cons.mpr ⟨lw_p12, List.forall_mem_cons.mpr ⟨lw_p13, List.forall_mem_cons.mpr ⟨lw_p14, List.forall_mem_cons.mpr ⟨lw_p15, fun _ h => absurd h List.not_mem_nil⟩⟩⟩⟩⟩⟩⟩⟩⟩⟩⟩⟩⟩⟩⟩⟩
theorem lw_p16 : lw_okq (⟨"ShareServer", "isRemovable", "(LShareServer$Node;)Z"⟩, 9) := ⟨⟨by decide +kernel, by decide +kernel⟩, List.mem_of_getElem? (i := 10) (by decide +kernel), List.mem_of_getElem? (i := 318) (by decide +kernel), List.mem_of_getElem? (i := 319) (by decide +kernel)⟩
theorem lw_p17 : lw_okq (⟨"ShareServer", "nodesIn", "(LShareServer$Node;)I"⟩, 9) := ⟨⟨by decide +kernel, by decide +kernel⟩, List.mem_of_getElem? (i := 10) (by decide +kernel), List.mem_of_getElem? (i := 322) (by decide +kernel), List.mem_of_getElem? (i := 323) (by decide +kernel)⟩
theorem lw_p18 : lw_okq (⟨"ShareServer", "settleDoom", "(LShareServer$Node;)V"⟩, 9) := ⟨⟨by decide +kernel, by decide +kernel⟩, List.mem_of_getElem? (i := 10) (by decide +kernel), List.mem_of_getElem? (i := 326) (by decide +kernel), List.mem_of_getElem? (i := 327) (by decide +kernel)⟩
theorem lw_p19 : lw_okq (⟨"ShareServer", "isOrLiesInside", "(II)Z"⟩, 9) := ⟨⟨by decide +kernel, by decide +kernel⟩, List.mem_of_getElem? (i := 10) (by decide +kernel), List.mem_of_getElem? (i := 342) (by decide +kernel), List.mem_of_getElem? (i := 343) (by decide +kernel)⟩
theorem lw_p20 : lw_okq (⟨"ShareServer", "endSharedGrantsBeside", "(LShareServer$Handle;)V"⟩, 9) := ⟨⟨by decide +kernel, by decide +kernel⟩, List.mem_of_getElem? (i := 10) (by decide +kernel), List.mem_of_getElem? (i := 370) (by decide +kernel), List.mem_of_getElem? (i := 371) (by decide +kernel)⟩
theorem lw_p21 : lw_okq (⟨"ShareServer", "undoUnsafeChanges", "()V"⟩, 9) := ⟨⟨by decide +kernel, by decide +kernel⟩, List.mem_of_getElem? (i := 10) (by decide +kernel), List.mem_of_getElem? (i := 442) (by decide +kernel), List.mem_of_getElem? (i := 443) (by decide +kernel)⟩
theorem lw_p22 : lw_okq (⟨"ShareServer", "undo", "(LShareServer$Change;)V"⟩, 9) := ⟨⟨by decide +kernel, by decide +kernel⟩, List.mem_of_getElem? (i := 10) (by decide +kernel), List.mem_of_getElem? (i := 446) (by decide +kernel), List.mem_of_getElem? (i := 447) (by decide +kernel)⟩
theorem lw_p23 : lw_okq (⟨"ShareServer", "calmNodes", "()V"⟩, 9) := ⟨⟨by decide +kernel, by decide +kernel⟩, List.mem_of_getElem? (i := 10) (by decide +kernel), List.mem_of_getElem? (i := 450) (by decide +kernel), List.mem_of_getElem? (i := 451) (by decide +kernel)⟩
theorem lw_p24 : lw_okq (⟨"ShareServer", "loseWaiting", "()V"⟩, 9) := ⟨⟨by decide +kernel, by decide +kernel⟩, List.mem_of_getElem? (i := 10) (by decide +kernel), List.mem_of_getElem? (i := 454) (by decide +kernel), List.mem_of_getElem? (i := 455) (by decide +kernel)⟩
theorem lw_p25 : lw_okq (⟨"ShareServer", "waitingRequests", "()I"⟩, 9) := ⟨⟨by decide +kernel, by decide +kernel⟩, List.mem_of_getElem? (i := 10) (by decide +kernel), List.mem_of_getElem? (i := 474) (by decide +kernel), List.mem_of_getElem? (i := 475) (by decide +kernel)⟩
theorem lw_p26 : lw_okq (⟨"ShareServerModel", "attempt", "(I)I"⟩, 17) := ⟨⟨by decide +kernel, by decide +kernel⟩, List.mem_of_getElem? (i := 478) (by decide +kernel), List.mem_of_getElem? (i := 544) (by decide +kernel), List.mem_of_getElem? (i := 545) (by decide +kernel)⟩
theorem lw_p27 : lw_okq (⟨"ShareServerModel", "at", "(II)I"⟩, 17) := ⟨⟨by decide +kernel, by decide +kernel⟩, List.mem_of_getElem? (i := 478) (by decide +kernel), List.mem_of_getElem? (i := 548) (by decide +kernel), List.mem_of_getElem? (i := 549) (by decide +kernel)⟩
theorem lw_p28 : lw_okq (⟨"ShareServerModel", "openOf", "(I)I"⟩, 17) := ⟨⟨by decide +kernel, by decide +kernel⟩, List.mem_of_getElem? (i := 478) (by decide +kernel), List.mem_of_getElem? (i := 552) (by decide +kernel), List.mem_of_getElem? (i := 553) (by decide +kernel)⟩
theorem lw_p29 : lw_okq (⟨"ShareServerModel", "h", "(II)I"⟩, 17) := ⟨⟨by decide +kernel, by decide +kernel⟩, List.mem_of_getElem? (i := 478) (by decide +kernel), List.mem_of_getElem? (i := 556) (by decide +kernel), List.mem_of_getElem? (i := 557) (by decide +kernel)⟩
theorem lw_p30 : lw_okq (⟨"ShareServerModel", "note", "(IIIII)V"⟩, 17) := ⟨⟨by decide +kernel, by decide +kernel⟩, List.mem_of_getElem? (i := 478) (by decide +kernel), List.mem_of_getElem? (i := 560) (by decide +kernel), List.mem_of_getElem? (i := 561) (by decide +kernel)⟩
theorem lw_p31 : lw_okq (⟨"ShareServerModel", "apply", "(I)V"⟩, 17) := ⟨⟨by decide +kernel, by decide +kernel⟩, List.mem_of_getElem? (i := 478) (by decide +kernel), List.mem_of_getElem? (i := 564) (by decide +kernel), List.mem_of_getElem? (i := 565) (by decide +kernel)⟩
def lw_privs_2 : List (MethodName × Nat) := [(⟨"ShareServer", "isRemovable", "(LShareServer$Node;)Z"⟩, 9), (⟨"ShareServer", "nodesIn", "(LShareServer$Node;)I"⟩, 9), (⟨"ShareServer", "settleDoom", "(LShareServer$Node;)V"⟩, 9), (⟨"ShareServer", "isOrLiesInside", "(II)Z"⟩, 9), (⟨"ShareServer", "endSharedGrantsBeside", "(LShareServer$Handle;)V"⟩, 9), (⟨"ShareServer", "undoUnsafeChanges", "()V"⟩, 9), (⟨"ShareServer", "undo", "(LShareServer$Change;)V"⟩, 9), (⟨"ShareServer", "calmNodes", "()V"⟩, 9), (⟨"ShareServer", "loseWaiting", "()V"⟩, 9), (⟨"ShareServer", "waitingRequests", "()I"⟩, 9), (⟨"ShareServerModel", "attempt", "(I)I"⟩, 17), (⟨"ShareServerModel", "at", "(II)I"⟩, 17), (⟨"ShareServerModel", "openOf", "(I)I"⟩, 17), (⟨"ShareServerModel", "h", "(II)I"⟩, 17), (⟨"ShareServerModel", "note", "(IIIII)V"⟩, 17), (⟨"ShareServerModel", "apply", "(I)V"⟩, 17)]
theorem lw_r2 : ∀ q ∈ lw_privs_2, lw_okq q := List.forall_mem_cons.mpr ⟨lw_p16, List.forall_mem_cons.mpr ⟨lw_p17, List.forall_mem_cons.mpr ⟨lw_p18, List.forall_mem_cons.mpr ⟨lw_p19, List.forall_mem_cons.mpr ⟨lw_p20, List.forall_mem_cons.mpr ⟨lw_p21, List.forall_mem_cons.mpr ⟨lw_p22, List.forall_mem_cons.mpr ⟨lw_p23, List.forall_mem_cons.mpr ⟨lw_p24, List.forall_mem_cons.mpr ⟨lw_p25, List.forall_mem_cons.mpr ⟨lw_p26, List.forall_mem_cons.mpr ⟨lw_p27, List.forall_mem_cons.mpr ⟨lw_p28, List.forall_mem_cons.mpr ⟨lw_p29, List.forall_mem_cons.mpr ⟨lw_p30, List.forall_mem_cons.mpr ⟨lw_p31, fun _ h => absurd h List.not_mem_nil⟩⟩⟩⟩⟩⟩⟩⟩⟩⟩⟩⟩⟩⟩⟩⟩
theorem lw_p32 : lw_okq (⟨"ShareServerModel", "grant", "(II)I"⟩, 17) := ⟨⟨by decide +kernel, by decide +kernel⟩, List.mem_of_getElem? (i := 478) (by decide +kernel), List.mem_of_getElem? (i := 568) (by decide +kernel), List.mem_of_getElem? (i := 569) (by decide +kernel)⟩
theorem lw_p33 : lw_okq (⟨"ShareServerModel", "breaks", "(I)Z"⟩, 17) := ⟨⟨by decide +kernel, by decide +kernel⟩, List.mem_of_getElem? (i := 478) (by decide +kernel), List.mem_of_getElem? (i := 572) (by decide +kernel), List.mem_of_getElem? (i := 573) (by decide +kernel)⟩
theorem lw_p34 : lw_okq (⟨"ShareServerModel", "sharing", "(II)Z"⟩, 17) := ⟨⟨by decide +kernel, by decide +kernel⟩, List.mem_of_getElem? (i := 478) (by decide +kernel), List.mem_of_getElem? (i := 576) (by decide +kernel), List.mem_of_getElem? (i := 577) (by decide +kernel)⟩
theorem lw_p35 : lw_okq (⟨"ShareServerModel", "shut", "(I)Z"⟩, 17) := ⟨⟨by decide +kernel, by decide +kernel⟩, List.mem_of_getElem? (i := 478) (by decide +kernel), List.mem_of_getElem? (i := 592) (by decide +kernel), List.mem_of_getElem? (i := 593) (by decide +kernel)⟩
theorem lw_p36 : lw_okq (⟨"ShareServerModel", "tryAgain", "()V"⟩, 17) := ⟨⟨by decide +kernel, by decide +kernel⟩, List.mem_of_getElem? (i := 478) (by decide +kernel), List.mem_of_getElem? (i := 596) (by decide +kernel), List.mem_of_getElem? (i := 597) (by decide +kernel)⟩
theorem lw_p37 : lw_okq (⟨"ShareServerModel", "unlockAt", "(I)V"⟩, 17) := ⟨⟨by decide +kernel, by decide +kernel⟩, List.mem_of_getElem? (i := 478) (by decide +kernel), List.mem_of_getElem? (i := 604) (by decide +kernel), List.mem_of_getElem? (i := 605) (by decide +kernel)⟩
theorem lw_p38 : lw_okq (⟨"ShareServerModel", "inside", "(I)I"⟩, 17) := ⟨⟨by decide +kernel, by decide +kernel⟩, List.mem_of_getElem? (i := 478) (by decide +kernel), List.mem_of_getElem? (i := 608) (by decide +kernel), List.mem_of_getElem? (i := 609) (by decide +kernel)⟩
theorem lw_p39 : lw_okq (⟨"ShareServerModel", "may", "(III)Z"⟩, 17) := ⟨⟨by decide +kernel, by decide +kernel⟩, List.mem_of_getElem? (i := 478) (by decide +kernel), List.mem_of_getElem? (i := 624) (by decide +kernel), List.mem_of_getElem? (i := 625) (by decide +kernel)⟩
theorem lw_p40 : lw_okq (⟨"ShareServerModel", "met", "(IIIZI)Z"⟩, 17) := ⟨⟨by decide +kernel, by decide +kernel⟩, List.mem_of_getElem? (i := 478) (by decide +kernel), List.mem_of_getElem? (i := 628) (by decide +kernel), List.mem_of_getElem? (i := 629) (by decide +kernel)⟩
theorem lw_p41 : lw_okq (⟨"ShareServerModel", "badRange", "(III)Z"⟩, 17) := ⟨⟨by decide +kernel, by decide +kernel⟩, List.mem_of_getElem? (i := 478) (by decide +kernel), List.mem_of_getElem? (i := 644) (by decide +kernel), List.mem_of_getElem? (i := 645) (by decide +kernel)⟩
theorem lw_p42 : lw_okq (⟨"ShareServerModel", "locksOf", "(I)I"⟩, 17) := ⟨⟨by decide +kernel, by decide +kernel⟩, List.mem_of_getElem? (i := 478) (by decide +kernel), List.mem_of_getElem? (i := 648) (by decide +kernel), List.mem_of_getElem? (i := 649) (by decide +kernel)⟩
def lw_privs_3 : List (MethodName × Nat) := [(⟨"ShareServerModel", "grant", "(II)I"⟩, 17), (⟨"ShareServerModel", "breaks", "(I)Z"⟩, 17), (⟨"ShareServerModel", "sharing", "(II)Z"⟩, 17), (⟨"ShareServerModel", "shut", "(I)Z"⟩, 17), (⟨"ShareServerModel", "tryAgain", "()V"⟩, 17), (⟨"ShareServerModel", "unlockAt", "(I)V"⟩, 17), (⟨"ShareServerModel", "inside", "(I)I"⟩, 17), (⟨"ShareServerModel", "may", "(III)Z"⟩, 17), (⟨"ShareServerModel", "met", "(IIIZI)Z"⟩, 17), (⟨"ShareServerModel", "badRange", "(III)Z"⟩, 17), (⟨"ShareServerModel", "locksOf", "(I)I"⟩, 17)]
theorem lw_r3 : ∀ q ∈ lw_privs_3, lw_okq q := List.forall_mem_cons.mpr ⟨lw_p32, List.forall_mem_cons.mpr ⟨lw_p33, List.forall_mem_cons.mpr ⟨lw_p34, List.forall_mem_cons.mpr ⟨lw_p35, List.forall_mem_cons.mpr ⟨lw_p36, List.forall_mem_cons.mpr ⟨lw_p37, List.forall_mem_cons.mpr ⟨lw_p38, List.forall_mem_cons.mpr ⟨lw_p39, List.forall_mem_cons.mpr ⟨lw_p40, List.forall_mem_cons.mpr ⟨lw_p41, List.forall_mem_cons.mpr ⟨lw_p42, fun _ h => absurd h List.not_mem_nil⟩⟩⟩⟩⟩⟩⟩⟩⟩⟩⟩
def lw_privs : List (MethodName × Nat) := lw_privs_1 ++ (lw_privs_2 ++ (lw_privs_3))
def lw_tbl : List Cond := k2_sels lw_privs ++ tables_1
theorem lw_privs_ok : ∀ q ∈ lw_privs, lw_okq q := by
  show ∀ q ∈ lw_privs_1 ++ (lw_privs_2 ++ (lw_privs_3)), lw_okq q
  exact List.forall_mem_append.mpr ⟨lw_r1, List.forall_mem_append.mpr ⟨lw_r2, lw_r3⟩⟩
end
section
/-! NAMES, printed by wip/whole/gen01.py out of the task's files: kinds, fields, methods, decode rows, words by their places in lw_tbl -/
/-- the words that every callee may keep -/
def tbl : List Cond := lw_tbl.filter goodWord
theorem mt {q : Cond} (i : Nat) (h : lw_tbl[i]? = some q) (g : goodWord q = true) : q ∈ tbl := List.mem_filter.mpr ⟨List.mem_of_getElem? h, g⟩
/-- the name of the log's array: the word itself may not stand in a row -/
def nmU : String := match lw_tbl[113]? with
  | some (Cond.fieldLink _ _ _ n _) => n
  | _ => ""
def TSS : u_T := fun k => match k with
  | 0 => ("ShareServer", "nodes", "[LShareServer$Node;", true)
  | 1 => ("ShareServer", "nodesGiven", "I", false)
  | 2 => ("ShareServer", "opens", "[LShareServer$Handle;", true)
  | 3 => ("ShareServer", "openCount", "I", false)
  | 4 => ("ShareServer", "handlesMade", "I", false)
  | 5 => ("ShareServer", "requests", "[LShareServer$Request;", true)
  | 6 => ("ShareServer", "requestCount", "I", false)
  | 7 => ("ShareServer", "log", "LShareServer$Log;", true)
  | _ => ("ShareServer", "lastRead", "I", false)
def TNd : u_T := fun k => match k with
  | 0 => ("ShareServer$Node", "number", "I", true)
  | 1 => ("ShareServer$Node", "folder", "Z", true)
  | 2 => ("ShareServer$Node", "directory", "I", false)
  | 3 => ("ShareServer$Node", "name", "I", false)
  | 4 => ("ShareServer$Node", "doomed", "Z", false)
  | 5 => ("ShareServer$Node", "cells", "[I", true)
  | 6 => ("ShareServer$Node", "locks", "[LShareServer$Lock;", true)
  | _ => ("ShareServer$Node", "lockCount", "I", false)
def THd : u_T := fun k => match k with
  | 0 => ("ShareServer$Handle", "number", "I", true)
  | 1 => ("ShareServer$Handle", "node", "LShareServer$Node;", true)
  | 2 => ("ShareServer$Handle", "client", "I", true)
  | 3 => ("ShareServer$Handle", "access", "I", true)
  | 4 => ("ShareServer$Handle", "share", "I", true)
  | 5 => ("ShareServer$Handle", "removes", "Z", true)
  | _ => ("ShareServer$Handle", "grant", "I", false)
def TRq : u_T := fun k => match k with
  | 0 => ("ShareServer$Request", "client", "I", true)
  | 1 => ("ShareServer$Request", "directory", "I", true)
  | 2 => ("ShareServer$Request", "name", "I", true)
  | 3 => ("ShareServer$Request", "mode", "I", true)
  | 4 => ("ShareServer$Request", "wish", "I", true)
  | _ => ("ShareServer$Request", "outcome", "I", false)
def TLk : u_T := fun k => match k with
  | 0 => ("ShareServer$Lock", "owner", "LShareServer$Handle;", true)
  | 1 => ("ShareServer$Lock", "first", "I", true)
  | 2 => ("ShareServer$Lock", "cells", "I", true)
  | _ => ("ShareServer$Lock", "alone", "Z", true)
def TCg : u_T := fun k => match k with
  | 0 => ("ShareServer$Change", "kind", "I", true)
  | 1 => ("ShareServer$Change", "node", "LShareServer$Node;", true)
  | 2 => ("ShareServer$Change", "where", "I", true)
  | _ => ("ShareServer$Change", "before", "I", true)
def TLg : u_T := fun k => match k with
  | 0 => ("ShareServer$Log", nmU, "[LShareServer$Change;", true)
  | 1 => ("ShareServer$Log", "unsafeCount", "I", false)
  | _ => ("ShareServer$Log", "durable", "I", false)
def TMd : u_T := fun k => match k with
  | 0 => ("ShareServerModel", "changes", "I", false)
  | 1 => ("ShareServerModel", "durable", "I", false)
  | 2 => ("ShareServerModel", "change", "[I", true)
  | 3 => ("ShareServerModel", "given", "I", false)
  | 4 => ("ShareServerModel", "there", "[Z", true)
  | 5 => ("ShareServerModel", "folder", "[Z", true)
  | 6 => ("ShareServerModel", "dir", "[I", true)
  | 7 => ("ShareServerModel", "name", "[I", true)
  | 8 => ("ShareServerModel", "doomed", "[Z", true)
  | 9 => ("ShareServerModel", "cells", "[I", true)
  | 10 => ("ShareServerModel", "handles", "I", false)
  | 11 => ("ShareServerModel", "handle", "[I", true)
  | 12 => ("ShareServerModel", "requests", "I", false)
  | 13 => ("ShareServerModel", "request", "[I", true)
  | 14 => ("ShareServerModel", "locks", "I", false)
  | 15 => ("ShareServerModel", "lock", "[I", true)
  | _ => ("ShareServerModel", "seen", "I", false)
abbrev vwCl : List vw_C := [("ShareServer", TSS, 9), ("ShareServer$Node", TNd, 8), ("ShareServer$Handle", THd, 7), ("ShareServer$Request", TRq, 6), ("ShareServer$Lock", TLk, 4), ("ShareServer$Change", TCg, 4), ("ShareServer$Log", TLg, 3), ("ShareServerModel", TMd, 17)]
def knm (k : Nat) : String := match k with
  | 0 => "ShareServer"
  | 1 => "ShareServer$Node"
  | 2 => "ShareServer$Handle"
  | 3 => "ShareServer$Request"
  | 4 => "ShareServer$Lock"
  | 5 => "ShareServer$Change"
  | 6 => "ShareServer$Log"
  | 7 => "ShareServerModel"
  | _ => ""
/-- the type of a field: 0 int, 1 boolean, k + 2 a reference of the kind k -/
def fty (k j : Nat) : Nat := match k, j with
  | 0, 0 => 102
  | 0, 2 => 103
  | 0, 5 => 104
  | 0, 7 => 8
  | 1, 1 => 1
  | 1, 4 => 1
  | 1, 5 => 105
  | 1, 6 => 106
  | 2, 1 => 3
  | 2, 5 => 1
  | 4, 0 => 4
  | 4, 3 => 1
  | 5, 1 => 3
  | 6, 0 => 107
  | 7, 2 => 112
  | 7, 4 => 113
  | 7, 5 => 114
  | 7, 6 => 115
  | 7, 7 => 116
  | 7, 8 => 117
  | 7, 9 => 118
  | 7, 11 => 119
  | 7, 13 => 120
  | 7, 15 => 121
  | _, _ => 0
/-- the type of the elements of a region of arrays -/
def aelem (k : Nat) : Nat := match k with
  | 100 => 3
  | 101 => 4
  | 102 => 5
  | 104 => 6
  | 105 => 7
  | 111 => 1
  | 112 => 1
  | 115 => 1
  | _ => 0
/-- the most slots that a cell of a kind has -/
def ksz (k : Nat) : Nat := match k with
  | 0 => 9
  | 1 => 8
  | 2 => 7
  | 3 => 6
  | 4 => 4
  | 5 => 4
  | 6 => 3
  | 7 => 17
  | 100 => 25
  | 101 => 12
  | 102 => 512
  | 103 => 32
  | 104 => 8
  | 105 => 6
  | 110 => 6000
  | 111 => 25
  | 112 => 25
  | 113 => 25
  | 114 => 25
  | 115 => 25
  | 116 => 800
  | 117 => 3640
  | 118 => 3120
  | 119 => 800
  | _ => 0
theorem ksz_le (k : Nat) : ksz k ≤ 6000 := by
  unfold ksz
  split <;> decide
def kT (k : Nat) : FieldType := if 100 ≤ k then .array (match aelem k with
  | 0 => .int
  | 1 => .boolean
  | k' + 2 => .object (knm k')) else .object (knm k)
def ftT : Nat → FieldType
  | 0 => .int
  | 1 => .boolean
  | k + 2 => kT k
theorem fo_SS : ∀ j, j < 9 → parseFieldDescriptor (TSS j).2.2.1 = some (ftT (fty 0 j)) := by decide +kernel
theorem fn_SS : ∀ a, a < 9 → ∀ b, b < 9 → a ≠ b → (TSS a).2.1 ≠ (TSS b).2.1 := by decide +kernel
theorem fi_SS_0 : u_lay "ShareServer" TSS 0 ∈ tbl := (mt 135 (by decide +kernel) rfl)
theorem fi_SS_1 : u_lay "ShareServer" TSS 1 ∈ tbl := (mt 137 (by decide +kernel) rfl)
theorem fi_SS_2 : u_lay "ShareServer" TSS 2 ∈ tbl := (mt 139 (by decide +kernel) rfl)
theorem fi_SS_3 : u_lay "ShareServer" TSS 3 ∈ tbl := (mt 141 (by decide +kernel) rfl)
theorem fi_SS_4 : u_lay "ShareServer" TSS 4 ∈ tbl := (mt 143 (by decide +kernel) rfl)
theorem fi_SS_5 : u_lay "ShareServer" TSS 5 ∈ tbl := (mt 145 (by decide +kernel) rfl)
theorem fi_SS_6 : u_lay "ShareServer" TSS 6 ∈ tbl := (mt 147 (by decide +kernel) rfl)
theorem fi_SS_7 : u_lay "ShareServer" TSS 7 ∈ tbl := (mt 149 (by decide +kernel) rfl)
theorem fi_SS_8 : u_lay "ShareServer" TSS 8 ∈ tbl := (mt 151 (by decide +kernel) rfl)
theorem fi_SS : ∀ w ∈ u_ws "ShareServer" TSS 9, w ∈ tbl := fun w h => by
  obtain ⟨j, hj, he⟩ := List.mem_map.mp h
  have hj := List.mem_range.mp hj
  subst he
  match j, hj with
  | 0, _ => exact fi_SS_0
  | 1, _ => exact fi_SS_1
  | 2, _ => exact fi_SS_2
  | 3, _ => exact fi_SS_3
  | 4, _ => exact fi_SS_4
  | 5, _ => exact fi_SS_5
  | 6, _ => exact fi_SS_6
  | 7, _ => exact fi_SS_7
  | 8, _ => exact fi_SS_8
theorem fo_Nd : ∀ j, j < 8 → parseFieldDescriptor (TNd j).2.2.1 = some (ftT (fty 1 j)) := by decide +kernel
theorem fn_Nd : ∀ a, a < 8 → ∀ b, b < 8 → a ≠ b → (TNd a).2.1 ≠ (TNd b).2.1 := by decide +kernel
theorem fi_Nd_0 : u_lay "ShareServer$Node" TNd 0 ∈ tbl := (mt 83 (by decide +kernel) rfl)
theorem fi_Nd_1 : u_lay "ShareServer$Node" TNd 1 ∈ tbl := (mt 85 (by decide +kernel) rfl)
theorem fi_Nd_2 : u_lay "ShareServer$Node" TNd 2 ∈ tbl := (mt 87 (by decide +kernel) rfl)
theorem fi_Nd_3 : u_lay "ShareServer$Node" TNd 3 ∈ tbl := (mt 89 (by decide +kernel) rfl)
theorem fi_Nd_4 : u_lay "ShareServer$Node" TNd 4 ∈ tbl := (mt 91 (by decide +kernel) rfl)
theorem fi_Nd_5 : u_lay "ShareServer$Node" TNd 5 ∈ tbl := (mt 93 (by decide +kernel) rfl)
theorem fi_Nd_6 : u_lay "ShareServer$Node" TNd 6 ∈ tbl := (mt 95 (by decide +kernel) rfl)
theorem fi_Nd_7 : u_lay "ShareServer$Node" TNd 7 ∈ tbl := (mt 97 (by decide +kernel) rfl)
theorem fi_Nd : ∀ w ∈ u_ws "ShareServer$Node" TNd 8, w ∈ tbl := fun w h => by
  obtain ⟨j, hj, he⟩ := List.mem_map.mp h
  have hj := List.mem_range.mp hj
  subst he
  match j, hj with
  | 0, _ => exact fi_Nd_0
  | 1, _ => exact fi_Nd_1
  | 2, _ => exact fi_Nd_2
  | 3, _ => exact fi_Nd_3
  | 4, _ => exact fi_Nd_4
  | 5, _ => exact fi_Nd_5
  | 6, _ => exact fi_Nd_6
  | 7, _ => exact fi_Nd_7
theorem fo_Hd : ∀ j, j < 7 → parseFieldDescriptor (THd j).2.2.1 = some (ftT (fty 2 j)) := by decide +kernel
theorem fn_Hd : ∀ a, a < 7 → ∀ b, b < 7 → a ≠ b → (THd a).2.1 ≠ (THd b).2.1 := by decide +kernel
theorem fi_Hd_0 : u_lay "ShareServer$Handle" THd 0 ∈ tbl := (mt 291 (by decide +kernel) rfl)
theorem fi_Hd_1 : u_lay "ShareServer$Handle" THd 1 ∈ tbl := (mt 293 (by decide +kernel) rfl)
theorem fi_Hd_2 : u_lay "ShareServer$Handle" THd 2 ∈ tbl := (mt 295 (by decide +kernel) rfl)
theorem fi_Hd_3 : u_lay "ShareServer$Handle" THd 3 ∈ tbl := (mt 297 (by decide +kernel) rfl)
theorem fi_Hd_4 : u_lay "ShareServer$Handle" THd 4 ∈ tbl := (mt 299 (by decide +kernel) rfl)
theorem fi_Hd_5 : u_lay "ShareServer$Handle" THd 5 ∈ tbl := (mt 301 (by decide +kernel) rfl)
theorem fi_Hd_6 : u_lay "ShareServer$Handle" THd 6 ∈ tbl := (mt 303 (by decide +kernel) rfl)
theorem fi_Hd : ∀ w ∈ u_ws "ShareServer$Handle" THd 7, w ∈ tbl := fun w h => by
  obtain ⟨j, hj, he⟩ := List.mem_map.mp h
  have hj := List.mem_range.mp hj
  subst he
  match j, hj with
  | 0, _ => exact fi_Hd_0
  | 1, _ => exact fi_Hd_1
  | 2, _ => exact fi_Hd_2
  | 3, _ => exact fi_Hd_3
  | 4, _ => exact fi_Hd_4
  | 5, _ => exact fi_Hd_5
  | 6, _ => exact fi_Hd_6
theorem fo_Rq : ∀ j, j < 6 → parseFieldDescriptor (TRq j).2.2.1 = some (ftT (fty 3 j)) := by decide +kernel
theorem fn_Rq : ∀ a, a < 6 → ∀ b, b < 6 → a ≠ b → (TRq a).2.1 ≠ (TRq b).2.1 := by decide +kernel
theorem fi_Rq_0 : u_lay "ShareServer$Request" TRq 0 ∈ tbl := (mt 183 (by decide +kernel) rfl)
theorem fi_Rq_1 : u_lay "ShareServer$Request" TRq 1 ∈ tbl := (mt 185 (by decide +kernel) rfl)
theorem fi_Rq_2 : u_lay "ShareServer$Request" TRq 2 ∈ tbl := (mt 187 (by decide +kernel) rfl)
theorem fi_Rq_3 : u_lay "ShareServer$Request" TRq 3 ∈ tbl := (mt 189 (by decide +kernel) rfl)
theorem fi_Rq_4 : u_lay "ShareServer$Request" TRq 4 ∈ tbl := (mt 191 (by decide +kernel) rfl)
theorem fi_Rq_5 : u_lay "ShareServer$Request" TRq 5 ∈ tbl := (mt 193 (by decide +kernel) rfl)
theorem fi_Rq : ∀ w ∈ u_ws "ShareServer$Request" TRq 6, w ∈ tbl := fun w h => by
  obtain ⟨j, hj, he⟩ := List.mem_map.mp h
  have hj := List.mem_range.mp hj
  subst he
  match j, hj with
  | 0, _ => exact fi_Rq_0
  | 1, _ => exact fi_Rq_1
  | 2, _ => exact fi_Rq_2
  | 3, _ => exact fi_Rq_3
  | 4, _ => exact fi_Rq_4
  | 5, _ => exact fi_Rq_5
theorem fo_Lk : ∀ j, j < 4 → parseFieldDescriptor (TLk j).2.2.1 = some (ftT (fty 4 j)) := by decide +kernel
theorem fn_Lk : ∀ a, a < 4 → ∀ b, b < 4 → a ≠ b → (TLk a).2.1 ≠ (TLk b).2.1 := by decide +kernel
theorem fi_Lk_0 : u_lay "ShareServer$Lock" TLk 0 ∈ tbl := (mt 437 (by decide +kernel) rfl)
theorem fi_Lk_1 : u_lay "ShareServer$Lock" TLk 1 ∈ tbl := (mt 439 (by decide +kernel) rfl)
theorem fi_Lk_2 : u_lay "ShareServer$Lock" TLk 2 ∈ tbl := (mt 441 (by decide +kernel) rfl)
theorem fi_Lk_3 : u_lay "ShareServer$Lock" TLk 3 ∈ tbl := (mt 443 (by decide +kernel) rfl)
theorem fi_Lk : ∀ w ∈ u_ws "ShareServer$Lock" TLk 4, w ∈ tbl := fun w h => by
  obtain ⟨j, hj, he⟩ := List.mem_map.mp h
  have hj := List.mem_range.mp hj
  subst he
  match j, hj with
  | 0, _ => exact fi_Lk_0
  | 1, _ => exact fi_Lk_1
  | 2, _ => exact fi_Lk_2
  | 3, _ => exact fi_Lk_3
theorem fo_Cg : ∀ j, j < 4 → parseFieldDescriptor (TCg j).2.2.1 = some (ftT (fty 5 j)) := by decide +kernel
theorem fn_Cg : ∀ a, a < 4 → ∀ b, b < 4 → a ≠ b → (TCg a).2.1 ≠ (TCg b).2.1 := by decide +kernel
theorem fi_Cg_0 : u_lay "ShareServer$Change" TCg 0 ∈ tbl := (mt 234 (by decide +kernel) rfl)
theorem fi_Cg_1 : u_lay "ShareServer$Change" TCg 1 ∈ tbl := (mt 236 (by decide +kernel) rfl)
theorem fi_Cg_2 : u_lay "ShareServer$Change" TCg 2 ∈ tbl := (mt 238 (by decide +kernel) rfl)
theorem fi_Cg_3 : u_lay "ShareServer$Change" TCg 3 ∈ tbl := (mt 240 (by decide +kernel) rfl)
theorem fi_Cg : ∀ w ∈ u_ws "ShareServer$Change" TCg 4, w ∈ tbl := fun w h => by
  obtain ⟨j, hj, he⟩ := List.mem_map.mp h
  have hj := List.mem_range.mp hj
  subst he
  match j, hj with
  | 0, _ => exact fi_Cg_0
  | 1, _ => exact fi_Cg_1
  | 2, _ => exact fi_Cg_2
  | 3, _ => exact fi_Cg_3
theorem fo_Lg : ∀ j, j < 3 → parseFieldDescriptor (TLg j).2.2.1 = some (ftT (fty 6 j)) := by decide +kernel
theorem fn_Lg : ∀ a, a < 3 → ∀ b, b < 3 → a ≠ b → (TLg a).2.1 ≠ (TLg b).2.1 := by decide +kernel
theorem fi_Lg_0 : u_lay "ShareServer$Log" TLg 0 ∈ tbl := (mt 119 (by decide +kernel) rfl)
theorem fi_Lg_1 : u_lay "ShareServer$Log" TLg 1 ∈ tbl := (mt 121 (by decide +kernel) rfl)
theorem fi_Lg_2 : u_lay "ShareServer$Log" TLg 2 ∈ tbl := (mt 123 (by decide +kernel) rfl)
theorem fi_Lg : ∀ w ∈ u_ws "ShareServer$Log" TLg 3, w ∈ tbl := fun w h => by
  obtain ⟨j, hj, he⟩ := List.mem_map.mp h
  have hj := List.mem_range.mp hj
  subst he
  match j, hj with
  | 0, _ => exact fi_Lg_0
  | 1, _ => exact fi_Lg_1
  | 2, _ => exact fi_Lg_2
theorem fo_Md : ∀ j, j < 17 → parseFieldDescriptor (TMd j).2.2.1 = some (ftT (fty 7 j)) := by decide +kernel
theorem fn_Md : ∀ a, a < 17 → ∀ b, b < 17 → a ≠ b → (TMd a).2.1 ≠ (TMd b).2.1 := by decide +kernel
theorem fi_Md_0 : u_lay "ShareServerModel" TMd 0 ∈ tbl := (mt 543 (by decide +kernel) rfl)
theorem fi_Md_1 : u_lay "ShareServerModel" TMd 1 ∈ tbl := (mt 545 (by decide +kernel) rfl)
theorem fi_Md_2 : u_lay "ShareServerModel" TMd 2 ∈ tbl := (mt 547 (by decide +kernel) rfl)
theorem fi_Md_3 : u_lay "ShareServerModel" TMd 3 ∈ tbl := (mt 549 (by decide +kernel) rfl)
theorem fi_Md_4 : u_lay "ShareServerModel" TMd 4 ∈ tbl := (mt 551 (by decide +kernel) rfl)
theorem fi_Md_5 : u_lay "ShareServerModel" TMd 5 ∈ tbl := (mt 553 (by decide +kernel) rfl)
theorem fi_Md_6 : u_lay "ShareServerModel" TMd 6 ∈ tbl := (mt 555 (by decide +kernel) rfl)
theorem fi_Md_7 : u_lay "ShareServerModel" TMd 7 ∈ tbl := (mt 557 (by decide +kernel) rfl)
theorem fi_Md_8 : u_lay "ShareServerModel" TMd 8 ∈ tbl := (mt 559 (by decide +kernel) rfl)
theorem fi_Md_9 : u_lay "ShareServerModel" TMd 9 ∈ tbl := (mt 561 (by decide +kernel) rfl)
theorem fi_Md_10 : u_lay "ShareServerModel" TMd 10 ∈ tbl := (mt 563 (by decide +kernel) rfl)
theorem fi_Md_11 : u_lay "ShareServerModel" TMd 11 ∈ tbl := (mt 565 (by decide +kernel) rfl)
theorem fi_Md_12 : u_lay "ShareServerModel" TMd 12 ∈ tbl := (mt 567 (by decide +kernel) rfl)
theorem fi_Md_13 : u_lay "ShareServerModel" TMd 13 ∈ tbl := (mt 569 (by decide +kernel) rfl)
theorem fi_Md_14 : u_lay "ShareServerModel" TMd 14 ∈ tbl := (mt 571 (by decide +kernel) rfl)
theorem fi_Md_15 : u_lay "ShareServerModel" TMd 15 ∈ tbl := (mt 573 (by decide +kernel) rfl)
theorem fi_Md_16 : u_lay "ShareServerModel" TMd 16 ∈ tbl := (mt 575 (by decide +kernel) rfl)
theorem fi_Md : ∀ w ∈ u_ws "ShareServerModel" TMd 17, w ∈ tbl := fun w h => by
  obtain ⟨j, hj, he⟩ := List.mem_map.mp h
  have hj := List.mem_range.mp hj
  subst he
  match j, hj with
  | 0, _ => exact fi_Md_0
  | 1, _ => exact fi_Md_1
  | 2, _ => exact fi_Md_2
  | 3, _ => exact fi_Md_3
  | 4, _ => exact fi_Md_4
  | 5, _ => exact fi_Md_5
  | 6, _ => exact fi_Md_6
  | 7, _ => exact fi_Md_7
  | 8, _ => exact fi_Md_8
  | 9, _ => exact fi_Md_9
  | 10, _ => exact fi_Md_10
  | 11, _ => exact fi_Md_11
  | 12, _ => exact fi_Md_12
  | 13, _ => exact fi_Md_13
  | 14, _ => exact fi_Md_14
  | 15, _ => exact fi_Md_15
  | 16, _ => exact fi_Md_16
  | j + 17, hj => exact absurd hj (by omega)
theorem fty_ok {k : Nat} {C : String} {T : u_T} {N : Nat} (h : vwCl[k]? = some (C, T, N)) : ∀ j, j < N → parseFieldDescriptor (T j).2.2.1 = some (ftT (fty k j)) := by
  match k, h with
  | 0, h => cases h; exact fo_SS
  | 1, h => cases h; exact fo_Nd
  | 2, h => cases h; exact fo_Hd
  | 3, h => cases h; exact fo_Rq
  | 4, h => cases h; exact fo_Lk
  | 5, h => cases h; exact fo_Cg
  | 6, h => cases h; exact fo_Lg
  | 7, h => cases h; exact fo_Md
  | k + 8, h => cases h
theorem fnm_ok {k : Nat} {C : String} {T : u_T} {N : Nat} (h : vwCl[k]? = some (C, T, N)) : ∀ a, a < N → ∀ b, b < N → a ≠ b → (T a).2.1 ≠ (T b).2.1 := by
  match k, h with
  | 0, h => cases h; exact fn_SS
  | 1, h => cases h; exact fn_Nd
  | 2, h => cases h; exact fn_Hd
  | 3, h => cases h; exact fn_Rq
  | 4, h => cases h; exact fn_Lk
  | 5, h => cases h; exact fn_Cg
  | 6, h => cases h; exact fn_Lg
  | 7, h => cases h; exact fn_Md
  | k + 8, h => cases h
theorem vw_in {k : Nat} {C : String} {T : u_T} {N : Nat} (h : vwCl[k]? = some (C, T, N)) : ∀ w ∈ u_ws C T N, w ∈ tbl := by
  match k, h with
  | 0, h => cases h; exact fi_SS
  | 1, h => cases h; exact fi_Nd
  | 2, h => cases h; exact fi_Hd
  | 3, h => cases h; exact fi_Rq
  | 4, h => cases h; exact fi_Lk
  | 5, h => cases h; exact fi_Cg
  | 6, h => cases h; exact fi_Lg
  | 7, h => cases h; exact fi_Md
  | k + 8, h => cases h
theorem knm_ok {k : Nat} {C : String} {T : u_T} {N : Nat} (h : vwCl[k]? = some (C, T, N)) : knm k = C := by
  match k, h with
  | 0, h => cases h; exact rfl
  | 1, h => cases h; exact rfl
  | 2, h => cases h; exact rfl
  | 3, h => cases h; exact rfl
  | 4, h => cases h; exact rfl
  | 5, h => cases h; exact rfl
  | 6, h => cases h; exact rfl
  | 7, h => cases h; exact rfl
  | k + 8, h => cases h
theorem ksz_ok {k : Nat} {C : String} {T : u_T} {N : Nat} (h : vwCl[k]? = some (C, T, N)) : N ≤ ksz k := by
  match k, h with
  | 0, h => cases h; exact Nat.le_of_ble_eq_true rfl
  | 1, h => cases h; exact Nat.le_of_ble_eq_true rfl
  | 2, h => cases h; exact Nat.le_of_ble_eq_true rfl
  | 3, h => cases h; exact Nat.le_of_ble_eq_true rfl
  | 4, h => cases h; exact Nat.le_of_ble_eq_true rfl
  | 5, h => cases h; exact Nat.le_of_ble_eq_true rfl
  | 6, h => cases h; exact Nat.le_of_ble_eq_true rfl
  | 7, h => cases h; exact Nat.le_of_ble_eq_true rfl
  | k + 8, h => cases h
theorem ins_SS : Cond.instantiable "ShareServer" 9 ∈ tbl := (mt 53 (by decide +kernel) rfl)
theorem ins_Nd : Cond.instantiable "ShareServer$Node" 8 ∈ tbl := (mt 62 (by decide +kernel) rfl)
theorem ins_Hd : Cond.instantiable "ShareServer$Handle" 7 ∈ tbl := (mt 263 (by decide +kernel) rfl)
theorem ins_Rq : Cond.instantiable "ShareServer$Request" 6 ∈ tbl := (mt 167 (by decide +kernel) rfl)
theorem ins_Lk : Cond.instantiable "ShareServer$Lock" 4 ∈ tbl := (mt 424 (by decide +kernel) rfl)
theorem ins_Cg : Cond.instantiable "ShareServer$Change" 4 ∈ tbl := (mt 221 (by decide +kernel) rfl)
theorem ins_Lg : Cond.instantiable "ShareServer$Log" 3 ∈ tbl := (mt 106 (by decide +kernel) rfl)
theorem ins_Md : Cond.instantiable "ShareServerModel" 17 ∈ tbl := (mt 521 (by decide +kernel) rfl)
theorem vw_ins {k : Nat} {C : String} {T : u_T} {N : Nat} (h : vwCl[k]? = some (C, T, N)) : Cond.instantiable C N ∈ tbl := by
  match k, h with
  | 0, h => cases h; exact ins_SS
  | 1, h => cases h; exact ins_Nd
  | 2, h => cases h; exact ins_Hd
  | 3, h => cases h; exact ins_Rq
  | 4, h => cases h; exact ins_Lk
  | 5, h => cases h; exact ins_Cg
  | 6, h => cases h; exact ins_Lg
  | 7, h => cases h; exact ins_Md
  | k + 8, h => cases h
/-- the classes of whose arrays the tables speak -/
def aoN : List String := ["ShareServer$Change", "ShareServer$Handle", "ShareServer$Lock", "ShareServer$Node", "ShareServer$Request"]
theorem ao_Cg : Cond.arrayOver (.object "ShareServer$Change") ∈ lw_tbl := List.mem_of_getElem? (i := 112) (by decide +kernel)
theorem ao_Hd : Cond.arrayOver (.object "ShareServer$Handle") ∈ lw_tbl := List.mem_of_getElem? (i := 102) (by decide +kernel)
theorem ao_Lk : Cond.arrayOver (.object "ShareServer$Lock") ∈ lw_tbl := List.mem_of_getElem? (i := 68) (by decide +kernel)
theorem ao_Nd : Cond.arrayOver (.object "ShareServer$Node") ∈ lw_tbl := List.mem_of_getElem? (i := 61) (by decide +kernel)
theorem ao_Rq : Cond.arrayOver (.object "ShareServer$Request") ∈ lw_tbl := List.mem_of_getElem? (i := 104) (by decide +kernel)
theorem ao_all : ∀ C ∈ aoN, Cond.arrayOver (.object C) ∈ lw_tbl := List.forall_mem_cons.mpr ⟨ao_Cg, List.forall_mem_cons.mpr ⟨ao_Hd, List.forall_mem_cons.mpr ⟨ao_Lk, List.forall_mem_cons.mpr ⟨ao_Nd, List.forall_mem_cons.mpr ⟨ao_Rq, fun _ h => absurd h List.not_mem_nil⟩⟩⟩⟩⟩
theorem tbl_good : ∀ w ∈ tbl, (w.onTables && w.keeps) = true ∨ ∃ ty, w = .arrayClass ty := fun w h => good_of_word (List.mem_filter.mp h).2
abbrev c_SS_init : ByteArray := prog_1_method_1_code
def y_SS_init : MethodName := ⟨"ShareServer", "<init>", "()V"⟩
abbrev c_Nd_init : ByteArray := prog_6_method_1_code
def y_Nd_init : MethodName := ⟨"ShareServer$Node", "<init>", "(IIIZ)V"⟩
abbrev c_Lg_init : ByteArray := prog_5_method_1_code
def y_Lg_init : MethodName := ⟨"ShareServer$Log", "<init>", "()V"⟩
abbrev c_SS_open : ByteArray := prog_1_method_2_code
def y_SS_open : MethodName := ⟨"ShareServer", "open", "(IIIII)I"⟩
abbrev c_SS_isBelow : ByteArray := prog_1_method_20_code
def y_SS_isBelow : MethodName := ⟨"ShareServer", "isBelow", "(II)Z"⟩
abbrev c_SS_isPlace : ByteArray := prog_1_method_21_code
def y_SS_isPlace : MethodName := ⟨"ShareServer", "isPlace", "(II)Z"⟩
abbrev c_SS_isMode : ByteArray := prog_1_method_22_code
def y_SS_isMode : MethodName := ⟨"ShareServer", "isMode", "(I)Z"⟩
abbrev c_Rq_init : ByteArray := prog_7_method_1_code
def y_Rq_init : MethodName := ⟨"ShareServer$Request", "<init>", "(IIIII)V"⟩
abbrev c_SS_attempt : ByteArray := prog_1_method_24_code
def y_SS_attempt : MethodName := ⟨"ShareServer", "attempt", "(LShareServer$Request;)I"⟩
abbrev c_SS_isFolderThere : ByteArray := prog_1_method_42_code
def y_SS_isFolderThere : MethodName := ⟨"ShareServer", "isFolderThere", "(I)Z"⟩
abbrev c_SS_nodeAt : ByteArray := prog_1_method_43_code
def y_SS_nodeAt : MethodName := ⟨"ShareServer", "nodeAt", "(II)LShareServer$Node;"⟩
abbrev c_SS_openNew : ByteArray := prog_1_method_25_code
def y_SS_openNew : MethodName := ⟨"ShareServer", "openNew", "(LShareServer$Request;)I"⟩
abbrev c_Rq_has : ByteArray := prog_7_method_2_code
def y_Rq_has : MethodName := ⟨"ShareServer$Request", "has", "(I)Z"⟩
abbrev c_SS_makeNode : ByteArray := prog_1_method_27_code
def y_SS_makeNode : MethodName := ⟨"ShareServer", "makeNode", "(LShareServer$Request;)LShareServer$Node;"⟩
abbrev c_Cg_init : ByteArray := prog_2_method_1_code
def y_Cg_init : MethodName := ⟨"ShareServer$Change", "<init>", "(ILShareServer$Node;II)V"⟩
abbrev c_Lg_add : ByteArray := prog_5_method_2_code
def y_Lg_add : MethodName := ⟨"ShareServer$Log", "add", "(LShareServer$Change;)V"⟩
abbrev c_Lg_makeAllDurable : ByteArray := prog_5_method_3_code
def y_Lg_makeAllDurable : MethodName := ⟨"ShareServer$Log", "makeAllDurable", "()V"⟩
abbrev c_SS_makeHandle : ByteArray := prog_1_method_28_code
def y_SS_makeHandle : MethodName := ⟨"ShareServer", "makeHandle", "(LShareServer$Request;LShareServer$Node;)I"⟩
abbrev c_SS_grantFor : ByteArray := prog_1_method_29_code
def y_SS_grantFor : MethodName := ⟨"ShareServer", "grantFor", "(LShareServer$Request;LShareServer$Node;)I"⟩
abbrev c_SS_opensOf : ByteArray := prog_1_method_37_code
def y_SS_opensOf : MethodName := ⟨"ShareServer", "opensOf", "(LShareServer$Node;)I"⟩
abbrev c_Hd_init : ByteArray := prog_3_method_1_code
def y_Hd_init : MethodName := ⟨"ShareServer$Handle", "<init>", "(ILShareServer$Node;LShareServer$Request;I)V"⟩
abbrev c_Rq_access : ByteArray := prog_7_method_3_code
def y_Rq_access : MethodName := ⟨"ShareServer$Request", "access", "()I"⟩
abbrev c_Rq_share : ByteArray := prog_7_method_4_code
def y_Rq_share : MethodName := ⟨"ShareServer$Request", "share", "()I"⟩
abbrev c_SS_openThere : ByteArray := prog_1_method_26_code
def y_SS_openThere : MethodName := ⟨"ShareServer", "openThere", "(LShareServer$Request;LShareServer$Node;)I"⟩
abbrev c_SS_breaksGrant : ByteArray := prog_1_method_30_code
def y_SS_breaksGrant : MethodName := ⟨"ShareServer", "breaksGrant", "(LShareServer$Node;)Z"⟩
abbrev c_SS_clashesWithOpens : ByteArray := prog_1_method_31_code
def y_SS_clashesWithOpens : MethodName := ⟨"ShareServer", "clashesWithOpens", "(LShareServer$Request;LShareServer$Node;)Z"⟩
abbrev c_SS_outcome : ByteArray := prog_1_method_3_code
def y_SS_outcome : MethodName := ⟨"ShareServer", "outcome", "(I)I"⟩
abbrev c_SS_requestNumbered : ByteArray := prog_1_method_35_code
def y_SS_requestNumbered : MethodName := ⟨"ShareServer", "requestNumbered", "(I)LShareServer$Request;"⟩
abbrev c_SS_cancel : ByteArray := prog_1_method_4_code
def y_SS_cancel : MethodName := ⟨"ShareServer", "cancel", "(I)I"⟩
abbrev c_SS_giveUp : ByteArray := prog_1_method_5_code
def y_SS_giveUp : MethodName := ⟨"ShareServer", "giveUp", "(I)I"⟩
abbrev c_SS_openHandle : ByteArray := prog_1_method_36_code
def y_SS_openHandle : MethodName := ⟨"ShareServer", "openHandle", "(I)LShareServer$Handle;"⟩
abbrev c_SS_tryWaitingAgain : ByteArray := prog_1_method_32_code
def y_SS_tryWaitingAgain : MethodName := ⟨"ShareServer", "tryWaitingAgain", "()V"⟩
abbrev c_SS_close : ByteArray := prog_1_method_6_code
def y_SS_close : MethodName := ⟨"ShareServer", "close", "(I)I"⟩
abbrev c_Nd_dropLocksOf : ByteArray := prog_6_method_8_code
def y_Nd_dropLocksOf : MethodName := ⟨"ShareServer$Node", "dropLocksOf", "(LShareServer$Handle;)V"⟩
abbrev c_SS_dropFromOpens : ByteArray := prog_1_method_38_code
def y_SS_dropFromOpens : MethodName := ⟨"ShareServer", "dropFromOpens", "(LShareServer$Handle;)V"⟩
abbrev c_SS_doomIfItRemoves : ByteArray := prog_1_method_39_code
def y_SS_doomIfItRemoves : MethodName := ⟨"ShareServer", "doomIfItRemoves", "(LShareServer$Handle;)V"⟩
abbrev c_SS_isRemovable : ByteArray := prog_1_method_45_code
def y_SS_isRemovable : MethodName := ⟨"ShareServer", "isRemovable", "(LShareServer$Node;)Z"⟩
abbrev c_SS_nodesIn : ByteArray := prog_1_method_44_code
def y_SS_nodesIn : MethodName := ⟨"ShareServer", "nodesIn", "(LShareServer$Node;)I"⟩
abbrev c_SS_settleDoom : ByteArray := prog_1_method_40_code
def y_SS_settleDoom : MethodName := ⟨"ShareServer", "settleDoom", "(LShareServer$Node;)V"⟩
abbrev c_SS_doom : ByteArray := prog_1_method_7_code
def y_SS_doom : MethodName := ⟨"ShareServer", "doom", "(IZ)I"⟩
abbrev c_Hd_may : ByteArray := prog_3_method_2_code
def y_Hd_may : MethodName := ⟨"ShareServer$Handle", "may", "(I)Z"⟩
abbrev c_SS_move : ByteArray := prog_1_method_8_code
def y_SS_move : MethodName := ⟨"ShareServer", "move", "(III)I"⟩
abbrev c_SS_isOrLiesInside : ByteArray := prog_1_method_46_code
def y_SS_isOrLiesInside : MethodName := ⟨"ShareServer", "isOrLiesInside", "(II)Z"⟩
abbrev c_SS_read : ByteArray := prog_1_method_9_code
def y_SS_read : MethodName := ⟨"ShareServer", "read", "(II)I"⟩
abbrev c_Nd_barsReading : ByteArray := prog_6_method_2_code
def y_Nd_barsReading : MethodName := ⟨"ShareServer$Node", "barsReading", "(LShareServer$Handle;I)Z"⟩
abbrev c_Lk_covers : ByteArray := prog_4_method_2_code
def y_Lk_covers : MethodName := ⟨"ShareServer$Lock", "covers", "(I)Z"⟩
abbrev c_SS_value : ByteArray := prog_1_method_10_code
def y_SS_value : MethodName := ⟨"ShareServer", "value", "()I"⟩
abbrev c_SS_write : ByteArray := prog_1_method_11_code
def y_SS_write : MethodName := ⟨"ShareServer", "write", "(III)I"⟩
abbrev c_Nd_barsWriting : ByteArray := prog_6_method_3_code
def y_Nd_barsWriting : MethodName := ⟨"ShareServer$Node", "barsWriting", "(LShareServer$Handle;I)Z"⟩
abbrev c_SS_endSharedGrantsBeside : ByteArray := prog_1_method_41_code
def y_SS_endSharedGrantsBeside : MethodName := ⟨"ShareServer", "endSharedGrantsBeside", "(LShareServer$Handle;)V"⟩
abbrev c_SS_lock : ByteArray := prog_1_method_12_code
def y_SS_lock : MethodName := ⟨"ShareServer", "lock", "(IIIZ)I"⟩
abbrev c_SS_isRange : ByteArray := prog_1_method_23_code
def y_SS_isRange : MethodName := ⟨"ShareServer", "isRange", "(II)Z"⟩
abbrev c_Lk_init : ByteArray := prog_4_method_1_code
def y_Lk_init : MethodName := ⟨"ShareServer$Lock", "<init>", "(LShareServer$Handle;IIZ)V"⟩
abbrev c_Nd_barsLocking : ByteArray := prog_6_method_4_code
def y_Nd_barsLocking : MethodName := ⟨"ShareServer$Node", "barsLocking", "(LShareServer$Lock;)Z"⟩
abbrev c_Lk_meets : ByteArray := prog_4_method_3_code
def y_Lk_meets : MethodName := ⟨"ShareServer$Lock", "meets", "(LShareServer$Lock;)Z"⟩
abbrev c_Nd_addLock : ByteArray := prog_6_method_5_code
def y_Nd_addLock : MethodName := ⟨"ShareServer$Node", "addLock", "(LShareServer$Lock;)V"⟩
abbrev c_SS_unlock : ByteArray := prog_1_method_13_code
def y_SS_unlock : MethodName := ⟨"ShareServer", "unlock", "(III)I"⟩
abbrev c_Nd_oldestLock : ByteArray := prog_6_method_6_code
def y_Nd_oldestLock : MethodName := ⟨"ShareServer$Node", "oldestLock", "(LShareServer$Handle;II)I"⟩
abbrev c_Nd_dropLock : ByteArray := prog_6_method_7_code
def y_Nd_dropLock : MethodName := ⟨"ShareServer$Node", "dropLock", "(I)V"⟩
abbrev c_SS_sync : ByteArray := prog_1_method_14_code
def y_SS_sync : MethodName := ⟨"ShareServer", "sync", "()I"⟩
abbrev c_Lg_changes : ByteArray := prog_5_method_4_code
def y_Lg_changes : MethodName := ⟨"ShareServer$Log", "changes", "()I"⟩
abbrev c_SS_crash : ByteArray := prog_1_method_15_code
def y_SS_crash : MethodName := ⟨"ShareServer", "crash", "()I"⟩
abbrev c_SS_undoUnsafeChanges : ByteArray := prog_1_method_47_code
def y_SS_undoUnsafeChanges : MethodName := ⟨"ShareServer", "undoUnsafeChanges", "()V"⟩
abbrev c_SS_undo : ByteArray := prog_1_method_48_code
def y_SS_undo : MethodName := ⟨"ShareServer", "undo", "(LShareServer$Change;)V"⟩
abbrev c_SS_calmNodes : ByteArray := prog_1_method_49_code
def y_SS_calmNodes : MethodName := ⟨"ShareServer", "calmNodes", "()V"⟩
abbrev c_SS_loseWaiting : ByteArray := prog_1_method_33_code
def y_SS_loseWaiting : MethodName := ⟨"ShareServer", "loseWaiting", "()V"⟩
abbrev c_SS_find : ByteArray := prog_1_method_16_code
def y_SS_find : MethodName := ⟨"ShareServer", "find", "(II)I"⟩
abbrev c_SS_node : ByteArray := prog_1_method_17_code
def y_SS_node : MethodName := ⟨"ShareServer", "node", "(II)I"⟩
abbrev c_SS_handle : ByteArray := prog_1_method_18_code
def y_SS_handle : MethodName := ⟨"ShareServer", "handle", "(II)I"⟩
abbrev c_SS_count : ByteArray := prog_1_method_19_code
def y_SS_count : MethodName := ⟨"ShareServer", "count", "(I)I"⟩
abbrev c_SS_waitingRequests : ByteArray := prog_1_method_34_code
def y_SS_waitingRequests : MethodName := ⟨"ShareServer", "waitingRequests", "()I"⟩
abbrev c_Md_init : ByteArray := prog_9_method_1_code
def y_Md_init : MethodName := ⟨"ShareServerModel", "<init>", "()V"⟩
abbrev c_Md_open : ByteArray := prog_9_method_15_code
def y_Md_open : MethodName := ⟨"ShareServerModel", "open", "(IIIII)I"⟩
abbrev c_Md_in : ByteArray := prog_9_method_2_code
def y_Md_in : MethodName := ⟨"ShareServerModel", "in", "(III)Z"⟩
abbrev c_Md_attempt : ByteArray := prog_9_method_13_code
def y_Md_attempt : MethodName := ⟨"ShareServerModel", "attempt", "(I)I"⟩
abbrev c_Md_at : ByteArray := prog_9_method_7_code
def y_Md_at : MethodName := ⟨"ShareServerModel", "at", "(II)I"⟩
abbrev c_Md_openOf : ByteArray := prog_9_method_5_code
def y_Md_openOf : MethodName := ⟨"ShareServerModel", "openOf", "(I)I"⟩
abbrev c_Md_h : ByteArray := prog_9_method_3_code
def y_Md_h : MethodName := ⟨"ShareServerModel", "h", "(II)I"⟩
abbrev c_Md_note : ByteArray := prog_9_method_9_code
def y_Md_note : MethodName := ⟨"ShareServerModel", "note", "(IIIII)V"⟩
abbrev c_Md_apply : ByteArray := prog_9_method_8_code
def y_Md_apply : MethodName := ⟨"ShareServerModel", "apply", "(I)V"⟩
abbrev c_Md_grant : ByteArray := prog_9_method_12_code
def y_Md_grant : MethodName := ⟨"ShareServerModel", "grant", "(II)I"⟩
abbrev c_Md_breaks : ByteArray := prog_9_method_10_code
def y_Md_breaks : MethodName := ⟨"ShareServerModel", "breaks", "(I)Z"⟩
abbrev c_Md_sharing : ByteArray := prog_9_method_11_code
def y_Md_sharing : MethodName := ⟨"ShareServerModel", "sharing", "(II)Z"⟩
abbrev c_Md_outcome : ByteArray := prog_9_method_16_code
def y_Md_outcome : MethodName := ⟨"ShareServerModel", "outcome", "(I)I"⟩
abbrev c_Md_cancel : ByteArray := prog_9_method_17_code
def y_Md_cancel : MethodName := ⟨"ShareServerModel", "cancel", "(I)I"⟩
abbrev c_Md_giveUp : ByteArray := prog_9_method_18_code
def y_Md_giveUp : MethodName := ⟨"ShareServerModel", "giveUp", "(I)I"⟩
abbrev c_Md_shut : ByteArray := prog_9_method_4_code
def y_Md_shut : MethodName := ⟨"ShareServerModel", "shut", "(I)Z"⟩
abbrev c_Md_tryAgain : ByteArray := prog_9_method_14_code
def y_Md_tryAgain : MethodName := ⟨"ShareServerModel", "tryAgain", "()V"⟩
abbrev c_Md_close : ByteArray := prog_9_method_20_code
def y_Md_close : MethodName := ⟨"ShareServerModel", "close", "(I)I"⟩
abbrev c_Md_unlockAt : ByteArray := prog_9_method_19_code
def y_Md_unlockAt : MethodName := ⟨"ShareServerModel", "unlockAt", "(I)V"⟩
abbrev c_Md_inside : ByteArray := prog_9_method_6_code
def y_Md_inside : MethodName := ⟨"ShareServerModel", "inside", "(I)I"⟩
abbrev c_Md_doom : ByteArray := prog_9_method_21_code
def y_Md_doom : MethodName := ⟨"ShareServerModel", "doom", "(IZ)I"⟩
abbrev c_Md_move : ByteArray := prog_9_method_22_code
def y_Md_move : MethodName := ⟨"ShareServerModel", "move", "(III)I"⟩
abbrev c_Md_read : ByteArray := prog_9_method_25_code
def y_Md_read : MethodName := ⟨"ShareServerModel", "read", "(II)I"⟩
abbrev c_Md_may : ByteArray := prog_9_method_23_code
def y_Md_may : MethodName := ⟨"ShareServerModel", "may", "(III)Z"⟩
abbrev c_Md_met : ByteArray := prog_9_method_24_code
def y_Md_met : MethodName := ⟨"ShareServerModel", "met", "(IIIZI)Z"⟩
abbrev c_Md_value : ByteArray := prog_9_method_26_code
def y_Md_value : MethodName := ⟨"ShareServerModel", "value", "()I"⟩
abbrev c_Md_write : ByteArray := prog_9_method_27_code
def y_Md_write : MethodName := ⟨"ShareServerModel", "write", "(III)I"⟩
abbrev c_Md_lock : ByteArray := prog_9_method_30_code
def y_Md_lock : MethodName := ⟨"ShareServerModel", "lock", "(IIIZ)I"⟩
abbrev c_Md_badRange : ByteArray := prog_9_method_29_code
def y_Md_badRange : MethodName := ⟨"ShareServerModel", "badRange", "(III)Z"⟩
abbrev c_Md_locksOf : ByteArray := prog_9_method_28_code
def y_Md_locksOf : MethodName := ⟨"ShareServerModel", "locksOf", "(I)I"⟩
abbrev c_Md_unlock : ByteArray := prog_9_method_31_code
def y_Md_unlock : MethodName := ⟨"ShareServerModel", "unlock", "(III)I"⟩
abbrev c_Md_sync : ByteArray := prog_9_method_32_code
def y_Md_sync : MethodName := ⟨"ShareServerModel", "sync", "()I"⟩
abbrev c_Md_crash : ByteArray := prog_9_method_33_code
def y_Md_crash : MethodName := ⟨"ShareServerModel", "crash", "()I"⟩
abbrev c_Md_find : ByteArray := prog_9_method_34_code
def y_Md_find : MethodName := ⟨"ShareServerModel", "find", "(II)I"⟩
abbrev c_Md_node : ByteArray := prog_9_method_35_code
def y_Md_node : MethodName := ⟨"ShareServerModel", "node", "(II)I"⟩
abbrev c_Md_handle : ByteArray := prog_9_method_36_code
def y_Md_handle : MethodName := ⟨"ShareServerModel", "handle", "(II)I"⟩
abbrev c_Md_count : ByteArray := prog_9_method_37_code
def y_Md_count : MethodName := ⟨"ShareServerModel", "count", "(I)I"⟩
abbrev c_Lw_law : ByteArray := code
end
section
/-! decode rows, printed by gen01.py -/
theorem d_SS_init_0 : decode c_SS_init 0 = .ok (.aload_n 0, 1) := by decide +kernel
theorem d_SS_init_1 : decode c_SS_init 1 = .ok (.invokespecial 3, 3) := by decide +kernel
theorem d_SS_init_4 : decode c_SS_init 4 = .ok (.aload_n 0, 1) := by decide +kernel
theorem d_SS_init_5 : decode c_SS_init 5 = .ok (.bipush 25, 2) := by decide +kernel
theorem d_SS_init_7 : decode c_SS_init 7 = .ok (.anewarray 9, 3) := by decide +kernel
theorem d_SS_init_10 : decode c_SS_init 10 = .ok (.putfield 11, 3) := by decide +kernel
theorem d_SS_init_13 : decode c_SS_init 13 = .ok (.aload_n 0, 1) := by decide +kernel
theorem d_SS_init_14 : decode c_SS_init 14 = .ok (.getfield 11, 3) := by decide +kernel
theorem d_SS_init_17 : decode c_SS_init 17 = .ok (.iconst 0, 1) := by decide +kernel
theorem d_SS_init_18 : decode c_SS_init 18 = .ok (.new 9, 3) := by decide +kernel
theorem d_SS_init_21 : decode c_SS_init 21 = .ok (.dup, 1) := by decide +kernel
theorem d_SS_init_22 : decode c_SS_init 22 = .ok (.iconst 0, 1) := by decide +kernel
theorem d_SS_init_23 : decode c_SS_init 23 = .ok (.bipush (-3), 2) := by decide +kernel
theorem d_SS_init_25 : decode c_SS_init 25 = .ok (.bipush (-3), 2) := by decide +kernel
theorem d_SS_init_27 : decode c_SS_init 27 = .ok (.iconst 1, 1) := by decide +kernel
theorem d_SS_init_28 : decode c_SS_init 28 = .ok (.invokespecial 15, 3) := by decide +kernel
theorem d_SS_init_31 : decode c_SS_init 31 = .ok (.aastore, 1) := by decide +kernel
theorem d_SS_init_32 : decode c_SS_init 32 = .ok (.aload_n 0, 1) := by decide +kernel
theorem d_SS_init_33 : decode c_SS_init 33 = .ok (.bipush 12, 2) := by decide +kernel
theorem d_SS_init_35 : decode c_SS_init 35 = .ok (.anewarray 18, 3) := by decide +kernel
theorem d_SS_init_38 : decode c_SS_init 38 = .ok (.putfield 20, 3) := by decide +kernel
theorem d_SS_init_41 : decode c_SS_init 41 = .ok (.aload_n 0, 1) := by decide +kernel
theorem d_SS_init_42 : decode c_SS_init 42 = .ok (.sipush 512, 3) := by decide +kernel
theorem d_SS_init_45 : decode c_SS_init 45 = .ok (.anewarray 24, 3) := by decide +kernel
theorem d_SS_init_48 : decode c_SS_init 48 = .ok (.putfield 26, 3) := by decide +kernel
theorem d_SS_init_51 : decode c_SS_init 51 = .ok (.aload_n 0, 1) := by decide +kernel
theorem d_SS_init_52 : decode c_SS_init 52 = .ok (.new 30, 3) := by decide +kernel
theorem d_SS_init_55 : decode c_SS_init 55 = .ok (.dup, 1) := by decide +kernel
theorem d_SS_init_56 : decode c_SS_init 56 = .ok (.invokespecial 32, 3) := by decide +kernel
theorem d_SS_init_59 : decode c_SS_init 59 = .ok (.putfield 33, 3) := by decide +kernel
theorem d_SS_init_62 : decode c_SS_init 62 = .ok (.return_, 1) := by decide +kernel
theorem d_Nd_init_0 : decode c_Nd_init 0 = .ok (.aload_n 0, 1) := by decide +kernel
theorem d_Nd_init_1 : decode c_Nd_init 1 = .ok (.invokespecial 3, 3) := by decide +kernel
theorem d_Nd_init_4 : decode c_Nd_init 4 = .ok (.aload_n 0, 1) := by decide +kernel
theorem d_Nd_init_5 : decode c_Nd_init 5 = .ok (.iload_n 1, 1) := by decide +kernel
theorem d_Nd_init_6 : decode c_Nd_init 6 = .ok (.putfield 9, 3) := by decide +kernel
theorem d_Nd_init_9 : decode c_Nd_init 9 = .ok (.aload_n 0, 1) := by decide +kernel
theorem d_Nd_init_10 : decode c_Nd_init 10 = .ok (.iload_n 2, 1) := by decide +kernel
theorem d_Nd_init_11 : decode c_Nd_init 11 = .ok (.putfield 15, 3) := by decide +kernel
theorem d_Nd_init_14 : decode c_Nd_init 14 = .ok (.aload_n 0, 1) := by decide +kernel
theorem d_Nd_init_15 : decode c_Nd_init 15 = .ok (.iload_n 3, 1) := by decide +kernel
theorem d_Nd_init_16 : decode c_Nd_init 16 = .ok (.putfield 18, 3) := by decide +kernel
theorem d_Nd_init_19 : decode c_Nd_init 19 = .ok (.aload_n 0, 1) := by decide +kernel
theorem d_Nd_init_20 : decode c_Nd_init 20 = .ok (.iload 4, 2) := by decide +kernel
theorem d_Nd_init_22 : decode c_Nd_init 22 = .ok (.putfield 21, 3) := by decide +kernel
theorem d_Nd_init_25 : decode c_Nd_init 25 = .ok (.aload_n 0, 1) := by decide +kernel
theorem d_Nd_init_26 : decode c_Nd_init 26 = .ok (.iload 4, 2) := by decide +kernel
theorem d_Nd_init_28 : decode c_Nd_init 28 = .ok (.ifCond .eq 7, 3) := by decide +kernel
theorem d_Nd_init_31 : decode c_Nd_init 31 = .ok (.iconst 0, 1) := by decide +kernel
theorem d_Nd_init_32 : decode c_Nd_init 32 = .ok (.goto 5, 3) := by decide +kernel
theorem d_Nd_init_35 : decode c_Nd_init 35 = .ok (.bipush 32, 2) := by decide +kernel
theorem d_Nd_init_37 : decode c_Nd_init 37 = .ok (.newarray .int, 2) := by decide +kernel
theorem d_Nd_init_39 : decode c_Nd_init 39 = .ok (.putfield 25, 3) := by decide +kernel
theorem d_Nd_init_42 : decode c_Nd_init 42 = .ok (.aload_n 0, 1) := by decide +kernel
theorem d_Nd_init_43 : decode c_Nd_init 43 = .ok (.iload 4, 2) := by decide +kernel
theorem d_Nd_init_45 : decode c_Nd_init 45 = .ok (.ifCond .eq 7, 3) := by decide +kernel
theorem d_Nd_init_48 : decode c_Nd_init 48 = .ok (.iconst 0, 1) := by decide +kernel
theorem d_Nd_init_49 : decode c_Nd_init 49 = .ok (.goto 5, 3) := by decide +kernel
theorem d_Nd_init_52 : decode c_Nd_init 52 = .ok (.bipush 8, 2) := by decide +kernel
theorem d_Nd_init_54 : decode c_Nd_init 54 = .ok (.anewarray 29, 3) := by decide +kernel
theorem d_Nd_init_57 : decode c_Nd_init 57 = .ok (.putfield 31, 3) := by decide +kernel
theorem d_Nd_init_60 : decode c_Nd_init 60 = .ok (.return_, 1) := by decide +kernel
theorem d_Lg_init_0 : decode c_Lg_init 0 = .ok (.aload_n 0, 1) := by decide +kernel
theorem d_Lg_init_1 : decode c_Lg_init 1 = .ok (.invokespecial 3, 3) := by decide +kernel
theorem d_Lg_init_4 : decode c_Lg_init 4 = .ok (.aload_n 0, 1) := by decide +kernel
theorem d_Lg_init_5 : decode c_Lg_init 5 = .ok (.bipush 6, 2) := by decide +kernel
theorem d_Lg_init_7 : decode c_Lg_init 7 = .ok (.anewarray 9, 3) := by decide +kernel
theorem d_Lg_init_10 : decode c_Lg_init 10 = .ok (.putfield 11, 3) := by decide +kernel
theorem d_Lg_init_13 : decode c_Lg_init 13 = .ok (.return_, 1) := by decide +kernel
theorem d_SS_open_0 : decode c_SS_open 0 = .ok (.iload_n 1, 1) := by decide +kernel
theorem d_SS_open_1 : decode c_SS_open 1 = .ok (.iconst 4, 1) := by decide +kernel
theorem d_SS_open_2 : decode c_SS_open 2 = .ok (.invokestatic 37, 3) := by decide +kernel
theorem d_SS_open_5 : decode c_SS_open 5 = .ok (.ifCond .eq 28, 3) := by decide +kernel
theorem d_SS_open_8 : decode c_SS_open 8 = .ok (.iload_n 2, 1) := by decide +kernel
theorem d_SS_open_9 : decode c_SS_open 9 = .ok (.iload_n 3, 1) := by decide +kernel
theorem d_SS_open_10 : decode c_SS_open 10 = .ok (.invokestatic 41, 3) := by decide +kernel
theorem d_SS_open_13 : decode c_SS_open 13 = .ok (.ifCond .eq 20, 3) := by decide +kernel
theorem d_SS_open_16 : decode c_SS_open 16 = .ok (.iload 4, 2) := by decide +kernel
theorem d_SS_open_18 : decode c_SS_open 18 = .ok (.invokestatic 44, 3) := by decide +kernel
theorem d_SS_open_21 : decode c_SS_open 21 = .ok (.ifCond .eq 12, 3) := by decide +kernel
theorem d_SS_open_24 : decode c_SS_open 24 = .ok (.iload 5, 2) := by decide +kernel
theorem d_SS_open_26 : decode c_SS_open 26 = .ok (.iconst 3, 1) := by decide +kernel
theorem d_SS_open_27 : decode c_SS_open 27 = .ok (.invokestatic 37, 3) := by decide +kernel
theorem d_SS_open_30 : decode c_SS_open 30 = .ok (.ifCond .ne 5, 3) := by decide +kernel
theorem d_SS_open_33 : decode c_SS_open 33 = .ok (.iconst (-1), 1) := by decide +kernel
theorem d_SS_open_34 : decode c_SS_open 34 = .ok (.ireturn, 1) := by decide +kernel
theorem d_SS_open_35 : decode c_SS_open 35 = .ok (.aload_n 0, 1) := by decide +kernel
theorem d_SS_open_36 : decode c_SS_open 36 = .ok (.getfield 48, 3) := by decide +kernel
theorem d_SS_open_39 : decode c_SS_open 39 = .ok (.sipush 512, 3) := by decide +kernel
theorem d_SS_open_42 : decode c_SS_open 42 = .ok (.if_icmp .lt 5, 3) := by decide +kernel
theorem d_SS_open_45 : decode c_SS_open 45 = .ok (.iconst (-1), 1) := by decide +kernel
theorem d_SS_open_46 : decode c_SS_open 46 = .ok (.ireturn, 1) := by decide +kernel
theorem d_SS_open_47 : decode c_SS_open 47 = .ok (.new 24, 3) := by decide +kernel
theorem d_SS_open_50 : decode c_SS_open 50 = .ok (.dup, 1) := by decide +kernel
theorem d_SS_open_51 : decode c_SS_open 51 = .ok (.iload_n 1, 1) := by decide +kernel
theorem d_SS_open_52 : decode c_SS_open 52 = .ok (.iload_n 2, 1) := by decide +kernel
theorem d_SS_open_53 : decode c_SS_open 53 = .ok (.iload_n 3, 1) := by decide +kernel
theorem d_SS_open_54 : decode c_SS_open 54 = .ok (.iload 4, 2) := by decide +kernel
theorem d_SS_open_56 : decode c_SS_open 56 = .ok (.iload 5, 2) := by decide +kernel
theorem d_SS_open_58 : decode c_SS_open 58 = .ok (.invokespecial 52, 3) := by decide +kernel
theorem d_SS_open_61 : decode c_SS_open 61 = .ok (.astore 6, 2) := by decide +kernel
theorem d_SS_open_63 : decode c_SS_open 63 = .ok (.aload_n 0, 1) := by decide +kernel
theorem d_SS_open_64 : decode c_SS_open 64 = .ok (.getfield 26, 3) := by decide +kernel
theorem d_SS_open_67 : decode c_SS_open 67 = .ok (.aload_n 0, 1) := by decide +kernel
theorem d_SS_open_68 : decode c_SS_open 68 = .ok (.getfield 48, 3) := by decide +kernel
theorem d_SS_open_71 : decode c_SS_open 71 = .ok (.aload 6, 2) := by decide +kernel
theorem d_SS_open_73 : decode c_SS_open 73 = .ok (.aastore, 1) := by decide +kernel
theorem d_SS_open_74 : decode c_SS_open 74 = .ok (.aload_n 0, 1) := by decide +kernel
theorem d_SS_open_75 : decode c_SS_open 75 = .ok (.dup, 1) := by decide +kernel
theorem d_SS_open_76 : decode c_SS_open 76 = .ok (.getfield 48, 3) := by decide +kernel
theorem d_SS_open_79 : decode c_SS_open 79 = .ok (.iconst 1, 1) := by decide +kernel
theorem d_SS_open_80 : decode c_SS_open 80 = .ok (.iadd, 1) := by decide +kernel
theorem d_SS_open_81 : decode c_SS_open 81 = .ok (.putfield 48, 3) := by decide +kernel
theorem d_SS_open_84 : decode c_SS_open 84 = .ok (.aload 6, 2) := by decide +kernel
theorem d_SS_open_86 : decode c_SS_open 86 = .ok (.aload_n 0, 1) := by decide +kernel
theorem d_SS_open_87 : decode c_SS_open 87 = .ok (.aload 6, 2) := by decide +kernel
theorem d_SS_open_89 : decode c_SS_open 89 = .ok (.invokevirtual 55, 3) := by decide +kernel
theorem d_SS_open_92 : decode c_SS_open 92 = .ok (.putfield 59, 3) := by decide +kernel
theorem d_SS_open_95 : decode c_SS_open 95 = .ok (.aload_n 0, 1) := by decide +kernel
theorem d_SS_open_96 : decode c_SS_open 96 = .ok (.getfield 48, 3) := by decide +kernel
theorem d_SS_open_99 : decode c_SS_open 99 = .ok (.ireturn, 1) := by decide +kernel
theorem d_SS_isBelow_0 : decode c_SS_isBelow 0 = .ok (.iload_n 0, 1) := by decide +kernel
theorem d_SS_isBelow_1 : decode c_SS_isBelow 1 = .ok (.ifCond .lt 12, 3) := by decide +kernel
theorem d_SS_isBelow_4 : decode c_SS_isBelow 4 = .ok (.iload_n 0, 1) := by decide +kernel
theorem d_SS_isBelow_5 : decode c_SS_isBelow 5 = .ok (.iload_n 1, 1) := by decide +kernel
theorem d_SS_isBelow_6 : decode c_SS_isBelow 6 = .ok (.if_icmp .ge 7, 3) := by decide +kernel
theorem d_SS_isBelow_9 : decode c_SS_isBelow 9 = .ok (.iconst 1, 1) := by decide +kernel
theorem d_SS_isBelow_10 : decode c_SS_isBelow 10 = .ok (.goto 4, 3) := by decide +kernel
theorem d_SS_isBelow_13 : decode c_SS_isBelow 13 = .ok (.iconst 0, 1) := by decide +kernel
theorem d_SS_isBelow_14 : decode c_SS_isBelow 14 = .ok (.ireturn, 1) := by decide +kernel
theorem d_SS_isPlace_0 : decode c_SS_isPlace 0 = .ok (.iload_n 0, 1) := by decide +kernel
theorem d_SS_isPlace_1 : decode c_SS_isPlace 1 = .ok (.bipush 25, 2) := by decide +kernel
theorem d_SS_isPlace_3 : decode c_SS_isPlace 3 = .ok (.invokestatic 37, 3) := by decide +kernel
theorem d_SS_isPlace_6 : decode c_SS_isPlace 6 = .ok (.ifCond .eq 16, 3) := by decide +kernel
theorem d_SS_isPlace_9 : decode c_SS_isPlace 9 = .ok (.iload_n 1, 1) := by decide +kernel
theorem d_SS_isPlace_10 : decode c_SS_isPlace 10 = .ok (.bipush 16, 2) := by decide +kernel
theorem d_SS_isPlace_12 : decode c_SS_isPlace 12 = .ok (.invokestatic 37, 3) := by decide +kernel
theorem d_SS_isPlace_15 : decode c_SS_isPlace 15 = .ok (.ifCond .eq 7, 3) := by decide +kernel
theorem d_SS_isPlace_18 : decode c_SS_isPlace 18 = .ok (.iconst 1, 1) := by decide +kernel
theorem d_SS_isPlace_19 : decode c_SS_isPlace 19 = .ok (.goto 4, 3) := by decide +kernel
theorem d_SS_isPlace_22 : decode c_SS_isPlace 22 = .ok (.iconst 0, 1) := by decide +kernel
theorem d_SS_isPlace_23 : decode c_SS_isPlace 23 = .ok (.ireturn, 1) := by decide +kernel
theorem d_SS_isMode_0 : decode c_SS_isMode 0 = .ok (.iload_n 0, 1) := by decide +kernel
theorem d_SS_isMode_1 : decode c_SS_isMode 1 = .ok (.sipush 1024, 3) := by decide +kernel
theorem d_SS_isMode_4 : decode c_SS_isMode 4 = .ok (.invokestatic 37, 3) := by decide +kernel
theorem d_SS_isMode_7 : decode c_SS_isMode 7 = .ok (.ifCond .eq 10, 3) := by decide +kernel
theorem d_SS_isMode_10 : decode c_SS_isMode 10 = .ok (.iload_n 0, 1) := by decide +kernel
theorem d_SS_isMode_11 : decode c_SS_isMode 11 = .ok (.bipush 7, 2) := by decide +kernel
theorem d_SS_isMode_13 : decode c_SS_isMode 13 = .ok (.iand, 1) := by decide +kernel
theorem d_SS_isMode_14 : decode c_SS_isMode 14 = .ok (.ifCond .ne 5, 3) := by decide +kernel
theorem d_SS_isMode_17 : decode c_SS_isMode 17 = .ok (.iconst 0, 1) := by decide +kernel
theorem d_SS_isMode_18 : decode c_SS_isMode 18 = .ok (.ireturn, 1) := by decide +kernel
theorem d_SS_isMode_19 : decode c_SS_isMode 19 = .ok (.iload_n 0, 1) := by decide +kernel
theorem d_SS_isMode_20 : decode c_SS_isMode 20 = .ok (.sipush 512, 3) := by decide +kernel
theorem d_SS_isMode_23 : decode c_SS_isMode 23 = .ok (.iand, 1) := by decide +kernel
theorem d_SS_isMode_24 : decode c_SS_isMode 24 = .ok (.ifCond .eq 9, 3) := by decide +kernel
theorem d_SS_isMode_27 : decode c_SS_isMode 27 = .ok (.iload_n 0, 1) := by decide +kernel
theorem d_SS_isMode_28 : decode c_SS_isMode 28 = .ok (.iconst 4, 1) := by decide +kernel
theorem d_SS_isMode_29 : decode c_SS_isMode 29 = .ok (.iand, 1) := by decide +kernel
theorem d_SS_isMode_30 : decode c_SS_isMode 30 = .ok (.ifCond .eq 7, 3) := by decide +kernel
theorem d_SS_isMode_33 : decode c_SS_isMode 33 = .ok (.iconst 1, 1) := by decide +kernel
theorem d_SS_isMode_34 : decode c_SS_isMode 34 = .ok (.goto 4, 3) := by decide +kernel
theorem d_SS_isMode_37 : decode c_SS_isMode 37 = .ok (.iconst 0, 1) := by decide +kernel
theorem d_SS_isMode_38 : decode c_SS_isMode 38 = .ok (.ireturn, 1) := by decide +kernel
theorem d_Rq_init_0 : decode c_Rq_init 0 = .ok (.aload_n 0, 1) := by decide +kernel
theorem d_Rq_init_1 : decode c_Rq_init 1 = .ok (.invokespecial 3, 3) := by decide +kernel
theorem d_Rq_init_4 : decode c_Rq_init 4 = .ok (.aload_n 0, 1) := by decide +kernel
theorem d_Rq_init_5 : decode c_Rq_init 5 = .ok (.iload_n 1, 1) := by decide +kernel
theorem d_Rq_init_6 : decode c_Rq_init 6 = .ok (.putfield 9, 3) := by decide +kernel
theorem d_Rq_init_9 : decode c_Rq_init 9 = .ok (.aload_n 0, 1) := by decide +kernel
theorem d_Rq_init_10 : decode c_Rq_init 10 = .ok (.iload_n 2, 1) := by decide +kernel
theorem d_Rq_init_11 : decode c_Rq_init 11 = .ok (.putfield 15, 3) := by decide +kernel
theorem d_Rq_init_14 : decode c_Rq_init 14 = .ok (.aload_n 0, 1) := by decide +kernel
theorem d_Rq_init_15 : decode c_Rq_init 15 = .ok (.iload_n 3, 1) := by decide +kernel
theorem d_Rq_init_16 : decode c_Rq_init 16 = .ok (.putfield 18, 3) := by decide +kernel
theorem d_Rq_init_19 : decode c_Rq_init 19 = .ok (.aload_n 0, 1) := by decide +kernel
theorem d_Rq_init_20 : decode c_Rq_init 20 = .ok (.iload 4, 2) := by decide +kernel
theorem d_Rq_init_22 : decode c_Rq_init 22 = .ok (.putfield 21, 3) := by decide +kernel
theorem d_Rq_init_25 : decode c_Rq_init 25 = .ok (.aload_n 0, 1) := by decide +kernel
theorem d_Rq_init_26 : decode c_Rq_init 26 = .ok (.iload 5, 2) := by decide +kernel
theorem d_Rq_init_28 : decode c_Rq_init 28 = .ok (.putfield 24, 3) := by decide +kernel
theorem d_Rq_init_31 : decode c_Rq_init 31 = .ok (.aload_n 0, 1) := by decide +kernel
theorem d_Rq_init_32 : decode c_Rq_init 32 = .ok (.iconst 0, 1) := by decide +kernel
theorem d_Rq_init_33 : decode c_Rq_init 33 = .ok (.putfield 27, 3) := by decide +kernel
theorem d_Rq_init_36 : decode c_Rq_init 36 = .ok (.return_, 1) := by decide +kernel
theorem d_SS_attempt_0 : decode c_SS_attempt 0 = .ok (.aload_n 0, 1) := by decide +kernel
theorem d_SS_attempt_1 : decode c_SS_attempt 1 = .ok (.aload_n 1, 1) := by decide +kernel
theorem d_SS_attempt_2 : decode c_SS_attempt 2 = .ok (.getfield 227, 3) := by decide +kernel
theorem d_SS_attempt_5 : decode c_SS_attempt 5 = .ok (.invokevirtual 111, 3) := by decide +kernel
theorem d_SS_attempt_8 : decode c_SS_attempt 8 = .ok (.ifCond .ne 6, 3) := by decide +kernel
theorem d_SS_attempt_11 : decode c_SS_attempt 11 = .ok (.bipush (-3), 2) := by decide +kernel
theorem d_SS_attempt_13 : decode c_SS_attempt 13 = .ok (.ireturn, 1) := by decide +kernel
theorem d_SS_attempt_14 : decode c_SS_attempt 14 = .ok (.aload_n 0, 1) := by decide +kernel
theorem d_SS_attempt_15 : decode c_SS_attempt 15 = .ok (.aload_n 1, 1) := by decide +kernel
theorem d_SS_attempt_16 : decode c_SS_attempt 16 = .ok (.getfield 227, 3) := by decide +kernel
theorem d_SS_attempt_19 : decode c_SS_attempt 19 = .ok (.aload_n 1, 1) := by decide +kernel
theorem d_SS_attempt_20 : decode c_SS_attempt 20 = .ok (.getfield 228, 3) := by decide +kernel
theorem d_SS_attempt_23 : decode c_SS_attempt 23 = .ok (.invokevirtual 117, 3) := by decide +kernel
theorem d_SS_attempt_26 : decode c_SS_attempt 26 = .ok (.astore_n 2, 1) := by decide +kernel
theorem d_SS_attempt_27 : decode c_SS_attempt 27 = .ok (.aload_n 2, 1) := by decide +kernel
theorem d_SS_attempt_28 : decode c_SS_attempt 28 = .ok (.ifnonnull 11, 3) := by decide +kernel
theorem d_SS_attempt_31 : decode c_SS_attempt 31 = .ok (.aload_n 0, 1) := by decide +kernel
theorem d_SS_attempt_32 : decode c_SS_attempt 32 = .ok (.aload_n 1, 1) := by decide +kernel
theorem d_SS_attempt_33 : decode c_SS_attempt 33 = .ok (.invokevirtual 229, 3) := by decide +kernel
theorem d_SS_attempt_36 : decode c_SS_attempt 36 = .ok (.goto 9, 3) := by decide +kernel
theorem d_SS_attempt_39 : decode c_SS_attempt 39 = .ok (.aload_n 0, 1) := by decide +kernel
theorem d_SS_attempt_40 : decode c_SS_attempt 40 = .ok (.aload_n 1, 1) := by decide +kernel
theorem d_SS_attempt_41 : decode c_SS_attempt 41 = .ok (.aload_n 2, 1) := by decide +kernel
theorem d_SS_attempt_42 : decode c_SS_attempt 42 = .ok (.invokevirtual 232, 3) := by decide +kernel
theorem d_SS_attempt_45 : decode c_SS_attempt 45 = .ok (.ireturn, 1) := by decide +kernel
theorem d_SS_isFolderThere_0 : decode c_SS_isFolderThere 0 = .ok (.iload_n 1, 1) := by decide +kernel
theorem d_SS_isFolderThere_1 : decode c_SS_isFolderThere 1 = .ok (.aload_n 0, 1) := by decide +kernel
theorem d_SS_isFolderThere_2 : decode c_SS_isFolderThere 2 = .ok (.getfield 11, 3) := by decide +kernel
theorem d_SS_isFolderThere_5 : decode c_SS_isFolderThere 5 = .ok (.arraylength, 1) := by decide +kernel
theorem d_SS_isFolderThere_6 : decode c_SS_isFolderThere 6 = .ok (.invokestatic 37, 3) := by decide +kernel
theorem d_SS_isFolderThere_9 : decode c_SS_isFolderThere 9 = .ok (.ifCond .eq 28, 3) := by decide +kernel
theorem d_SS_isFolderThere_12 : decode c_SS_isFolderThere 12 = .ok (.aload_n 0, 1) := by decide +kernel
theorem d_SS_isFolderThere_13 : decode c_SS_isFolderThere 13 = .ok (.getfield 11, 3) := by decide +kernel
theorem d_SS_isFolderThere_16 : decode c_SS_isFolderThere 16 = .ok (.iload_n 1, 1) := by decide +kernel
theorem d_SS_isFolderThere_17 : decode c_SS_isFolderThere 17 = .ok (.aaload, 1) := by decide +kernel
theorem d_SS_isFolderThere_18 : decode c_SS_isFolderThere 18 = .ok (.ifnull 19, 3) := by decide +kernel
theorem d_SS_isFolderThere_21 : decode c_SS_isFolderThere 21 = .ok (.aload_n 0, 1) := by decide +kernel
theorem d_SS_isFolderThere_22 : decode c_SS_isFolderThere 22 = .ok (.getfield 11, 3) := by decide +kernel
theorem d_SS_isFolderThere_25 : decode c_SS_isFolderThere 25 = .ok (.iload_n 1, 1) := by decide +kernel
theorem d_SS_isFolderThere_26 : decode c_SS_isFolderThere 26 = .ok (.aaload, 1) := by decide +kernel
theorem d_SS_isFolderThere_27 : decode c_SS_isFolderThere 27 = .ok (.getfield 136, 3) := by decide +kernel
theorem d_SS_isFolderThere_30 : decode c_SS_isFolderThere 30 = .ok (.ifCond .eq 7, 3) := by decide +kernel
theorem d_SS_isFolderThere_33 : decode c_SS_isFolderThere 33 = .ok (.iconst 1, 1) := by decide +kernel
theorem d_SS_isFolderThere_34 : decode c_SS_isFolderThere 34 = .ok (.goto 4, 3) := by decide +kernel
theorem d_SS_isFolderThere_37 : decode c_SS_isFolderThere 37 = .ok (.iconst 0, 1) := by decide +kernel
theorem d_SS_isFolderThere_38 : decode c_SS_isFolderThere 38 = .ok (.ireturn, 1) := by decide +kernel
theorem d_SS_nodeAt_0 : decode c_SS_nodeAt 0 = .ok (.iconst 0, 1) := by decide +kernel
theorem d_SS_nodeAt_1 : decode c_SS_nodeAt 1 = .ok (.istore_n 3, 1) := by decide +kernel
theorem d_SS_nodeAt_2 : decode c_SS_nodeAt 2 = .ok (.iload_n 3, 1) := by decide +kernel
theorem d_SS_nodeAt_3 : decode c_SS_nodeAt 3 = .ok (.aload_n 0, 1) := by decide +kernel
theorem d_SS_nodeAt_4 : decode c_SS_nodeAt 4 = .ok (.getfield 11, 3) := by decide +kernel
theorem d_SS_nodeAt_7 : decode c_SS_nodeAt 7 = .ok (.arraylength, 1) := by decide +kernel
theorem d_SS_nodeAt_8 : decode c_SS_nodeAt 8 = .ok (.if_icmp .ge 43, 3) := by decide +kernel
theorem d_SS_nodeAt_11 : decode c_SS_nodeAt 11 = .ok (.aload_n 0, 1) := by decide +kernel
theorem d_SS_nodeAt_12 : decode c_SS_nodeAt 12 = .ok (.getfield 11, 3) := by decide +kernel
theorem d_SS_nodeAt_15 : decode c_SS_nodeAt 15 = .ok (.iload_n 3, 1) := by decide +kernel
theorem d_SS_nodeAt_16 : decode c_SS_nodeAt 16 = .ok (.aaload, 1) := by decide +kernel
theorem d_SS_nodeAt_17 : decode c_SS_nodeAt 17 = .ok (.astore 4, 2) := by decide +kernel
theorem d_SS_nodeAt_19 : decode c_SS_nodeAt 19 = .ok (.aload 4, 2) := by decide +kernel
theorem d_SS_nodeAt_21 : decode c_SS_nodeAt 21 = .ok (.ifnull 24, 3) := by decide +kernel
theorem d_SS_nodeAt_24 : decode c_SS_nodeAt 24 = .ok (.aload 4, 2) := by decide +kernel
theorem d_SS_nodeAt_26 : decode c_SS_nodeAt 26 = .ok (.getfield 123, 3) := by decide +kernel
theorem d_SS_nodeAt_29 : decode c_SS_nodeAt 29 = .ok (.iload_n 1, 1) := by decide +kernel
theorem d_SS_nodeAt_30 : decode c_SS_nodeAt 30 = .ok (.if_icmp .ne 15, 3) := by decide +kernel
theorem d_SS_nodeAt_33 : decode c_SS_nodeAt 33 = .ok (.aload 4, 2) := by decide +kernel
theorem d_SS_nodeAt_35 : decode c_SS_nodeAt 35 = .ok (.getfield 126, 3) := by decide +kernel
theorem d_SS_nodeAt_38 : decode c_SS_nodeAt 38 = .ok (.iload_n 2, 1) := by decide +kernel
theorem d_SS_nodeAt_39 : decode c_SS_nodeAt 39 = .ok (.if_icmp .ne 6, 3) := by decide +kernel
theorem d_SS_nodeAt_42 : decode c_SS_nodeAt 42 = .ok (.aload 4, 2) := by decide +kernel
theorem d_SS_nodeAt_44 : decode c_SS_nodeAt 44 = .ok (.areturn, 1) := by decide +kernel
theorem d_SS_nodeAt_45 : decode c_SS_nodeAt 45 = .ok (.iinc 3 1, 3) := by decide +kernel
theorem d_SS_nodeAt_48 : decode c_SS_nodeAt 48 = .ok (.goto (-46), 3) := by decide +kernel
theorem d_SS_nodeAt_51 : decode c_SS_nodeAt 51 = .ok (.aconst_null, 1) := by decide +kernel
theorem d_SS_nodeAt_52 : decode c_SS_nodeAt 52 = .ok (.areturn, 1) := by decide +kernel
theorem d_SS_openNew_0 : decode c_SS_openNew 0 = .ok (.aload_n 1, 1) := by decide +kernel
theorem d_SS_openNew_1 : decode c_SS_openNew 1 = .ok (.bipush 64, 2) := by decide +kernel
theorem d_SS_openNew_3 : decode c_SS_openNew 3 = .ok (.invokevirtual 236, 3) := by decide +kernel
theorem d_SS_openNew_6 : decode c_SS_openNew 6 = .ok (.ifCond .ne 6, 3) := by decide +kernel
theorem d_SS_openNew_9 : decode c_SS_openNew 9 = .ok (.bipush (-3), 2) := by decide +kernel
theorem d_SS_openNew_11 : decode c_SS_openNew 11 = .ok (.ireturn, 1) := by decide +kernel
theorem d_SS_openNew_12 : decode c_SS_openNew 12 = .ok (.aload_n 0, 1) := by decide +kernel
theorem d_SS_openNew_13 : decode c_SS_openNew 13 = .ok (.getfield 11, 3) := by decide +kernel
theorem d_SS_openNew_16 : decode c_SS_openNew 16 = .ok (.aload_n 1, 1) := by decide +kernel
theorem d_SS_openNew_17 : decode c_SS_openNew 17 = .ok (.getfield 227, 3) := by decide +kernel
theorem d_SS_openNew_20 : decode c_SS_openNew 20 = .ok (.aaload, 1) := by decide +kernel
theorem d_SS_openNew_21 : decode c_SS_openNew 21 = .ok (.getfield 104, 3) := by decide +kernel
theorem d_SS_openNew_24 : decode c_SS_openNew 24 = .ok (.ifCond .eq 6, 3) := by decide +kernel
theorem d_SS_openNew_27 : decode c_SS_openNew 27 = .ok (.bipush (-7), 2) := by decide +kernel
theorem d_SS_openNew_29 : decode c_SS_openNew 29 = .ok (.ireturn, 1) := by decide +kernel
theorem d_SS_openNew_30 : decode c_SS_openNew 30 = .ok (.aload_n 0, 1) := by decide +kernel
theorem d_SS_openNew_31 : decode c_SS_openNew 31 = .ok (.getfield 215, 3) := by decide +kernel
theorem d_SS_openNew_34 : decode c_SS_openNew 34 = .ok (.bipush 24, 2) := by decide +kernel
theorem d_SS_openNew_36 : decode c_SS_openNew 36 = .ok (.if_icmp .ge 12, 3) := by decide +kernel
theorem d_SS_openNew_39 : decode c_SS_openNew 39 = .ok (.aload_n 0, 1) := by decide +kernel
theorem d_SS_openNew_40 : decode c_SS_openNew 40 = .ok (.getfield 94, 3) := by decide +kernel
theorem d_SS_openNew_43 : decode c_SS_openNew 43 = .ok (.bipush 12, 2) := by decide +kernel
theorem d_SS_openNew_45 : decode c_SS_openNew 45 = .ok (.if_icmp .lt 6, 3) := by decide +kernel
theorem d_SS_openNew_48 : decode c_SS_openNew 48 = .ok (.bipush (-2), 2) := by decide +kernel
theorem d_SS_openNew_50 : decode c_SS_openNew 50 = .ok (.ireturn, 1) := by decide +kernel
theorem d_SS_openNew_51 : decode c_SS_openNew 51 = .ok (.aload_n 0, 1) := by decide +kernel
theorem d_SS_openNew_52 : decode c_SS_openNew 52 = .ok (.aload_n 1, 1) := by decide +kernel
theorem d_SS_openNew_53 : decode c_SS_openNew 53 = .ok (.aload_n 0, 1) := by decide +kernel
theorem d_SS_openNew_54 : decode c_SS_openNew 54 = .ok (.aload_n 1, 1) := by decide +kernel
theorem d_SS_openNew_55 : decode c_SS_openNew 55 = .ok (.invokevirtual 239, 3) := by decide +kernel
theorem d_SS_openNew_58 : decode c_SS_openNew 58 = .ok (.invokevirtual 243, 3) := by decide +kernel
theorem d_SS_openNew_61 : decode c_SS_openNew 61 = .ok (.ireturn, 1) := by decide +kernel
theorem d_Rq_has_0 : decode c_Rq_has 0 = .ok (.aload_n 0, 1) := by decide +kernel
theorem d_Rq_has_1 : decode c_Rq_has 1 = .ok (.getfield 21, 3) := by decide +kernel
theorem d_Rq_has_4 : decode c_Rq_has 4 = .ok (.iload_n 1, 1) := by decide +kernel
theorem d_Rq_has_5 : decode c_Rq_has 5 = .ok (.iand, 1) := by decide +kernel
theorem d_Rq_has_6 : decode c_Rq_has 6 = .ok (.ifCond .eq 7, 3) := by decide +kernel
theorem d_Rq_has_9 : decode c_Rq_has 9 = .ok (.iconst 1, 1) := by decide +kernel
theorem d_Rq_has_10 : decode c_Rq_has 10 = .ok (.goto 4, 3) := by decide +kernel
theorem d_Rq_has_13 : decode c_Rq_has 13 = .ok (.iconst 0, 1) := by decide +kernel
theorem d_Rq_has_14 : decode c_Rq_has 14 = .ok (.ireturn, 1) := by decide +kernel
theorem d_SS_makeNode_0 : decode c_SS_makeNode 0 = .ok (.aload_n 0, 1) := by decide +kernel
theorem d_SS_makeNode_1 : decode c_SS_makeNode 1 = .ok (.dup, 1) := by decide +kernel
theorem d_SS_makeNode_2 : decode c_SS_makeNode 2 = .ok (.getfield 215, 3) := by decide +kernel
theorem d_SS_makeNode_5 : decode c_SS_makeNode 5 = .ok (.iconst 1, 1) := by decide +kernel
theorem d_SS_makeNode_6 : decode c_SS_makeNode 6 = .ok (.iadd, 1) := by decide +kernel
theorem d_SS_makeNode_7 : decode c_SS_makeNode 7 = .ok (.putfield 215, 3) := by decide +kernel
theorem d_SS_makeNode_10 : decode c_SS_makeNode 10 = .ok (.new 9, 3) := by decide +kernel
theorem d_SS_makeNode_13 : decode c_SS_makeNode 13 = .ok (.dup, 1) := by decide +kernel
theorem d_SS_makeNode_14 : decode c_SS_makeNode 14 = .ok (.aload_n 0, 1) := by decide +kernel
theorem d_SS_makeNode_15 : decode c_SS_makeNode 15 = .ok (.getfield 215, 3) := by decide +kernel
theorem d_SS_makeNode_18 : decode c_SS_makeNode 18 = .ok (.aload_n 1, 1) := by decide +kernel
theorem d_SS_makeNode_19 : decode c_SS_makeNode 19 = .ok (.getfield 227, 3) := by decide +kernel
theorem d_SS_makeNode_22 : decode c_SS_makeNode 22 = .ok (.aload_n 1, 1) := by decide +kernel
theorem d_SS_makeNode_23 : decode c_SS_makeNode 23 = .ok (.getfield 228, 3) := by decide +kernel
theorem d_SS_makeNode_26 : decode c_SS_makeNode 26 = .ok (.aload_n 1, 1) := by decide +kernel
theorem d_SS_makeNode_27 : decode c_SS_makeNode 27 = .ok (.sipush 256, 3) := by decide +kernel
theorem d_SS_makeNode_30 : decode c_SS_makeNode 30 = .ok (.invokevirtual 236, 3) := by decide +kernel
theorem d_SS_makeNode_33 : decode c_SS_makeNode 33 = .ok (.invokespecial 15, 3) := by decide +kernel
theorem d_SS_makeNode_36 : decode c_SS_makeNode 36 = .ok (.astore_n 2, 1) := by decide +kernel
theorem d_SS_makeNode_37 : decode c_SS_makeNode 37 = .ok (.aload_n 0, 1) := by decide +kernel
theorem d_SS_makeNode_38 : decode c_SS_makeNode 38 = .ok (.getfield 11, 3) := by decide +kernel
theorem d_SS_makeNode_41 : decode c_SS_makeNode 41 = .ok (.aload_n 2, 1) := by decide +kernel
theorem d_SS_makeNode_42 : decode c_SS_makeNode 42 = .ok (.getfield 108, 3) := by decide +kernel
theorem d_SS_makeNode_45 : decode c_SS_makeNode 45 = .ok (.aload_n 2, 1) := by decide +kernel
theorem d_SS_makeNode_46 : decode c_SS_makeNode 46 = .ok (.aastore, 1) := by decide +kernel
theorem d_SS_makeNode_47 : decode c_SS_makeNode 47 = .ok (.aload_n 0, 1) := by decide +kernel
theorem d_SS_makeNode_48 : decode c_SS_makeNode 48 = .ok (.getfield 33, 3) := by decide +kernel
theorem d_SS_makeNode_51 : decode c_SS_makeNode 51 = .ok (.new 121, 3) := by decide +kernel
theorem d_SS_makeNode_54 : decode c_SS_makeNode 54 = .ok (.dup, 1) := by decide +kernel
theorem d_SS_makeNode_55 : decode c_SS_makeNode 55 = .ok (.iconst 0, 1) := by decide +kernel
theorem d_SS_makeNode_56 : decode c_SS_makeNode 56 = .ok (.aload_n 2, 1) := by decide +kernel
theorem d_SS_makeNode_57 : decode c_SS_makeNode 57 = .ok (.iconst 0, 1) := by decide +kernel
theorem d_SS_makeNode_58 : decode c_SS_makeNode 58 = .ok (.iconst 0, 1) := by decide +kernel
theorem d_SS_makeNode_59 : decode c_SS_makeNode 59 = .ok (.invokespecial 129, 3) := by decide +kernel
theorem d_SS_makeNode_62 : decode c_SS_makeNode 62 = .ok (.invokevirtual 132, 3) := by decide +kernel
theorem d_SS_makeNode_65 : decode c_SS_makeNode 65 = .ok (.aload_n 2, 1) := by decide +kernel
theorem d_SS_makeNode_66 : decode c_SS_makeNode 66 = .ok (.areturn, 1) := by decide +kernel
theorem d_Cg_init_0 : decode c_Cg_init 0 = .ok (.aload_n 0, 1) := by decide +kernel
theorem d_Cg_init_1 : decode c_Cg_init 1 = .ok (.invokespecial 1, 3) := by decide +kernel
theorem d_Cg_init_4 : decode c_Cg_init 4 = .ok (.aload_n 0, 1) := by decide +kernel
theorem d_Cg_init_5 : decode c_Cg_init 5 = .ok (.iload_n 1, 1) := by decide +kernel
theorem d_Cg_init_6 : decode c_Cg_init 6 = .ok (.putfield 7, 3) := by decide +kernel
theorem d_Cg_init_9 : decode c_Cg_init 9 = .ok (.aload_n 0, 1) := by decide +kernel
theorem d_Cg_init_10 : decode c_Cg_init 10 = .ok (.aload_n 2, 1) := by decide +kernel
theorem d_Cg_init_11 : decode c_Cg_init 11 = .ok (.putfield 13, 3) := by decide +kernel
theorem d_Cg_init_14 : decode c_Cg_init 14 = .ok (.aload_n 0, 1) := by decide +kernel
theorem d_Cg_init_15 : decode c_Cg_init 15 = .ok (.iload_n 3, 1) := by decide +kernel
theorem d_Cg_init_16 : decode c_Cg_init 16 = .ok (.putfield 17, 3) := by decide +kernel
theorem d_Cg_init_19 : decode c_Cg_init 19 = .ok (.aload_n 0, 1) := by decide +kernel
theorem d_Cg_init_20 : decode c_Cg_init 20 = .ok (.iload 4, 2) := by decide +kernel
theorem d_Cg_init_22 : decode c_Cg_init 22 = .ok (.putfield 20, 3) := by decide +kernel
theorem d_Cg_init_25 : decode c_Cg_init 25 = .ok (.return_, 1) := by decide +kernel
theorem d_Lg_add_0 : decode c_Lg_add 0 = .ok (.aload_n 0, 1) := by decide +kernel
theorem d_Lg_add_1 : decode c_Lg_add 1 = .ok (.getfield 11, 3) := by decide +kernel
theorem d_Lg_add_4 : decode c_Lg_add 4 = .ok (.aload_n 0, 1) := by decide +kernel
theorem d_Lg_add_5 : decode c_Lg_add 5 = .ok (.getfield 17, 3) := by decide +kernel
theorem d_Lg_add_8 : decode c_Lg_add 8 = .ok (.aload_n 1, 1) := by decide +kernel
theorem d_Lg_add_9 : decode c_Lg_add 9 = .ok (.aastore, 1) := by decide +kernel
theorem d_Lg_add_10 : decode c_Lg_add 10 = .ok (.aload_n 0, 1) := by decide +kernel
theorem d_Lg_add_11 : decode c_Lg_add 11 = .ok (.dup, 1) := by decide +kernel
theorem d_Lg_add_12 : decode c_Lg_add 12 = .ok (.getfield 17, 3) := by decide +kernel
theorem d_Lg_add_15 : decode c_Lg_add 15 = .ok (.iconst 1, 1) := by decide +kernel
theorem d_Lg_add_16 : decode c_Lg_add 16 = .ok (.iadd, 1) := by decide +kernel
theorem d_Lg_add_17 : decode c_Lg_add 17 = .ok (.putfield 17, 3) := by decide +kernel
theorem d_Lg_add_20 : decode c_Lg_add 20 = .ok (.aload_n 0, 1) := by decide +kernel
theorem d_Lg_add_21 : decode c_Lg_add 21 = .ok (.getfield 17, 3) := by decide +kernel
theorem d_Lg_add_24 : decode c_Lg_add 24 = .ok (.aload_n 0, 1) := by decide +kernel
theorem d_Lg_add_25 : decode c_Lg_add 25 = .ok (.getfield 11, 3) := by decide +kernel
theorem d_Lg_add_28 : decode c_Lg_add 28 = .ok (.arraylength, 1) := by decide +kernel
theorem d_Lg_add_29 : decode c_Lg_add 29 = .ok (.if_icmp .lt 7, 3) := by decide +kernel
theorem d_Lg_add_32 : decode c_Lg_add 32 = .ok (.aload_n 0, 1) := by decide +kernel
theorem d_Lg_add_33 : decode c_Lg_add 33 = .ok (.invokevirtual 21, 3) := by decide +kernel
theorem d_Lg_add_36 : decode c_Lg_add 36 = .ok (.return_, 1) := by decide +kernel
theorem d_Lg_makeAllDurable_0 : decode c_Lg_makeAllDurable 0 = .ok (.aload_n 0, 1) := by decide +kernel
theorem d_Lg_makeAllDurable_1 : decode c_Lg_makeAllDurable 1 = .ok (.dup, 1) := by decide +kernel
theorem d_Lg_makeAllDurable_2 : decode c_Lg_makeAllDurable 2 = .ok (.getfield 24, 3) := by decide +kernel
theorem d_Lg_makeAllDurable_5 : decode c_Lg_makeAllDurable 5 = .ok (.aload_n 0, 1) := by decide +kernel
theorem d_Lg_makeAllDurable_6 : decode c_Lg_makeAllDurable 6 = .ok (.getfield 17, 3) := by decide +kernel
theorem d_Lg_makeAllDurable_9 : decode c_Lg_makeAllDurable 9 = .ok (.iadd, 1) := by decide +kernel
theorem d_Lg_makeAllDurable_10 : decode c_Lg_makeAllDurable 10 = .ok (.putfield 24, 3) := by decide +kernel
theorem d_Lg_makeAllDurable_13 : decode c_Lg_makeAllDurable 13 = .ok (.aload_n 0, 1) := by decide +kernel
theorem d_Lg_makeAllDurable_14 : decode c_Lg_makeAllDurable 14 = .ok (.iconst 0, 1) := by decide +kernel
theorem d_Lg_makeAllDurable_15 : decode c_Lg_makeAllDurable 15 = .ok (.putfield 17, 3) := by decide +kernel
theorem d_Lg_makeAllDurable_18 : decode c_Lg_makeAllDurable 18 = .ok (.return_, 1) := by decide +kernel
theorem d_SS_makeHandle_0 : decode c_SS_makeHandle 0 = .ok (.aload_n 0, 1) := by decide +kernel
theorem d_SS_makeHandle_1 : decode c_SS_makeHandle 1 = .ok (.aload_n 1, 1) := by decide +kernel
theorem d_SS_makeHandle_2 : decode c_SS_makeHandle 2 = .ok (.aload_n 2, 1) := by decide +kernel
theorem d_SS_makeHandle_3 : decode c_SS_makeHandle 3 = .ok (.invokevirtual 253, 3) := by decide +kernel
theorem d_SS_makeHandle_6 : decode c_SS_makeHandle 6 = .ok (.istore_n 3, 1) := by decide +kernel
theorem d_SS_makeHandle_7 : decode c_SS_makeHandle 7 = .ok (.aload_n 0, 1) := by decide +kernel
theorem d_SS_makeHandle_8 : decode c_SS_makeHandle 8 = .ok (.dup, 1) := by decide +kernel
theorem d_SS_makeHandle_9 : decode c_SS_makeHandle 9 = .ok (.getfield 224, 3) := by decide +kernel
theorem d_SS_makeHandle_12 : decode c_SS_makeHandle 12 = .ok (.iconst 1, 1) := by decide +kernel
theorem d_SS_makeHandle_13 : decode c_SS_makeHandle 13 = .ok (.iadd, 1) := by decide +kernel
theorem d_SS_makeHandle_14 : decode c_SS_makeHandle 14 = .ok (.putfield 224, 3) := by decide +kernel
theorem d_SS_makeHandle_17 : decode c_SS_makeHandle 17 = .ok (.aload_n 0, 1) := by decide +kernel
theorem d_SS_makeHandle_18 : decode c_SS_makeHandle 18 = .ok (.getfield 20, 3) := by decide +kernel
theorem d_SS_makeHandle_21 : decode c_SS_makeHandle 21 = .ok (.aload_n 0, 1) := by decide +kernel
theorem d_SS_makeHandle_22 : decode c_SS_makeHandle 22 = .ok (.getfield 94, 3) := by decide +kernel
theorem d_SS_makeHandle_25 : decode c_SS_makeHandle 25 = .ok (.new 18, 3) := by decide +kernel
theorem d_SS_makeHandle_28 : decode c_SS_makeHandle 28 = .ok (.dup, 1) := by decide +kernel
theorem d_SS_makeHandle_29 : decode c_SS_makeHandle 29 = .ok (.aload_n 0, 1) := by decide +kernel
theorem d_SS_makeHandle_30 : decode c_SS_makeHandle 30 = .ok (.getfield 224, 3) := by decide +kernel
theorem d_SS_makeHandle_33 : decode c_SS_makeHandle 33 = .ok (.aload_n 2, 1) := by decide +kernel
theorem d_SS_makeHandle_34 : decode c_SS_makeHandle 34 = .ok (.aload_n 1, 1) := by decide +kernel
theorem d_SS_makeHandle_35 : decode c_SS_makeHandle 35 = .ok (.iload_n 3, 1) := by decide +kernel
theorem d_SS_makeHandle_36 : decode c_SS_makeHandle 36 = .ok (.invokespecial 256, 3) := by decide +kernel
theorem d_SS_makeHandle_39 : decode c_SS_makeHandle 39 = .ok (.aastore, 1) := by decide +kernel
theorem d_SS_makeHandle_40 : decode c_SS_makeHandle 40 = .ok (.aload_n 0, 1) := by decide +kernel
theorem d_SS_makeHandle_41 : decode c_SS_makeHandle 41 = .ok (.dup, 1) := by decide +kernel
theorem d_SS_makeHandle_42 : decode c_SS_makeHandle 42 = .ok (.getfield 94, 3) := by decide +kernel
theorem d_SS_makeHandle_45 : decode c_SS_makeHandle 45 = .ok (.iconst 1, 1) := by decide +kernel
theorem d_SS_makeHandle_46 : decode c_SS_makeHandle 46 = .ok (.iadd, 1) := by decide +kernel
theorem d_SS_makeHandle_47 : decode c_SS_makeHandle 47 = .ok (.putfield 94, 3) := by decide +kernel
theorem d_SS_makeHandle_50 : decode c_SS_makeHandle 50 = .ok (.aload_n 0, 1) := by decide +kernel
theorem d_SS_makeHandle_51 : decode c_SS_makeHandle 51 = .ok (.getfield 224, 3) := by decide +kernel
theorem d_SS_makeHandle_54 : decode c_SS_makeHandle 54 = .ok (.ireturn, 1) := by decide +kernel
theorem d_SS_grantFor_0 : decode c_SS_grantFor 0 = .ok (.aload_n 2, 1) := by decide +kernel
theorem d_SS_grantFor_1 : decode c_SS_grantFor 1 = .ok (.getfield 136, 3) := by decide +kernel
theorem d_SS_grantFor_4 : decode c_SS_grantFor 4 = .ok (.ifCond .ne 10, 3) := by decide +kernel
theorem d_SS_grantFor_7 : decode c_SS_grantFor 7 = .ok (.aload_n 1, 1) := by decide +kernel
theorem d_SS_grantFor_8 : decode c_SS_grantFor 8 = .ok (.getfield 259, 3) := by decide +kernel
theorem d_SS_grantFor_11 : decode c_SS_grantFor 11 = .ok (.ifCond .ne 5, 3) := by decide +kernel
theorem d_SS_grantFor_14 : decode c_SS_grantFor 14 = .ok (.iconst 0, 1) := by decide +kernel
theorem d_SS_grantFor_15 : decode c_SS_grantFor 15 = .ok (.ireturn, 1) := by decide +kernel
theorem d_SS_grantFor_16 : decode c_SS_grantFor 16 = .ok (.aload_n 1, 1) := by decide +kernel
theorem d_SS_grantFor_17 : decode c_SS_grantFor 17 = .ok (.getfield 259, 3) := by decide +kernel
theorem d_SS_grantFor_20 : decode c_SS_grantFor 20 = .ok (.iconst 2, 1) := by decide +kernel
theorem d_SS_grantFor_21 : decode c_SS_grantFor 21 = .ok (.if_icmp .ne 15, 3) := by decide +kernel
theorem d_SS_grantFor_24 : decode c_SS_grantFor 24 = .ok (.aload_n 0, 1) := by decide +kernel
theorem d_SS_grantFor_25 : decode c_SS_grantFor 25 = .ok (.aload_n 2, 1) := by decide +kernel
theorem d_SS_grantFor_26 : decode c_SS_grantFor 26 = .ok (.invokevirtual 199, 3) := by decide +kernel
theorem d_SS_grantFor_29 : decode c_SS_grantFor 29 = .ok (.ifCond .ne 7, 3) := by decide +kernel
theorem d_SS_grantFor_32 : decode c_SS_grantFor 32 = .ok (.iconst 2, 1) := by decide +kernel
theorem d_SS_grantFor_33 : decode c_SS_grantFor 33 = .ok (.goto 4, 3) := by decide +kernel
theorem d_SS_grantFor_36 : decode c_SS_grantFor 36 = .ok (.iconst 1, 1) := by decide +kernel
theorem d_SS_grantFor_37 : decode c_SS_grantFor 37 = .ok (.ireturn, 1) := by decide +kernel
theorem d_SS_opensOf_0 : decode c_SS_opensOf 0 = .ok (.iconst 0, 1) := by decide +kernel
theorem d_SS_opensOf_1 : decode c_SS_opensOf 1 = .ok (.istore_n 2, 1) := by decide +kernel
theorem d_SS_opensOf_2 : decode c_SS_opensOf 2 = .ok (.iconst 0, 1) := by decide +kernel
theorem d_SS_opensOf_3 : decode c_SS_opensOf 3 = .ok (.istore_n 3, 1) := by decide +kernel
theorem d_SS_opensOf_4 : decode c_SS_opensOf 4 = .ok (.iload_n 3, 1) := by decide +kernel
theorem d_SS_opensOf_5 : decode c_SS_opensOf 5 = .ok (.aload_n 0, 1) := by decide +kernel
theorem d_SS_opensOf_6 : decode c_SS_opensOf 6 = .ok (.getfield 94, 3) := by decide +kernel
theorem d_SS_opensOf_9 : decode c_SS_opensOf 9 = .ok (.if_icmp .ge 25, 3) := by decide +kernel
theorem d_SS_opensOf_12 : decode c_SS_opensOf 12 = .ok (.aload_n 0, 1) := by decide +kernel
theorem d_SS_opensOf_13 : decode c_SS_opensOf 13 = .ok (.getfield 20, 3) := by decide +kernel
theorem d_SS_opensOf_16 : decode c_SS_opensOf 16 = .ok (.iload_n 3, 1) := by decide +kernel
theorem d_SS_opensOf_17 : decode c_SS_opensOf 17 = .ok (.aaload, 1) := by decide +kernel
theorem d_SS_opensOf_18 : decode c_SS_opensOf 18 = .ok (.getfield 76, 3) := by decide +kernel
theorem d_SS_opensOf_21 : decode c_SS_opensOf 21 = .ok (.aload_n 1, 1) := by decide +kernel
theorem d_SS_opensOf_22 : decode c_SS_opensOf 22 = .ok (.if_acmp .ne 6, 3) := by decide +kernel
theorem d_SS_opensOf_25 : decode c_SS_opensOf 25 = .ok (.iinc 2 1, 3) := by decide +kernel
theorem d_SS_opensOf_28 : decode c_SS_opensOf 28 = .ok (.iinc 3 1, 3) := by decide +kernel
theorem d_SS_opensOf_31 : decode c_SS_opensOf 31 = .ok (.goto (-27), 3) := by decide +kernel
theorem d_SS_opensOf_34 : decode c_SS_opensOf 34 = .ok (.iload_n 2, 1) := by decide +kernel
theorem d_SS_opensOf_35 : decode c_SS_opensOf 35 = .ok (.ireturn, 1) := by decide +kernel
theorem d_Hd_init_0 : decode c_Hd_init 0 = .ok (.aload_n 0, 1) := by decide +kernel
theorem d_Hd_init_1 : decode c_Hd_init 1 = .ok (.invokespecial 3, 3) := by decide +kernel
theorem d_Hd_init_4 : decode c_Hd_init 4 = .ok (.aload_n 0, 1) := by decide +kernel
theorem d_Hd_init_5 : decode c_Hd_init 5 = .ok (.iload_n 1, 1) := by decide +kernel
theorem d_Hd_init_6 : decode c_Hd_init 6 = .ok (.putfield 9, 3) := by decide +kernel
theorem d_Hd_init_9 : decode c_Hd_init 9 = .ok (.aload_n 0, 1) := by decide +kernel
theorem d_Hd_init_10 : decode c_Hd_init 10 = .ok (.aload_n 2, 1) := by decide +kernel
theorem d_Hd_init_11 : decode c_Hd_init 11 = .ok (.putfield 15, 3) := by decide +kernel
theorem d_Hd_init_14 : decode c_Hd_init 14 = .ok (.aload_n 0, 1) := by decide +kernel
theorem d_Hd_init_15 : decode c_Hd_init 15 = .ok (.aload_n 3, 1) := by decide +kernel
theorem d_Hd_init_16 : decode c_Hd_init 16 = .ok (.getfield 19, 3) := by decide +kernel
theorem d_Hd_init_19 : decode c_Hd_init 19 = .ok (.putfield 24, 3) := by decide +kernel
theorem d_Hd_init_22 : decode c_Hd_init 22 = .ok (.aload_n 0, 1) := by decide +kernel
theorem d_Hd_init_23 : decode c_Hd_init 23 = .ok (.aload_n 3, 1) := by decide +kernel
theorem d_Hd_init_24 : decode c_Hd_init 24 = .ok (.invokevirtual 25, 3) := by decide +kernel
theorem d_Hd_init_27 : decode c_Hd_init 27 = .ok (.putfield 29, 3) := by decide +kernel
theorem d_Hd_init_30 : decode c_Hd_init 30 = .ok (.aload_n 0, 1) := by decide +kernel
theorem d_Hd_init_31 : decode c_Hd_init 31 = .ok (.aload_n 3, 1) := by decide +kernel
theorem d_Hd_init_32 : decode c_Hd_init 32 = .ok (.invokevirtual 31, 3) := by decide +kernel
theorem d_Hd_init_35 : decode c_Hd_init 35 = .ok (.putfield 34, 3) := by decide +kernel
theorem d_Hd_init_38 : decode c_Hd_init 38 = .ok (.aload_n 0, 1) := by decide +kernel
theorem d_Hd_init_39 : decode c_Hd_init 39 = .ok (.aload_n 3, 1) := by decide +kernel
theorem d_Hd_init_40 : decode c_Hd_init 40 = .ok (.sipush 512, 3) := by decide +kernel
theorem d_Hd_init_43 : decode c_Hd_init 43 = .ok (.invokevirtual 36, 3) := by decide +kernel
theorem d_Hd_init_46 : decode c_Hd_init 46 = .ok (.putfield 40, 3) := by decide +kernel
theorem d_Hd_init_49 : decode c_Hd_init 49 = .ok (.aload_n 0, 1) := by decide +kernel
theorem d_Hd_init_50 : decode c_Hd_init 50 = .ok (.iload 4, 2) := by decide +kernel
theorem d_Hd_init_52 : decode c_Hd_init 52 = .ok (.putfield 44, 3) := by decide +kernel
theorem d_Hd_init_55 : decode c_Hd_init 55 = .ok (.return_, 1) := by decide +kernel
theorem d_Rq_access_0 : decode c_Rq_access 0 = .ok (.aload_n 0, 1) := by decide +kernel
theorem d_Rq_access_1 : decode c_Rq_access 1 = .ok (.getfield 21, 3) := by decide +kernel
theorem d_Rq_access_4 : decode c_Rq_access 4 = .ok (.bipush 7, 2) := by decide +kernel
theorem d_Rq_access_6 : decode c_Rq_access 6 = .ok (.iand, 1) := by decide +kernel
theorem d_Rq_access_7 : decode c_Rq_access 7 = .ok (.ireturn, 1) := by decide +kernel
theorem d_Rq_share_0 : decode c_Rq_share 0 = .ok (.aload_n 0, 1) := by decide +kernel
theorem d_Rq_share_1 : decode c_Rq_share 1 = .ok (.getfield 21, 3) := by decide +kernel
theorem d_Rq_share_4 : decode c_Rq_share 4 = .ok (.iconst 3, 1) := by decide +kernel
theorem d_Rq_share_5 : decode c_Rq_share 5 = .ok (.ishr, 1) := by decide +kernel
theorem d_Rq_share_6 : decode c_Rq_share 6 = .ok (.bipush 7, 2) := by decide +kernel
theorem d_Rq_share_8 : decode c_Rq_share 8 = .ok (.iand, 1) := by decide +kernel
theorem d_Rq_share_9 : decode c_Rq_share 9 = .ok (.ireturn, 1) := by decide +kernel
theorem d_SS_openThere_0 : decode c_SS_openThere 0 = .ok (.aload_n 1, 1) := by decide +kernel
theorem d_SS_openThere_1 : decode c_SS_openThere 1 = .ok (.bipush 64, 2) := by decide +kernel
theorem d_SS_openThere_3 : decode c_SS_openThere 3 = .ok (.invokevirtual 236, 3) := by decide +kernel
theorem d_SS_openThere_6 : decode c_SS_openThere 6 = .ok (.ifCond .eq 16, 3) := by decide +kernel
theorem d_SS_openThere_9 : decode c_SS_openThere 9 = .ok (.aload_n 1, 1) := by decide +kernel
theorem d_SS_openThere_10 : decode c_SS_openThere 10 = .ok (.sipush 128, 3) := by decide +kernel
theorem d_SS_openThere_13 : decode c_SS_openThere 13 = .ok (.invokevirtual 236, 3) := by decide +kernel
theorem d_SS_openThere_16 : decode c_SS_openThere 16 = .ok (.ifCond .eq 6, 3) := by decide +kernel
theorem d_SS_openThere_19 : decode c_SS_openThere 19 = .ok (.bipush (-4), 2) := by decide +kernel
theorem d_SS_openThere_21 : decode c_SS_openThere 21 = .ok (.ireturn, 1) := by decide +kernel
theorem d_SS_openThere_22 : decode c_SS_openThere 22 = .ok (.aload_n 2, 1) := by decide +kernel
theorem d_SS_openThere_23 : decode c_SS_openThere 23 = .ok (.getfield 136, 3) := by decide +kernel
theorem d_SS_openThere_26 : decode c_SS_openThere 26 = .ok (.aload_n 1, 1) := by decide +kernel
theorem d_SS_openThere_27 : decode c_SS_openThere 27 = .ok (.sipush 256, 3) := by decide +kernel
theorem d_SS_openThere_30 : decode c_SS_openThere 30 = .ok (.invokevirtual 236, 3) := by decide +kernel
theorem d_SS_openThere_33 : decode c_SS_openThere 33 = .ok (.if_icmp .eq 6, 3) := by decide +kernel
theorem d_SS_openThere_36 : decode c_SS_openThere 36 = .ok (.bipush (-5), 2) := by decide +kernel
theorem d_SS_openThere_38 : decode c_SS_openThere 38 = .ok (.ireturn, 1) := by decide +kernel
theorem d_SS_openThere_39 : decode c_SS_openThere 39 = .ok (.aload_n 0, 1) := by decide +kernel
theorem d_SS_openThere_40 : decode c_SS_openThere 40 = .ok (.aload_n 2, 1) := by decide +kernel
theorem d_SS_openThere_41 : decode c_SS_openThere 41 = .ok (.invokevirtual 246, 3) := by decide +kernel
theorem d_SS_openThere_44 : decode c_SS_openThere 44 = .ok (.ifCond .eq 5, 3) := by decide +kernel
theorem d_SS_openThere_47 : decode c_SS_openThere 47 = .ok (.iconst 0, 1) := by decide +kernel
theorem d_SS_openThere_48 : decode c_SS_openThere 48 = .ok (.ireturn, 1) := by decide +kernel
theorem d_SS_openThere_49 : decode c_SS_openThere 49 = .ok (.aload_n 2, 1) := by decide +kernel
theorem d_SS_openThere_50 : decode c_SS_openThere 50 = .ok (.getfield 104, 3) := by decide +kernel
theorem d_SS_openThere_53 : decode c_SS_openThere 53 = .ok (.ifCond .eq 6, 3) := by decide +kernel
theorem d_SS_openThere_56 : decode c_SS_openThere 56 = .ok (.bipush (-7), 2) := by decide +kernel
theorem d_SS_openThere_58 : decode c_SS_openThere 58 = .ok (.ireturn, 1) := by decide +kernel
theorem d_SS_openThere_59 : decode c_SS_openThere 59 = .ok (.aload_n 0, 1) := by decide +kernel
theorem d_SS_openThere_60 : decode c_SS_openThere 60 = .ok (.aload_n 1, 1) := by decide +kernel
theorem d_SS_openThere_61 : decode c_SS_openThere 61 = .ok (.aload_n 2, 1) := by decide +kernel
theorem d_SS_openThere_62 : decode c_SS_openThere 62 = .ok (.invokevirtual 249, 3) := by decide +kernel
theorem d_SS_openThere_65 : decode c_SS_openThere 65 = .ok (.ifCond .eq 6, 3) := by decide +kernel
theorem d_SS_openThere_68 : decode c_SS_openThere 68 = .ok (.bipush (-6), 2) := by decide +kernel
theorem d_SS_openThere_70 : decode c_SS_openThere 70 = .ok (.ireturn, 1) := by decide +kernel
theorem d_SS_openThere_71 : decode c_SS_openThere 71 = .ok (.aload_n 0, 1) := by decide +kernel
theorem d_SS_openThere_72 : decode c_SS_openThere 72 = .ok (.getfield 94, 3) := by decide +kernel
theorem d_SS_openThere_75 : decode c_SS_openThere 75 = .ok (.bipush 12, 2) := by decide +kernel
theorem d_SS_openThere_77 : decode c_SS_openThere 77 = .ok (.if_icmp .lt 6, 3) := by decide +kernel
theorem d_SS_openThere_80 : decode c_SS_openThere 80 = .ok (.bipush (-2), 2) := by decide +kernel
theorem d_SS_openThere_82 : decode c_SS_openThere 82 = .ok (.ireturn, 1) := by decide +kernel
theorem d_SS_openThere_83 : decode c_SS_openThere 83 = .ok (.aload_n 0, 1) := by decide +kernel
theorem d_SS_openThere_84 : decode c_SS_openThere 84 = .ok (.aload_n 1, 1) := by decide +kernel
theorem d_SS_openThere_85 : decode c_SS_openThere 85 = .ok (.aload_n 2, 1) := by decide +kernel
theorem d_SS_openThere_86 : decode c_SS_openThere 86 = .ok (.invokevirtual 243, 3) := by decide +kernel
theorem d_SS_openThere_89 : decode c_SS_openThere 89 = .ok (.ireturn, 1) := by decide +kernel
theorem d_SS_breaksGrant_0 : decode c_SS_breaksGrant 0 = .ok (.iconst 0, 1) := by decide +kernel
theorem d_SS_breaksGrant_1 : decode c_SS_breaksGrant 1 = .ok (.istore_n 2, 1) := by decide +kernel
theorem d_SS_breaksGrant_2 : decode c_SS_breaksGrant 2 = .ok (.iload_n 2, 1) := by decide +kernel
theorem d_SS_breaksGrant_3 : decode c_SS_breaksGrant 3 = .ok (.aload_n 0, 1) := by decide +kernel
theorem d_SS_breaksGrant_4 : decode c_SS_breaksGrant 4 = .ok (.getfield 94, 3) := by decide +kernel
theorem d_SS_breaksGrant_7 : decode c_SS_breaksGrant 7 = .ok (.if_icmp .ge 39, 3) := by decide +kernel
theorem d_SS_breaksGrant_10 : decode c_SS_breaksGrant 10 = .ok (.aload_n 0, 1) := by decide +kernel
theorem d_SS_breaksGrant_11 : decode c_SS_breaksGrant 11 = .ok (.getfield 20, 3) := by decide +kernel
theorem d_SS_breaksGrant_14 : decode c_SS_breaksGrant 14 = .ok (.iload_n 2, 1) := by decide +kernel
theorem d_SS_breaksGrant_15 : decode c_SS_breaksGrant 15 = .ok (.aaload, 1) := by decide +kernel
theorem d_SS_breaksGrant_16 : decode c_SS_breaksGrant 16 = .ok (.astore_n 3, 1) := by decide +kernel
theorem d_SS_breaksGrant_17 : decode c_SS_breaksGrant 17 = .ok (.aload_n 3, 1) := by decide +kernel
theorem d_SS_breaksGrant_18 : decode c_SS_breaksGrant 18 = .ok (.getfield 76, 3) := by decide +kernel
theorem d_SS_breaksGrant_21 : decode c_SS_breaksGrant 21 = .ok (.aload_n 1, 1) := by decide +kernel
theorem d_SS_breaksGrant_22 : decode c_SS_breaksGrant 22 = .ok (.if_acmp .ne 18, 3) := by decide +kernel
theorem d_SS_breaksGrant_25 : decode c_SS_breaksGrant 25 = .ok (.aload_n 3, 1) := by decide +kernel
theorem d_SS_breaksGrant_26 : decode c_SS_breaksGrant 26 = .ok (.getfield 70, 3) := by decide +kernel
theorem d_SS_breaksGrant_29 : decode c_SS_breaksGrant 29 = .ok (.iconst 2, 1) := by decide +kernel
theorem d_SS_breaksGrant_30 : decode c_SS_breaksGrant 30 = .ok (.if_icmp .lt 10, 3) := by decide +kernel
theorem d_SS_breaksGrant_33 : decode c_SS_breaksGrant 33 = .ok (.aload_n 3, 1) := by decide +kernel
theorem d_SS_breaksGrant_34 : decode c_SS_breaksGrant 34 = .ok (.iconst 3, 1) := by decide +kernel
theorem d_SS_breaksGrant_35 : decode c_SS_breaksGrant 35 = .ok (.putfield 70, 3) := by decide +kernel
theorem d_SS_breaksGrant_38 : decode c_SS_breaksGrant 38 = .ok (.iconst 1, 1) := by decide +kernel
theorem d_SS_breaksGrant_39 : decode c_SS_breaksGrant 39 = .ok (.ireturn, 1) := by decide +kernel
theorem d_SS_breaksGrant_40 : decode c_SS_breaksGrant 40 = .ok (.iinc 2 1, 3) := by decide +kernel
theorem d_SS_breaksGrant_43 : decode c_SS_breaksGrant 43 = .ok (.goto (-41), 3) := by decide +kernel
theorem d_SS_breaksGrant_46 : decode c_SS_breaksGrant 46 = .ok (.iconst 0, 1) := by decide +kernel
theorem d_SS_breaksGrant_47 : decode c_SS_breaksGrant 47 = .ok (.ireturn, 1) := by decide +kernel
theorem d_SS_clashesWithOpens_0 : decode c_SS_clashesWithOpens 0 = .ok (.iconst 0, 1) := by decide +kernel
theorem d_SS_clashesWithOpens_1 : decode c_SS_clashesWithOpens 1 = .ok (.istore_n 3, 1) := by decide +kernel
theorem d_SS_clashesWithOpens_2 : decode c_SS_clashesWithOpens 2 = .ok (.iload_n 3, 1) := by decide +kernel
theorem d_SS_clashesWithOpens_3 : decode c_SS_clashesWithOpens 3 = .ok (.aload_n 0, 1) := by decide +kernel
theorem d_SS_clashesWithOpens_4 : decode c_SS_clashesWithOpens 4 = .ok (.getfield 94, 3) := by decide +kernel
theorem d_SS_clashesWithOpens_7 : decode c_SS_clashesWithOpens 7 = .ok (.if_icmp .ge 70, 3) := by decide +kernel
theorem d_SS_clashesWithOpens_10 : decode c_SS_clashesWithOpens 10 = .ok (.aload_n 0, 1) := by decide +kernel
theorem d_SS_clashesWithOpens_11 : decode c_SS_clashesWithOpens 11 = .ok (.getfield 20, 3) := by decide +kernel
theorem d_SS_clashesWithOpens_14 : decode c_SS_clashesWithOpens 14 = .ok (.iload_n 3, 1) := by decide +kernel
theorem d_SS_clashesWithOpens_15 : decode c_SS_clashesWithOpens 15 = .ok (.aaload, 1) := by decide +kernel
theorem d_SS_clashesWithOpens_16 : decode c_SS_clashesWithOpens 16 = .ok (.astore 4, 2) := by decide +kernel
theorem d_SS_clashesWithOpens_18 : decode c_SS_clashesWithOpens 18 = .ok (.aload_n 1, 1) := by decide +kernel
theorem d_SS_clashesWithOpens_19 : decode c_SS_clashesWithOpens 19 = .ok (.invokevirtual 262, 3) := by decide +kernel
theorem d_SS_clashesWithOpens_22 : decode c_SS_clashesWithOpens 22 = .ok (.aload 4, 2) := by decide +kernel
theorem d_SS_clashesWithOpens_24 : decode c_SS_clashesWithOpens 24 = .ok (.getfield 209, 3) := by decide +kernel
theorem d_SS_clashesWithOpens_27 : decode c_SS_clashesWithOpens 27 = .ok (.iconst (-1), 1) := by decide +kernel
theorem d_SS_clashesWithOpens_28 : decode c_SS_clashesWithOpens 28 = .ok (.ixor, 1) := by decide +kernel
theorem d_SS_clashesWithOpens_29 : decode c_SS_clashesWithOpens 29 = .ok (.iand, 1) := by decide +kernel
theorem d_SS_clashesWithOpens_30 : decode c_SS_clashesWithOpens 30 = .ok (.ifCond .ne 18, 3) := by decide +kernel
theorem d_SS_clashesWithOpens_33 : decode c_SS_clashesWithOpens 33 = .ok (.aload 4, 2) := by decide +kernel
theorem d_SS_clashesWithOpens_35 : decode c_SS_clashesWithOpens 35 = .ok (.getfield 206, 3) := by decide +kernel
theorem d_SS_clashesWithOpens_38 : decode c_SS_clashesWithOpens 38 = .ok (.aload_n 1, 1) := by decide +kernel
theorem d_SS_clashesWithOpens_39 : decode c_SS_clashesWithOpens 39 = .ok (.invokevirtual 264, 3) := by decide +kernel
theorem d_SS_clashesWithOpens_42 : decode c_SS_clashesWithOpens 42 = .ok (.iconst (-1), 1) := by decide +kernel
theorem d_SS_clashesWithOpens_43 : decode c_SS_clashesWithOpens 43 = .ok (.ixor, 1) := by decide +kernel
theorem d_SS_clashesWithOpens_44 : decode c_SS_clashesWithOpens 44 = .ok (.iand, 1) := by decide +kernel
theorem d_SS_clashesWithOpens_45 : decode c_SS_clashesWithOpens 45 = .ok (.ifCond .eq 7, 3) := by decide +kernel
theorem d_SS_clashesWithOpens_48 : decode c_SS_clashesWithOpens 48 = .ok (.iconst 1, 1) := by decide +kernel
theorem d_SS_clashesWithOpens_49 : decode c_SS_clashesWithOpens 49 = .ok (.goto 4, 3) := by decide +kernel
theorem d_SS_clashesWithOpens_52 : decode c_SS_clashesWithOpens 52 = .ok (.iconst 0, 1) := by decide +kernel
theorem d_SS_clashesWithOpens_53 : decode c_SS_clashesWithOpens 53 = .ok (.istore 5, 2) := by decide +kernel
theorem d_SS_clashesWithOpens_55 : decode c_SS_clashesWithOpens 55 = .ok (.aload 4, 2) := by decide +kernel
theorem d_SS_clashesWithOpens_57 : decode c_SS_clashesWithOpens 57 = .ok (.getfield 76, 3) := by decide +kernel
theorem d_SS_clashesWithOpens_60 : decode c_SS_clashesWithOpens 60 = .ok (.aload_n 2, 1) := by decide +kernel
theorem d_SS_clashesWithOpens_61 : decode c_SS_clashesWithOpens 61 = .ok (.if_acmp .ne 10, 3) := by decide +kernel
theorem d_SS_clashesWithOpens_64 : decode c_SS_clashesWithOpens 64 = .ok (.iload 5, 2) := by decide +kernel
theorem d_SS_clashesWithOpens_66 : decode c_SS_clashesWithOpens 66 = .ok (.ifCond .eq 5, 3) := by decide +kernel
theorem d_SS_clashesWithOpens_69 : decode c_SS_clashesWithOpens 69 = .ok (.iconst 1, 1) := by decide +kernel
theorem d_SS_clashesWithOpens_70 : decode c_SS_clashesWithOpens 70 = .ok (.ireturn, 1) := by decide +kernel
theorem d_SS_clashesWithOpens_71 : decode c_SS_clashesWithOpens 71 = .ok (.iinc 3 1, 3) := by decide +kernel
theorem d_SS_clashesWithOpens_74 : decode c_SS_clashesWithOpens 74 = .ok (.goto (-72), 3) := by decide +kernel
theorem d_SS_clashesWithOpens_77 : decode c_SS_clashesWithOpens 77 = .ok (.iconst 0, 1) := by decide +kernel
theorem d_SS_clashesWithOpens_78 : decode c_SS_clashesWithOpens 78 = .ok (.ireturn, 1) := by decide +kernel
theorem d_SS_outcome_0 : decode c_SS_outcome 0 = .ok (.aload_n 0, 1) := by decide +kernel
theorem d_SS_outcome_1 : decode c_SS_outcome 1 = .ok (.iload_n 1, 1) := by decide +kernel
theorem d_SS_outcome_2 : decode c_SS_outcome 2 = .ok (.invokevirtual 62, 3) := by decide +kernel
theorem d_SS_outcome_5 : decode c_SS_outcome 5 = .ok (.astore_n 2, 1) := by decide +kernel
theorem d_SS_outcome_6 : decode c_SS_outcome 6 = .ok (.aload_n 2, 1) := by decide +kernel
theorem d_SS_outcome_7 : decode c_SS_outcome 7 = .ok (.ifnonnull 7, 3) := by decide +kernel
theorem d_SS_outcome_10 : decode c_SS_outcome 10 = .ok (.iconst (-1), 1) := by decide +kernel
theorem d_SS_outcome_11 : decode c_SS_outcome 11 = .ok (.goto 7, 3) := by decide +kernel
theorem d_SS_outcome_14 : decode c_SS_outcome 14 = .ok (.aload_n 2, 1) := by decide +kernel
theorem d_SS_outcome_15 : decode c_SS_outcome 15 = .ok (.getfield 59, 3) := by decide +kernel
theorem d_SS_outcome_18 : decode c_SS_outcome 18 = .ok (.ireturn, 1) := by decide +kernel
theorem d_SS_requestNumbered_0 : decode c_SS_requestNumbered 0 = .ok (.iload_n 1, 1) := by decide +kernel
theorem d_SS_requestNumbered_1 : decode c_SS_requestNumbered 1 = .ok (.iconst 1, 1) := by decide +kernel
theorem d_SS_requestNumbered_2 : decode c_SS_requestNumbered 2 = .ok (.if_icmp .lt 22, 3) := by decide +kernel
theorem d_SS_requestNumbered_5 : decode c_SS_requestNumbered 5 = .ok (.iload_n 1, 1) := by decide +kernel
theorem d_SS_requestNumbered_6 : decode c_SS_requestNumbered 6 = .ok (.aload_n 0, 1) := by decide +kernel
theorem d_SS_requestNumbered_7 : decode c_SS_requestNumbered 7 = .ok (.getfield 48, 3) := by decide +kernel
theorem d_SS_requestNumbered_10 : decode c_SS_requestNumbered 10 = .ok (.if_icmp .gt 14, 3) := by decide +kernel
theorem d_SS_requestNumbered_13 : decode c_SS_requestNumbered 13 = .ok (.aload_n 0, 1) := by decide +kernel
theorem d_SS_requestNumbered_14 : decode c_SS_requestNumbered 14 = .ok (.getfield 26, 3) := by decide +kernel
theorem d_SS_requestNumbered_17 : decode c_SS_requestNumbered 17 = .ok (.iload_n 1, 1) := by decide +kernel
theorem d_SS_requestNumbered_18 : decode c_SS_requestNumbered 18 = .ok (.iconst 1, 1) := by decide +kernel
theorem d_SS_requestNumbered_19 : decode c_SS_requestNumbered 19 = .ok (.isub, 1) := by decide +kernel
theorem d_SS_requestNumbered_20 : decode c_SS_requestNumbered 20 = .ok (.aaload, 1) := by decide +kernel
theorem d_SS_requestNumbered_21 : decode c_SS_requestNumbered 21 = .ok (.goto 4, 3) := by decide +kernel
theorem d_SS_requestNumbered_24 : decode c_SS_requestNumbered 24 = .ok (.aconst_null, 1) := by decide +kernel
theorem d_SS_requestNumbered_25 : decode c_SS_requestNumbered 25 = .ok (.areturn, 1) := by decide +kernel
theorem d_SS_cancel_0 : decode c_SS_cancel 0 = .ok (.aload_n 0, 1) := by decide +kernel
theorem d_SS_cancel_1 : decode c_SS_cancel 1 = .ok (.iload_n 1, 1) := by decide +kernel
theorem d_SS_cancel_2 : decode c_SS_cancel 2 = .ok (.invokevirtual 62, 3) := by decide +kernel
theorem d_SS_cancel_5 : decode c_SS_cancel 5 = .ok (.astore_n 2, 1) := by decide +kernel
theorem d_SS_cancel_6 : decode c_SS_cancel 6 = .ok (.aload_n 2, 1) := by decide +kernel
theorem d_SS_cancel_7 : decode c_SS_cancel 7 = .ok (.ifnull 10, 3) := by decide +kernel
theorem d_SS_cancel_10 : decode c_SS_cancel 10 = .ok (.aload_n 2, 1) := by decide +kernel
theorem d_SS_cancel_11 : decode c_SS_cancel 11 = .ok (.getfield 59, 3) := by decide +kernel
theorem d_SS_cancel_14 : decode c_SS_cancel 14 = .ok (.ifCond .eq 5, 3) := by decide +kernel
theorem d_SS_cancel_17 : decode c_SS_cancel 17 = .ok (.iconst (-1), 1) := by decide +kernel
theorem d_SS_cancel_18 : decode c_SS_cancel 18 = .ok (.ireturn, 1) := by decide +kernel
theorem d_SS_cancel_19 : decode c_SS_cancel 19 = .ok (.aload_n 2, 1) := by decide +kernel
theorem d_SS_cancel_20 : decode c_SS_cancel 20 = .ok (.bipush (-9), 2) := by decide +kernel
theorem d_SS_cancel_22 : decode c_SS_cancel 22 = .ok (.putfield 59, 3) := by decide +kernel
theorem d_SS_cancel_25 : decode c_SS_cancel 25 = .ok (.iconst 0, 1) := by decide +kernel
theorem d_SS_cancel_26 : decode c_SS_cancel 26 = .ok (.ireturn, 1) := by decide +kernel
theorem d_SS_giveUp_0 : decode c_SS_giveUp 0 = .ok (.aload_n 0, 1) := by decide +kernel
theorem d_SS_giveUp_1 : decode c_SS_giveUp 1 = .ok (.iload_n 1, 1) := by decide +kernel
theorem d_SS_giveUp_2 : decode c_SS_giveUp 2 = .ok (.invokevirtual 66, 3) := by decide +kernel
theorem d_SS_giveUp_5 : decode c_SS_giveUp 5 = .ok (.astore_n 2, 1) := by decide +kernel
theorem d_SS_giveUp_6 : decode c_SS_giveUp 6 = .ok (.aload_n 2, 1) := by decide +kernel
theorem d_SS_giveUp_7 : decode c_SS_giveUp 7 = .ok (.ifnull 10, 3) := by decide +kernel
theorem d_SS_giveUp_10 : decode c_SS_giveUp 10 = .ok (.aload_n 2, 1) := by decide +kernel
theorem d_SS_giveUp_11 : decode c_SS_giveUp 11 = .ok (.getfield 70, 3) := by decide +kernel
theorem d_SS_giveUp_14 : decode c_SS_giveUp 14 = .ok (.ifCond .ne 5, 3) := by decide +kernel
theorem d_SS_giveUp_17 : decode c_SS_giveUp 17 = .ok (.iconst (-1), 1) := by decide +kernel
theorem d_SS_giveUp_18 : decode c_SS_giveUp 18 = .ok (.ireturn, 1) := by decide +kernel
theorem d_SS_giveUp_19 : decode c_SS_giveUp 19 = .ok (.aload_n 2, 1) := by decide +kernel
theorem d_SS_giveUp_20 : decode c_SS_giveUp 20 = .ok (.getfield 70, 3) := by decide +kernel
theorem d_SS_giveUp_23 : decode c_SS_giveUp 23 = .ok (.iconst 3, 1) := by decide +kernel
theorem d_SS_giveUp_24 : decode c_SS_giveUp 24 = .ok (.if_icmp .ne 7, 3) := by decide +kernel
theorem d_SS_giveUp_27 : decode c_SS_giveUp 27 = .ok (.iconst 1, 1) := by decide +kernel
theorem d_SS_giveUp_28 : decode c_SS_giveUp 28 = .ok (.goto 4, 3) := by decide +kernel
theorem d_SS_giveUp_31 : decode c_SS_giveUp 31 = .ok (.iconst 0, 1) := by decide +kernel
theorem d_SS_giveUp_32 : decode c_SS_giveUp 32 = .ok (.istore_n 3, 1) := by decide +kernel
theorem d_SS_giveUp_33 : decode c_SS_giveUp 33 = .ok (.aload_n 2, 1) := by decide +kernel
theorem d_SS_giveUp_34 : decode c_SS_giveUp 34 = .ok (.aload_n 2, 1) := by decide +kernel
theorem d_SS_giveUp_35 : decode c_SS_giveUp 35 = .ok (.getfield 70, 3) := by decide +kernel
theorem d_SS_giveUp_38 : decode c_SS_giveUp 38 = .ok (.iconst 1, 1) := by decide +kernel
theorem d_SS_giveUp_39 : decode c_SS_giveUp 39 = .ok (.if_icmp .ne 7, 3) := by decide +kernel
theorem d_SS_giveUp_42 : decode c_SS_giveUp 42 = .ok (.iconst 0, 1) := by decide +kernel
theorem d_SS_giveUp_43 : decode c_SS_giveUp 43 = .ok (.goto 4, 3) := by decide +kernel
theorem d_SS_giveUp_46 : decode c_SS_giveUp 46 = .ok (.iconst 1, 1) := by decide +kernel
theorem d_SS_giveUp_47 : decode c_SS_giveUp 47 = .ok (.putfield 70, 3) := by decide +kernel
theorem d_SS_giveUp_50 : decode c_SS_giveUp 50 = .ok (.iload_n 3, 1) := by decide +kernel
theorem d_SS_giveUp_51 : decode c_SS_giveUp 51 = .ok (.ifCond .eq 7, 3) := by decide +kernel
theorem d_SS_giveUp_54 : decode c_SS_giveUp 54 = .ok (.aload_n 0, 1) := by decide +kernel
theorem d_SS_giveUp_55 : decode c_SS_giveUp 55 = .ok (.invokevirtual 73, 3) := by decide +kernel
theorem d_SS_giveUp_58 : decode c_SS_giveUp 58 = .ok (.aload_n 2, 1) := by decide +kernel
theorem d_SS_giveUp_59 : decode c_SS_giveUp 59 = .ok (.getfield 70, 3) := by decide +kernel
theorem d_SS_giveUp_62 : decode c_SS_giveUp 62 = .ok (.ireturn, 1) := by decide +kernel
theorem d_SS_openHandle_0 : decode c_SS_openHandle 0 = .ok (.iconst 0, 1) := by decide +kernel
theorem d_SS_openHandle_1 : decode c_SS_openHandle 1 = .ok (.istore_n 2, 1) := by decide +kernel
theorem d_SS_openHandle_2 : decode c_SS_openHandle 2 = .ok (.iload_n 2, 1) := by decide +kernel
theorem d_SS_openHandle_3 : decode c_SS_openHandle 3 = .ok (.aload_n 0, 1) := by decide +kernel
theorem d_SS_openHandle_4 : decode c_SS_openHandle 4 = .ok (.getfield 94, 3) := by decide +kernel
theorem d_SS_openHandle_7 : decode c_SS_openHandle 7 = .ok (.if_icmp .ge 29, 3) := by decide +kernel
theorem d_SS_openHandle_10 : decode c_SS_openHandle 10 = .ok (.aload_n 0, 1) := by decide +kernel
theorem d_SS_openHandle_11 : decode c_SS_openHandle 11 = .ok (.getfield 20, 3) := by decide +kernel
theorem d_SS_openHandle_14 : decode c_SS_openHandle 14 = .ok (.iload_n 2, 1) := by decide +kernel
theorem d_SS_openHandle_15 : decode c_SS_openHandle 15 = .ok (.aaload, 1) := by decide +kernel
theorem d_SS_openHandle_16 : decode c_SS_openHandle 16 = .ok (.getfield 266, 3) := by decide +kernel
theorem d_SS_openHandle_19 : decode c_SS_openHandle 19 = .ok (.iload_n 1, 1) := by decide +kernel
theorem d_SS_openHandle_20 : decode c_SS_openHandle 20 = .ok (.if_icmp .ne 10, 3) := by decide +kernel
theorem d_SS_openHandle_23 : decode c_SS_openHandle 23 = .ok (.aload_n 0, 1) := by decide +kernel
theorem d_SS_openHandle_24 : decode c_SS_openHandle 24 = .ok (.getfield 20, 3) := by decide +kernel
theorem d_SS_openHandle_27 : decode c_SS_openHandle 27 = .ok (.iload_n 2, 1) := by decide +kernel
theorem d_SS_openHandle_28 : decode c_SS_openHandle 28 = .ok (.aaload, 1) := by decide +kernel
theorem d_SS_openHandle_29 : decode c_SS_openHandle 29 = .ok (.areturn, 1) := by decide +kernel
theorem d_SS_openHandle_30 : decode c_SS_openHandle 30 = .ok (.iinc 2 1, 3) := by decide +kernel
theorem d_SS_openHandle_33 : decode c_SS_openHandle 33 = .ok (.goto (-31), 3) := by decide +kernel
theorem d_SS_openHandle_36 : decode c_SS_openHandle 36 = .ok (.aconst_null, 1) := by decide +kernel
theorem d_SS_openHandle_37 : decode c_SS_openHandle 37 = .ok (.areturn, 1) := by decide +kernel
theorem d_SS_tryWaitingAgain_0 : decode c_SS_tryWaitingAgain 0 = .ok (.iconst 0, 1) := by decide +kernel
theorem d_SS_tryWaitingAgain_1 : decode c_SS_tryWaitingAgain 1 = .ok (.istore_n 1, 1) := by decide +kernel
theorem d_SS_tryWaitingAgain_2 : decode c_SS_tryWaitingAgain 2 = .ok (.iload_n 1, 1) := by decide +kernel
theorem d_SS_tryWaitingAgain_3 : decode c_SS_tryWaitingAgain 3 = .ok (.aload_n 0, 1) := by decide +kernel
theorem d_SS_tryWaitingAgain_4 : decode c_SS_tryWaitingAgain 4 = .ok (.getfield 48, 3) := by decide +kernel
theorem d_SS_tryWaitingAgain_7 : decode c_SS_tryWaitingAgain 7 = .ok (.if_icmp .ge 40, 3) := by decide +kernel
theorem d_SS_tryWaitingAgain_10 : decode c_SS_tryWaitingAgain 10 = .ok (.aload_n 0, 1) := by decide +kernel
theorem d_SS_tryWaitingAgain_11 : decode c_SS_tryWaitingAgain 11 = .ok (.getfield 26, 3) := by decide +kernel
theorem d_SS_tryWaitingAgain_14 : decode c_SS_tryWaitingAgain 14 = .ok (.iload_n 1, 1) := by decide +kernel
theorem d_SS_tryWaitingAgain_15 : decode c_SS_tryWaitingAgain 15 = .ok (.aaload, 1) := by decide +kernel
theorem d_SS_tryWaitingAgain_16 : decode c_SS_tryWaitingAgain 16 = .ok (.getfield 59, 3) := by decide +kernel
theorem d_SS_tryWaitingAgain_19 : decode c_SS_tryWaitingAgain 19 = .ok (.ifCond .ne 22, 3) := by decide +kernel
theorem d_SS_tryWaitingAgain_22 : decode c_SS_tryWaitingAgain 22 = .ok (.aload_n 0, 1) := by decide +kernel
theorem d_SS_tryWaitingAgain_23 : decode c_SS_tryWaitingAgain 23 = .ok (.getfield 26, 3) := by decide +kernel
theorem d_SS_tryWaitingAgain_26 : decode c_SS_tryWaitingAgain 26 = .ok (.iload_n 1, 1) := by decide +kernel
theorem d_SS_tryWaitingAgain_27 : decode c_SS_tryWaitingAgain 27 = .ok (.aaload, 1) := by decide +kernel
theorem d_SS_tryWaitingAgain_28 : decode c_SS_tryWaitingAgain 28 = .ok (.aload_n 0, 1) := by decide +kernel
theorem d_SS_tryWaitingAgain_29 : decode c_SS_tryWaitingAgain 29 = .ok (.aload_n 0, 1) := by decide +kernel
theorem d_SS_tryWaitingAgain_30 : decode c_SS_tryWaitingAgain 30 = .ok (.getfield 26, 3) := by decide +kernel
theorem d_SS_tryWaitingAgain_33 : decode c_SS_tryWaitingAgain 33 = .ok (.iload_n 1, 1) := by decide +kernel
theorem d_SS_tryWaitingAgain_34 : decode c_SS_tryWaitingAgain 34 = .ok (.aaload, 1) := by decide +kernel
theorem d_SS_tryWaitingAgain_35 : decode c_SS_tryWaitingAgain 35 = .ok (.invokevirtual 55, 3) := by decide +kernel
theorem d_SS_tryWaitingAgain_38 : decode c_SS_tryWaitingAgain 38 = .ok (.putfield 59, 3) := by decide +kernel
theorem d_SS_tryWaitingAgain_41 : decode c_SS_tryWaitingAgain 41 = .ok (.iinc 1 1, 3) := by decide +kernel
theorem d_SS_tryWaitingAgain_44 : decode c_SS_tryWaitingAgain 44 = .ok (.goto (-42), 3) := by decide +kernel
theorem d_SS_tryWaitingAgain_47 : decode c_SS_tryWaitingAgain 47 = .ok (.return_, 1) := by decide +kernel
theorem d_SS_close_0 : decode c_SS_close 0 = .ok (.aload_n 0, 1) := by decide +kernel
theorem d_SS_close_1 : decode c_SS_close 1 = .ok (.iload_n 1, 1) := by decide +kernel
theorem d_SS_close_2 : decode c_SS_close 2 = .ok (.invokevirtual 66, 3) := by decide +kernel
theorem d_SS_close_5 : decode c_SS_close 5 = .ok (.astore_n 2, 1) := by decide +kernel
theorem d_SS_close_6 : decode c_SS_close 6 = .ok (.aload_n 2, 1) := by decide +kernel
theorem d_SS_close_7 : decode c_SS_close 7 = .ok (.ifnonnull 5, 3) := by decide +kernel
theorem d_SS_close_10 : decode c_SS_close 10 = .ok (.iconst (-1), 1) := by decide +kernel
theorem d_SS_close_11 : decode c_SS_close 11 = .ok (.ireturn, 1) := by decide +kernel
theorem d_SS_close_12 : decode c_SS_close 12 = .ok (.aload_n 2, 1) := by decide +kernel
theorem d_SS_close_13 : decode c_SS_close 13 = .ok (.getfield 76, 3) := by decide +kernel
theorem d_SS_close_16 : decode c_SS_close 16 = .ok (.aload_n 2, 1) := by decide +kernel
theorem d_SS_close_17 : decode c_SS_close 17 = .ok (.invokevirtual 80, 3) := by decide +kernel
theorem d_SS_close_20 : decode c_SS_close 20 = .ok (.aload_n 0, 1) := by decide +kernel
theorem d_SS_close_21 : decode c_SS_close 21 = .ok (.aload_n 2, 1) := by decide +kernel
theorem d_SS_close_22 : decode c_SS_close 22 = .ok (.invokevirtual 84, 3) := by decide +kernel
theorem d_SS_close_25 : decode c_SS_close 25 = .ok (.aload_n 0, 1) := by decide +kernel
theorem d_SS_close_26 : decode c_SS_close 26 = .ok (.aload_n 2, 1) := by decide +kernel
theorem d_SS_close_27 : decode c_SS_close 27 = .ok (.invokevirtual 87, 3) := by decide +kernel
theorem d_SS_close_30 : decode c_SS_close 30 = .ok (.aload_n 0, 1) := by decide +kernel
theorem d_SS_close_31 : decode c_SS_close 31 = .ok (.aload_n 2, 1) := by decide +kernel
theorem d_SS_close_32 : decode c_SS_close 32 = .ok (.getfield 76, 3) := by decide +kernel
theorem d_SS_close_35 : decode c_SS_close 35 = .ok (.invokevirtual 90, 3) := by decide +kernel
theorem d_SS_close_38 : decode c_SS_close 38 = .ok (.aload_n 2, 1) := by decide +kernel
theorem d_SS_close_39 : decode c_SS_close 39 = .ok (.getfield 70, 3) := by decide +kernel
theorem d_SS_close_42 : decode c_SS_close 42 = .ok (.iconst 3, 1) := by decide +kernel
theorem d_SS_close_43 : decode c_SS_close 43 = .ok (.if_icmp .ne 7, 3) := by decide +kernel
theorem d_SS_close_46 : decode c_SS_close 46 = .ok (.aload_n 0, 1) := by decide +kernel
theorem d_SS_close_47 : decode c_SS_close 47 = .ok (.invokevirtual 73, 3) := by decide +kernel
theorem d_SS_close_50 : decode c_SS_close 50 = .ok (.aload_n 0, 1) := by decide +kernel
theorem d_SS_close_51 : decode c_SS_close 51 = .ok (.getfield 94, 3) := by decide +kernel
theorem d_SS_close_54 : decode c_SS_close 54 = .ok (.ireturn, 1) := by decide +kernel
theorem d_Nd_dropLocksOf_0 : decode c_Nd_dropLocksOf 0 = .ok (.iconst 0, 1) := by decide +kernel
theorem d_Nd_dropLocksOf_1 : decode c_Nd_dropLocksOf 1 = .ok (.istore_n 2, 1) := by decide +kernel
theorem d_Nd_dropLocksOf_2 : decode c_Nd_dropLocksOf 2 = .ok (.iconst 0, 1) := by decide +kernel
theorem d_Nd_dropLocksOf_3 : decode c_Nd_dropLocksOf 3 = .ok (.istore_n 3, 1) := by decide +kernel
theorem d_Nd_dropLocksOf_4 : decode c_Nd_dropLocksOf 4 = .ok (.iload_n 3, 1) := by decide +kernel
theorem d_Nd_dropLocksOf_5 : decode c_Nd_dropLocksOf 5 = .ok (.aload_n 0, 1) := by decide +kernel
theorem d_Nd_dropLocksOf_6 : decode c_Nd_dropLocksOf 6 = .ok (.getfield 35, 3) := by decide +kernel
theorem d_Nd_dropLocksOf_9 : decode c_Nd_dropLocksOf 9 = .ok (.if_icmp .ge 37, 3) := by decide +kernel
theorem d_Nd_dropLocksOf_12 : decode c_Nd_dropLocksOf 12 = .ok (.aload_n 0, 1) := by decide +kernel
theorem d_Nd_dropLocksOf_13 : decode c_Nd_dropLocksOf 13 = .ok (.getfield 31, 3) := by decide +kernel
theorem d_Nd_dropLocksOf_16 : decode c_Nd_dropLocksOf 16 = .ok (.iload_n 3, 1) := by decide +kernel
theorem d_Nd_dropLocksOf_17 : decode c_Nd_dropLocksOf 17 = .ok (.aaload, 1) := by decide +kernel
theorem d_Nd_dropLocksOf_18 : decode c_Nd_dropLocksOf 18 = .ok (.getfield 45, 3) := by decide +kernel
theorem d_Nd_dropLocksOf_21 : decode c_Nd_dropLocksOf 21 = .ok (.aload_n 1, 1) := by decide +kernel
theorem d_Nd_dropLocksOf_22 : decode c_Nd_dropLocksOf 22 = .ok (.if_acmp .eq 18, 3) := by decide +kernel
theorem d_Nd_dropLocksOf_25 : decode c_Nd_dropLocksOf 25 = .ok (.aload_n 0, 1) := by decide +kernel
theorem d_Nd_dropLocksOf_26 : decode c_Nd_dropLocksOf 26 = .ok (.getfield 31, 3) := by decide +kernel
theorem d_Nd_dropLocksOf_29 : decode c_Nd_dropLocksOf 29 = .ok (.iload_n 2, 1) := by decide +kernel
theorem d_Nd_dropLocksOf_30 : decode c_Nd_dropLocksOf 30 = .ok (.aload_n 0, 1) := by decide +kernel
theorem d_Nd_dropLocksOf_31 : decode c_Nd_dropLocksOf 31 = .ok (.getfield 31, 3) := by decide +kernel
theorem d_Nd_dropLocksOf_34 : decode c_Nd_dropLocksOf 34 = .ok (.iload_n 3, 1) := by decide +kernel
theorem d_Nd_dropLocksOf_35 : decode c_Nd_dropLocksOf 35 = .ok (.aaload, 1) := by decide +kernel
theorem d_Nd_dropLocksOf_36 : decode c_Nd_dropLocksOf 36 = .ok (.aastore, 1) := by decide +kernel
theorem d_Nd_dropLocksOf_37 : decode c_Nd_dropLocksOf 37 = .ok (.iinc 2 1, 3) := by decide +kernel
theorem d_Nd_dropLocksOf_40 : decode c_Nd_dropLocksOf 40 = .ok (.iinc 3 1, 3) := by decide +kernel
theorem d_Nd_dropLocksOf_43 : decode c_Nd_dropLocksOf 43 = .ok (.goto (-39), 3) := by decide +kernel
theorem d_Nd_dropLocksOf_46 : decode c_Nd_dropLocksOf 46 = .ok (.aload_n 0, 1) := by decide +kernel
theorem d_Nd_dropLocksOf_47 : decode c_Nd_dropLocksOf 47 = .ok (.iload_n 2, 1) := by decide +kernel
theorem d_Nd_dropLocksOf_48 : decode c_Nd_dropLocksOf 48 = .ok (.putfield 35, 3) := by decide +kernel
theorem d_Nd_dropLocksOf_51 : decode c_Nd_dropLocksOf 51 = .ok (.return_, 1) := by decide +kernel
theorem d_SS_dropFromOpens_0 : decode c_SS_dropFromOpens 0 = .ok (.iconst 0, 1) := by decide +kernel
theorem d_SS_dropFromOpens_1 : decode c_SS_dropFromOpens 1 = .ok (.istore_n 2, 1) := by decide +kernel
theorem d_SS_dropFromOpens_2 : decode c_SS_dropFromOpens 2 = .ok (.iconst 0, 1) := by decide +kernel
theorem d_SS_dropFromOpens_3 : decode c_SS_dropFromOpens 3 = .ok (.istore_n 3, 1) := by decide +kernel
theorem d_SS_dropFromOpens_4 : decode c_SS_dropFromOpens 4 = .ok (.iload_n 3, 1) := by decide +kernel
theorem d_SS_dropFromOpens_5 : decode c_SS_dropFromOpens 5 = .ok (.aload_n 0, 1) := by decide +kernel
theorem d_SS_dropFromOpens_6 : decode c_SS_dropFromOpens 6 = .ok (.getfield 94, 3) := by decide +kernel
theorem d_SS_dropFromOpens_9 : decode c_SS_dropFromOpens 9 = .ok (.if_icmp .ge 34, 3) := by decide +kernel
theorem d_SS_dropFromOpens_12 : decode c_SS_dropFromOpens 12 = .ok (.aload_n 0, 1) := by decide +kernel
theorem d_SS_dropFromOpens_13 : decode c_SS_dropFromOpens 13 = .ok (.getfield 20, 3) := by decide +kernel
theorem d_SS_dropFromOpens_16 : decode c_SS_dropFromOpens 16 = .ok (.iload_n 3, 1) := by decide +kernel
theorem d_SS_dropFromOpens_17 : decode c_SS_dropFromOpens 17 = .ok (.aaload, 1) := by decide +kernel
theorem d_SS_dropFromOpens_18 : decode c_SS_dropFromOpens 18 = .ok (.aload_n 1, 1) := by decide +kernel
theorem d_SS_dropFromOpens_19 : decode c_SS_dropFromOpens 19 = .ok (.if_acmp .eq 18, 3) := by decide +kernel
theorem d_SS_dropFromOpens_22 : decode c_SS_dropFromOpens 22 = .ok (.aload_n 0, 1) := by decide +kernel
theorem d_SS_dropFromOpens_23 : decode c_SS_dropFromOpens 23 = .ok (.getfield 20, 3) := by decide +kernel
theorem d_SS_dropFromOpens_26 : decode c_SS_dropFromOpens 26 = .ok (.iload_n 2, 1) := by decide +kernel
theorem d_SS_dropFromOpens_27 : decode c_SS_dropFromOpens 27 = .ok (.aload_n 0, 1) := by decide +kernel
theorem d_SS_dropFromOpens_28 : decode c_SS_dropFromOpens 28 = .ok (.getfield 20, 3) := by decide +kernel
theorem d_SS_dropFromOpens_31 : decode c_SS_dropFromOpens 31 = .ok (.iload_n 3, 1) := by decide +kernel
theorem d_SS_dropFromOpens_32 : decode c_SS_dropFromOpens 32 = .ok (.aaload, 1) := by decide +kernel
theorem d_SS_dropFromOpens_33 : decode c_SS_dropFromOpens 33 = .ok (.aastore, 1) := by decide +kernel
theorem d_SS_dropFromOpens_34 : decode c_SS_dropFromOpens 34 = .ok (.iinc 2 1, 3) := by decide +kernel
theorem d_SS_dropFromOpens_37 : decode c_SS_dropFromOpens 37 = .ok (.iinc 3 1, 3) := by decide +kernel
theorem d_SS_dropFromOpens_40 : decode c_SS_dropFromOpens 40 = .ok (.goto (-36), 3) := by decide +kernel
theorem d_SS_dropFromOpens_43 : decode c_SS_dropFromOpens 43 = .ok (.aload_n 0, 1) := by decide +kernel
theorem d_SS_dropFromOpens_44 : decode c_SS_dropFromOpens 44 = .ok (.iload_n 2, 1) := by decide +kernel
theorem d_SS_dropFromOpens_45 : decode c_SS_dropFromOpens 45 = .ok (.putfield 94, 3) := by decide +kernel
theorem d_SS_dropFromOpens_48 : decode c_SS_dropFromOpens 48 = .ok (.return_, 1) := by decide +kernel
theorem d_SS_doomIfItRemoves_0 : decode c_SS_doomIfItRemoves 0 = .ok (.aload_n 1, 1) := by decide +kernel
theorem d_SS_doomIfItRemoves_1 : decode c_SS_doomIfItRemoves 1 = .ok (.getfield 267, 3) := by decide +kernel
theorem d_SS_doomIfItRemoves_4 : decode c_SS_doomIfItRemoves 4 = .ok (.ifCond .eq 22, 3) := by decide +kernel
theorem d_SS_doomIfItRemoves_7 : decode c_SS_doomIfItRemoves 7 = .ok (.aload_n 0, 1) := by decide +kernel
theorem d_SS_doomIfItRemoves_8 : decode c_SS_doomIfItRemoves 8 = .ok (.aload_n 1, 1) := by decide +kernel
theorem d_SS_doomIfItRemoves_9 : decode c_SS_doomIfItRemoves 9 = .ok (.getfield 76, 3) := by decide +kernel
theorem d_SS_doomIfItRemoves_12 : decode c_SS_doomIfItRemoves 12 = .ok (.invokevirtual 100, 3) := by decide +kernel
theorem d_SS_doomIfItRemoves_15 : decode c_SS_doomIfItRemoves 15 = .ok (.ifCond .eq 11, 3) := by decide +kernel
theorem d_SS_doomIfItRemoves_18 : decode c_SS_doomIfItRemoves 18 = .ok (.aload_n 1, 1) := by decide +kernel
theorem d_SS_doomIfItRemoves_19 : decode c_SS_doomIfItRemoves 19 = .ok (.getfield 76, 3) := by decide +kernel
theorem d_SS_doomIfItRemoves_22 : decode c_SS_doomIfItRemoves 22 = .ok (.iconst 1, 1) := by decide +kernel
theorem d_SS_doomIfItRemoves_23 : decode c_SS_doomIfItRemoves 23 = .ok (.putfield 104, 3) := by decide +kernel
theorem d_SS_doomIfItRemoves_26 : decode c_SS_doomIfItRemoves 26 = .ok (.return_, 1) := by decide +kernel
theorem d_SS_isRemovable_0 : decode c_SS_isRemovable 0 = .ok (.aload_n 1, 1) := by decide +kernel
theorem d_SS_isRemovable_1 : decode c_SS_isRemovable 1 = .ok (.getfield 108, 3) := by decide +kernel
theorem d_SS_isRemovable_4 : decode c_SS_isRemovable 4 = .ok (.ifCond .eq 15, 3) := by decide +kernel
theorem d_SS_isRemovable_7 : decode c_SS_isRemovable 7 = .ok (.aload_n 0, 1) := by decide +kernel
theorem d_SS_isRemovable_8 : decode c_SS_isRemovable 8 = .ok (.aload_n 1, 1) := by decide +kernel
theorem d_SS_isRemovable_9 : decode c_SS_isRemovable 9 = .ok (.invokevirtual 203, 3) := by decide +kernel
theorem d_SS_isRemovable_12 : decode c_SS_isRemovable 12 = .ok (.ifCond .ne 7, 3) := by decide +kernel
theorem d_SS_isRemovable_15 : decode c_SS_isRemovable 15 = .ok (.iconst 1, 1) := by decide +kernel
theorem d_SS_isRemovable_16 : decode c_SS_isRemovable 16 = .ok (.goto 4, 3) := by decide +kernel
theorem d_SS_isRemovable_19 : decode c_SS_isRemovable 19 = .ok (.iconst 0, 1) := by decide +kernel
theorem d_SS_isRemovable_20 : decode c_SS_isRemovable 20 = .ok (.ireturn, 1) := by decide +kernel
theorem d_SS_nodesIn_0 : decode c_SS_nodesIn 0 = .ok (.iconst 0, 1) := by decide +kernel
theorem d_SS_nodesIn_1 : decode c_SS_nodesIn 1 = .ok (.istore_n 2, 1) := by decide +kernel
theorem d_SS_nodesIn_2 : decode c_SS_nodesIn 2 = .ok (.iconst 0, 1) := by decide +kernel
theorem d_SS_nodesIn_3 : decode c_SS_nodesIn 3 = .ok (.istore_n 3, 1) := by decide +kernel
theorem d_SS_nodesIn_4 : decode c_SS_nodesIn 4 = .ok (.iload_n 3, 1) := by decide +kernel
theorem d_SS_nodesIn_5 : decode c_SS_nodesIn 5 = .ok (.aload_n 0, 1) := by decide +kernel
theorem d_SS_nodesIn_6 : decode c_SS_nodesIn 6 = .ok (.getfield 11, 3) := by decide +kernel
theorem d_SS_nodesIn_9 : decode c_SS_nodesIn 9 = .ok (.arraylength, 1) := by decide +kernel
theorem d_SS_nodesIn_10 : decode c_SS_nodesIn 10 = .ok (.if_icmp .ge 37, 3) := by decide +kernel
theorem d_SS_nodesIn_13 : decode c_SS_nodesIn 13 = .ok (.aload_n 0, 1) := by decide +kernel
theorem d_SS_nodesIn_14 : decode c_SS_nodesIn 14 = .ok (.getfield 11, 3) := by decide +kernel
theorem d_SS_nodesIn_17 : decode c_SS_nodesIn 17 = .ok (.iload_n 3, 1) := by decide +kernel
theorem d_SS_nodesIn_18 : decode c_SS_nodesIn 18 = .ok (.aaload, 1) := by decide +kernel
theorem d_SS_nodesIn_19 : decode c_SS_nodesIn 19 = .ok (.ifnull 22, 3) := by decide +kernel
theorem d_SS_nodesIn_22 : decode c_SS_nodesIn 22 = .ok (.aload_n 0, 1) := by decide +kernel
theorem d_SS_nodesIn_23 : decode c_SS_nodesIn 23 = .ok (.getfield 11, 3) := by decide +kernel
theorem d_SS_nodesIn_26 : decode c_SS_nodesIn 26 = .ok (.iload_n 3, 1) := by decide +kernel
theorem d_SS_nodesIn_27 : decode c_SS_nodesIn 27 = .ok (.aaload, 1) := by decide +kernel
theorem d_SS_nodesIn_28 : decode c_SS_nodesIn 28 = .ok (.getfield 123, 3) := by decide +kernel
theorem d_SS_nodesIn_31 : decode c_SS_nodesIn 31 = .ok (.aload_n 1, 1) := by decide +kernel
theorem d_SS_nodesIn_32 : decode c_SS_nodesIn 32 = .ok (.getfield 108, 3) := by decide +kernel
theorem d_SS_nodesIn_35 : decode c_SS_nodesIn 35 = .ok (.if_icmp .ne 6, 3) := by decide +kernel
theorem d_SS_nodesIn_38 : decode c_SS_nodesIn 38 = .ok (.iinc 2 1, 3) := by decide +kernel
theorem d_SS_nodesIn_41 : decode c_SS_nodesIn 41 = .ok (.iinc 3 1, 3) := by decide +kernel
theorem d_SS_nodesIn_44 : decode c_SS_nodesIn 44 = .ok (.goto (-40), 3) := by decide +kernel
theorem d_SS_nodesIn_47 : decode c_SS_nodesIn 47 = .ok (.iload_n 2, 1) := by decide +kernel
theorem d_SS_nodesIn_48 : decode c_SS_nodesIn 48 = .ok (.ireturn, 1) := by decide +kernel
theorem d_SS_settleDoom_0 : decode c_SS_settleDoom 0 = .ok (.aload_n 1, 1) := by decide +kernel
theorem d_SS_settleDoom_1 : decode c_SS_settleDoom 1 = .ok (.getfield 104, 3) := by decide +kernel
theorem d_SS_settleDoom_4 : decode c_SS_settleDoom 4 = .ok (.ifCond .eq 11, 3) := by decide +kernel
theorem d_SS_settleDoom_7 : decode c_SS_settleDoom 7 = .ok (.aload_n 0, 1) := by decide +kernel
theorem d_SS_settleDoom_8 : decode c_SS_settleDoom 8 = .ok (.aload_n 1, 1) := by decide +kernel
theorem d_SS_settleDoom_9 : decode c_SS_settleDoom 9 = .ok (.invokevirtual 199, 3) := by decide +kernel
theorem d_SS_settleDoom_12 : decode c_SS_settleDoom 12 = .ok (.ifCond .le 4, 3) := by decide +kernel
theorem d_SS_settleDoom_15 : decode c_SS_settleDoom 15 = .ok (.return_, 1) := by decide +kernel
theorem d_SS_settleDoom_16 : decode c_SS_settleDoom 16 = .ok (.aload_n 0, 1) := by decide +kernel
theorem d_SS_settleDoom_17 : decode c_SS_settleDoom 17 = .ok (.aload_n 1, 1) := by decide +kernel
theorem d_SS_settleDoom_18 : decode c_SS_settleDoom 18 = .ok (.invokevirtual 100, 3) := by decide +kernel
theorem d_SS_settleDoom_21 : decode c_SS_settleDoom 21 = .ok (.ifCond .eq 34, 3) := by decide +kernel
theorem d_SS_settleDoom_24 : decode c_SS_settleDoom 24 = .ok (.aload_n 0, 1) := by decide +kernel
theorem d_SS_settleDoom_25 : decode c_SS_settleDoom 25 = .ok (.getfield 11, 3) := by decide +kernel
theorem d_SS_settleDoom_28 : decode c_SS_settleDoom 28 = .ok (.aload_n 1, 1) := by decide +kernel
theorem d_SS_settleDoom_29 : decode c_SS_settleDoom 29 = .ok (.getfield 108, 3) := by decide +kernel
theorem d_SS_settleDoom_32 : decode c_SS_settleDoom 32 = .ok (.aconst_null, 1) := by decide +kernel
theorem d_SS_settleDoom_33 : decode c_SS_settleDoom 33 = .ok (.aastore, 1) := by decide +kernel
theorem d_SS_settleDoom_34 : decode c_SS_settleDoom 34 = .ok (.aload_n 0, 1) := by decide +kernel
theorem d_SS_settleDoom_35 : decode c_SS_settleDoom 35 = .ok (.getfield 33, 3) := by decide +kernel
theorem d_SS_settleDoom_38 : decode c_SS_settleDoom 38 = .ok (.new 121, 3) := by decide +kernel
theorem d_SS_settleDoom_41 : decode c_SS_settleDoom 41 = .ok (.dup, 1) := by decide +kernel
theorem d_SS_settleDoom_42 : decode c_SS_settleDoom 42 = .ok (.iconst 1, 1) := by decide +kernel
theorem d_SS_settleDoom_43 : decode c_SS_settleDoom 43 = .ok (.aload_n 1, 1) := by decide +kernel
theorem d_SS_settleDoom_44 : decode c_SS_settleDoom 44 = .ok (.iconst 0, 1) := by decide +kernel
theorem d_SS_settleDoom_45 : decode c_SS_settleDoom 45 = .ok (.iconst 0, 1) := by decide +kernel
theorem d_SS_settleDoom_46 : decode c_SS_settleDoom 46 = .ok (.invokespecial 129, 3) := by decide +kernel
theorem d_SS_settleDoom_49 : decode c_SS_settleDoom 49 = .ok (.invokevirtual 132, 3) := by decide +kernel
theorem d_SS_settleDoom_52 : decode c_SS_settleDoom 52 = .ok (.goto 8, 3) := by decide +kernel
theorem d_SS_settleDoom_55 : decode c_SS_settleDoom 55 = .ok (.aload_n 1, 1) := by decide +kernel
theorem d_SS_settleDoom_56 : decode c_SS_settleDoom 56 = .ok (.iconst 0, 1) := by decide +kernel
theorem d_SS_settleDoom_57 : decode c_SS_settleDoom 57 = .ok (.putfield 104, 3) := by decide +kernel
theorem d_SS_settleDoom_60 : decode c_SS_settleDoom 60 = .ok (.return_, 1) := by decide +kernel
theorem d_SS_doom_0 : decode c_SS_doom 0 = .ok (.aload_n 0, 1) := by decide +kernel
theorem d_SS_doom_1 : decode c_SS_doom 1 = .ok (.iload_n 1, 1) := by decide +kernel
theorem d_SS_doom_2 : decode c_SS_doom 2 = .ok (.invokevirtual 66, 3) := by decide +kernel
theorem d_SS_doom_5 : decode c_SS_doom 5 = .ok (.astore_n 3, 1) := by decide +kernel
theorem d_SS_doom_6 : decode c_SS_doom 6 = .ok (.aload_n 3, 1) := by decide +kernel
theorem d_SS_doom_7 : decode c_SS_doom 7 = .ok (.ifnull 11, 3) := by decide +kernel
theorem d_SS_doom_10 : decode c_SS_doom 10 = .ok (.aload_n 3, 1) := by decide +kernel
theorem d_SS_doom_11 : decode c_SS_doom 11 = .ok (.iconst 4, 1) := by decide +kernel
theorem d_SS_doom_12 : decode c_SS_doom 12 = .ok (.invokevirtual 97, 3) := by decide +kernel
theorem d_SS_doom_15 : decode c_SS_doom 15 = .ok (.ifCond .ne 5, 3) := by decide +kernel
theorem d_SS_doom_18 : decode c_SS_doom 18 = .ok (.iconst (-1), 1) := by decide +kernel
theorem d_SS_doom_19 : decode c_SS_doom 19 = .ok (.ireturn, 1) := by decide +kernel
theorem d_SS_doom_20 : decode c_SS_doom 20 = .ok (.iload_n 2, 1) := by decide +kernel
theorem d_SS_doom_21 : decode c_SS_doom 21 = .ok (.ifCond .eq 16, 3) := by decide +kernel
theorem d_SS_doom_24 : decode c_SS_doom 24 = .ok (.aload_n 0, 1) := by decide +kernel
theorem d_SS_doom_25 : decode c_SS_doom 25 = .ok (.aload_n 3, 1) := by decide +kernel
theorem d_SS_doom_26 : decode c_SS_doom 26 = .ok (.getfield 76, 3) := by decide +kernel
theorem d_SS_doom_29 : decode c_SS_doom 29 = .ok (.invokevirtual 100, 3) := by decide +kernel
theorem d_SS_doom_32 : decode c_SS_doom 32 = .ok (.ifCond .ne 5, 3) := by decide +kernel
theorem d_SS_doom_35 : decode c_SS_doom 35 = .ok (.iconst (-1), 1) := by decide +kernel
theorem d_SS_doom_36 : decode c_SS_doom 36 = .ok (.ireturn, 1) := by decide +kernel
theorem d_SS_doom_37 : decode c_SS_doom 37 = .ok (.aload_n 3, 1) := by decide +kernel
theorem d_SS_doom_38 : decode c_SS_doom 38 = .ok (.getfield 76, 3) := by decide +kernel
theorem d_SS_doom_41 : decode c_SS_doom 41 = .ok (.iload_n 2, 1) := by decide +kernel
theorem d_SS_doom_42 : decode c_SS_doom 42 = .ok (.putfield 104, 3) := by decide +kernel
theorem d_SS_doom_45 : decode c_SS_doom 45 = .ok (.iconst 0, 1) := by decide +kernel
theorem d_SS_doom_46 : decode c_SS_doom 46 = .ok (.ireturn, 1) := by decide +kernel
theorem d_Hd_may_0 : decode c_Hd_may 0 = .ok (.aload_n 0, 1) := by decide +kernel
theorem d_Hd_may_1 : decode c_Hd_may 1 = .ok (.getfield 29, 3) := by decide +kernel
theorem d_Hd_may_4 : decode c_Hd_may 4 = .ok (.iload_n 1, 1) := by decide +kernel
theorem d_Hd_may_5 : decode c_Hd_may 5 = .ok (.iand, 1) := by decide +kernel
theorem d_Hd_may_6 : decode c_Hd_may 6 = .ok (.ifCond .eq 7, 3) := by decide +kernel
theorem d_Hd_may_9 : decode c_Hd_may 9 = .ok (.iconst 1, 1) := by decide +kernel
theorem d_Hd_may_10 : decode c_Hd_may 10 = .ok (.goto 4, 3) := by decide +kernel
theorem d_Hd_may_13 : decode c_Hd_may 13 = .ok (.iconst 0, 1) := by decide +kernel
theorem d_Hd_may_14 : decode c_Hd_may 14 = .ok (.ireturn, 1) := by decide +kernel
theorem d_SS_move_0 : decode c_SS_move 0 = .ok (.aload_n 0, 1) := by decide +kernel
theorem d_SS_move_1 : decode c_SS_move 1 = .ok (.iload_n 1, 1) := by decide +kernel
theorem d_SS_move_2 : decode c_SS_move 2 = .ok (.invokevirtual 66, 3) := by decide +kernel
theorem d_SS_move_5 : decode c_SS_move 5 = .ok (.astore 4, 2) := by decide +kernel
theorem d_SS_move_7 : decode c_SS_move 7 = .ok (.aload 4, 2) := by decide +kernel
theorem d_SS_move_9 : decode c_SS_move 9 = .ok (.ifnull 31, 3) := by decide +kernel
theorem d_SS_move_12 : decode c_SS_move 12 = .ok (.iload_n 2, 1) := by decide +kernel
theorem d_SS_move_13 : decode c_SS_move 13 = .ok (.iload_n 3, 1) := by decide +kernel
theorem d_SS_move_14 : decode c_SS_move 14 = .ok (.invokestatic 41, 3) := by decide +kernel
theorem d_SS_move_17 : decode c_SS_move 17 = .ok (.ifCond .eq 23, 3) := by decide +kernel
theorem d_SS_move_20 : decode c_SS_move 20 = .ok (.aload 4, 2) := by decide +kernel
theorem d_SS_move_22 : decode c_SS_move 22 = .ok (.iconst 4, 1) := by decide +kernel
theorem d_SS_move_23 : decode c_SS_move 23 = .ok (.invokevirtual 97, 3) := by decide +kernel
theorem d_SS_move_26 : decode c_SS_move 26 = .ok (.ifCond .eq 14, 3) := by decide +kernel
theorem d_SS_move_29 : decode c_SS_move 29 = .ok (.aload 4, 2) := by decide +kernel
theorem d_SS_move_31 : decode c_SS_move 31 = .ok (.getfield 76, 3) := by decide +kernel
theorem d_SS_move_34 : decode c_SS_move 34 = .ok (.getfield 108, 3) := by decide +kernel
theorem d_SS_move_37 : decode c_SS_move 37 = .ok (.ifCond .ne 5, 3) := by decide +kernel
theorem d_SS_move_40 : decode c_SS_move 40 = .ok (.iconst (-1), 1) := by decide +kernel
theorem d_SS_move_41 : decode c_SS_move 41 = .ok (.ireturn, 1) := by decide +kernel
theorem d_SS_move_42 : decode c_SS_move 42 = .ok (.aload_n 0, 1) := by decide +kernel
theorem d_SS_move_43 : decode c_SS_move 43 = .ok (.iload_n 2, 1) := by decide +kernel
theorem d_SS_move_44 : decode c_SS_move 44 = .ok (.invokevirtual 111, 3) := by decide +kernel
theorem d_SS_move_47 : decode c_SS_move 47 = .ok (.ifCond .ne 6, 3) := by decide +kernel
theorem d_SS_move_50 : decode c_SS_move 50 = .ok (.bipush (-3), 2) := by decide +kernel
theorem d_SS_move_52 : decode c_SS_move 52 = .ok (.ireturn, 1) := by decide +kernel
theorem d_SS_move_53 : decode c_SS_move 53 = .ok (.aload_n 0, 1) := by decide +kernel
theorem d_SS_move_54 : decode c_SS_move 54 = .ok (.getfield 11, 3) := by decide +kernel
theorem d_SS_move_57 : decode c_SS_move 57 = .ok (.iload_n 2, 1) := by decide +kernel
theorem d_SS_move_58 : decode c_SS_move 58 = .ok (.aaload, 1) := by decide +kernel
theorem d_SS_move_59 : decode c_SS_move 59 = .ok (.getfield 104, 3) := by decide +kernel
theorem d_SS_move_62 : decode c_SS_move 62 = .ok (.ifCond .eq 6, 3) := by decide +kernel
theorem d_SS_move_65 : decode c_SS_move 65 = .ok (.bipush (-7), 2) := by decide +kernel
theorem d_SS_move_67 : decode c_SS_move 67 = .ok (.ireturn, 1) := by decide +kernel
theorem d_SS_move_68 : decode c_SS_move 68 = .ok (.aload_n 0, 1) := by decide +kernel
theorem d_SS_move_69 : decode c_SS_move 69 = .ok (.iload_n 2, 1) := by decide +kernel
theorem d_SS_move_70 : decode c_SS_move 70 = .ok (.aload 4, 2) := by decide +kernel
theorem d_SS_move_72 : decode c_SS_move 72 = .ok (.getfield 76, 3) := by decide +kernel
theorem d_SS_move_75 : decode c_SS_move 75 = .ok (.getfield 108, 3) := by decide +kernel
theorem d_SS_move_78 : decode c_SS_move 78 = .ok (.invokevirtual 114, 3) := by decide +kernel
theorem d_SS_move_81 : decode c_SS_move 81 = .ok (.ifCond .eq 5, 3) := by decide +kernel
theorem d_SS_move_84 : decode c_SS_move 84 = .ok (.iconst (-1), 1) := by decide +kernel
theorem d_SS_move_85 : decode c_SS_move 85 = .ok (.ireturn, 1) := by decide +kernel
theorem d_SS_move_86 : decode c_SS_move 86 = .ok (.aload_n 0, 1) := by decide +kernel
theorem d_SS_move_87 : decode c_SS_move 87 = .ok (.iload_n 2, 1) := by decide +kernel
theorem d_SS_move_88 : decode c_SS_move 88 = .ok (.iload_n 3, 1) := by decide +kernel
theorem d_SS_move_89 : decode c_SS_move 89 = .ok (.invokevirtual 117, 3) := by decide +kernel
theorem d_SS_move_92 : decode c_SS_move 92 = .ok (.ifnull 6, 3) := by decide +kernel
theorem d_SS_move_95 : decode c_SS_move 95 = .ok (.bipush (-4), 2) := by decide +kernel
theorem d_SS_move_97 : decode c_SS_move 97 = .ok (.ireturn, 1) := by decide +kernel
theorem d_SS_move_98 : decode c_SS_move 98 = .ok (.aload_n 0, 1) := by decide +kernel
theorem d_SS_move_99 : decode c_SS_move 99 = .ok (.getfield 33, 3) := by decide +kernel
theorem d_SS_move_102 : decode c_SS_move 102 = .ok (.new 121, 3) := by decide +kernel
theorem d_SS_move_105 : decode c_SS_move 105 = .ok (.dup, 1) := by decide +kernel
theorem d_SS_move_106 : decode c_SS_move 106 = .ok (.iconst 2, 1) := by decide +kernel
theorem d_SS_move_107 : decode c_SS_move 107 = .ok (.aload 4, 2) := by decide +kernel
theorem d_SS_move_109 : decode c_SS_move 109 = .ok (.getfield 76, 3) := by decide +kernel
theorem d_SS_move_112 : decode c_SS_move 112 = .ok (.aload 4, 2) := by decide +kernel
theorem d_SS_move_114 : decode c_SS_move 114 = .ok (.getfield 76, 3) := by decide +kernel
theorem d_SS_move_117 : decode c_SS_move 117 = .ok (.getfield 123, 3) := by decide +kernel
theorem d_SS_move_120 : decode c_SS_move 120 = .ok (.aload 4, 2) := by decide +kernel
theorem d_SS_move_122 : decode c_SS_move 122 = .ok (.getfield 76, 3) := by decide +kernel
theorem d_SS_move_125 : decode c_SS_move 125 = .ok (.getfield 126, 3) := by decide +kernel
theorem d_SS_move_128 : decode c_SS_move 128 = .ok (.invokespecial 129, 3) := by decide +kernel
theorem d_SS_move_131 : decode c_SS_move 131 = .ok (.invokevirtual 132, 3) := by decide +kernel
theorem d_SS_move_134 : decode c_SS_move 134 = .ok (.aload 4, 2) := by decide +kernel
theorem d_SS_move_136 : decode c_SS_move 136 = .ok (.getfield 76, 3) := by decide +kernel
theorem d_SS_move_139 : decode c_SS_move 139 = .ok (.iload_n 2, 1) := by decide +kernel
theorem d_SS_move_140 : decode c_SS_move 140 = .ok (.putfield 123, 3) := by decide +kernel
theorem d_SS_move_143 : decode c_SS_move 143 = .ok (.aload 4, 2) := by decide +kernel
theorem d_SS_move_145 : decode c_SS_move 145 = .ok (.getfield 76, 3) := by decide +kernel
theorem d_SS_move_148 : decode c_SS_move 148 = .ok (.iload_n 3, 1) := by decide +kernel
theorem d_SS_move_149 : decode c_SS_move 149 = .ok (.putfield 126, 3) := by decide +kernel
theorem d_SS_move_152 : decode c_SS_move 152 = .ok (.iconst 0, 1) := by decide +kernel
theorem d_SS_move_153 : decode c_SS_move 153 = .ok (.ireturn, 1) := by decide +kernel
theorem d_SS_isOrLiesInside_0 : decode c_SS_isOrLiesInside 0 = .ok (.iload_n 1, 1) := by decide +kernel
theorem d_SS_isOrLiesInside_1 : decode c_SS_isOrLiesInside 1 = .ok (.istore_n 3, 1) := by decide +kernel
theorem d_SS_isOrLiesInside_2 : decode c_SS_isOrLiesInside 2 = .ok (.iconst 0, 1) := by decide +kernel
theorem d_SS_isOrLiesInside_3 : decode c_SS_isOrLiesInside 3 = .ok (.istore 4, 2) := by decide +kernel
theorem d_SS_isOrLiesInside_5 : decode c_SS_isOrLiesInside 5 = .ok (.iload 4, 2) := by decide +kernel
theorem d_SS_isOrLiesInside_7 : decode c_SS_isOrLiesInside 7 = .ok (.bipush 24, 2) := by decide +kernel
theorem d_SS_isOrLiesInside_9 : decode c_SS_isOrLiesInside 9 = .ok (.if_icmp .gt 36, 3) := by decide +kernel
theorem d_SS_isOrLiesInside_12 : decode c_SS_isOrLiesInside 12 = .ok (.iload_n 3, 1) := by decide +kernel
theorem d_SS_isOrLiesInside_13 : decode c_SS_isOrLiesInside 13 = .ok (.iload_n 2, 1) := by decide +kernel
theorem d_SS_isOrLiesInside_14 : decode c_SS_isOrLiesInside 14 = .ok (.if_icmp .ne 5, 3) := by decide +kernel
theorem d_SS_isOrLiesInside_17 : decode c_SS_isOrLiesInside 17 = .ok (.iconst 1, 1) := by decide +kernel
theorem d_SS_isOrLiesInside_18 : decode c_SS_isOrLiesInside 18 = .ok (.ireturn, 1) := by decide +kernel
theorem d_SS_isOrLiesInside_19 : decode c_SS_isOrLiesInside 19 = .ok (.aload_n 0, 1) := by decide +kernel
theorem d_SS_isOrLiesInside_20 : decode c_SS_isOrLiesInside 20 = .ok (.iload_n 3, 1) := by decide +kernel
theorem d_SS_isOrLiesInside_21 : decode c_SS_isOrLiesInside 21 = .ok (.invokevirtual 111, 3) := by decide +kernel
theorem d_SS_isOrLiesInside_24 : decode c_SS_isOrLiesInside 24 = .ok (.ifCond .ne 5, 3) := by decide +kernel
theorem d_SS_isOrLiesInside_27 : decode c_SS_isOrLiesInside 27 = .ok (.iconst 0, 1) := by decide +kernel
theorem d_SS_isOrLiesInside_28 : decode c_SS_isOrLiesInside 28 = .ok (.ireturn, 1) := by decide +kernel
theorem d_SS_isOrLiesInside_29 : decode c_SS_isOrLiesInside 29 = .ok (.aload_n 0, 1) := by decide +kernel
theorem d_SS_isOrLiesInside_30 : decode c_SS_isOrLiesInside 30 = .ok (.getfield 11, 3) := by decide +kernel
theorem d_SS_isOrLiesInside_33 : decode c_SS_isOrLiesInside 33 = .ok (.iload_n 3, 1) := by decide +kernel
theorem d_SS_isOrLiesInside_34 : decode c_SS_isOrLiesInside 34 = .ok (.aaload, 1) := by decide +kernel
theorem d_SS_isOrLiesInside_35 : decode c_SS_isOrLiesInside 35 = .ok (.getfield 123, 3) := by decide +kernel
theorem d_SS_isOrLiesInside_38 : decode c_SS_isOrLiesInside 38 = .ok (.istore_n 3, 1) := by decide +kernel
theorem d_SS_isOrLiesInside_39 : decode c_SS_isOrLiesInside 39 = .ok (.iinc 4 1, 3) := by decide +kernel
theorem d_SS_isOrLiesInside_42 : decode c_SS_isOrLiesInside 42 = .ok (.goto (-37), 3) := by decide +kernel
theorem d_SS_isOrLiesInside_45 : decode c_SS_isOrLiesInside 45 = .ok (.iconst 0, 1) := by decide +kernel
theorem d_SS_isOrLiesInside_46 : decode c_SS_isOrLiesInside 46 = .ok (.ireturn, 1) := by decide +kernel
theorem d_SS_read_0 : decode c_SS_read 0 = .ok (.aload_n 0, 1) := by decide +kernel
theorem d_SS_read_1 : decode c_SS_read 1 = .ok (.iload_n 1, 1) := by decide +kernel
theorem d_SS_read_2 : decode c_SS_read 2 = .ok (.invokevirtual 66, 3) := by decide +kernel
theorem d_SS_read_5 : decode c_SS_read 5 = .ok (.astore_n 3, 1) := by decide +kernel
theorem d_SS_read_6 : decode c_SS_read 6 = .ok (.aload_n 3, 1) := by decide +kernel
theorem d_SS_read_7 : decode c_SS_read 7 = .ok (.ifnull 30, 3) := by decide +kernel
theorem d_SS_read_10 : decode c_SS_read 10 = .ok (.iload_n 2, 1) := by decide +kernel
theorem d_SS_read_11 : decode c_SS_read 11 = .ok (.bipush 32, 2) := by decide +kernel
theorem d_SS_read_13 : decode c_SS_read 13 = .ok (.invokestatic 37, 3) := by decide +kernel
theorem d_SS_read_16 : decode c_SS_read 16 = .ok (.ifCond .eq 21, 3) := by decide +kernel
theorem d_SS_read_19 : decode c_SS_read 19 = .ok (.aload_n 3, 1) := by decide +kernel
theorem d_SS_read_20 : decode c_SS_read 20 = .ok (.iconst 1, 1) := by decide +kernel
theorem d_SS_read_21 : decode c_SS_read 21 = .ok (.invokevirtual 97, 3) := by decide +kernel
theorem d_SS_read_24 : decode c_SS_read 24 = .ok (.ifCond .eq 13, 3) := by decide +kernel
theorem d_SS_read_27 : decode c_SS_read 27 = .ok (.aload_n 3, 1) := by decide +kernel
theorem d_SS_read_28 : decode c_SS_read 28 = .ok (.getfield 76, 3) := by decide +kernel
theorem d_SS_read_31 : decode c_SS_read 31 = .ok (.getfield 136, 3) := by decide +kernel
theorem d_SS_read_34 : decode c_SS_read 34 = .ok (.ifCond .eq 5, 3) := by decide +kernel
theorem d_SS_read_37 : decode c_SS_read 37 = .ok (.iconst (-1), 1) := by decide +kernel
theorem d_SS_read_38 : decode c_SS_read 38 = .ok (.ireturn, 1) := by decide +kernel
theorem d_SS_read_39 : decode c_SS_read 39 = .ok (.aload_n 3, 1) := by decide +kernel
theorem d_SS_read_40 : decode c_SS_read 40 = .ok (.getfield 76, 3) := by decide +kernel
theorem d_SS_read_43 : decode c_SS_read 43 = .ok (.aload_n 3, 1) := by decide +kernel
theorem d_SS_read_44 : decode c_SS_read 44 = .ok (.iload_n 2, 1) := by decide +kernel
theorem d_SS_read_45 : decode c_SS_read 45 = .ok (.invokevirtual 139, 3) := by decide +kernel
theorem d_SS_read_48 : decode c_SS_read 48 = .ok (.ifCond .eq 6, 3) := by decide +kernel
theorem d_SS_read_51 : decode c_SS_read 51 = .ok (.bipush (-8), 2) := by decide +kernel
theorem d_SS_read_53 : decode c_SS_read 53 = .ok (.ireturn, 1) := by decide +kernel
theorem d_SS_read_54 : decode c_SS_read 54 = .ok (.aload_n 0, 1) := by decide +kernel
theorem d_SS_read_55 : decode c_SS_read 55 = .ok (.aload_n 3, 1) := by decide +kernel
theorem d_SS_read_56 : decode c_SS_read 56 = .ok (.getfield 76, 3) := by decide +kernel
theorem d_SS_read_59 : decode c_SS_read 59 = .ok (.getfield 143, 3) := by decide +kernel
theorem d_SS_read_62 : decode c_SS_read 62 = .ok (.iload_n 2, 1) := by decide +kernel
theorem d_SS_read_63 : decode c_SS_read 63 = .ok (.iaload, 1) := by decide +kernel
theorem d_SS_read_64 : decode c_SS_read 64 = .ok (.putfield 147, 3) := by decide +kernel
theorem d_SS_read_67 : decode c_SS_read 67 = .ok (.iconst 0, 1) := by decide +kernel
theorem d_SS_read_68 : decode c_SS_read 68 = .ok (.ireturn, 1) := by decide +kernel
theorem d_Nd_barsReading_0 : decode c_Nd_barsReading 0 = .ok (.iconst 0, 1) := by decide +kernel
theorem d_Nd_barsReading_1 : decode c_Nd_barsReading 1 = .ok (.istore_n 3, 1) := by decide +kernel
theorem d_Nd_barsReading_2 : decode c_Nd_barsReading 2 = .ok (.iload_n 3, 1) := by decide +kernel
theorem d_Nd_barsReading_3 : decode c_Nd_barsReading 3 = .ok (.aload_n 0, 1) := by decide +kernel
theorem d_Nd_barsReading_4 : decode c_Nd_barsReading 4 = .ok (.getfield 35, 3) := by decide +kernel
theorem d_Nd_barsReading_7 : decode c_Nd_barsReading 7 = .ok (.if_icmp .ge 49, 3) := by decide +kernel
theorem d_Nd_barsReading_10 : decode c_Nd_barsReading 10 = .ok (.aload_n 0, 1) := by decide +kernel
theorem d_Nd_barsReading_11 : decode c_Nd_barsReading 11 = .ok (.getfield 31, 3) := by decide +kernel
theorem d_Nd_barsReading_14 : decode c_Nd_barsReading 14 = .ok (.iload_n 3, 1) := by decide +kernel
theorem d_Nd_barsReading_15 : decode c_Nd_barsReading 15 = .ok (.aaload, 1) := by decide +kernel
theorem d_Nd_barsReading_16 : decode c_Nd_barsReading 16 = .ok (.iload_n 2, 1) := by decide +kernel
theorem d_Nd_barsReading_17 : decode c_Nd_barsReading 17 = .ok (.invokevirtual 38, 3) := by decide +kernel
theorem d_Nd_barsReading_20 : decode c_Nd_barsReading 20 = .ok (.ifCond .eq 30, 3) := by decide +kernel
theorem d_Nd_barsReading_23 : decode c_Nd_barsReading 23 = .ok (.aload_n 0, 1) := by decide +kernel
theorem d_Nd_barsReading_24 : decode c_Nd_barsReading 24 = .ok (.getfield 31, 3) := by decide +kernel
theorem d_Nd_barsReading_27 : decode c_Nd_barsReading 27 = .ok (.iload_n 3, 1) := by decide +kernel
theorem d_Nd_barsReading_28 : decode c_Nd_barsReading 28 = .ok (.aaload, 1) := by decide +kernel
theorem d_Nd_barsReading_29 : decode c_Nd_barsReading 29 = .ok (.getfield 42, 3) := by decide +kernel
theorem d_Nd_barsReading_32 : decode c_Nd_barsReading 32 = .ok (.ifCond .eq 18, 3) := by decide +kernel
theorem d_Nd_barsReading_35 : decode c_Nd_barsReading 35 = .ok (.aload_n 0, 1) := by decide +kernel
theorem d_Nd_barsReading_36 : decode c_Nd_barsReading 36 = .ok (.getfield 31, 3) := by decide +kernel
theorem d_Nd_barsReading_39 : decode c_Nd_barsReading 39 = .ok (.iload_n 3, 1) := by decide +kernel
theorem d_Nd_barsReading_40 : decode c_Nd_barsReading 40 = .ok (.aaload, 1) := by decide +kernel
theorem d_Nd_barsReading_41 : decode c_Nd_barsReading 41 = .ok (.getfield 45, 3) := by decide +kernel
theorem d_Nd_barsReading_44 : decode c_Nd_barsReading 44 = .ok (.aload_n 1, 1) := by decide +kernel
theorem d_Nd_barsReading_45 : decode c_Nd_barsReading 45 = .ok (.if_acmp .eq 5, 3) := by decide +kernel
theorem d_Nd_barsReading_48 : decode c_Nd_barsReading 48 = .ok (.iconst 1, 1) := by decide +kernel
theorem d_Nd_barsReading_49 : decode c_Nd_barsReading 49 = .ok (.ireturn, 1) := by decide +kernel
theorem d_Nd_barsReading_50 : decode c_Nd_barsReading 50 = .ok (.iinc 3 1, 3) := by decide +kernel
theorem d_Nd_barsReading_53 : decode c_Nd_barsReading 53 = .ok (.goto (-51), 3) := by decide +kernel
theorem d_Nd_barsReading_56 : decode c_Nd_barsReading 56 = .ok (.iconst 0, 1) := by decide +kernel
theorem d_Nd_barsReading_57 : decode c_Nd_barsReading 57 = .ok (.ireturn, 1) := by decide +kernel
theorem d_Lk_covers_0 : decode c_Lk_covers 0 = .ok (.iload_n 1, 1) := by decide +kernel
theorem d_Lk_covers_1 : decode c_Lk_covers 1 = .ok (.aload_n 0, 1) := by decide +kernel
theorem d_Lk_covers_2 : decode c_Lk_covers 2 = .ok (.getfield 13, 3) := by decide +kernel
theorem d_Lk_covers_5 : decode c_Lk_covers 5 = .ok (.if_icmp .lt 20, 3) := by decide +kernel
theorem d_Lk_covers_8 : decode c_Lk_covers 8 = .ok (.iload_n 1, 1) := by decide +kernel
theorem d_Lk_covers_9 : decode c_Lk_covers 9 = .ok (.aload_n 0, 1) := by decide +kernel
theorem d_Lk_covers_10 : decode c_Lk_covers 10 = .ok (.getfield 13, 3) := by decide +kernel
theorem d_Lk_covers_13 : decode c_Lk_covers 13 = .ok (.aload_n 0, 1) := by decide +kernel
theorem d_Lk_covers_14 : decode c_Lk_covers 14 = .ok (.getfield 17, 3) := by decide +kernel
theorem d_Lk_covers_17 : decode c_Lk_covers 17 = .ok (.iadd, 1) := by decide +kernel
theorem d_Lk_covers_18 : decode c_Lk_covers 18 = .ok (.if_icmp .ge 7, 3) := by decide +kernel
theorem d_Lk_covers_21 : decode c_Lk_covers 21 = .ok (.iconst 1, 1) := by decide +kernel
theorem d_Lk_covers_22 : decode c_Lk_covers 22 = .ok (.goto 4, 3) := by decide +kernel
theorem d_Lk_covers_25 : decode c_Lk_covers 25 = .ok (.iconst 0, 1) := by decide +kernel
theorem d_Lk_covers_26 : decode c_Lk_covers 26 = .ok (.ireturn, 1) := by decide +kernel
theorem d_SS_value_0 : decode c_SS_value 0 = .ok (.aload_n 0, 1) := by decide +kernel
theorem d_SS_value_1 : decode c_SS_value 1 = .ok (.getfield 147, 3) := by decide +kernel
theorem d_SS_value_4 : decode c_SS_value 4 = .ok (.ireturn, 1) := by decide +kernel
theorem d_SS_write_0 : decode c_SS_write 0 = .ok (.aload_n 0, 1) := by decide +kernel
theorem d_SS_write_1 : decode c_SS_write 1 = .ok (.iload_n 1, 1) := by decide +kernel
theorem d_SS_write_2 : decode c_SS_write 2 = .ok (.invokevirtual 66, 3) := by decide +kernel
theorem d_SS_write_5 : decode c_SS_write 5 = .ok (.astore 4, 2) := by decide +kernel
theorem d_SS_write_7 : decode c_SS_write 7 = .ok (.aload 4, 2) := by decide +kernel
theorem d_SS_write_9 : decode c_SS_write 9 = .ok (.ifnull 32, 3) := by decide +kernel
theorem d_SS_write_12 : decode c_SS_write 12 = .ok (.iload_n 2, 1) := by decide +kernel
theorem d_SS_write_13 : decode c_SS_write 13 = .ok (.bipush 32, 2) := by decide +kernel
theorem d_SS_write_15 : decode c_SS_write 15 = .ok (.invokestatic 37, 3) := by decide +kernel
theorem d_SS_write_18 : decode c_SS_write 18 = .ok (.ifCond .eq 23, 3) := by decide +kernel
theorem d_SS_write_21 : decode c_SS_write 21 = .ok (.aload 4, 2) := by decide +kernel
theorem d_SS_write_23 : decode c_SS_write 23 = .ok (.iconst 2, 1) := by decide +kernel
theorem d_SS_write_24 : decode c_SS_write 24 = .ok (.invokevirtual 97, 3) := by decide +kernel
theorem d_SS_write_27 : decode c_SS_write 27 = .ok (.ifCond .eq 14, 3) := by decide +kernel
theorem d_SS_write_30 : decode c_SS_write 30 = .ok (.aload 4, 2) := by decide +kernel
theorem d_SS_write_32 : decode c_SS_write 32 = .ok (.getfield 76, 3) := by decide +kernel
theorem d_SS_write_35 : decode c_SS_write 35 = .ok (.getfield 136, 3) := by decide +kernel
theorem d_SS_write_38 : decode c_SS_write 38 = .ok (.ifCond .eq 5, 3) := by decide +kernel
theorem d_SS_write_41 : decode c_SS_write 41 = .ok (.iconst (-1), 1) := by decide +kernel
theorem d_SS_write_42 : decode c_SS_write 42 = .ok (.ireturn, 1) := by decide +kernel
theorem d_SS_write_43 : decode c_SS_write 43 = .ok (.aload 4, 2) := by decide +kernel
theorem d_SS_write_45 : decode c_SS_write 45 = .ok (.getfield 76, 3) := by decide +kernel
theorem d_SS_write_48 : decode c_SS_write 48 = .ok (.aload 4, 2) := by decide +kernel
theorem d_SS_write_50 : decode c_SS_write 50 = .ok (.iload_n 2, 1) := by decide +kernel
theorem d_SS_write_51 : decode c_SS_write 51 = .ok (.invokevirtual 150, 3) := by decide +kernel
theorem d_SS_write_54 : decode c_SS_write 54 = .ok (.ifCond .eq 6, 3) := by decide +kernel
theorem d_SS_write_57 : decode c_SS_write 57 = .ok (.bipush (-8), 2) := by decide +kernel
theorem d_SS_write_59 : decode c_SS_write 59 = .ok (.ireturn, 1) := by decide +kernel
theorem d_SS_write_60 : decode c_SS_write 60 = .ok (.aload_n 0, 1) := by decide +kernel
theorem d_SS_write_61 : decode c_SS_write 61 = .ok (.aload 4, 2) := by decide +kernel
theorem d_SS_write_63 : decode c_SS_write 63 = .ok (.invokevirtual 153, 3) := by decide +kernel
theorem d_SS_write_66 : decode c_SS_write 66 = .ok (.aload_n 0, 1) := by decide +kernel
theorem d_SS_write_67 : decode c_SS_write 67 = .ok (.getfield 33, 3) := by decide +kernel
theorem d_SS_write_70 : decode c_SS_write 70 = .ok (.new 121, 3) := by decide +kernel
theorem d_SS_write_73 : decode c_SS_write 73 = .ok (.dup, 1) := by decide +kernel
theorem d_SS_write_74 : decode c_SS_write 74 = .ok (.iconst 3, 1) := by decide +kernel
theorem d_SS_write_75 : decode c_SS_write 75 = .ok (.aload 4, 2) := by decide +kernel
theorem d_SS_write_77 : decode c_SS_write 77 = .ok (.getfield 76, 3) := by decide +kernel
theorem d_SS_write_80 : decode c_SS_write 80 = .ok (.iload_n 2, 1) := by decide +kernel
theorem d_SS_write_81 : decode c_SS_write 81 = .ok (.aload 4, 2) := by decide +kernel
theorem d_SS_write_83 : decode c_SS_write 83 = .ok (.getfield 76, 3) := by decide +kernel
theorem d_SS_write_86 : decode c_SS_write 86 = .ok (.getfield 143, 3) := by decide +kernel
theorem d_SS_write_89 : decode c_SS_write 89 = .ok (.iload_n 2, 1) := by decide +kernel
theorem d_SS_write_90 : decode c_SS_write 90 = .ok (.iaload, 1) := by decide +kernel
theorem d_SS_write_91 : decode c_SS_write 91 = .ok (.invokespecial 129, 3) := by decide +kernel
theorem d_SS_write_94 : decode c_SS_write 94 = .ok (.invokevirtual 132, 3) := by decide +kernel
theorem d_SS_write_97 : decode c_SS_write 97 = .ok (.aload 4, 2) := by decide +kernel
theorem d_SS_write_99 : decode c_SS_write 99 = .ok (.getfield 76, 3) := by decide +kernel
theorem d_SS_write_102 : decode c_SS_write 102 = .ok (.getfield 143, 3) := by decide +kernel
theorem d_SS_write_105 : decode c_SS_write 105 = .ok (.iload_n 2, 1) := by decide +kernel
theorem d_SS_write_106 : decode c_SS_write 106 = .ok (.iload_n 3, 1) := by decide +kernel
theorem d_SS_write_107 : decode c_SS_write 107 = .ok (.iastore, 1) := by decide +kernel
theorem d_SS_write_108 : decode c_SS_write 108 = .ok (.iconst 0, 1) := by decide +kernel
theorem d_SS_write_109 : decode c_SS_write 109 = .ok (.ireturn, 1) := by decide +kernel
theorem d_Nd_barsWriting_0 : decode c_Nd_barsWriting 0 = .ok (.iconst 0, 1) := by decide +kernel
theorem d_Nd_barsWriting_1 : decode c_Nd_barsWriting 1 = .ok (.istore_n 3, 1) := by decide +kernel
theorem d_Nd_barsWriting_2 : decode c_Nd_barsWriting 2 = .ok (.iload_n 3, 1) := by decide +kernel
theorem d_Nd_barsWriting_3 : decode c_Nd_barsWriting 3 = .ok (.aload_n 0, 1) := by decide +kernel
theorem d_Nd_barsWriting_4 : decode c_Nd_barsWriting 4 = .ok (.getfield 35, 3) := by decide +kernel
theorem d_Nd_barsWriting_7 : decode c_Nd_barsWriting 7 = .ok (.if_icmp .ge 61, 3) := by decide +kernel
theorem d_Nd_barsWriting_10 : decode c_Nd_barsWriting 10 = .ok (.aload_n 0, 1) := by decide +kernel
theorem d_Nd_barsWriting_11 : decode c_Nd_barsWriting 11 = .ok (.getfield 31, 3) := by decide +kernel
theorem d_Nd_barsWriting_14 : decode c_Nd_barsWriting 14 = .ok (.iload_n 3, 1) := by decide +kernel
theorem d_Nd_barsWriting_15 : decode c_Nd_barsWriting 15 = .ok (.aaload, 1) := by decide +kernel
theorem d_Nd_barsWriting_16 : decode c_Nd_barsWriting 16 = .ok (.getfield 42, 3) := by decide +kernel
theorem d_Nd_barsWriting_19 : decode c_Nd_barsWriting 19 = .ok (.ifCond .eq 20, 3) := by decide +kernel
theorem d_Nd_barsWriting_22 : decode c_Nd_barsWriting 22 = .ok (.aload_n 0, 1) := by decide +kernel
theorem d_Nd_barsWriting_23 : decode c_Nd_barsWriting 23 = .ok (.getfield 31, 3) := by decide +kernel
theorem d_Nd_barsWriting_26 : decode c_Nd_barsWriting 26 = .ok (.iload_n 3, 1) := by decide +kernel
theorem d_Nd_barsWriting_27 : decode c_Nd_barsWriting 27 = .ok (.aaload, 1) := by decide +kernel
theorem d_Nd_barsWriting_28 : decode c_Nd_barsWriting 28 = .ok (.getfield 45, 3) := by decide +kernel
theorem d_Nd_barsWriting_31 : decode c_Nd_barsWriting 31 = .ok (.aload_n 1, 1) := by decide +kernel
theorem d_Nd_barsWriting_32 : decode c_Nd_barsWriting 32 = .ok (.if_acmp .ne 7, 3) := by decide +kernel
theorem d_Nd_barsWriting_35 : decode c_Nd_barsWriting 35 = .ok (.iconst 1, 1) := by decide +kernel
theorem d_Nd_barsWriting_36 : decode c_Nd_barsWriting 36 = .ok (.goto 4, 3) := by decide +kernel
theorem d_Nd_barsWriting_39 : decode c_Nd_barsWriting 39 = .ok (.iconst 0, 1) := by decide +kernel
theorem d_Nd_barsWriting_40 : decode c_Nd_barsWriting 40 = .ok (.istore 4, 2) := by decide +kernel
theorem d_Nd_barsWriting_42 : decode c_Nd_barsWriting 42 = .ok (.aload_n 0, 1) := by decide +kernel
theorem d_Nd_barsWriting_43 : decode c_Nd_barsWriting 43 = .ok (.getfield 31, 3) := by decide +kernel
theorem d_Nd_barsWriting_46 : decode c_Nd_barsWriting 46 = .ok (.iload_n 3, 1) := by decide +kernel
theorem d_Nd_barsWriting_47 : decode c_Nd_barsWriting 47 = .ok (.aaload, 1) := by decide +kernel
theorem d_Nd_barsWriting_48 : decode c_Nd_barsWriting 48 = .ok (.iload_n 2, 1) := by decide +kernel
theorem d_Nd_barsWriting_49 : decode c_Nd_barsWriting 49 = .ok (.invokevirtual 38, 3) := by decide +kernel
theorem d_Nd_barsWriting_52 : decode c_Nd_barsWriting 52 = .ok (.ifCond .eq 10, 3) := by decide +kernel
theorem d_Nd_barsWriting_55 : decode c_Nd_barsWriting 55 = .ok (.iload 4, 2) := by decide +kernel
theorem d_Nd_barsWriting_57 : decode c_Nd_barsWriting 57 = .ok (.ifCond .ne 5, 3) := by decide +kernel
theorem d_Nd_barsWriting_60 : decode c_Nd_barsWriting 60 = .ok (.iconst 1, 1) := by decide +kernel
theorem d_Nd_barsWriting_61 : decode c_Nd_barsWriting 61 = .ok (.ireturn, 1) := by decide +kernel
theorem d_Nd_barsWriting_62 : decode c_Nd_barsWriting 62 = .ok (.iinc 3 1, 3) := by decide +kernel
theorem d_Nd_barsWriting_65 : decode c_Nd_barsWriting 65 = .ok (.goto (-63), 3) := by decide +kernel
theorem d_Nd_barsWriting_68 : decode c_Nd_barsWriting 68 = .ok (.iconst 0, 1) := by decide +kernel
theorem d_Nd_barsWriting_69 : decode c_Nd_barsWriting 69 = .ok (.ireturn, 1) := by decide +kernel
theorem d_SS_endSharedGrantsBeside_0 : decode c_SS_endSharedGrantsBeside 0 = .ok (.iconst 0, 1) := by decide +kernel
theorem d_SS_endSharedGrantsBeside_1 : decode c_SS_endSharedGrantsBeside 1 = .ok (.istore_n 2, 1) := by decide +kernel
theorem d_SS_endSharedGrantsBeside_2 : decode c_SS_endSharedGrantsBeside 2 = .ok (.iload_n 2, 1) := by decide +kernel
theorem d_SS_endSharedGrantsBeside_3 : decode c_SS_endSharedGrantsBeside 3 = .ok (.aload_n 0, 1) := by decide +kernel
theorem d_SS_endSharedGrantsBeside_4 : decode c_SS_endSharedGrantsBeside 4 = .ok (.getfield 94, 3) := by decide +kernel
theorem d_SS_endSharedGrantsBeside_7 : decode c_SS_endSharedGrantsBeside 7 = .ok (.if_icmp .ge 45, 3) := by decide +kernel
theorem d_SS_endSharedGrantsBeside_10 : decode c_SS_endSharedGrantsBeside 10 = .ok (.aload_n 0, 1) := by decide +kernel
theorem d_SS_endSharedGrantsBeside_11 : decode c_SS_endSharedGrantsBeside 11 = .ok (.getfield 20, 3) := by decide +kernel
theorem d_SS_endSharedGrantsBeside_14 : decode c_SS_endSharedGrantsBeside 14 = .ok (.iload_n 2, 1) := by decide +kernel
theorem d_SS_endSharedGrantsBeside_15 : decode c_SS_endSharedGrantsBeside 15 = .ok (.aaload, 1) := by decide +kernel
theorem d_SS_endSharedGrantsBeside_16 : decode c_SS_endSharedGrantsBeside 16 = .ok (.astore_n 3, 1) := by decide +kernel
theorem d_SS_endSharedGrantsBeside_17 : decode c_SS_endSharedGrantsBeside 17 = .ok (.aload_n 3, 1) := by decide +kernel
theorem d_SS_endSharedGrantsBeside_18 : decode c_SS_endSharedGrantsBeside 18 = .ok (.aload_n 1, 1) := by decide +kernel
theorem d_SS_endSharedGrantsBeside_19 : decode c_SS_endSharedGrantsBeside 19 = .ok (.if_acmp .eq 27, 3) := by decide +kernel
theorem d_SS_endSharedGrantsBeside_22 : decode c_SS_endSharedGrantsBeside 22 = .ok (.aload_n 3, 1) := by decide +kernel
theorem d_SS_endSharedGrantsBeside_23 : decode c_SS_endSharedGrantsBeside 23 = .ok (.getfield 76, 3) := by decide +kernel
theorem d_SS_endSharedGrantsBeside_26 : decode c_SS_endSharedGrantsBeside 26 = .ok (.aload_n 1, 1) := by decide +kernel
theorem d_SS_endSharedGrantsBeside_27 : decode c_SS_endSharedGrantsBeside 27 = .ok (.getfield 76, 3) := by decide +kernel
theorem d_SS_endSharedGrantsBeside_30 : decode c_SS_endSharedGrantsBeside 30 = .ok (.if_acmp .ne 16, 3) := by decide +kernel
theorem d_SS_endSharedGrantsBeside_33 : decode c_SS_endSharedGrantsBeside 33 = .ok (.aload_n 3, 1) := by decide +kernel
theorem d_SS_endSharedGrantsBeside_34 : decode c_SS_endSharedGrantsBeside 34 = .ok (.getfield 70, 3) := by decide +kernel
theorem d_SS_endSharedGrantsBeside_37 : decode c_SS_endSharedGrantsBeside 37 = .ok (.iconst 1, 1) := by decide +kernel
theorem d_SS_endSharedGrantsBeside_38 : decode c_SS_endSharedGrantsBeside 38 = .ok (.if_icmp .ne 8, 3) := by decide +kernel
theorem d_SS_endSharedGrantsBeside_41 : decode c_SS_endSharedGrantsBeside 41 = .ok (.aload_n 3, 1) := by decide +kernel
theorem d_SS_endSharedGrantsBeside_42 : decode c_SS_endSharedGrantsBeside 42 = .ok (.iconst 0, 1) := by decide +kernel
theorem d_SS_endSharedGrantsBeside_43 : decode c_SS_endSharedGrantsBeside 43 = .ok (.putfield 70, 3) := by decide +kernel
theorem d_SS_endSharedGrantsBeside_46 : decode c_SS_endSharedGrantsBeside 46 = .ok (.iinc 2 1, 3) := by decide +kernel
theorem d_SS_endSharedGrantsBeside_49 : decode c_SS_endSharedGrantsBeside 49 = .ok (.goto (-47), 3) := by decide +kernel
theorem d_SS_endSharedGrantsBeside_52 : decode c_SS_endSharedGrantsBeside 52 = .ok (.return_, 1) := by decide +kernel
theorem d_SS_lock_0 : decode c_SS_lock 0 = .ok (.aload_n 0, 1) := by decide +kernel
theorem d_SS_lock_1 : decode c_SS_lock 1 = .ok (.iload_n 1, 1) := by decide +kernel
theorem d_SS_lock_2 : decode c_SS_lock 2 = .ok (.invokevirtual 66, 3) := by decide +kernel
theorem d_SS_lock_5 : decode c_SS_lock 5 = .ok (.astore 5, 2) := by decide +kernel
theorem d_SS_lock_7 : decode c_SS_lock 7 = .ok (.aload 5, 2) := by decide +kernel
theorem d_SS_lock_9 : decode c_SS_lock 9 = .ok (.ifnull 22, 3) := by decide +kernel
theorem d_SS_lock_12 : decode c_SS_lock 12 = .ok (.iload_n 2, 1) := by decide +kernel
theorem d_SS_lock_13 : decode c_SS_lock 13 = .ok (.iload_n 3, 1) := by decide +kernel
theorem d_SS_lock_14 : decode c_SS_lock 14 = .ok (.invokestatic 156, 3) := by decide +kernel
theorem d_SS_lock_17 : decode c_SS_lock 17 = .ok (.ifCond .eq 14, 3) := by decide +kernel
theorem d_SS_lock_20 : decode c_SS_lock 20 = .ok (.aload 5, 2) := by decide +kernel
theorem d_SS_lock_22 : decode c_SS_lock 22 = .ok (.getfield 76, 3) := by decide +kernel
theorem d_SS_lock_25 : decode c_SS_lock 25 = .ok (.getfield 136, 3) := by decide +kernel
theorem d_SS_lock_28 : decode c_SS_lock 28 = .ok (.ifCond .eq 5, 3) := by decide +kernel
theorem d_SS_lock_31 : decode c_SS_lock 31 = .ok (.iconst (-1), 1) := by decide +kernel
theorem d_SS_lock_32 : decode c_SS_lock 32 = .ok (.ireturn, 1) := by decide +kernel
theorem d_SS_lock_33 : decode c_SS_lock 33 = .ok (.new 159, 3) := by decide +kernel
theorem d_SS_lock_36 : decode c_SS_lock 36 = .ok (.dup, 1) := by decide +kernel
theorem d_SS_lock_37 : decode c_SS_lock 37 = .ok (.aload 5, 2) := by decide +kernel
theorem d_SS_lock_39 : decode c_SS_lock 39 = .ok (.iload_n 2, 1) := by decide +kernel
theorem d_SS_lock_40 : decode c_SS_lock 40 = .ok (.iload_n 3, 1) := by decide +kernel
theorem d_SS_lock_41 : decode c_SS_lock 41 = .ok (.iload 4, 2) := by decide +kernel
theorem d_SS_lock_43 : decode c_SS_lock 43 = .ok (.invokespecial 161, 3) := by decide +kernel
theorem d_SS_lock_46 : decode c_SS_lock 46 = .ok (.astore 6, 2) := by decide +kernel
theorem d_SS_lock_48 : decode c_SS_lock 48 = .ok (.aload 5, 2) := by decide +kernel
theorem d_SS_lock_50 : decode c_SS_lock 50 = .ok (.getfield 76, 3) := by decide +kernel
theorem d_SS_lock_53 : decode c_SS_lock 53 = .ok (.aload 6, 2) := by decide +kernel
theorem d_SS_lock_55 : decode c_SS_lock 55 = .ok (.invokevirtual 164, 3) := by decide +kernel
theorem d_SS_lock_58 : decode c_SS_lock 58 = .ok (.ifCond .eq 6, 3) := by decide +kernel
theorem d_SS_lock_61 : decode c_SS_lock 61 = .ok (.bipush (-8), 2) := by decide +kernel
theorem d_SS_lock_63 : decode c_SS_lock 63 = .ok (.ireturn, 1) := by decide +kernel
theorem d_SS_lock_64 : decode c_SS_lock 64 = .ok (.aload 5, 2) := by decide +kernel
theorem d_SS_lock_66 : decode c_SS_lock 66 = .ok (.getfield 76, 3) := by decide +kernel
theorem d_SS_lock_69 : decode c_SS_lock 69 = .ok (.getfield 168, 3) := by decide +kernel
theorem d_SS_lock_72 : decode c_SS_lock 72 = .ok (.bipush 8, 2) := by decide +kernel
theorem d_SS_lock_74 : decode c_SS_lock 74 = .ok (.if_icmp .lt 6, 3) := by decide +kernel
theorem d_SS_lock_77 : decode c_SS_lock 77 = .ok (.bipush (-2), 2) := by decide +kernel
theorem d_SS_lock_79 : decode c_SS_lock 79 = .ok (.ireturn, 1) := by decide +kernel
theorem d_SS_lock_80 : decode c_SS_lock 80 = .ok (.aload 5, 2) := by decide +kernel
theorem d_SS_lock_82 : decode c_SS_lock 82 = .ok (.getfield 76, 3) := by decide +kernel
theorem d_SS_lock_85 : decode c_SS_lock 85 = .ok (.aload 6, 2) := by decide +kernel
theorem d_SS_lock_87 : decode c_SS_lock 87 = .ok (.invokevirtual 171, 3) := by decide +kernel
theorem d_SS_lock_90 : decode c_SS_lock 90 = .ok (.aload 5, 2) := by decide +kernel
theorem d_SS_lock_92 : decode c_SS_lock 92 = .ok (.getfield 76, 3) := by decide +kernel
theorem d_SS_lock_95 : decode c_SS_lock 95 = .ok (.getfield 168, 3) := by decide +kernel
theorem d_SS_lock_98 : decode c_SS_lock 98 = .ok (.ireturn, 1) := by decide +kernel
theorem d_SS_isRange_0 : decode c_SS_isRange 0 = .ok (.iload_n 0, 1) := by decide +kernel
theorem d_SS_isRange_1 : decode c_SS_isRange 1 = .ok (.bipush 32, 2) := by decide +kernel
theorem d_SS_isRange_3 : decode c_SS_isRange 3 = .ok (.invokestatic 37, 3) := by decide +kernel
theorem d_SS_isRange_6 : decode c_SS_isRange 6 = .ok (.ifCond .eq 26, 3) := by decide +kernel
theorem d_SS_isRange_9 : decode c_SS_isRange 9 = .ok (.iload_n 1, 1) := by decide +kernel
theorem d_SS_isRange_10 : decode c_SS_isRange 10 = .ok (.iconst 1, 1) := by decide +kernel
theorem d_SS_isRange_11 : decode c_SS_isRange 11 = .ok (.isub, 1) := by decide +kernel
theorem d_SS_isRange_12 : decode c_SS_isRange 12 = .ok (.bipush 32, 2) := by decide +kernel
theorem d_SS_isRange_14 : decode c_SS_isRange 14 = .ok (.invokestatic 37, 3) := by decide +kernel
theorem d_SS_isRange_17 : decode c_SS_isRange 17 = .ok (.ifCond .eq 15, 3) := by decide +kernel
theorem d_SS_isRange_20 : decode c_SS_isRange 20 = .ok (.iload_n 0, 1) := by decide +kernel
theorem d_SS_isRange_21 : decode c_SS_isRange 21 = .ok (.iload_n 1, 1) := by decide +kernel
theorem d_SS_isRange_22 : decode c_SS_isRange 22 = .ok (.iadd, 1) := by decide +kernel
theorem d_SS_isRange_23 : decode c_SS_isRange 23 = .ok (.bipush 32, 2) := by decide +kernel
theorem d_SS_isRange_25 : decode c_SS_isRange 25 = .ok (.if_icmp .gt 7, 3) := by decide +kernel
theorem d_SS_isRange_28 : decode c_SS_isRange 28 = .ok (.iconst 1, 1) := by decide +kernel
theorem d_SS_isRange_29 : decode c_SS_isRange 29 = .ok (.goto 4, 3) := by decide +kernel
theorem d_SS_isRange_32 : decode c_SS_isRange 32 = .ok (.iconst 0, 1) := by decide +kernel
theorem d_SS_isRange_33 : decode c_SS_isRange 33 = .ok (.ireturn, 1) := by decide +kernel
theorem d_Lk_init_0 : decode c_Lk_init 0 = .ok (.aload_n 0, 1) := by decide +kernel
theorem d_Lk_init_1 : decode c_Lk_init 1 = .ok (.invokespecial 1, 3) := by decide +kernel
theorem d_Lk_init_4 : decode c_Lk_init 4 = .ok (.aload_n 0, 1) := by decide +kernel
theorem d_Lk_init_5 : decode c_Lk_init 5 = .ok (.aload_n 1, 1) := by decide +kernel
theorem d_Lk_init_6 : decode c_Lk_init 6 = .ok (.putfield 7, 3) := by decide +kernel
theorem d_Lk_init_9 : decode c_Lk_init 9 = .ok (.aload_n 0, 1) := by decide +kernel
theorem d_Lk_init_10 : decode c_Lk_init 10 = .ok (.iload_n 2, 1) := by decide +kernel
theorem d_Lk_init_11 : decode c_Lk_init 11 = .ok (.putfield 13, 3) := by decide +kernel
theorem d_Lk_init_14 : decode c_Lk_init 14 = .ok (.aload_n 0, 1) := by decide +kernel
theorem d_Lk_init_15 : decode c_Lk_init 15 = .ok (.iload_n 3, 1) := by decide +kernel
theorem d_Lk_init_16 : decode c_Lk_init 16 = .ok (.putfield 17, 3) := by decide +kernel
theorem d_Lk_init_19 : decode c_Lk_init 19 = .ok (.aload_n 0, 1) := by decide +kernel
theorem d_Lk_init_20 : decode c_Lk_init 20 = .ok (.iload 4, 2) := by decide +kernel
theorem d_Lk_init_22 : decode c_Lk_init 22 = .ok (.putfield 20, 3) := by decide +kernel
theorem d_Lk_init_25 : decode c_Lk_init 25 = .ok (.return_, 1) := by decide +kernel
theorem d_Nd_barsLocking_0 : decode c_Nd_barsLocking 0 = .ok (.iconst 0, 1) := by decide +kernel
theorem d_Nd_barsLocking_1 : decode c_Nd_barsLocking 1 = .ok (.istore_n 2, 1) := by decide +kernel
theorem d_Nd_barsLocking_2 : decode c_Nd_barsLocking 2 = .ok (.iload_n 2, 1) := by decide +kernel
theorem d_Nd_barsLocking_3 : decode c_Nd_barsLocking 3 = .ok (.aload_n 0, 1) := by decide +kernel
theorem d_Nd_barsLocking_4 : decode c_Nd_barsLocking 4 = .ok (.getfield 35, 3) := by decide +kernel
theorem d_Nd_barsLocking_7 : decode c_Nd_barsLocking 7 = .ok (.if_icmp .ge 43, 3) := by decide +kernel
theorem d_Nd_barsLocking_10 : decode c_Nd_barsLocking 10 = .ok (.aload_n 0, 1) := by decide +kernel
theorem d_Nd_barsLocking_11 : decode c_Nd_barsLocking 11 = .ok (.getfield 31, 3) := by decide +kernel
theorem d_Nd_barsLocking_14 : decode c_Nd_barsLocking 14 = .ok (.iload_n 2, 1) := by decide +kernel
theorem d_Nd_barsLocking_15 : decode c_Nd_barsLocking 15 = .ok (.aaload, 1) := by decide +kernel
theorem d_Nd_barsLocking_16 : decode c_Nd_barsLocking 16 = .ok (.aload_n 1, 1) := by decide +kernel
theorem d_Nd_barsLocking_17 : decode c_Nd_barsLocking 17 = .ok (.invokevirtual 49, 3) := by decide +kernel
theorem d_Nd_barsLocking_20 : decode c_Nd_barsLocking 20 = .ok (.ifCond .eq 24, 3) := by decide +kernel
theorem d_Nd_barsLocking_23 : decode c_Nd_barsLocking 23 = .ok (.aload_n 0, 1) := by decide +kernel
theorem d_Nd_barsLocking_24 : decode c_Nd_barsLocking 24 = .ok (.getfield 31, 3) := by decide +kernel
theorem d_Nd_barsLocking_27 : decode c_Nd_barsLocking 27 = .ok (.iload_n 2, 1) := by decide +kernel
theorem d_Nd_barsLocking_28 : decode c_Nd_barsLocking 28 = .ok (.aaload, 1) := by decide +kernel
theorem d_Nd_barsLocking_29 : decode c_Nd_barsLocking 29 = .ok (.getfield 42, 3) := by decide +kernel
theorem d_Nd_barsLocking_32 : decode c_Nd_barsLocking 32 = .ok (.ifCond .ne 10, 3) := by decide +kernel
theorem d_Nd_barsLocking_35 : decode c_Nd_barsLocking 35 = .ok (.aload_n 1, 1) := by decide +kernel
theorem d_Nd_barsLocking_36 : decode c_Nd_barsLocking 36 = .ok (.getfield 42, 3) := by decide +kernel
theorem d_Nd_barsLocking_39 : decode c_Nd_barsLocking 39 = .ok (.ifCond .eq 5, 3) := by decide +kernel
theorem d_Nd_barsLocking_42 : decode c_Nd_barsLocking 42 = .ok (.iconst 1, 1) := by decide +kernel
theorem d_Nd_barsLocking_43 : decode c_Nd_barsLocking 43 = .ok (.ireturn, 1) := by decide +kernel
theorem d_Nd_barsLocking_44 : decode c_Nd_barsLocking 44 = .ok (.iinc 2 1, 3) := by decide +kernel
theorem d_Nd_barsLocking_47 : decode c_Nd_barsLocking 47 = .ok (.goto (-45), 3) := by decide +kernel
theorem d_Nd_barsLocking_50 : decode c_Nd_barsLocking 50 = .ok (.iconst 0, 1) := by decide +kernel
theorem d_Nd_barsLocking_51 : decode c_Nd_barsLocking 51 = .ok (.ireturn, 1) := by decide +kernel
theorem d_Lk_meets_0 : decode c_Lk_meets 0 = .ok (.aload_n 0, 1) := by decide +kernel
theorem d_Lk_meets_1 : decode c_Lk_meets 1 = .ok (.aload_n 1, 1) := by decide +kernel
theorem d_Lk_meets_2 : decode c_Lk_meets 2 = .ok (.getfield 13, 3) := by decide +kernel
theorem d_Lk_meets_5 : decode c_Lk_meets 5 = .ok (.invokevirtual 24, 3) := by decide +kernel
theorem d_Lk_meets_8 : decode c_Lk_meets 8 = .ok (.ifCond .ne 14, 3) := by decide +kernel
theorem d_Lk_meets_11 : decode c_Lk_meets 11 = .ok (.aload_n 1, 1) := by decide +kernel
theorem d_Lk_meets_12 : decode c_Lk_meets 12 = .ok (.aload_n 0, 1) := by decide +kernel
theorem d_Lk_meets_13 : decode c_Lk_meets 13 = .ok (.getfield 13, 3) := by decide +kernel
theorem d_Lk_meets_16 : decode c_Lk_meets 16 = .ok (.invokevirtual 24, 3) := by decide +kernel
theorem d_Lk_meets_19 : decode c_Lk_meets 19 = .ok (.ifCond .eq 7, 3) := by decide +kernel
theorem d_Lk_meets_22 : decode c_Lk_meets 22 = .ok (.iconst 1, 1) := by decide +kernel
theorem d_Lk_meets_23 : decode c_Lk_meets 23 = .ok (.goto 4, 3) := by decide +kernel
theorem d_Lk_meets_26 : decode c_Lk_meets 26 = .ok (.iconst 0, 1) := by decide +kernel
theorem d_Lk_meets_27 : decode c_Lk_meets 27 = .ok (.ireturn, 1) := by decide +kernel
theorem d_Nd_addLock_0 : decode c_Nd_addLock 0 = .ok (.aload_n 0, 1) := by decide +kernel
theorem d_Nd_addLock_1 : decode c_Nd_addLock 1 = .ok (.getfield 35, 3) := by decide +kernel
theorem d_Nd_addLock_4 : decode c_Nd_addLock 4 = .ok (.aload_n 0, 1) := by decide +kernel
theorem d_Nd_addLock_5 : decode c_Nd_addLock 5 = .ok (.getfield 31, 3) := by decide +kernel
theorem d_Nd_addLock_8 : decode c_Nd_addLock 8 = .ok (.arraylength, 1) := by decide +kernel
theorem d_Nd_addLock_9 : decode c_Nd_addLock 9 = .ok (.if_icmp .ge 23, 3) := by decide +kernel
theorem d_Nd_addLock_12 : decode c_Nd_addLock 12 = .ok (.aload_n 0, 1) := by decide +kernel
theorem d_Nd_addLock_13 : decode c_Nd_addLock 13 = .ok (.getfield 31, 3) := by decide +kernel
theorem d_Nd_addLock_16 : decode c_Nd_addLock 16 = .ok (.aload_n 0, 1) := by decide +kernel
theorem d_Nd_addLock_17 : decode c_Nd_addLock 17 = .ok (.getfield 35, 3) := by decide +kernel
theorem d_Nd_addLock_20 : decode c_Nd_addLock 20 = .ok (.aload_n 1, 1) := by decide +kernel
theorem d_Nd_addLock_21 : decode c_Nd_addLock 21 = .ok (.aastore, 1) := by decide +kernel
theorem d_Nd_addLock_22 : decode c_Nd_addLock 22 = .ok (.aload_n 0, 1) := by decide +kernel
theorem d_Nd_addLock_23 : decode c_Nd_addLock 23 = .ok (.dup, 1) := by decide +kernel
theorem d_Nd_addLock_24 : decode c_Nd_addLock 24 = .ok (.getfield 35, 3) := by decide +kernel
theorem d_Nd_addLock_27 : decode c_Nd_addLock 27 = .ok (.iconst 1, 1) := by decide +kernel
theorem d_Nd_addLock_28 : decode c_Nd_addLock 28 = .ok (.iadd, 1) := by decide +kernel
theorem d_Nd_addLock_29 : decode c_Nd_addLock 29 = .ok (.putfield 35, 3) := by decide +kernel
theorem d_Nd_addLock_32 : decode c_Nd_addLock 32 = .ok (.return_, 1) := by decide +kernel
theorem d_SS_unlock_0 : decode c_SS_unlock 0 = .ok (.aload_n 0, 1) := by decide +kernel
theorem d_SS_unlock_1 : decode c_SS_unlock 1 = .ok (.iload_n 1, 1) := by decide +kernel
theorem d_SS_unlock_2 : decode c_SS_unlock 2 = .ok (.invokevirtual 66, 3) := by decide +kernel
theorem d_SS_unlock_5 : decode c_SS_unlock 5 = .ok (.astore 4, 2) := by decide +kernel
theorem d_SS_unlock_7 : decode c_SS_unlock 7 = .ok (.aload 4, 2) := by decide +kernel
theorem d_SS_unlock_9 : decode c_SS_unlock 9 = .ok (.ifnull 22, 3) := by decide +kernel
theorem d_SS_unlock_12 : decode c_SS_unlock 12 = .ok (.iload_n 2, 1) := by decide +kernel
theorem d_SS_unlock_13 : decode c_SS_unlock 13 = .ok (.iload_n 3, 1) := by decide +kernel
theorem d_SS_unlock_14 : decode c_SS_unlock 14 = .ok (.invokestatic 156, 3) := by decide +kernel
theorem d_SS_unlock_17 : decode c_SS_unlock 17 = .ok (.ifCond .eq 14, 3) := by decide +kernel
theorem d_SS_unlock_20 : decode c_SS_unlock 20 = .ok (.aload 4, 2) := by decide +kernel
theorem d_SS_unlock_22 : decode c_SS_unlock 22 = .ok (.getfield 76, 3) := by decide +kernel
theorem d_SS_unlock_25 : decode c_SS_unlock 25 = .ok (.getfield 136, 3) := by decide +kernel
theorem d_SS_unlock_28 : decode c_SS_unlock 28 = .ok (.ifCond .eq 5, 3) := by decide +kernel
theorem d_SS_unlock_31 : decode c_SS_unlock 31 = .ok (.iconst (-1), 1) := by decide +kernel
theorem d_SS_unlock_32 : decode c_SS_unlock 32 = .ok (.ireturn, 1) := by decide +kernel
theorem d_SS_unlock_33 : decode c_SS_unlock 33 = .ok (.aload 4, 2) := by decide +kernel
theorem d_SS_unlock_35 : decode c_SS_unlock 35 = .ok (.getfield 76, 3) := by decide +kernel
theorem d_SS_unlock_38 : decode c_SS_unlock 38 = .ok (.aload 4, 2) := by decide +kernel
theorem d_SS_unlock_40 : decode c_SS_unlock 40 = .ok (.iload_n 2, 1) := by decide +kernel
theorem d_SS_unlock_41 : decode c_SS_unlock 41 = .ok (.iload_n 3, 1) := by decide +kernel
theorem d_SS_unlock_42 : decode c_SS_unlock 42 = .ok (.invokevirtual 175, 3) := by decide +kernel
theorem d_SS_unlock_45 : decode c_SS_unlock 45 = .ok (.istore 5, 2) := by decide +kernel
theorem d_SS_unlock_47 : decode c_SS_unlock 47 = .ok (.iload 5, 2) := by decide +kernel
theorem d_SS_unlock_49 : decode c_SS_unlock 49 = .ok (.ifCond .ge 5, 3) := by decide +kernel
theorem d_SS_unlock_52 : decode c_SS_unlock 52 = .ok (.iconst (-1), 1) := by decide +kernel
theorem d_SS_unlock_53 : decode c_SS_unlock 53 = .ok (.ireturn, 1) := by decide +kernel
theorem d_SS_unlock_54 : decode c_SS_unlock 54 = .ok (.aload 4, 2) := by decide +kernel
theorem d_SS_unlock_56 : decode c_SS_unlock 56 = .ok (.getfield 76, 3) := by decide +kernel
theorem d_SS_unlock_59 : decode c_SS_unlock 59 = .ok (.iload 5, 2) := by decide +kernel
theorem d_SS_unlock_61 : decode c_SS_unlock 61 = .ok (.invokevirtual 179, 3) := by decide +kernel
theorem d_SS_unlock_64 : decode c_SS_unlock 64 = .ok (.aload 4, 2) := by decide +kernel
theorem d_SS_unlock_66 : decode c_SS_unlock 66 = .ok (.getfield 76, 3) := by decide +kernel
theorem d_SS_unlock_69 : decode c_SS_unlock 69 = .ok (.getfield 168, 3) := by decide +kernel
theorem d_SS_unlock_72 : decode c_SS_unlock 72 = .ok (.ireturn, 1) := by decide +kernel
theorem d_Nd_oldestLock_0 : decode c_Nd_oldestLock 0 = .ok (.iconst 0, 1) := by decide +kernel
theorem d_Nd_oldestLock_1 : decode c_Nd_oldestLock 1 = .ok (.istore 4, 2) := by decide +kernel
theorem d_Nd_oldestLock_3 : decode c_Nd_oldestLock 3 = .ok (.iload 4, 2) := by decide +kernel
theorem d_Nd_oldestLock_5 : decode c_Nd_oldestLock 5 = .ok (.aload_n 0, 1) := by decide +kernel
theorem d_Nd_oldestLock_6 : decode c_Nd_oldestLock 6 = .ok (.getfield 35, 3) := by decide +kernel
theorem d_Nd_oldestLock_9 : decode c_Nd_oldestLock 9 = .ok (.if_icmp .ge 54, 3) := by decide +kernel
theorem d_Nd_oldestLock_12 : decode c_Nd_oldestLock 12 = .ok (.aload_n 0, 1) := by decide +kernel
theorem d_Nd_oldestLock_13 : decode c_Nd_oldestLock 13 = .ok (.getfield 31, 3) := by decide +kernel
theorem d_Nd_oldestLock_16 : decode c_Nd_oldestLock 16 = .ok (.iload 4, 2) := by decide +kernel
theorem d_Nd_oldestLock_18 : decode c_Nd_oldestLock 18 = .ok (.aaload, 1) := by decide +kernel
theorem d_Nd_oldestLock_19 : decode c_Nd_oldestLock 19 = .ok (.getfield 45, 3) := by decide +kernel
theorem d_Nd_oldestLock_22 : decode c_Nd_oldestLock 22 = .ok (.aload_n 1, 1) := by decide +kernel
theorem d_Nd_oldestLock_23 : decode c_Nd_oldestLock 23 = .ok (.if_acmp .ne 34, 3) := by decide +kernel
theorem d_Nd_oldestLock_26 : decode c_Nd_oldestLock 26 = .ok (.aload_n 0, 1) := by decide +kernel
theorem d_Nd_oldestLock_27 : decode c_Nd_oldestLock 27 = .ok (.getfield 31, 3) := by decide +kernel
theorem d_Nd_oldestLock_30 : decode c_Nd_oldestLock 30 = .ok (.iload 4, 2) := by decide +kernel
theorem d_Nd_oldestLock_32 : decode c_Nd_oldestLock 32 = .ok (.aaload, 1) := by decide +kernel
theorem d_Nd_oldestLock_33 : decode c_Nd_oldestLock 33 = .ok (.getfield 53, 3) := by decide +kernel
theorem d_Nd_oldestLock_36 : decode c_Nd_oldestLock 36 = .ok (.iload_n 2, 1) := by decide +kernel
theorem d_Nd_oldestLock_37 : decode c_Nd_oldestLock 37 = .ok (.if_icmp .ne 20, 3) := by decide +kernel
theorem d_Nd_oldestLock_40 : decode c_Nd_oldestLock 40 = .ok (.aload_n 0, 1) := by decide +kernel
theorem d_Nd_oldestLock_41 : decode c_Nd_oldestLock 41 = .ok (.getfield 31, 3) := by decide +kernel
theorem d_Nd_oldestLock_44 : decode c_Nd_oldestLock 44 = .ok (.iload 4, 2) := by decide +kernel
theorem d_Nd_oldestLock_46 : decode c_Nd_oldestLock 46 = .ok (.aaload, 1) := by decide +kernel
theorem d_Nd_oldestLock_47 : decode c_Nd_oldestLock 47 = .ok (.getfield 56, 3) := by decide +kernel
theorem d_Nd_oldestLock_50 : decode c_Nd_oldestLock 50 = .ok (.iload_n 3, 1) := by decide +kernel
theorem d_Nd_oldestLock_51 : decode c_Nd_oldestLock 51 = .ok (.if_icmp .ne 6, 3) := by decide +kernel
theorem d_Nd_oldestLock_54 : decode c_Nd_oldestLock 54 = .ok (.iload 4, 2) := by decide +kernel
theorem d_Nd_oldestLock_56 : decode c_Nd_oldestLock 56 = .ok (.ireturn, 1) := by decide +kernel
theorem d_Nd_oldestLock_57 : decode c_Nd_oldestLock 57 = .ok (.iinc 4 1, 3) := by decide +kernel
theorem d_Nd_oldestLock_60 : decode c_Nd_oldestLock 60 = .ok (.goto (-57), 3) := by decide +kernel
theorem d_Nd_oldestLock_63 : decode c_Nd_oldestLock 63 = .ok (.iconst (-1), 1) := by decide +kernel
theorem d_Nd_oldestLock_64 : decode c_Nd_oldestLock 64 = .ok (.ireturn, 1) := by decide +kernel
theorem d_Nd_dropLock_0 : decode c_Nd_dropLock 0 = .ok (.iload_n 1, 1) := by decide +kernel
theorem d_Nd_dropLock_1 : decode c_Nd_dropLock 1 = .ok (.istore_n 2, 1) := by decide +kernel
theorem d_Nd_dropLock_2 : decode c_Nd_dropLock 2 = .ok (.iload_n 2, 1) := by decide +kernel
theorem d_Nd_dropLock_3 : decode c_Nd_dropLock 3 = .ok (.aload_n 0, 1) := by decide +kernel
theorem d_Nd_dropLock_4 : decode c_Nd_dropLock 4 = .ok (.getfield 35, 3) := by decide +kernel
theorem d_Nd_dropLock_7 : decode c_Nd_dropLock 7 = .ok (.iconst 1, 1) := by decide +kernel
theorem d_Nd_dropLock_8 : decode c_Nd_dropLock 8 = .ok (.isub, 1) := by decide +kernel
theorem d_Nd_dropLock_9 : decode c_Nd_dropLock 9 = .ok (.if_icmp .ge 23, 3) := by decide +kernel
theorem d_Nd_dropLock_12 : decode c_Nd_dropLock 12 = .ok (.aload_n 0, 1) := by decide +kernel
theorem d_Nd_dropLock_13 : decode c_Nd_dropLock 13 = .ok (.getfield 31, 3) := by decide +kernel
theorem d_Nd_dropLock_16 : decode c_Nd_dropLock 16 = .ok (.iload_n 2, 1) := by decide +kernel
theorem d_Nd_dropLock_17 : decode c_Nd_dropLock 17 = .ok (.aload_n 0, 1) := by decide +kernel
theorem d_Nd_dropLock_18 : decode c_Nd_dropLock 18 = .ok (.getfield 31, 3) := by decide +kernel
theorem d_Nd_dropLock_21 : decode c_Nd_dropLock 21 = .ok (.iload_n 2, 1) := by decide +kernel
theorem d_Nd_dropLock_22 : decode c_Nd_dropLock 22 = .ok (.iconst 1, 1) := by decide +kernel
theorem d_Nd_dropLock_23 : decode c_Nd_dropLock 23 = .ok (.iadd, 1) := by decide +kernel
theorem d_Nd_dropLock_24 : decode c_Nd_dropLock 24 = .ok (.aaload, 1) := by decide +kernel
theorem d_Nd_dropLock_25 : decode c_Nd_dropLock 25 = .ok (.aastore, 1) := by decide +kernel
theorem d_Nd_dropLock_26 : decode c_Nd_dropLock 26 = .ok (.iinc 2 1, 3) := by decide +kernel
theorem d_Nd_dropLock_29 : decode c_Nd_dropLock 29 = .ok (.goto (-27), 3) := by decide +kernel
theorem d_Nd_dropLock_32 : decode c_Nd_dropLock 32 = .ok (.aload_n 0, 1) := by decide +kernel
theorem d_Nd_dropLock_33 : decode c_Nd_dropLock 33 = .ok (.dup, 1) := by decide +kernel
theorem d_Nd_dropLock_34 : decode c_Nd_dropLock 34 = .ok (.getfield 35, 3) := by decide +kernel
theorem d_Nd_dropLock_37 : decode c_Nd_dropLock 37 = .ok (.iconst 1, 1) := by decide +kernel
theorem d_Nd_dropLock_38 : decode c_Nd_dropLock 38 = .ok (.isub, 1) := by decide +kernel
theorem d_Nd_dropLock_39 : decode c_Nd_dropLock 39 = .ok (.putfield 35, 3) := by decide +kernel
theorem d_Nd_dropLock_42 : decode c_Nd_dropLock 42 = .ok (.return_, 1) := by decide +kernel
theorem d_SS_sync_0 : decode c_SS_sync 0 = .ok (.aload_n 0, 1) := by decide +kernel
theorem d_SS_sync_1 : decode c_SS_sync 1 = .ok (.getfield 33, 3) := by decide +kernel
theorem d_SS_sync_4 : decode c_SS_sync 4 = .ok (.invokevirtual 183, 3) := by decide +kernel
theorem d_SS_sync_7 : decode c_SS_sync 7 = .ok (.aload_n 0, 1) := by decide +kernel
theorem d_SS_sync_8 : decode c_SS_sync 8 = .ok (.getfield 33, 3) := by decide +kernel
theorem d_SS_sync_11 : decode c_SS_sync 11 = .ok (.invokevirtual 186, 3) := by decide +kernel
theorem d_SS_sync_14 : decode c_SS_sync 14 = .ok (.ireturn, 1) := by decide +kernel
theorem d_Lg_changes_0 : decode c_Lg_changes 0 = .ok (.aload_n 0, 1) := by decide +kernel
theorem d_Lg_changes_1 : decode c_Lg_changes 1 = .ok (.getfield 24, 3) := by decide +kernel
theorem d_Lg_changes_4 : decode c_Lg_changes 4 = .ok (.aload_n 0, 1) := by decide +kernel
theorem d_Lg_changes_5 : decode c_Lg_changes 5 = .ok (.getfield 17, 3) := by decide +kernel
theorem d_Lg_changes_8 : decode c_Lg_changes 8 = .ok (.iadd, 1) := by decide +kernel
theorem d_Lg_changes_9 : decode c_Lg_changes 9 = .ok (.ireturn, 1) := by decide +kernel
theorem d_SS_crash_0 : decode c_SS_crash 0 = .ok (.aload_n 0, 1) := by decide +kernel
theorem d_SS_crash_1 : decode c_SS_crash 1 = .ok (.invokevirtual 190, 3) := by decide +kernel
theorem d_SS_crash_4 : decode c_SS_crash 4 = .ok (.aload_n 0, 1) := by decide +kernel
theorem d_SS_crash_5 : decode c_SS_crash 5 = .ok (.iconst 0, 1) := by decide +kernel
theorem d_SS_crash_6 : decode c_SS_crash 6 = .ok (.putfield 94, 3) := by decide +kernel
theorem d_SS_crash_9 : decode c_SS_crash 9 = .ok (.aload_n 0, 1) := by decide +kernel
theorem d_SS_crash_10 : decode c_SS_crash 10 = .ok (.invokevirtual 193, 3) := by decide +kernel
theorem d_SS_crash_13 : decode c_SS_crash 13 = .ok (.aload_n 0, 1) := by decide +kernel
theorem d_SS_crash_14 : decode c_SS_crash 14 = .ok (.invokevirtual 196, 3) := by decide +kernel
theorem d_SS_crash_17 : decode c_SS_crash 17 = .ok (.aload_n 0, 1) := by decide +kernel
theorem d_SS_crash_18 : decode c_SS_crash 18 = .ok (.getfield 33, 3) := by decide +kernel
theorem d_SS_crash_21 : decode c_SS_crash 21 = .ok (.invokevirtual 186, 3) := by decide +kernel
theorem d_SS_crash_24 : decode c_SS_crash 24 = .ok (.ireturn, 1) := by decide +kernel
theorem d_SS_undoUnsafeChanges_0 : decode c_SS_undoUnsafeChanges 0 = .ok (.aload_n 0, 1) := by decide +kernel
theorem d_SS_undoUnsafeChanges_1 : decode c_SS_undoUnsafeChanges 1 = .ok (.getfield 33, 3) := by decide +kernel
theorem d_SS_undoUnsafeChanges_4 : decode c_SS_undoUnsafeChanges 4 = .ok (.getfield 270, 3) := by decide +kernel
theorem d_SS_undoUnsafeChanges_7 : decode c_SS_undoUnsafeChanges 7 = .ok (.iconst 1, 1) := by decide +kernel
theorem d_SS_undoUnsafeChanges_8 : decode c_SS_undoUnsafeChanges 8 = .ok (.isub, 1) := by decide +kernel
theorem d_SS_undoUnsafeChanges_9 : decode c_SS_undoUnsafeChanges 9 = .ok (.istore_n 1, 1) := by decide +kernel
theorem d_SS_undoUnsafeChanges_10 : decode c_SS_undoUnsafeChanges 10 = .ok (.iload_n 1, 1) := by decide +kernel
theorem d_SS_undoUnsafeChanges_11 : decode c_SS_undoUnsafeChanges 11 = .ok (.ifCond .lt 22, 3) := by decide +kernel
theorem d_SS_undoUnsafeChanges_14 : decode c_SS_undoUnsafeChanges 14 = .ok (.aload_n 0, 1) := by decide +kernel
theorem d_SS_undoUnsafeChanges_15 : decode c_SS_undoUnsafeChanges 15 = .ok (.aload_n 0, 1) := by decide +kernel
theorem d_SS_undoUnsafeChanges_16 : decode c_SS_undoUnsafeChanges 16 = .ok (.getfield 33, 3) := by decide +kernel
theorem d_SS_undoUnsafeChanges_19 : decode c_SS_undoUnsafeChanges 19 = .ok (.getfield 273, 3) := by decide +kernel
theorem d_SS_undoUnsafeChanges_22 : decode c_SS_undoUnsafeChanges 22 = .ok (.iload_n 1, 1) := by decide +kernel
theorem d_SS_undoUnsafeChanges_23 : decode c_SS_undoUnsafeChanges 23 = .ok (.aaload, 1) := by decide +kernel
theorem d_SS_undoUnsafeChanges_24 : decode c_SS_undoUnsafeChanges 24 = .ok (.invokevirtual 277, 3) := by decide +kernel
theorem d_SS_undoUnsafeChanges_27 : decode c_SS_undoUnsafeChanges 27 = .ok (.iinc 1 (-1), 3) := by decide +kernel
theorem d_SS_undoUnsafeChanges_30 : decode c_SS_undoUnsafeChanges 30 = .ok (.goto (-20), 3) := by decide +kernel
theorem d_SS_undoUnsafeChanges_33 : decode c_SS_undoUnsafeChanges 33 = .ok (.aload_n 0, 1) := by decide +kernel
theorem d_SS_undoUnsafeChanges_34 : decode c_SS_undoUnsafeChanges 34 = .ok (.getfield 33, 3) := by decide +kernel
theorem d_SS_undoUnsafeChanges_37 : decode c_SS_undoUnsafeChanges 37 = .ok (.iconst 0, 1) := by decide +kernel
theorem d_SS_undoUnsafeChanges_38 : decode c_SS_undoUnsafeChanges 38 = .ok (.putfield 270, 3) := by decide +kernel
theorem d_SS_undoUnsafeChanges_41 : decode c_SS_undoUnsafeChanges 41 = .ok (.return_, 1) := by decide +kernel
theorem d_SS_undo_0 : decode c_SS_undo 0 = .ok (.aload_n 1, 1) := by decide +kernel
theorem d_SS_undo_1 : decode c_SS_undo 1 = .ok (.getfield 280, 3) := by decide +kernel
theorem d_SS_undo_4 : decode c_SS_undo 4 = .ok (.astore_n 2, 1) := by decide +kernel
theorem d_SS_undo_5 : decode c_SS_undo 5 = .ok (.aload_n 1, 1) := by decide +kernel
theorem d_SS_undo_6 : decode c_SS_undo 6 = .ok (.getfield 281, 3) := by decide +kernel
theorem d_SS_undo_9 : decode c_SS_undo 9 = .ok (.tableswitch 102 0 3 #[31, 54, 67, 86], 31) := by decide +kernel
theorem d_SS_undo_40 : decode c_SS_undo 40 = .ok (.aload_n 0, 1) := by decide +kernel
theorem d_SS_undo_41 : decode c_SS_undo 41 = .ok (.getfield 11, 3) := by decide +kernel
theorem d_SS_undo_44 : decode c_SS_undo 44 = .ok (.aload_n 2, 1) := by decide +kernel
theorem d_SS_undo_45 : decode c_SS_undo 45 = .ok (.getfield 108, 3) := by decide +kernel
theorem d_SS_undo_48 : decode c_SS_undo 48 = .ok (.aconst_null, 1) := by decide +kernel
theorem d_SS_undo_49 : decode c_SS_undo 49 = .ok (.aastore, 1) := by decide +kernel
theorem d_SS_undo_50 : decode c_SS_undo 50 = .ok (.aload_n 0, 1) := by decide +kernel
theorem d_SS_undo_51 : decode c_SS_undo 51 = .ok (.dup, 1) := by decide +kernel
theorem d_SS_undo_52 : decode c_SS_undo 52 = .ok (.getfield 215, 3) := by decide +kernel
theorem d_SS_undo_55 : decode c_SS_undo 55 = .ok (.iconst 1, 1) := by decide +kernel
theorem d_SS_undo_56 : decode c_SS_undo 56 = .ok (.isub, 1) := by decide +kernel
theorem d_SS_undo_57 : decode c_SS_undo 57 = .ok (.putfield 215, 3) := by decide +kernel
theorem d_SS_undo_60 : decode c_SS_undo 60 = .ok (.goto 51, 3) := by decide +kernel
theorem d_SS_undo_63 : decode c_SS_undo 63 = .ok (.aload_n 0, 1) := by decide +kernel
theorem d_SS_undo_64 : decode c_SS_undo 64 = .ok (.getfield 11, 3) := by decide +kernel
theorem d_SS_undo_67 : decode c_SS_undo 67 = .ok (.aload_n 2, 1) := by decide +kernel
theorem d_SS_undo_68 : decode c_SS_undo 68 = .ok (.getfield 108, 3) := by decide +kernel
theorem d_SS_undo_71 : decode c_SS_undo 71 = .ok (.aload_n 2, 1) := by decide +kernel
theorem d_SS_undo_72 : decode c_SS_undo 72 = .ok (.aastore, 1) := by decide +kernel
theorem d_SS_undo_73 : decode c_SS_undo 73 = .ok (.goto 38, 3) := by decide +kernel
theorem d_SS_undo_76 : decode c_SS_undo 76 = .ok (.aload_n 2, 1) := by decide +kernel
theorem d_SS_undo_77 : decode c_SS_undo 77 = .ok (.aload_n 1, 1) := by decide +kernel
theorem d_SS_undo_78 : decode c_SS_undo 78 = .ok (.getfield 284, 3) := by decide +kernel
theorem d_SS_undo_81 : decode c_SS_undo 81 = .ok (.putfield 123, 3) := by decide +kernel
theorem d_SS_undo_84 : decode c_SS_undo 84 = .ok (.aload_n 2, 1) := by decide +kernel
theorem d_SS_undo_85 : decode c_SS_undo 85 = .ok (.aload_n 1, 1) := by decide +kernel
theorem d_SS_undo_86 : decode c_SS_undo 86 = .ok (.getfield 287, 3) := by decide +kernel
theorem d_SS_undo_89 : decode c_SS_undo 89 = .ok (.putfield 126, 3) := by decide +kernel
theorem d_SS_undo_92 : decode c_SS_undo 92 = .ok (.goto 19, 3) := by decide +kernel
theorem d_SS_undo_95 : decode c_SS_undo 95 = .ok (.aload_n 2, 1) := by decide +kernel
theorem d_SS_undo_96 : decode c_SS_undo 96 = .ok (.getfield 143, 3) := by decide +kernel
theorem d_SS_undo_99 : decode c_SS_undo 99 = .ok (.aload_n 1, 1) := by decide +kernel
theorem d_SS_undo_100 : decode c_SS_undo 100 = .ok (.getfield 284, 3) := by decide +kernel
theorem d_SS_undo_103 : decode c_SS_undo 103 = .ok (.aload_n 1, 1) := by decide +kernel
theorem d_SS_undo_104 : decode c_SS_undo 104 = .ok (.getfield 287, 3) := by decide +kernel
theorem d_SS_undo_107 : decode c_SS_undo 107 = .ok (.iastore, 1) := by decide +kernel
theorem d_SS_undo_108 : decode c_SS_undo 108 = .ok (.goto 3, 3) := by decide +kernel
theorem d_SS_undo_111 : decode c_SS_undo 111 = .ok (.return_, 1) := by decide +kernel
theorem d_SS_calmNodes_0 : decode c_SS_calmNodes 0 = .ok (.iconst 0, 1) := by decide +kernel
theorem d_SS_calmNodes_1 : decode c_SS_calmNodes 1 = .ok (.istore_n 1, 1) := by decide +kernel
theorem d_SS_calmNodes_2 : decode c_SS_calmNodes 2 = .ok (.iload_n 1, 1) := by decide +kernel
theorem d_SS_calmNodes_3 : decode c_SS_calmNodes 3 = .ok (.aload_n 0, 1) := by decide +kernel
theorem d_SS_calmNodes_4 : decode c_SS_calmNodes 4 = .ok (.getfield 11, 3) := by decide +kernel
theorem d_SS_calmNodes_7 : decode c_SS_calmNodes 7 = .ok (.arraylength, 1) := by decide +kernel
theorem d_SS_calmNodes_8 : decode c_SS_calmNodes 8 = .ok (.if_icmp .ge 38, 3) := by decide +kernel
theorem d_SS_calmNodes_11 : decode c_SS_calmNodes 11 = .ok (.aload_n 0, 1) := by decide +kernel
theorem d_SS_calmNodes_12 : decode c_SS_calmNodes 12 = .ok (.getfield 11, 3) := by decide +kernel
theorem d_SS_calmNodes_15 : decode c_SS_calmNodes 15 = .ok (.iload_n 1, 1) := by decide +kernel
theorem d_SS_calmNodes_16 : decode c_SS_calmNodes 16 = .ok (.aaload, 1) := by decide +kernel
theorem d_SS_calmNodes_17 : decode c_SS_calmNodes 17 = .ok (.ifnull 23, 3) := by decide +kernel
theorem d_SS_calmNodes_20 : decode c_SS_calmNodes 20 = .ok (.aload_n 0, 1) := by decide +kernel
theorem d_SS_calmNodes_21 : decode c_SS_calmNodes 21 = .ok (.getfield 11, 3) := by decide +kernel
theorem d_SS_calmNodes_24 : decode c_SS_calmNodes 24 = .ok (.iload_n 1, 1) := by decide +kernel
theorem d_SS_calmNodes_25 : decode c_SS_calmNodes 25 = .ok (.aaload, 1) := by decide +kernel
theorem d_SS_calmNodes_26 : decode c_SS_calmNodes 26 = .ok (.iconst 0, 1) := by decide +kernel
theorem d_SS_calmNodes_27 : decode c_SS_calmNodes 27 = .ok (.putfield 104, 3) := by decide +kernel
theorem d_SS_calmNodes_30 : decode c_SS_calmNodes 30 = .ok (.aload_n 0, 1) := by decide +kernel
theorem d_SS_calmNodes_31 : decode c_SS_calmNodes 31 = .ok (.getfield 11, 3) := by decide +kernel
theorem d_SS_calmNodes_34 : decode c_SS_calmNodes 34 = .ok (.iload_n 1, 1) := by decide +kernel
theorem d_SS_calmNodes_35 : decode c_SS_calmNodes 35 = .ok (.aaload, 1) := by decide +kernel
theorem d_SS_calmNodes_36 : decode c_SS_calmNodes 36 = .ok (.iconst 0, 1) := by decide +kernel
theorem d_SS_calmNodes_37 : decode c_SS_calmNodes 37 = .ok (.putfield 168, 3) := by decide +kernel
theorem d_SS_calmNodes_40 : decode c_SS_calmNodes 40 = .ok (.iinc 1 1, 3) := by decide +kernel
theorem d_SS_calmNodes_43 : decode c_SS_calmNodes 43 = .ok (.goto (-41), 3) := by decide +kernel
theorem d_SS_calmNodes_46 : decode c_SS_calmNodes 46 = .ok (.return_, 1) := by decide +kernel
theorem d_SS_loseWaiting_0 : decode c_SS_loseWaiting 0 = .ok (.iconst 0, 1) := by decide +kernel
theorem d_SS_loseWaiting_1 : decode c_SS_loseWaiting 1 = .ok (.istore_n 1, 1) := by decide +kernel
theorem d_SS_loseWaiting_2 : decode c_SS_loseWaiting 2 = .ok (.iload_n 1, 1) := by decide +kernel
theorem d_SS_loseWaiting_3 : decode c_SS_loseWaiting 3 = .ok (.aload_n 0, 1) := by decide +kernel
theorem d_SS_loseWaiting_4 : decode c_SS_loseWaiting 4 = .ok (.getfield 48, 3) := by decide +kernel
theorem d_SS_loseWaiting_7 : decode c_SS_loseWaiting 7 = .ok (.if_icmp .ge 32, 3) := by decide +kernel
theorem d_SS_loseWaiting_10 : decode c_SS_loseWaiting 10 = .ok (.aload_n 0, 1) := by decide +kernel
theorem d_SS_loseWaiting_11 : decode c_SS_loseWaiting 11 = .ok (.getfield 26, 3) := by decide +kernel
theorem d_SS_loseWaiting_14 : decode c_SS_loseWaiting 14 = .ok (.iload_n 1, 1) := by decide +kernel
theorem d_SS_loseWaiting_15 : decode c_SS_loseWaiting 15 = .ok (.aaload, 1) := by decide +kernel
theorem d_SS_loseWaiting_16 : decode c_SS_loseWaiting 16 = .ok (.getfield 59, 3) := by decide +kernel
theorem d_SS_loseWaiting_19 : decode c_SS_loseWaiting 19 = .ok (.ifCond .ne 14, 3) := by decide +kernel
theorem d_SS_loseWaiting_22 : decode c_SS_loseWaiting 22 = .ok (.aload_n 0, 1) := by decide +kernel
theorem d_SS_loseWaiting_23 : decode c_SS_loseWaiting 23 = .ok (.getfield 26, 3) := by decide +kernel
theorem d_SS_loseWaiting_26 : decode c_SS_loseWaiting 26 = .ok (.iload_n 1, 1) := by decide +kernel
theorem d_SS_loseWaiting_27 : decode c_SS_loseWaiting 27 = .ok (.aaload, 1) := by decide +kernel
theorem d_SS_loseWaiting_28 : decode c_SS_loseWaiting 28 = .ok (.bipush (-9), 2) := by decide +kernel
theorem d_SS_loseWaiting_30 : decode c_SS_loseWaiting 30 = .ok (.putfield 59, 3) := by decide +kernel
theorem d_SS_loseWaiting_33 : decode c_SS_loseWaiting 33 = .ok (.iinc 1 1, 3) := by decide +kernel
theorem d_SS_loseWaiting_36 : decode c_SS_loseWaiting 36 = .ok (.goto (-34), 3) := by decide +kernel
theorem d_SS_loseWaiting_39 : decode c_SS_loseWaiting 39 = .ok (.return_, 1) := by decide +kernel
theorem d_SS_find_0 : decode c_SS_find 0 = .ok (.iload_n 1, 1) := by decide +kernel
theorem d_SS_find_1 : decode c_SS_find 1 = .ok (.iload_n 2, 1) := by decide +kernel
theorem d_SS_find_2 : decode c_SS_find 2 = .ok (.invokestatic 41, 3) := by decide +kernel
theorem d_SS_find_5 : decode c_SS_find 5 = .ok (.ifCond .ne 5, 3) := by decide +kernel
theorem d_SS_find_8 : decode c_SS_find 8 = .ok (.iconst (-1), 1) := by decide +kernel
theorem d_SS_find_9 : decode c_SS_find 9 = .ok (.ireturn, 1) := by decide +kernel
theorem d_SS_find_10 : decode c_SS_find 10 = .ok (.aload_n 0, 1) := by decide +kernel
theorem d_SS_find_11 : decode c_SS_find 11 = .ok (.iload_n 1, 1) := by decide +kernel
theorem d_SS_find_12 : decode c_SS_find 12 = .ok (.iload_n 2, 1) := by decide +kernel
theorem d_SS_find_13 : decode c_SS_find 13 = .ok (.invokevirtual 117, 3) := by decide +kernel
theorem d_SS_find_16 : decode c_SS_find 16 = .ok (.astore_n 3, 1) := by decide +kernel
theorem d_SS_find_17 : decode c_SS_find 17 = .ok (.aload_n 3, 1) := by decide +kernel
theorem d_SS_find_18 : decode c_SS_find 18 = .ok (.ifnonnull 8, 3) := by decide +kernel
theorem d_SS_find_21 : decode c_SS_find 21 = .ok (.bipush (-3), 2) := by decide +kernel
theorem d_SS_find_23 : decode c_SS_find 23 = .ok (.goto 7, 3) := by decide +kernel
theorem d_SS_find_26 : decode c_SS_find 26 = .ok (.aload_n 3, 1) := by decide +kernel
theorem d_SS_find_27 : decode c_SS_find 27 = .ok (.getfield 108, 3) := by decide +kernel
theorem d_SS_find_30 : decode c_SS_find 30 = .ok (.ireturn, 1) := by decide +kernel
theorem d_SS_node_0 : decode c_SS_node 0 = .ok (.iload_n 1, 1) := by decide +kernel
theorem d_SS_node_1 : decode c_SS_node 1 = .ok (.aload_n 0, 1) := by decide +kernel
theorem d_SS_node_2 : decode c_SS_node 2 = .ok (.getfield 11, 3) := by decide +kernel
theorem d_SS_node_5 : decode c_SS_node 5 = .ok (.arraylength, 1) := by decide +kernel
theorem d_SS_node_6 : decode c_SS_node 6 = .ok (.invokestatic 37, 3) := by decide +kernel
theorem d_SS_node_9 : decode c_SS_node 9 = .ok (.ifCond .eq 12, 3) := by decide +kernel
theorem d_SS_node_12 : decode c_SS_node 12 = .ok (.aload_n 0, 1) := by decide +kernel
theorem d_SS_node_13 : decode c_SS_node 13 = .ok (.getfield 11, 3) := by decide +kernel
theorem d_SS_node_16 : decode c_SS_node 16 = .ok (.iload_n 1, 1) := by decide +kernel
theorem d_SS_node_17 : decode c_SS_node 17 = .ok (.aaload, 1) := by decide +kernel
theorem d_SS_node_18 : decode c_SS_node 18 = .ok (.ifnonnull 5, 3) := by decide +kernel
theorem d_SS_node_21 : decode c_SS_node 21 = .ok (.iconst (-1), 1) := by decide +kernel
theorem d_SS_node_22 : decode c_SS_node 22 = .ok (.ireturn, 1) := by decide +kernel
theorem d_SS_node_23 : decode c_SS_node 23 = .ok (.aload_n 0, 1) := by decide +kernel
theorem d_SS_node_24 : decode c_SS_node 24 = .ok (.getfield 11, 3) := by decide +kernel
theorem d_SS_node_27 : decode c_SS_node 27 = .ok (.iload_n 1, 1) := by decide +kernel
theorem d_SS_node_28 : decode c_SS_node 28 = .ok (.aaload, 1) := by decide +kernel
theorem d_SS_node_29 : decode c_SS_node 29 = .ok (.astore_n 3, 1) := by decide +kernel
theorem d_SS_node_30 : decode c_SS_node 30 = .ok (.iload_n 2, 1) := by decide +kernel
theorem d_SS_node_31 : decode c_SS_node 31 = .ok (.tableswitch 94 0 6 #[41, 46, 51, 64, 77, 83, 88], 41) := by decide +kernel
theorem d_SS_node_72 : decode c_SS_node 72 = .ok (.aload_n 3, 1) := by decide +kernel
theorem d_SS_node_73 : decode c_SS_node 73 = .ok (.getfield 123, 3) := by decide +kernel
theorem d_SS_node_76 : decode c_SS_node 76 = .ok (.ireturn, 1) := by decide +kernel
theorem d_SS_node_77 : decode c_SS_node 77 = .ok (.aload_n 3, 1) := by decide +kernel
theorem d_SS_node_78 : decode c_SS_node 78 = .ok (.getfield 126, 3) := by decide +kernel
theorem d_SS_node_81 : decode c_SS_node 81 = .ok (.ireturn, 1) := by decide +kernel
theorem d_SS_node_82 : decode c_SS_node 82 = .ok (.aload_n 3, 1) := by decide +kernel
theorem d_SS_node_83 : decode c_SS_node 83 = .ok (.getfield 136, 3) := by decide +kernel
theorem d_SS_node_86 : decode c_SS_node 86 = .ok (.ifCond .eq 7, 3) := by decide +kernel
theorem d_SS_node_89 : decode c_SS_node 89 = .ok (.iconst 1, 1) := by decide +kernel
theorem d_SS_node_90 : decode c_SS_node 90 = .ok (.goto 4, 3) := by decide +kernel
theorem d_SS_node_93 : decode c_SS_node 93 = .ok (.iconst 0, 1) := by decide +kernel
theorem d_SS_node_94 : decode c_SS_node 94 = .ok (.ireturn, 1) := by decide +kernel
theorem d_SS_node_95 : decode c_SS_node 95 = .ok (.aload_n 3, 1) := by decide +kernel
theorem d_SS_node_96 : decode c_SS_node 96 = .ok (.getfield 104, 3) := by decide +kernel
theorem d_SS_node_99 : decode c_SS_node 99 = .ok (.ifCond .eq 7, 3) := by decide +kernel
theorem d_SS_node_102 : decode c_SS_node 102 = .ok (.iconst 1, 1) := by decide +kernel
theorem d_SS_node_103 : decode c_SS_node 103 = .ok (.goto 4, 3) := by decide +kernel
theorem d_SS_node_106 : decode c_SS_node 106 = .ok (.iconst 0, 1) := by decide +kernel
theorem d_SS_node_107 : decode c_SS_node 107 = .ok (.ireturn, 1) := by decide +kernel
theorem d_SS_node_108 : decode c_SS_node 108 = .ok (.aload_n 0, 1) := by decide +kernel
theorem d_SS_node_109 : decode c_SS_node 109 = .ok (.aload_n 3, 1) := by decide +kernel
theorem d_SS_node_110 : decode c_SS_node 110 = .ok (.invokevirtual 199, 3) := by decide +kernel
theorem d_SS_node_113 : decode c_SS_node 113 = .ok (.ireturn, 1) := by decide +kernel
theorem d_SS_node_114 : decode c_SS_node 114 = .ok (.aload_n 3, 1) := by decide +kernel
theorem d_SS_node_115 : decode c_SS_node 115 = .ok (.getfield 168, 3) := by decide +kernel
theorem d_SS_node_118 : decode c_SS_node 118 = .ok (.ireturn, 1) := by decide +kernel
theorem d_SS_node_119 : decode c_SS_node 119 = .ok (.aload_n 0, 1) := by decide +kernel
theorem d_SS_node_120 : decode c_SS_node 120 = .ok (.aload_n 3, 1) := by decide +kernel
theorem d_SS_node_121 : decode c_SS_node 121 = .ok (.invokevirtual 203, 3) := by decide +kernel
theorem d_SS_node_124 : decode c_SS_node 124 = .ok (.ireturn, 1) := by decide +kernel
theorem d_SS_node_125 : decode c_SS_node 125 = .ok (.iconst (-1), 1) := by decide +kernel
theorem d_SS_node_126 : decode c_SS_node 126 = .ok (.ireturn, 1) := by decide +kernel
theorem d_SS_handle_0 : decode c_SS_handle 0 = .ok (.aload_n 0, 1) := by decide +kernel
theorem d_SS_handle_1 : decode c_SS_handle 1 = .ok (.iload_n 1, 1) := by decide +kernel
theorem d_SS_handle_2 : decode c_SS_handle 2 = .ok (.invokevirtual 66, 3) := by decide +kernel
theorem d_SS_handle_5 : decode c_SS_handle 5 = .ok (.astore_n 3, 1) := by decide +kernel
theorem d_SS_handle_6 : decode c_SS_handle 6 = .ok (.aload_n 3, 1) := by decide +kernel
theorem d_SS_handle_7 : decode c_SS_handle 7 = .ok (.ifnonnull 5, 3) := by decide +kernel
theorem d_SS_handle_10 : decode c_SS_handle 10 = .ok (.iconst (-1), 1) := by decide +kernel
theorem d_SS_handle_11 : decode c_SS_handle 11 = .ok (.ireturn, 1) := by decide +kernel
theorem d_SS_handle_12 : decode c_SS_handle 12 = .ok (.iload_n 2, 1) := by decide +kernel
theorem d_SS_handle_13 : decode c_SS_handle 13 = .ok (.tableswitch 63 0 4 #[35, 43, 48, 53, 58], 35) := by decide +kernel
theorem d_SS_handle_48 : decode c_SS_handle 48 = .ok (.aload_n 3, 1) := by decide +kernel
theorem d_SS_handle_49 : decode c_SS_handle 49 = .ok (.getfield 76, 3) := by decide +kernel
theorem d_SS_handle_52 : decode c_SS_handle 52 = .ok (.getfield 108, 3) := by decide +kernel
theorem d_SS_handle_55 : decode c_SS_handle 55 = .ok (.ireturn, 1) := by decide +kernel
theorem d_SS_handle_56 : decode c_SS_handle 56 = .ok (.aload_n 3, 1) := by decide +kernel
theorem d_SS_handle_57 : decode c_SS_handle 57 = .ok (.getfield 206, 3) := by decide +kernel
theorem d_SS_handle_60 : decode c_SS_handle 60 = .ok (.ireturn, 1) := by decide +kernel
theorem d_SS_handle_61 : decode c_SS_handle 61 = .ok (.aload_n 3, 1) := by decide +kernel
theorem d_SS_handle_62 : decode c_SS_handle 62 = .ok (.getfield 209, 3) := by decide +kernel
theorem d_SS_handle_65 : decode c_SS_handle 65 = .ok (.ireturn, 1) := by decide +kernel
theorem d_SS_handle_66 : decode c_SS_handle 66 = .ok (.aload_n 3, 1) := by decide +kernel
theorem d_SS_handle_67 : decode c_SS_handle 67 = .ok (.getfield 70, 3) := by decide +kernel
theorem d_SS_handle_70 : decode c_SS_handle 70 = .ok (.ireturn, 1) := by decide +kernel
theorem d_SS_handle_71 : decode c_SS_handle 71 = .ok (.aload_n 3, 1) := by decide +kernel
theorem d_SS_handle_72 : decode c_SS_handle 72 = .ok (.getfield 212, 3) := by decide +kernel
theorem d_SS_handle_75 : decode c_SS_handle 75 = .ok (.ireturn, 1) := by decide +kernel
theorem d_SS_handle_76 : decode c_SS_handle 76 = .ok (.iconst (-1), 1) := by decide +kernel
theorem d_SS_handle_77 : decode c_SS_handle 77 = .ok (.ireturn, 1) := by decide +kernel
theorem d_SS_count_0 : decode c_SS_count 0 = .ok (.iload_n 1, 1) := by decide +kernel
theorem d_SS_count_1 : decode c_SS_count 1 = .ok (.tableswitch 84 0 6 #[43, 48, 53, 58, 66, 74, 79], 43) := by decide +kernel
theorem d_SS_count_44 : decode c_SS_count 44 = .ok (.aload_n 0, 1) := by decide +kernel
theorem d_SS_count_45 : decode c_SS_count 45 = .ok (.getfield 215, 3) := by decide +kernel
theorem d_SS_count_48 : decode c_SS_count 48 = .ok (.ireturn, 1) := by decide +kernel
theorem d_SS_count_49 : decode c_SS_count 49 = .ok (.aload_n 0, 1) := by decide +kernel
theorem d_SS_count_50 : decode c_SS_count 50 = .ok (.getfield 94, 3) := by decide +kernel
theorem d_SS_count_53 : decode c_SS_count 53 = .ok (.ireturn, 1) := by decide +kernel
theorem d_SS_count_54 : decode c_SS_count 54 = .ok (.aload_n 0, 1) := by decide +kernel
theorem d_SS_count_55 : decode c_SS_count 55 = .ok (.invokevirtual 218, 3) := by decide +kernel
theorem d_SS_count_58 : decode c_SS_count 58 = .ok (.ireturn, 1) := by decide +kernel
theorem d_SS_count_59 : decode c_SS_count 59 = .ok (.aload_n 0, 1) := by decide +kernel
theorem d_SS_count_60 : decode c_SS_count 60 = .ok (.getfield 33, 3) := by decide +kernel
theorem d_SS_count_63 : decode c_SS_count 63 = .ok (.invokevirtual 186, 3) := by decide +kernel
theorem d_SS_count_66 : decode c_SS_count 66 = .ok (.ireturn, 1) := by decide +kernel
theorem d_SS_count_67 : decode c_SS_count 67 = .ok (.aload_n 0, 1) := by decide +kernel
theorem d_SS_count_68 : decode c_SS_count 68 = .ok (.getfield 33, 3) := by decide +kernel
theorem d_SS_count_71 : decode c_SS_count 71 = .ok (.getfield 221, 3) := by decide +kernel
theorem d_SS_count_74 : decode c_SS_count 74 = .ok (.ireturn, 1) := by decide +kernel
theorem d_SS_count_75 : decode c_SS_count 75 = .ok (.aload_n 0, 1) := by decide +kernel
theorem d_SS_count_76 : decode c_SS_count 76 = .ok (.getfield 48, 3) := by decide +kernel
theorem d_SS_count_79 : decode c_SS_count 79 = .ok (.ireturn, 1) := by decide +kernel
theorem d_SS_count_80 : decode c_SS_count 80 = .ok (.aload_n 0, 1) := by decide +kernel
theorem d_SS_count_81 : decode c_SS_count 81 = .ok (.getfield 224, 3) := by decide +kernel
theorem d_SS_count_84 : decode c_SS_count 84 = .ok (.ireturn, 1) := by decide +kernel
theorem d_SS_count_85 : decode c_SS_count 85 = .ok (.iconst (-1), 1) := by decide +kernel
theorem d_SS_count_86 : decode c_SS_count 86 = .ok (.ireturn, 1) := by decide +kernel
theorem d_SS_waitingRequests_0 : decode c_SS_waitingRequests 0 = .ok (.iconst 0, 1) := by decide +kernel
theorem d_SS_waitingRequests_1 : decode c_SS_waitingRequests 1 = .ok (.istore_n 1, 1) := by decide +kernel
theorem d_SS_waitingRequests_2 : decode c_SS_waitingRequests 2 = .ok (.iconst 0, 1) := by decide +kernel
theorem d_SS_waitingRequests_3 : decode c_SS_waitingRequests 3 = .ok (.istore_n 2, 1) := by decide +kernel
theorem d_SS_waitingRequests_4 : decode c_SS_waitingRequests 4 = .ok (.iload_n 2, 1) := by decide +kernel
theorem d_SS_waitingRequests_5 : decode c_SS_waitingRequests 5 = .ok (.aload_n 0, 1) := by decide +kernel
theorem d_SS_waitingRequests_6 : decode c_SS_waitingRequests 6 = .ok (.getfield 48, 3) := by decide +kernel
theorem d_SS_waitingRequests_9 : decode c_SS_waitingRequests 9 = .ok (.if_icmp .ge 24, 3) := by decide +kernel
theorem d_SS_waitingRequests_12 : decode c_SS_waitingRequests 12 = .ok (.aload_n 0, 1) := by decide +kernel
theorem d_SS_waitingRequests_13 : decode c_SS_waitingRequests 13 = .ok (.getfield 26, 3) := by decide +kernel
theorem d_SS_waitingRequests_16 : decode c_SS_waitingRequests 16 = .ok (.iload_n 2, 1) := by decide +kernel
theorem d_SS_waitingRequests_17 : decode c_SS_waitingRequests 17 = .ok (.aaload, 1) := by decide +kernel
theorem d_SS_waitingRequests_18 : decode c_SS_waitingRequests 18 = .ok (.getfield 59, 3) := by decide +kernel
theorem d_SS_waitingRequests_21 : decode c_SS_waitingRequests 21 = .ok (.ifCond .ne 6, 3) := by decide +kernel
theorem d_SS_waitingRequests_24 : decode c_SS_waitingRequests 24 = .ok (.iinc 1 1, 3) := by decide +kernel
theorem d_SS_waitingRequests_27 : decode c_SS_waitingRequests 27 = .ok (.iinc 2 1, 3) := by decide +kernel
theorem d_SS_waitingRequests_30 : decode c_SS_waitingRequests 30 = .ok (.goto (-26), 3) := by decide +kernel
theorem d_SS_waitingRequests_33 : decode c_SS_waitingRequests 33 = .ok (.iload_n 1, 1) := by decide +kernel
theorem d_SS_waitingRequests_34 : decode c_SS_waitingRequests 34 = .ok (.ireturn, 1) := by decide +kernel
theorem d_Md_init_0 : decode c_Md_init 0 = .ok (.aload_n 0, 1) := by decide +kernel
theorem d_Md_init_1 : decode c_Md_init 1 = .ok (.invokespecial 1, 3) := by decide +kernel
theorem d_Md_init_4 : decode c_Md_init 4 = .ok (.aload_n 0, 1) := by decide +kernel
theorem d_Md_init_5 : decode c_Md_init 5 = .ok (.sipush 6000, 3) := by decide +kernel
theorem d_Md_init_8 : decode c_Md_init 8 = .ok (.newarray .int, 2) := by decide +kernel
theorem d_Md_init_10 : decode c_Md_init 10 = .ok (.putfield 7, 3) := by decide +kernel
theorem d_Md_init_13 : decode c_Md_init 13 = .ok (.aload_n 0, 1) := by decide +kernel
theorem d_Md_init_14 : decode c_Md_init 14 = .ok (.bipush 25, 2) := by decide +kernel
theorem d_Md_init_16 : decode c_Md_init 16 = .ok (.newarray .boolean, 2) := by decide +kernel
theorem d_Md_init_18 : decode c_Md_init 18 = .ok (.putfield 13, 3) := by decide +kernel
theorem d_Md_init_21 : decode c_Md_init 21 = .ok (.aload_n 0, 1) := by decide +kernel
theorem d_Md_init_22 : decode c_Md_init 22 = .ok (.bipush 25, 2) := by decide +kernel
theorem d_Md_init_24 : decode c_Md_init 24 = .ok (.newarray .boolean, 2) := by decide +kernel
theorem d_Md_init_26 : decode c_Md_init 26 = .ok (.putfield 17, 3) := by decide +kernel
theorem d_Md_init_29 : decode c_Md_init 29 = .ok (.aload_n 0, 1) := by decide +kernel
theorem d_Md_init_30 : decode c_Md_init 30 = .ok (.bipush 25, 2) := by decide +kernel
theorem d_Md_init_32 : decode c_Md_init 32 = .ok (.newarray .int, 2) := by decide +kernel
theorem d_Md_init_34 : decode c_Md_init 34 = .ok (.putfield 20, 3) := by decide +kernel
theorem d_Md_init_37 : decode c_Md_init 37 = .ok (.aload_n 0, 1) := by decide +kernel
theorem d_Md_init_38 : decode c_Md_init 38 = .ok (.bipush 25, 2) := by decide +kernel
theorem d_Md_init_40 : decode c_Md_init 40 = .ok (.newarray .int, 2) := by decide +kernel
theorem d_Md_init_42 : decode c_Md_init 42 = .ok (.putfield 23, 3) := by decide +kernel
theorem d_Md_init_45 : decode c_Md_init 45 = .ok (.aload_n 0, 1) := by decide +kernel
theorem d_Md_init_46 : decode c_Md_init 46 = .ok (.bipush 25, 2) := by decide +kernel
theorem d_Md_init_48 : decode c_Md_init 48 = .ok (.newarray .boolean, 2) := by decide +kernel
theorem d_Md_init_50 : decode c_Md_init 50 = .ok (.putfield 26, 3) := by decide +kernel
theorem d_Md_init_53 : decode c_Md_init 53 = .ok (.aload_n 0, 1) := by decide +kernel
theorem d_Md_init_54 : decode c_Md_init 54 = .ok (.sipush 800, 3) := by decide +kernel
theorem d_Md_init_57 : decode c_Md_init 57 = .ok (.newarray .int, 2) := by decide +kernel
theorem d_Md_init_59 : decode c_Md_init 59 = .ok (.putfield 29, 3) := by decide +kernel
theorem d_Md_init_62 : decode c_Md_init 62 = .ok (.aload_n 0, 1) := by decide +kernel
theorem d_Md_init_63 : decode c_Md_init 63 = .ok (.sipush 3640, 3) := by decide +kernel
theorem d_Md_init_66 : decode c_Md_init 66 = .ok (.newarray .int, 2) := by decide +kernel
theorem d_Md_init_68 : decode c_Md_init 68 = .ok (.putfield 32, 3) := by decide +kernel
theorem d_Md_init_71 : decode c_Md_init 71 = .ok (.aload_n 0, 1) := by decide +kernel
theorem d_Md_init_72 : decode c_Md_init 72 = .ok (.sipush 3120, 3) := by decide +kernel
theorem d_Md_init_75 : decode c_Md_init 75 = .ok (.newarray .int, 2) := by decide +kernel
theorem d_Md_init_77 : decode c_Md_init 77 = .ok (.putfield 35, 3) := by decide +kernel
theorem d_Md_init_80 : decode c_Md_init 80 = .ok (.aload_n 0, 1) := by decide +kernel
theorem d_Md_init_81 : decode c_Md_init 81 = .ok (.sipush 800, 3) := by decide +kernel
theorem d_Md_init_84 : decode c_Md_init 84 = .ok (.newarray .int, 2) := by decide +kernel
theorem d_Md_init_86 : decode c_Md_init 86 = .ok (.putfield 38, 3) := by decide +kernel
theorem d_Md_init_89 : decode c_Md_init 89 = .ok (.aload_n 0, 1) := by decide +kernel
theorem d_Md_init_90 : decode c_Md_init 90 = .ok (.getfield 13, 3) := by decide +kernel
theorem d_Md_init_93 : decode c_Md_init 93 = .ok (.iconst 0, 1) := by decide +kernel
theorem d_Md_init_94 : decode c_Md_init 94 = .ok (.iconst 1, 1) := by decide +kernel
theorem d_Md_init_95 : decode c_Md_init 95 = .ok (.bastore, 1) := by decide +kernel
theorem d_Md_init_96 : decode c_Md_init 96 = .ok (.aload_n 0, 1) := by decide +kernel
theorem d_Md_init_97 : decode c_Md_init 97 = .ok (.getfield 17, 3) := by decide +kernel
theorem d_Md_init_100 : decode c_Md_init 100 = .ok (.iconst 0, 1) := by decide +kernel
theorem d_Md_init_101 : decode c_Md_init 101 = .ok (.iconst 1, 1) := by decide +kernel
theorem d_Md_init_102 : decode c_Md_init 102 = .ok (.bastore, 1) := by decide +kernel
theorem d_Md_init_103 : decode c_Md_init 103 = .ok (.aload_n 0, 1) := by decide +kernel
theorem d_Md_init_104 : decode c_Md_init 104 = .ok (.getfield 20, 3) := by decide +kernel
theorem d_Md_init_107 : decode c_Md_init 107 = .ok (.iconst 0, 1) := by decide +kernel
theorem d_Md_init_108 : decode c_Md_init 108 = .ok (.bipush (-3), 2) := by decide +kernel
theorem d_Md_init_110 : decode c_Md_init 110 = .ok (.iastore, 1) := by decide +kernel
theorem d_Md_init_111 : decode c_Md_init 111 = .ok (.aload_n 0, 1) := by decide +kernel
theorem d_Md_init_112 : decode c_Md_init 112 = .ok (.getfield 23, 3) := by decide +kernel
theorem d_Md_init_115 : decode c_Md_init 115 = .ok (.iconst 0, 1) := by decide +kernel
theorem d_Md_init_116 : decode c_Md_init 116 = .ok (.bipush (-3), 2) := by decide +kernel
theorem d_Md_init_118 : decode c_Md_init 118 = .ok (.iastore, 1) := by decide +kernel
theorem d_Md_init_119 : decode c_Md_init 119 = .ok (.return_, 1) := by decide +kernel
theorem d_Md_open_0 : decode c_Md_open 0 = .ok (.iload_n 1, 1) := by decide +kernel
theorem d_Md_open_1 : decode c_Md_open 1 = .ok (.iconst 0, 1) := by decide +kernel
theorem d_Md_open_2 : decode c_Md_open 2 = .ok (.iconst 3, 1) := by decide +kernel
theorem d_Md_open_3 : decode c_Md_open 3 = .ok (.invokestatic 45, 3) := by decide +kernel
theorem d_Md_open_6 : decode c_Md_open 6 = .ok (.ifCond .eq 45, 3) := by decide +kernel
theorem d_Md_open_9 : decode c_Md_open 9 = .ok (.iload_n 2, 1) := by decide +kernel
theorem d_Md_open_10 : decode c_Md_open 10 = .ok (.iconst 0, 1) := by decide +kernel
theorem d_Md_open_11 : decode c_Md_open 11 = .ok (.bipush 24, 2) := by decide +kernel
theorem d_Md_open_13 : decode c_Md_open 13 = .ok (.invokestatic 45, 3) := by decide +kernel
theorem d_Md_open_16 : decode c_Md_open 16 = .ok (.ifCond .eq 35, 3) := by decide +kernel
theorem d_Md_open_19 : decode c_Md_open 19 = .ok (.iload_n 3, 1) := by decide +kernel
theorem d_Md_open_20 : decode c_Md_open 20 = .ok (.iconst 0, 1) := by decide +kernel
theorem d_Md_open_21 : decode c_Md_open 21 = .ok (.bipush 15, 2) := by decide +kernel
theorem d_Md_open_23 : decode c_Md_open 23 = .ok (.invokestatic 45, 3) := by decide +kernel
theorem d_Md_open_26 : decode c_Md_open 26 = .ok (.ifCond .eq 25, 3) := by decide +kernel
theorem d_Md_open_29 : decode c_Md_open 29 = .ok (.iload 4, 2) := by decide +kernel
theorem d_Md_open_31 : decode c_Md_open 31 = .ok (.iconst 0, 1) := by decide +kernel
theorem d_Md_open_32 : decode c_Md_open 32 = .ok (.sipush 1023, 3) := by decide +kernel
theorem d_Md_open_35 : decode c_Md_open 35 = .ok (.invokestatic 45, 3) := by decide +kernel
theorem d_Md_open_38 : decode c_Md_open 38 = .ok (.ifCond .eq 13, 3) := by decide +kernel
theorem d_Md_open_41 : decode c_Md_open 41 = .ok (.iload 5, 2) := by decide +kernel
theorem d_Md_open_43 : decode c_Md_open 43 = .ok (.iconst 0, 1) := by decide +kernel
theorem d_Md_open_44 : decode c_Md_open 44 = .ok (.iconst 2, 1) := by decide +kernel
theorem d_Md_open_45 : decode c_Md_open 45 = .ok (.invokestatic 45, 3) := by decide +kernel
theorem d_Md_open_48 : decode c_Md_open 48 = .ok (.ifCond .ne 5, 3) := by decide +kernel
theorem d_Md_open_51 : decode c_Md_open 51 = .ok (.iconst (-1), 1) := by decide +kernel
theorem d_Md_open_52 : decode c_Md_open 52 = .ok (.ireturn, 1) := by decide +kernel
theorem d_Md_open_53 : decode c_Md_open 53 = .ok (.iload 4, 2) := by decide +kernel
theorem d_Md_open_55 : decode c_Md_open 55 = .ok (.bipush 7, 2) := by decide +kernel
theorem d_Md_open_57 : decode c_Md_open 57 = .ok (.iand, 1) := by decide +kernel
theorem d_Md_open_58 : decode c_Md_open 58 = .ok (.ifCond .eq 15, 3) := by decide +kernel
theorem d_Md_open_61 : decode c_Md_open 61 = .ok (.iload 4, 2) := by decide +kernel
theorem d_Md_open_63 : decode c_Md_open 63 = .ok (.sipush 516, 3) := by decide +kernel
theorem d_Md_open_66 : decode c_Md_open 66 = .ok (.iand, 1) := by decide +kernel
theorem d_Md_open_67 : decode c_Md_open 67 = .ok (.sipush 512, 3) := by decide +kernel
theorem d_Md_open_70 : decode c_Md_open 70 = .ok (.if_icmp .ne 5, 3) := by decide +kernel
theorem d_Md_open_73 : decode c_Md_open 73 = .ok (.iconst (-1), 1) := by decide +kernel
theorem d_Md_open_74 : decode c_Md_open 74 = .ok (.ireturn, 1) := by decide +kernel
theorem d_Md_open_75 : decode c_Md_open 75 = .ok (.aload_n 0, 1) := by decide +kernel
theorem d_Md_open_76 : decode c_Md_open 76 = .ok (.dup, 1) := by decide +kernel
theorem d_Md_open_77 : decode c_Md_open 77 = .ok (.getfield 88, 3) := by decide +kernel
theorem d_Md_open_80 : decode c_Md_open 80 = .ok (.iconst 1, 1) := by decide +kernel
theorem d_Md_open_81 : decode c_Md_open 81 = .ok (.iadd, 1) := by decide +kernel
theorem d_Md_open_82 : decode c_Md_open 82 = .ok (.putfield 88, 3) := by decide +kernel
theorem d_Md_open_85 : decode c_Md_open 85 = .ok (.bipush 6, 2) := by decide +kernel
theorem d_Md_open_87 : decode c_Md_open 87 = .ok (.aload_n 0, 1) := by decide +kernel
theorem d_Md_open_88 : decode c_Md_open 88 = .ok (.getfield 88, 3) := by decide +kernel
theorem d_Md_open_91 : decode c_Md_open 91 = .ok (.imul, 1) := by decide +kernel
theorem d_Md_open_92 : decode c_Md_open 92 = .ok (.istore 6, 2) := by decide +kernel
theorem d_Md_open_94 : decode c_Md_open 94 = .ok (.aload_n 0, 1) := by decide +kernel
theorem d_Md_open_95 : decode c_Md_open 95 = .ok (.getfield 35, 3) := by decide +kernel
theorem d_Md_open_98 : decode c_Md_open 98 = .ok (.iload 6, 2) := by decide +kernel
theorem d_Md_open_100 : decode c_Md_open 100 = .ok (.iload_n 1, 1) := by decide +kernel
theorem d_Md_open_101 : decode c_Md_open 101 = .ok (.iastore, 1) := by decide +kernel
theorem d_Md_open_102 : decode c_Md_open 102 = .ok (.aload_n 0, 1) := by decide +kernel
theorem d_Md_open_103 : decode c_Md_open 103 = .ok (.getfield 35, 3) := by decide +kernel
theorem d_Md_open_106 : decode c_Md_open 106 = .ok (.iload 6, 2) := by decide +kernel
theorem d_Md_open_108 : decode c_Md_open 108 = .ok (.iconst 1, 1) := by decide +kernel
theorem d_Md_open_109 : decode c_Md_open 109 = .ok (.iadd, 1) := by decide +kernel
theorem d_Md_open_110 : decode c_Md_open 110 = .ok (.iload_n 2, 1) := by decide +kernel
theorem d_Md_open_111 : decode c_Md_open 111 = .ok (.iastore, 1) := by decide +kernel
theorem d_Md_open_112 : decode c_Md_open 112 = .ok (.aload_n 0, 1) := by decide +kernel
theorem d_Md_open_113 : decode c_Md_open 113 = .ok (.getfield 35, 3) := by decide +kernel
theorem d_Md_open_116 : decode c_Md_open 116 = .ok (.iload 6, 2) := by decide +kernel
theorem d_Md_open_118 : decode c_Md_open 118 = .ok (.iconst 2, 1) := by decide +kernel
theorem d_Md_open_119 : decode c_Md_open 119 = .ok (.iadd, 1) := by decide +kernel
theorem d_Md_open_120 : decode c_Md_open 120 = .ok (.iload_n 3, 1) := by decide +kernel
theorem d_Md_open_121 : decode c_Md_open 121 = .ok (.iastore, 1) := by decide +kernel
theorem d_Md_open_122 : decode c_Md_open 122 = .ok (.aload_n 0, 1) := by decide +kernel
theorem d_Md_open_123 : decode c_Md_open 123 = .ok (.getfield 35, 3) := by decide +kernel
theorem d_Md_open_126 : decode c_Md_open 126 = .ok (.iload 6, 2) := by decide +kernel
theorem d_Md_open_128 : decode c_Md_open 128 = .ok (.iconst 3, 1) := by decide +kernel
theorem d_Md_open_129 : decode c_Md_open 129 = .ok (.iadd, 1) := by decide +kernel
theorem d_Md_open_130 : decode c_Md_open 130 = .ok (.iload 4, 2) := by decide +kernel
theorem d_Md_open_132 : decode c_Md_open 132 = .ok (.iastore, 1) := by decide +kernel
theorem d_Md_open_133 : decode c_Md_open 133 = .ok (.aload_n 0, 1) := by decide +kernel
theorem d_Md_open_134 : decode c_Md_open 134 = .ok (.getfield 35, 3) := by decide +kernel
theorem d_Md_open_137 : decode c_Md_open 137 = .ok (.iload 6, 2) := by decide +kernel
theorem d_Md_open_139 : decode c_Md_open 139 = .ok (.iconst 4, 1) := by decide +kernel
theorem d_Md_open_140 : decode c_Md_open 140 = .ok (.iadd, 1) := by decide +kernel
theorem d_Md_open_141 : decode c_Md_open 141 = .ok (.iload 5, 2) := by decide +kernel
theorem d_Md_open_143 : decode c_Md_open 143 = .ok (.iastore, 1) := by decide +kernel
theorem d_Md_open_144 : decode c_Md_open 144 = .ok (.aload_n 0, 1) := by decide +kernel
theorem d_Md_open_145 : decode c_Md_open 145 = .ok (.getfield 35, 3) := by decide +kernel
theorem d_Md_open_148 : decode c_Md_open 148 = .ok (.iload 6, 2) := by decide +kernel
theorem d_Md_open_150 : decode c_Md_open 150 = .ok (.iconst 5, 1) := by decide +kernel
theorem d_Md_open_151 : decode c_Md_open 151 = .ok (.iadd, 1) := by decide +kernel
theorem d_Md_open_152 : decode c_Md_open 152 = .ok (.aload_n 0, 1) := by decide +kernel
theorem d_Md_open_153 : decode c_Md_open 153 = .ok (.aload_n 0, 1) := by decide +kernel
theorem d_Md_open_154 : decode c_Md_open 154 = .ok (.getfield 88, 3) := by decide +kernel
theorem d_Md_open_157 : decode c_Md_open 157 = .ok (.invokevirtual 91, 3) := by decide +kernel
theorem d_Md_open_160 : decode c_Md_open 160 = .ok (.iastore, 1) := by decide +kernel
theorem d_Md_open_161 : decode c_Md_open 161 = .ok (.aload_n 0, 1) := by decide +kernel
theorem d_Md_open_162 : decode c_Md_open 162 = .ok (.getfield 88, 3) := by decide +kernel
theorem d_Md_open_165 : decode c_Md_open 165 = .ok (.ireturn, 1) := by decide +kernel
theorem d_Md_in_0 : decode c_Md_in 0 = .ok (.iload_n 0, 1) := by decide +kernel
theorem d_Md_in_1 : decode c_Md_in 1 = .ok (.iload_n 1, 1) := by decide +kernel
theorem d_Md_in_2 : decode c_Md_in 2 = .ok (.if_icmp .lt 12, 3) := by decide +kernel
theorem d_Md_in_5 : decode c_Md_in 5 = .ok (.iload_n 0, 1) := by decide +kernel
theorem d_Md_in_6 : decode c_Md_in 6 = .ok (.iload_n 2, 1) := by decide +kernel
theorem d_Md_in_7 : decode c_Md_in 7 = .ok (.if_icmp .gt 7, 3) := by decide +kernel
theorem d_Md_in_10 : decode c_Md_in 10 = .ok (.iconst 1, 1) := by decide +kernel
theorem d_Md_in_11 : decode c_Md_in 11 = .ok (.goto 4, 3) := by decide +kernel
theorem d_Md_in_14 : decode c_Md_in 14 = .ok (.iconst 0, 1) := by decide +kernel
theorem d_Md_in_15 : decode c_Md_in 15 = .ok (.ireturn, 1) := by decide +kernel
theorem d_Md_attempt_0 : decode c_Md_attempt 0 = .ok (.aload_n 0, 1) := by decide +kernel
theorem d_Md_attempt_1 : decode c_Md_attempt 1 = .ok (.getfield 35, 3) := by decide +kernel
theorem d_Md_attempt_4 : decode c_Md_attempt 4 = .ok (.bipush 6, 2) := by decide +kernel
theorem d_Md_attempt_6 : decode c_Md_attempt 6 = .ok (.iload_n 1, 1) := by decide +kernel
theorem d_Md_attempt_7 : decode c_Md_attempt 7 = .ok (.imul, 1) := by decide +kernel
theorem d_Md_attempt_8 : decode c_Md_attempt 8 = .ok (.iconst 1, 1) := by decide +kernel
theorem d_Md_attempt_9 : decode c_Md_attempt 9 = .ok (.iadd, 1) := by decide +kernel
theorem d_Md_attempt_10 : decode c_Md_attempt 10 = .ok (.iaload, 1) := by decide +kernel
theorem d_Md_attempt_11 : decode c_Md_attempt 11 = .ok (.istore_n 2, 1) := by decide +kernel
theorem d_Md_attempt_12 : decode c_Md_attempt 12 = .ok (.aload_n 0, 1) := by decide +kernel
theorem d_Md_attempt_13 : decode c_Md_attempt 13 = .ok (.getfield 35, 3) := by decide +kernel
theorem d_Md_attempt_16 : decode c_Md_attempt 16 = .ok (.bipush 6, 2) := by decide +kernel
theorem d_Md_attempt_18 : decode c_Md_attempt 18 = .ok (.iload_n 1, 1) := by decide +kernel
theorem d_Md_attempt_19 : decode c_Md_attempt 19 = .ok (.imul, 1) := by decide +kernel
theorem d_Md_attempt_20 : decode c_Md_attempt 20 = .ok (.iconst 3, 1) := by decide +kernel
theorem d_Md_attempt_21 : decode c_Md_attempt 21 = .ok (.iadd, 1) := by decide +kernel
theorem d_Md_attempt_22 : decode c_Md_attempt 22 = .ok (.iaload, 1) := by decide +kernel
theorem d_Md_attempt_23 : decode c_Md_attempt 23 = .ok (.istore_n 3, 1) := by decide +kernel
theorem d_Md_attempt_24 : decode c_Md_attempt 24 = .ok (.aload_n 0, 1) := by decide +kernel
theorem d_Md_attempt_25 : decode c_Md_attempt 25 = .ok (.getfield 13, 3) := by decide +kernel
theorem d_Md_attempt_28 : decode c_Md_attempt 28 = .ok (.iload_n 2, 1) := by decide +kernel
theorem d_Md_attempt_29 : decode c_Md_attempt 29 = .ok (.baload, 1) := by decide +kernel
theorem d_Md_attempt_30 : decode c_Md_attempt 30 = .ok (.ifCond .eq 12, 3) := by decide +kernel
theorem d_Md_attempt_33 : decode c_Md_attempt 33 = .ok (.aload_n 0, 1) := by decide +kernel
theorem d_Md_attempt_34 : decode c_Md_attempt 34 = .ok (.getfield 17, 3) := by decide +kernel
theorem d_Md_attempt_37 : decode c_Md_attempt 37 = .ok (.iload_n 2, 1) := by decide +kernel
theorem d_Md_attempt_38 : decode c_Md_attempt 38 = .ok (.baload, 1) := by decide +kernel
theorem d_Md_attempt_39 : decode c_Md_attempt 39 = .ok (.ifCond .ne 6, 3) := by decide +kernel
theorem d_Md_attempt_42 : decode c_Md_attempt 42 = .ok (.bipush (-3), 2) := by decide +kernel
theorem d_Md_attempt_44 : decode c_Md_attempt 44 = .ok (.ireturn, 1) := by decide +kernel
theorem d_Md_attempt_45 : decode c_Md_attempt 45 = .ok (.aload_n 0, 1) := by decide +kernel
theorem d_Md_attempt_46 : decode c_Md_attempt 46 = .ok (.iload_n 2, 1) := by decide +kernel
theorem d_Md_attempt_47 : decode c_Md_attempt 47 = .ok (.aload_n 0, 1) := by decide +kernel
theorem d_Md_attempt_48 : decode c_Md_attempt 48 = .ok (.getfield 35, 3) := by decide +kernel
theorem d_Md_attempt_51 : decode c_Md_attempt 51 = .ok (.bipush 6, 2) := by decide +kernel
theorem d_Md_attempt_53 : decode c_Md_attempt 53 = .ok (.iload_n 1, 1) := by decide +kernel
theorem d_Md_attempt_54 : decode c_Md_attempt 54 = .ok (.imul, 1) := by decide +kernel
theorem d_Md_attempt_55 : decode c_Md_attempt 55 = .ok (.iconst 2, 1) := by decide +kernel
theorem d_Md_attempt_56 : decode c_Md_attempt 56 = .ok (.iadd, 1) := by decide +kernel
theorem d_Md_attempt_57 : decode c_Md_attempt 57 = .ok (.iaload, 1) := by decide +kernel
theorem d_Md_attempt_58 : decode c_Md_attempt 58 = .ok (.invokevirtual 70, 3) := by decide +kernel
theorem d_Md_attempt_61 : decode c_Md_attempt 61 = .ok (.istore 4, 2) := by decide +kernel
theorem d_Md_attempt_63 : decode c_Md_attempt 63 = .ok (.iload 4, 2) := by decide +kernel
theorem d_Md_attempt_65 : decode c_Md_attempt 65 = .ok (.ifCond .ge 86, 3) := by decide +kernel
theorem d_Md_attempt_68 : decode c_Md_attempt 68 = .ok (.iload_n 3, 1) := by decide +kernel
theorem d_Md_attempt_69 : decode c_Md_attempt 69 = .ok (.bipush 64, 2) := by decide +kernel
theorem d_Md_attempt_71 : decode c_Md_attempt 71 = .ok (.iand, 1) := by decide +kernel
theorem d_Md_attempt_72 : decode c_Md_attempt 72 = .ok (.ifCond .ne 6, 3) := by decide +kernel
theorem d_Md_attempt_75 : decode c_Md_attempt 75 = .ok (.bipush (-3), 2) := by decide +kernel
theorem d_Md_attempt_77 : decode c_Md_attempt 77 = .ok (.ireturn, 1) := by decide +kernel
theorem d_Md_attempt_78 : decode c_Md_attempt 78 = .ok (.aload_n 0, 1) := by decide +kernel
theorem d_Md_attempt_79 : decode c_Md_attempt 79 = .ok (.getfield 26, 3) := by decide +kernel
theorem d_Md_attempt_82 : decode c_Md_attempt 82 = .ok (.iload_n 2, 1) := by decide +kernel
theorem d_Md_attempt_83 : decode c_Md_attempt 83 = .ok (.baload, 1) := by decide +kernel
theorem d_Md_attempt_84 : decode c_Md_attempt 84 = .ok (.ifCond .eq 6, 3) := by decide +kernel
theorem d_Md_attempt_87 : decode c_Md_attempt 87 = .ok (.bipush (-7), 2) := by decide +kernel
theorem d_Md_attempt_89 : decode c_Md_attempt 89 = .ok (.ireturn, 1) := by decide +kernel
theorem d_Md_attempt_90 : decode c_Md_attempt 90 = .ok (.aload_n 0, 1) := by decide +kernel
theorem d_Md_attempt_91 : decode c_Md_attempt 91 = .ok (.getfield 53, 3) := by decide +kernel
theorem d_Md_attempt_94 : decode c_Md_attempt 94 = .ok (.bipush 24, 2) := by decide +kernel
theorem d_Md_attempt_96 : decode c_Md_attempt 96 = .ok (.if_icmp .eq 13, 3) := by decide +kernel
theorem d_Md_attempt_99 : decode c_Md_attempt 99 = .ok (.aload_n 0, 1) := by decide +kernel
theorem d_Md_attempt_100 : decode c_Md_attempt 100 = .ok (.iconst (-1), 1) := by decide +kernel
theorem d_Md_attempt_101 : decode c_Md_attempt 101 = .ok (.invokevirtual 66, 3) := by decide +kernel
theorem d_Md_attempt_104 : decode c_Md_attempt 104 = .ok (.bipush 12, 2) := by decide +kernel
theorem d_Md_attempt_106 : decode c_Md_attempt 106 = .ok (.if_icmp .ne 6, 3) := by decide +kernel
theorem d_Md_attempt_109 : decode c_Md_attempt 109 = .ok (.bipush (-2), 2) := by decide +kernel
theorem d_Md_attempt_111 : decode c_Md_attempt 111 = .ok (.ireturn, 1) := by decide +kernel
theorem d_Md_attempt_112 : decode c_Md_attempt 112 = .ok (.aload_n 0, 1) := by decide +kernel
theorem d_Md_attempt_113 : decode c_Md_attempt 113 = .ok (.iconst 1, 1) := by decide +kernel
theorem d_Md_attempt_114 : decode c_Md_attempt 114 = .ok (.aload_n 0, 1) := by decide +kernel
theorem d_Md_attempt_115 : decode c_Md_attempt 115 = .ok (.getfield 53, 3) := by decide +kernel
theorem d_Md_attempt_118 : decode c_Md_attempt 118 = .ok (.iconst 1, 1) := by decide +kernel
theorem d_Md_attempt_119 : decode c_Md_attempt 119 = .ok (.iadd, 1) := by decide +kernel
theorem d_Md_attempt_120 : decode c_Md_attempt 120 = .ok (.iload_n 2, 1) := by decide +kernel
theorem d_Md_attempt_121 : decode c_Md_attempt 121 = .ok (.aload_n 0, 1) := by decide +kernel
theorem d_Md_attempt_122 : decode c_Md_attempt 122 = .ok (.getfield 35, 3) := by decide +kernel
theorem d_Md_attempt_125 : decode c_Md_attempt 125 = .ok (.bipush 6, 2) := by decide +kernel
theorem d_Md_attempt_127 : decode c_Md_attempt 127 = .ok (.iload_n 1, 1) := by decide +kernel
theorem d_Md_attempt_128 : decode c_Md_attempt 128 = .ok (.imul, 1) := by decide +kernel
theorem d_Md_attempt_129 : decode c_Md_attempt 129 = .ok (.iconst 2, 1) := by decide +kernel
theorem d_Md_attempt_130 : decode c_Md_attempt 130 = .ok (.iadd, 1) := by decide +kernel
theorem d_Md_attempt_131 : decode c_Md_attempt 131 = .ok (.iaload, 1) := by decide +kernel
theorem d_Md_attempt_132 : decode c_Md_attempt 132 = .ok (.iload_n 3, 1) := by decide +kernel
theorem d_Md_attempt_133 : decode c_Md_attempt 133 = .ok (.bipush 8, 2) := by decide +kernel
theorem d_Md_attempt_135 : decode c_Md_attempt 135 = .ok (.ishr, 1) := by decide +kernel
theorem d_Md_attempt_136 : decode c_Md_attempt 136 = .ok (.iconst 1, 1) := by decide +kernel
theorem d_Md_attempt_137 : decode c_Md_attempt 137 = .ok (.iand, 1) := by decide +kernel
theorem d_Md_attempt_138 : decode c_Md_attempt 138 = .ok (.invokevirtual 73, 3) := by decide +kernel
theorem d_Md_attempt_141 : decode c_Md_attempt 141 = .ok (.aload_n 0, 1) := by decide +kernel
theorem d_Md_attempt_142 : decode c_Md_attempt 142 = .ok (.iload_n 1, 1) := by decide +kernel
theorem d_Md_attempt_143 : decode c_Md_attempt 143 = .ok (.aload_n 0, 1) := by decide +kernel
theorem d_Md_attempt_144 : decode c_Md_attempt 144 = .ok (.getfield 53, 3) := by decide +kernel
theorem d_Md_attempt_147 : decode c_Md_attempt 147 = .ok (.invokevirtual 77, 3) := by decide +kernel
theorem d_Md_attempt_150 : decode c_Md_attempt 150 = .ok (.ireturn, 1) := by decide +kernel
theorem d_Md_attempt_151 : decode c_Md_attempt 151 = .ok (.iload_n 3, 1) := by decide +kernel
theorem d_Md_attempt_152 : decode c_Md_attempt 152 = .ok (.sipush 192, 3) := by decide +kernel
theorem d_Md_attempt_155 : decode c_Md_attempt 155 = .ok (.iand, 1) := by decide +kernel
theorem d_Md_attempt_156 : decode c_Md_attempt 156 = .ok (.sipush 192, 3) := by decide +kernel
theorem d_Md_attempt_159 : decode c_Md_attempt 159 = .ok (.if_icmp .ne 6, 3) := by decide +kernel
theorem d_Md_attempt_162 : decode c_Md_attempt 162 = .ok (.bipush (-4), 2) := by decide +kernel
theorem d_Md_attempt_164 : decode c_Md_attempt 164 = .ok (.ireturn, 1) := by decide +kernel
theorem d_Md_attempt_165 : decode c_Md_attempt 165 = .ok (.aload_n 0, 1) := by decide +kernel
theorem d_Md_attempt_166 : decode c_Md_attempt 166 = .ok (.getfield 17, 3) := by decide +kernel
theorem d_Md_attempt_169 : decode c_Md_attempt 169 = .ok (.iload 4, 2) := by decide +kernel
theorem d_Md_attempt_171 : decode c_Md_attempt 171 = .ok (.baload, 1) := by decide +kernel
theorem d_Md_attempt_172 : decode c_Md_attempt 172 = .ok (.iload_n 3, 1) := by decide +kernel
theorem d_Md_attempt_173 : decode c_Md_attempt 173 = .ok (.sipush 256, 3) := by decide +kernel
theorem d_Md_attempt_176 : decode c_Md_attempt 176 = .ok (.iand, 1) := by decide +kernel
theorem d_Md_attempt_177 : decode c_Md_attempt 177 = .ok (.ifCond .eq 7, 3) := by decide +kernel
theorem d_Md_attempt_180 : decode c_Md_attempt 180 = .ok (.iconst 1, 1) := by decide +kernel
theorem d_Md_attempt_181 : decode c_Md_attempt 181 = .ok (.goto 4, 3) := by decide +kernel
theorem d_Md_attempt_184 : decode c_Md_attempt 184 = .ok (.iconst 0, 1) := by decide +kernel
theorem d_Md_attempt_185 : decode c_Md_attempt 185 = .ok (.if_icmp .eq 6, 3) := by decide +kernel
theorem d_Md_attempt_188 : decode c_Md_attempt 188 = .ok (.bipush (-5), 2) := by decide +kernel
theorem d_Md_attempt_190 : decode c_Md_attempt 190 = .ok (.ireturn, 1) := by decide +kernel
theorem d_Md_attempt_191 : decode c_Md_attempt 191 = .ok (.aload_n 0, 1) := by decide +kernel
theorem d_Md_attempt_192 : decode c_Md_attempt 192 = .ok (.iload 4, 2) := by decide +kernel
theorem d_Md_attempt_194 : decode c_Md_attempt 194 = .ok (.invokevirtual 80, 3) := by decide +kernel
theorem d_Md_attempt_197 : decode c_Md_attempt 197 = .ok (.ifCond .eq 5, 3) := by decide +kernel
theorem d_Md_attempt_200 : decode c_Md_attempt 200 = .ok (.iconst 0, 1) := by decide +kernel
theorem d_Md_attempt_201 : decode c_Md_attempt 201 = .ok (.ireturn, 1) := by decide +kernel
theorem d_Md_attempt_202 : decode c_Md_attempt 202 = .ok (.aload_n 0, 1) := by decide +kernel
theorem d_Md_attempt_203 : decode c_Md_attempt 203 = .ok (.getfield 26, 3) := by decide +kernel
theorem d_Md_attempt_206 : decode c_Md_attempt 206 = .ok (.iload 4, 2) := by decide +kernel
theorem d_Md_attempt_208 : decode c_Md_attempt 208 = .ok (.baload, 1) := by decide +kernel
theorem d_Md_attempt_209 : decode c_Md_attempt 209 = .ok (.ifCond .eq 6, 3) := by decide +kernel
theorem d_Md_attempt_212 : decode c_Md_attempt 212 = .ok (.bipush (-7), 2) := by decide +kernel
theorem d_Md_attempt_214 : decode c_Md_attempt 214 = .ok (.ireturn, 1) := by decide +kernel
theorem d_Md_attempt_215 : decode c_Md_attempt 215 = .ok (.aload_n 0, 1) := by decide +kernel
theorem d_Md_attempt_216 : decode c_Md_attempt 216 = .ok (.iload 4, 2) := by decide +kernel
theorem d_Md_attempt_218 : decode c_Md_attempt 218 = .ok (.iload_n 3, 1) := by decide +kernel
theorem d_Md_attempt_219 : decode c_Md_attempt 219 = .ok (.invokevirtual 84, 3) := by decide +kernel
theorem d_Md_attempt_222 : decode c_Md_attempt 222 = .ok (.ifCond .eq 6, 3) := by decide +kernel
theorem d_Md_attempt_225 : decode c_Md_attempt 225 = .ok (.bipush (-6), 2) := by decide +kernel
theorem d_Md_attempt_227 : decode c_Md_attempt 227 = .ok (.ireturn, 1) := by decide +kernel
theorem d_Md_attempt_228 : decode c_Md_attempt 228 = .ok (.aload_n 0, 1) := by decide +kernel
theorem d_Md_attempt_229 : decode c_Md_attempt 229 = .ok (.iconst (-1), 1) := by decide +kernel
theorem d_Md_attempt_230 : decode c_Md_attempt 230 = .ok (.invokevirtual 66, 3) := by decide +kernel
theorem d_Md_attempt_233 : decode c_Md_attempt 233 = .ok (.bipush 12, 2) := by decide +kernel
theorem d_Md_attempt_235 : decode c_Md_attempt 235 = .ok (.if_icmp .ne 8, 3) := by decide +kernel
theorem d_Md_attempt_238 : decode c_Md_attempt 238 = .ok (.bipush (-2), 2) := by decide +kernel
theorem d_Md_attempt_240 : decode c_Md_attempt 240 = .ok (.goto 10, 3) := by decide +kernel
theorem d_Md_attempt_243 : decode c_Md_attempt 243 = .ok (.aload_n 0, 1) := by decide +kernel
theorem d_Md_attempt_244 : decode c_Md_attempt 244 = .ok (.iload_n 1, 1) := by decide +kernel
theorem d_Md_attempt_245 : decode c_Md_attempt 245 = .ok (.iload 4, 2) := by decide +kernel
theorem d_Md_attempt_247 : decode c_Md_attempt 247 = .ok (.invokevirtual 77, 3) := by decide +kernel
theorem d_Md_attempt_250 : decode c_Md_attempt 250 = .ok (.ireturn, 1) := by decide +kernel
theorem d_Md_at_0 : decode c_Md_at 0 = .ok (.iconst 1, 1) := by decide +kernel
theorem d_Md_at_1 : decode c_Md_at 1 = .ok (.istore_n 3, 1) := by decide +kernel
theorem d_Md_at_2 : decode c_Md_at 2 = .ok (.iload_n 3, 1) := by decide +kernel
theorem d_Md_at_3 : decode c_Md_at 3 = .ok (.aload_n 0, 1) := by decide +kernel
theorem d_Md_at_4 : decode c_Md_at 4 = .ok (.getfield 53, 3) := by decide +kernel
theorem d_Md_at_7 : decode c_Md_at 7 = .ok (.if_icmp .gt 40, 3) := by decide +kernel
theorem d_Md_at_10 : decode c_Md_at 10 = .ok (.aload_n 0, 1) := by decide +kernel
theorem d_Md_at_11 : decode c_Md_at 11 = .ok (.getfield 13, 3) := by decide +kernel
theorem d_Md_at_14 : decode c_Md_at 14 = .ok (.iload_n 3, 1) := by decide +kernel
theorem d_Md_at_15 : decode c_Md_at 15 = .ok (.baload, 1) := by decide +kernel
theorem d_Md_at_16 : decode c_Md_at 16 = .ok (.ifCond .eq 25, 3) := by decide +kernel
theorem d_Md_at_19 : decode c_Md_at 19 = .ok (.aload_n 0, 1) := by decide +kernel
theorem d_Md_at_20 : decode c_Md_at 20 = .ok (.getfield 20, 3) := by decide +kernel
theorem d_Md_at_23 : decode c_Md_at 23 = .ok (.iload_n 3, 1) := by decide +kernel
theorem d_Md_at_24 : decode c_Md_at 24 = .ok (.iaload, 1) := by decide +kernel
theorem d_Md_at_25 : decode c_Md_at 25 = .ok (.iload_n 1, 1) := by decide +kernel
theorem d_Md_at_26 : decode c_Md_at 26 = .ok (.if_icmp .ne 15, 3) := by decide +kernel
theorem d_Md_at_29 : decode c_Md_at 29 = .ok (.aload_n 0, 1) := by decide +kernel
theorem d_Md_at_30 : decode c_Md_at 30 = .ok (.getfield 23, 3) := by decide +kernel
theorem d_Md_at_33 : decode c_Md_at 33 = .ok (.iload_n 3, 1) := by decide +kernel
theorem d_Md_at_34 : decode c_Md_at 34 = .ok (.iaload, 1) := by decide +kernel
theorem d_Md_at_35 : decode c_Md_at 35 = .ok (.iload_n 2, 1) := by decide +kernel
theorem d_Md_at_36 : decode c_Md_at 36 = .ok (.if_icmp .ne 5, 3) := by decide +kernel
theorem d_Md_at_39 : decode c_Md_at 39 = .ok (.iload_n 3, 1) := by decide +kernel
theorem d_Md_at_40 : decode c_Md_at 40 = .ok (.ireturn, 1) := by decide +kernel
theorem d_Md_at_41 : decode c_Md_at 41 = .ok (.iinc 3 1, 3) := by decide +kernel
theorem d_Md_at_44 : decode c_Md_at 44 = .ok (.goto (-42), 3) := by decide +kernel
theorem d_Md_at_47 : decode c_Md_at 47 = .ok (.bipush (-3), 2) := by decide +kernel
theorem d_Md_at_49 : decode c_Md_at 49 = .ok (.ireturn, 1) := by decide +kernel
theorem d_Md_openOf_0 : decode c_Md_openOf 0 = .ok (.iconst 0, 1) := by decide +kernel
theorem d_Md_openOf_1 : decode c_Md_openOf 1 = .ok (.istore_n 2, 1) := by decide +kernel
theorem d_Md_openOf_2 : decode c_Md_openOf 2 = .ok (.iconst 1, 1) := by decide +kernel
theorem d_Md_openOf_3 : decode c_Md_openOf 3 = .ok (.istore_n 3, 1) := by decide +kernel
theorem d_Md_openOf_4 : decode c_Md_openOf 4 = .ok (.iload_n 3, 1) := by decide +kernel
theorem d_Md_openOf_5 : decode c_Md_openOf 5 = .ok (.aload_n 0, 1) := by decide +kernel
theorem d_Md_openOf_6 : decode c_Md_openOf 6 = .ok (.getfield 41, 3) := by decide +kernel
theorem d_Md_openOf_9 : decode c_Md_openOf 9 = .ok (.if_icmp .gt 37, 3) := by decide +kernel
theorem d_Md_openOf_12 : decode c_Md_openOf 12 = .ok (.aload_n 0, 1) := by decide +kernel
theorem d_Md_openOf_13 : decode c_Md_openOf 13 = .ok (.iload_n 3, 1) := by decide +kernel
theorem d_Md_openOf_14 : decode c_Md_openOf 14 = .ok (.bipush 6, 2) := by decide +kernel
theorem d_Md_openOf_16 : decode c_Md_openOf 16 = .ok (.invokevirtual 49, 3) := by decide +kernel
theorem d_Md_openOf_19 : decode c_Md_openOf 19 = .ok (.iconst 1, 1) := by decide +kernel
theorem d_Md_openOf_20 : decode c_Md_openOf 20 = .ok (.if_icmp .ne 20, 3) := by decide +kernel
theorem d_Md_openOf_23 : decode c_Md_openOf 23 = .ok (.iload_n 1, 1) := by decide +kernel
theorem d_Md_openOf_24 : decode c_Md_openOf 24 = .ok (.ifCond .lt 13, 3) := by decide +kernel
theorem d_Md_openOf_27 : decode c_Md_openOf 27 = .ok (.aload_n 0, 1) := by decide +kernel
theorem d_Md_openOf_28 : decode c_Md_openOf 28 = .ok (.iload_n 3, 1) := by decide +kernel
theorem d_Md_openOf_29 : decode c_Md_openOf 29 = .ok (.iconst 0, 1) := by decide +kernel
theorem d_Md_openOf_30 : decode c_Md_openOf 30 = .ok (.invokevirtual 49, 3) := by decide +kernel
theorem d_Md_openOf_33 : decode c_Md_openOf 33 = .ok (.iload_n 1, 1) := by decide +kernel
theorem d_Md_openOf_34 : decode c_Md_openOf 34 = .ok (.if_icmp .ne 6, 3) := by decide +kernel
theorem d_Md_openOf_37 : decode c_Md_openOf 37 = .ok (.iinc 2 1, 3) := by decide +kernel
theorem d_Md_openOf_40 : decode c_Md_openOf 40 = .ok (.iinc 3 1, 3) := by decide +kernel
theorem d_Md_openOf_43 : decode c_Md_openOf 43 = .ok (.goto (-39), 3) := by decide +kernel
theorem d_Md_openOf_46 : decode c_Md_openOf 46 = .ok (.iload_n 2, 1) := by decide +kernel
theorem d_Md_openOf_47 : decode c_Md_openOf 47 = .ok (.ireturn, 1) := by decide +kernel
theorem d_Md_h_0 : decode c_Md_h 0 = .ok (.aload_n 0, 1) := by decide +kernel
theorem d_Md_h_1 : decode c_Md_h 1 = .ok (.getfield 32, 3) := by decide +kernel
theorem d_Md_h_4 : decode c_Md_h 4 = .ok (.bipush 7, 2) := by decide +kernel
theorem d_Md_h_6 : decode c_Md_h 6 = .ok (.iload_n 1, 1) := by decide +kernel
theorem d_Md_h_7 : decode c_Md_h 7 = .ok (.imul, 1) := by decide +kernel
theorem d_Md_h_8 : decode c_Md_h 8 = .ok (.iload_n 2, 1) := by decide +kernel
theorem d_Md_h_9 : decode c_Md_h 9 = .ok (.iadd, 1) := by decide +kernel
theorem d_Md_h_10 : decode c_Md_h 10 = .ok (.iaload, 1) := by decide +kernel
theorem d_Md_h_11 : decode c_Md_h 11 = .ok (.ireturn, 1) := by decide +kernel
theorem d_Md_note_0 : decode c_Md_note 0 = .ok (.iconst 5, 1) := by decide +kernel
theorem d_Md_note_1 : decode c_Md_note 1 = .ok (.aload_n 0, 1) := by decide +kernel
theorem d_Md_note_2 : decode c_Md_note 2 = .ok (.getfield 56, 3) := by decide +kernel
theorem d_Md_note_5 : decode c_Md_note 5 = .ok (.imul, 1) := by decide +kernel
theorem d_Md_note_6 : decode c_Md_note 6 = .ok (.istore 6, 2) := by decide +kernel
theorem d_Md_note_8 : decode c_Md_note 8 = .ok (.aload_n 0, 1) := by decide +kernel
theorem d_Md_note_9 : decode c_Md_note 9 = .ok (.getfield 7, 3) := by decide +kernel
theorem d_Md_note_12 : decode c_Md_note 12 = .ok (.iload 6, 2) := by decide +kernel
theorem d_Md_note_14 : decode c_Md_note 14 = .ok (.iload_n 1, 1) := by decide +kernel
theorem d_Md_note_15 : decode c_Md_note 15 = .ok (.iastore, 1) := by decide +kernel
theorem d_Md_note_16 : decode c_Md_note 16 = .ok (.aload_n 0, 1) := by decide +kernel
theorem d_Md_note_17 : decode c_Md_note 17 = .ok (.getfield 7, 3) := by decide +kernel
theorem d_Md_note_20 : decode c_Md_note 20 = .ok (.iload 6, 2) := by decide +kernel
theorem d_Md_note_22 : decode c_Md_note 22 = .ok (.iconst 1, 1) := by decide +kernel
theorem d_Md_note_23 : decode c_Md_note 23 = .ok (.iadd, 1) := by decide +kernel
theorem d_Md_note_24 : decode c_Md_note 24 = .ok (.iload_n 2, 1) := by decide +kernel
theorem d_Md_note_25 : decode c_Md_note 25 = .ok (.iastore, 1) := by decide +kernel
theorem d_Md_note_26 : decode c_Md_note 26 = .ok (.aload_n 0, 1) := by decide +kernel
theorem d_Md_note_27 : decode c_Md_note 27 = .ok (.getfield 7, 3) := by decide +kernel
theorem d_Md_note_30 : decode c_Md_note 30 = .ok (.iload 6, 2) := by decide +kernel
theorem d_Md_note_32 : decode c_Md_note 32 = .ok (.iconst 2, 1) := by decide +kernel
theorem d_Md_note_33 : decode c_Md_note 33 = .ok (.iadd, 1) := by decide +kernel
theorem d_Md_note_34 : decode c_Md_note 34 = .ok (.iload_n 3, 1) := by decide +kernel
theorem d_Md_note_35 : decode c_Md_note 35 = .ok (.iastore, 1) := by decide +kernel
theorem d_Md_note_36 : decode c_Md_note 36 = .ok (.aload_n 0, 1) := by decide +kernel
theorem d_Md_note_37 : decode c_Md_note 37 = .ok (.getfield 7, 3) := by decide +kernel
theorem d_Md_note_40 : decode c_Md_note 40 = .ok (.iload 6, 2) := by decide +kernel
theorem d_Md_note_42 : decode c_Md_note 42 = .ok (.iconst 3, 1) := by decide +kernel
theorem d_Md_note_43 : decode c_Md_note 43 = .ok (.iadd, 1) := by decide +kernel
theorem d_Md_note_44 : decode c_Md_note 44 = .ok (.iload 4, 2) := by decide +kernel
theorem d_Md_note_46 : decode c_Md_note 46 = .ok (.iastore, 1) := by decide +kernel
theorem d_Md_note_47 : decode c_Md_note 47 = .ok (.aload_n 0, 1) := by decide +kernel
theorem d_Md_note_48 : decode c_Md_note 48 = .ok (.getfield 7, 3) := by decide +kernel
theorem d_Md_note_51 : decode c_Md_note 51 = .ok (.iload 6, 2) := by decide +kernel
theorem d_Md_note_53 : decode c_Md_note 53 = .ok (.iconst 4, 1) := by decide +kernel
theorem d_Md_note_54 : decode c_Md_note 54 = .ok (.iadd, 1) := by decide +kernel
theorem d_Md_note_55 : decode c_Md_note 55 = .ok (.iload 5, 2) := by decide +kernel
theorem d_Md_note_57 : decode c_Md_note 57 = .ok (.iastore, 1) := by decide +kernel
theorem d_Md_note_58 : decode c_Md_note 58 = .ok (.aload_n 0, 1) := by decide +kernel
theorem d_Md_note_59 : decode c_Md_note 59 = .ok (.aload_n 0, 1) := by decide +kernel
theorem d_Md_note_60 : decode c_Md_note 60 = .ok (.getfield 56, 3) := by decide +kernel
theorem d_Md_note_63 : decode c_Md_note 63 = .ok (.invokevirtual 59, 3) := by decide +kernel
theorem d_Md_note_66 : decode c_Md_note 66 = .ok (.aload_n 0, 1) := by decide +kernel
theorem d_Md_note_67 : decode c_Md_note 67 = .ok (.dup, 1) := by decide +kernel
theorem d_Md_note_68 : decode c_Md_note 68 = .ok (.getfield 56, 3) := by decide +kernel
theorem d_Md_note_71 : decode c_Md_note 71 = .ok (.iconst 1, 1) := by decide +kernel
theorem d_Md_note_72 : decode c_Md_note 72 = .ok (.iadd, 1) := by decide +kernel
theorem d_Md_note_73 : decode c_Md_note 73 = .ok (.putfield 56, 3) := by decide +kernel
theorem d_Md_note_76 : decode c_Md_note 76 = .ok (.aload_n 0, 1) := by decide +kernel
theorem d_Md_note_77 : decode c_Md_note 77 = .ok (.getfield 56, 3) := by decide +kernel
theorem d_Md_note_80 : decode c_Md_note 80 = .ok (.aload_n 0, 1) := by decide +kernel
theorem d_Md_note_81 : decode c_Md_note 81 = .ok (.getfield 63, 3) := by decide +kernel
theorem d_Md_note_84 : decode c_Md_note 84 = .ok (.isub, 1) := by decide +kernel
theorem d_Md_note_85 : decode c_Md_note 85 = .ok (.bipush 6, 2) := by decide +kernel
theorem d_Md_note_87 : decode c_Md_note 87 = .ok (.if_icmp .ne 11, 3) := by decide +kernel
theorem d_Md_note_90 : decode c_Md_note 90 = .ok (.aload_n 0, 1) := by decide +kernel
theorem d_Md_note_91 : decode c_Md_note 91 = .ok (.aload_n 0, 1) := by decide +kernel
theorem d_Md_note_92 : decode c_Md_note 92 = .ok (.getfield 56, 3) := by decide +kernel
theorem d_Md_note_95 : decode c_Md_note 95 = .ok (.putfield 63, 3) := by decide +kernel
theorem d_Md_note_98 : decode c_Md_note 98 = .ok (.return_, 1) := by decide +kernel
theorem d_Md_apply_0 : decode c_Md_apply 0 = .ok (.iconst 5, 1) := by decide +kernel
theorem d_Md_apply_1 : decode c_Md_apply 1 = .ok (.iload_n 1, 1) := by decide +kernel
theorem d_Md_apply_2 : decode c_Md_apply 2 = .ok (.imul, 1) := by decide +kernel
theorem d_Md_apply_3 : decode c_Md_apply 3 = .ok (.istore_n 2, 1) := by decide +kernel
theorem d_Md_apply_4 : decode c_Md_apply 4 = .ok (.aload_n 0, 1) := by decide +kernel
theorem d_Md_apply_5 : decode c_Md_apply 5 = .ok (.getfield 7, 3) := by decide +kernel
theorem d_Md_apply_8 : decode c_Md_apply 8 = .ok (.iload_n 2, 1) := by decide +kernel
theorem d_Md_apply_9 : decode c_Md_apply 9 = .ok (.iconst 1, 1) := by decide +kernel
theorem d_Md_apply_10 : decode c_Md_apply 10 = .ok (.iadd, 1) := by decide +kernel
theorem d_Md_apply_11 : decode c_Md_apply 11 = .ok (.iaload, 1) := by decide +kernel
theorem d_Md_apply_12 : decode c_Md_apply 12 = .ok (.istore_n 3, 1) := by decide +kernel
theorem d_Md_apply_13 : decode c_Md_apply 13 = .ok (.aload_n 0, 1) := by decide +kernel
theorem d_Md_apply_14 : decode c_Md_apply 14 = .ok (.getfield 7, 3) := by decide +kernel
theorem d_Md_apply_17 : decode c_Md_apply 17 = .ok (.iload_n 2, 1) := by decide +kernel
theorem d_Md_apply_18 : decode c_Md_apply 18 = .ok (.iaload, 1) := by decide +kernel
theorem d_Md_apply_19 : decode c_Md_apply 19 = .ok (.iconst 1, 1) := by decide +kernel
theorem d_Md_apply_20 : decode c_Md_apply 20 = .ok (.if_icmp .ne 67, 3) := by decide +kernel
theorem d_Md_apply_23 : decode c_Md_apply 23 = .ok (.aload_n 0, 1) := by decide +kernel
theorem d_Md_apply_24 : decode c_Md_apply 24 = .ok (.iload_n 3, 1) := by decide +kernel
theorem d_Md_apply_25 : decode c_Md_apply 25 = .ok (.putfield 53, 3) := by decide +kernel
theorem d_Md_apply_28 : decode c_Md_apply 28 = .ok (.aload_n 0, 1) := by decide +kernel
theorem d_Md_apply_29 : decode c_Md_apply 29 = .ok (.getfield 13, 3) := by decide +kernel
theorem d_Md_apply_32 : decode c_Md_apply 32 = .ok (.iload_n 3, 1) := by decide +kernel
theorem d_Md_apply_33 : decode c_Md_apply 33 = .ok (.iconst 1, 1) := by decide +kernel
theorem d_Md_apply_34 : decode c_Md_apply 34 = .ok (.bastore, 1) := by decide +kernel
theorem d_Md_apply_35 : decode c_Md_apply 35 = .ok (.aload_n 0, 1) := by decide +kernel
theorem d_Md_apply_36 : decode c_Md_apply 36 = .ok (.getfield 17, 3) := by decide +kernel
theorem d_Md_apply_39 : decode c_Md_apply 39 = .ok (.iload_n 3, 1) := by decide +kernel
theorem d_Md_apply_40 : decode c_Md_apply 40 = .ok (.aload_n 0, 1) := by decide +kernel
theorem d_Md_apply_41 : decode c_Md_apply 41 = .ok (.getfield 7, 3) := by decide +kernel
theorem d_Md_apply_44 : decode c_Md_apply 44 = .ok (.iload_n 2, 1) := by decide +kernel
theorem d_Md_apply_45 : decode c_Md_apply 45 = .ok (.iconst 4, 1) := by decide +kernel
theorem d_Md_apply_46 : decode c_Md_apply 46 = .ok (.iadd, 1) := by decide +kernel
theorem d_Md_apply_47 : decode c_Md_apply 47 = .ok (.iaload, 1) := by decide +kernel
theorem d_Md_apply_48 : decode c_Md_apply 48 = .ok (.iconst 1, 1) := by decide +kernel
theorem d_Md_apply_49 : decode c_Md_apply 49 = .ok (.if_icmp .ne 7, 3) := by decide +kernel
theorem d_Md_apply_52 : decode c_Md_apply 52 = .ok (.iconst 1, 1) := by decide +kernel
theorem d_Md_apply_53 : decode c_Md_apply 53 = .ok (.goto 4, 3) := by decide +kernel
theorem d_Md_apply_56 : decode c_Md_apply 56 = .ok (.iconst 0, 1) := by decide +kernel
theorem d_Md_apply_57 : decode c_Md_apply 57 = .ok (.bastore, 1) := by decide +kernel
theorem d_Md_apply_58 : decode c_Md_apply 58 = .ok (.iconst 0, 1) := by decide +kernel
theorem d_Md_apply_59 : decode c_Md_apply 59 = .ok (.istore 4, 2) := by decide +kernel
theorem d_Md_apply_61 : decode c_Md_apply 61 = .ok (.iload 4, 2) := by decide +kernel
theorem d_Md_apply_63 : decode c_Md_apply 63 = .ok (.bipush 32, 2) := by decide +kernel
theorem d_Md_apply_65 : decode c_Md_apply 65 = .ok (.if_icmp .ge 22, 3) := by decide +kernel
theorem d_Md_apply_68 : decode c_Md_apply 68 = .ok (.aload_n 0, 1) := by decide +kernel
theorem d_Md_apply_69 : decode c_Md_apply 69 = .ok (.getfield 29, 3) := by decide +kernel
theorem d_Md_apply_72 : decode c_Md_apply 72 = .ok (.bipush 32, 2) := by decide +kernel
theorem d_Md_apply_74 : decode c_Md_apply 74 = .ok (.iload_n 3, 1) := by decide +kernel
theorem d_Md_apply_75 : decode c_Md_apply 75 = .ok (.imul, 1) := by decide +kernel
theorem d_Md_apply_76 : decode c_Md_apply 76 = .ok (.iload 4, 2) := by decide +kernel
theorem d_Md_apply_78 : decode c_Md_apply 78 = .ok (.iadd, 1) := by decide +kernel
theorem d_Md_apply_79 : decode c_Md_apply 79 = .ok (.iconst 0, 1) := by decide +kernel
theorem d_Md_apply_80 : decode c_Md_apply 80 = .ok (.iastore, 1) := by decide +kernel
theorem d_Md_apply_81 : decode c_Md_apply 81 = .ok (.iinc 4 1, 3) := by decide +kernel
theorem d_Md_apply_84 : decode c_Md_apply 84 = .ok (.goto (-23), 3) := by decide +kernel
theorem d_Md_apply_87 : decode c_Md_apply 87 = .ok (.aload_n 0, 1) := by decide +kernel
theorem d_Md_apply_88 : decode c_Md_apply 88 = .ok (.getfield 7, 3) := by decide +kernel
theorem d_Md_apply_91 : decode c_Md_apply 91 = .ok (.iload_n 2, 1) := by decide +kernel
theorem d_Md_apply_92 : decode c_Md_apply 92 = .ok (.iaload, 1) := by decide +kernel
theorem d_Md_apply_93 : decode c_Md_apply 93 = .ok (.iconst 2, 1) := by decide +kernel
theorem d_Md_apply_94 : decode c_Md_apply 94 = .ok (.if_icmp .ne 10, 3) := by decide +kernel
theorem d_Md_apply_97 : decode c_Md_apply 97 = .ok (.aload_n 0, 1) := by decide +kernel
theorem d_Md_apply_98 : decode c_Md_apply 98 = .ok (.getfield 13, 3) := by decide +kernel
theorem d_Md_apply_101 : decode c_Md_apply 101 = .ok (.iload_n 3, 1) := by decide +kernel
theorem d_Md_apply_102 : decode c_Md_apply 102 = .ok (.iconst 0, 1) := by decide +kernel
theorem d_Md_apply_103 : decode c_Md_apply 103 = .ok (.bastore, 1) := by decide +kernel
theorem d_Md_apply_104 : decode c_Md_apply 104 = .ok (.aload_n 0, 1) := by decide +kernel
theorem d_Md_apply_105 : decode c_Md_apply 105 = .ok (.getfield 7, 3) := by decide +kernel
theorem d_Md_apply_108 : decode c_Md_apply 108 = .ok (.iload_n 2, 1) := by decide +kernel
theorem d_Md_apply_109 : decode c_Md_apply 109 = .ok (.iaload, 1) := by decide +kernel
theorem d_Md_apply_110 : decode c_Md_apply 110 = .ok (.iconst 4, 1) := by decide +kernel
theorem d_Md_apply_111 : decode c_Md_apply 111 = .ok (.if_icmp .ne 29, 3) := by decide +kernel
theorem d_Md_apply_114 : decode c_Md_apply 114 = .ok (.aload_n 0, 1) := by decide +kernel
theorem d_Md_apply_115 : decode c_Md_apply 115 = .ok (.getfield 29, 3) := by decide +kernel
theorem d_Md_apply_118 : decode c_Md_apply 118 = .ok (.bipush 32, 2) := by decide +kernel
theorem d_Md_apply_120 : decode c_Md_apply 120 = .ok (.iload_n 3, 1) := by decide +kernel
theorem d_Md_apply_121 : decode c_Md_apply 121 = .ok (.imul, 1) := by decide +kernel
theorem d_Md_apply_122 : decode c_Md_apply 122 = .ok (.aload_n 0, 1) := by decide +kernel
theorem d_Md_apply_123 : decode c_Md_apply 123 = .ok (.getfield 7, 3) := by decide +kernel
theorem d_Md_apply_126 : decode c_Md_apply 126 = .ok (.iload_n 2, 1) := by decide +kernel
theorem d_Md_apply_127 : decode c_Md_apply 127 = .ok (.iconst 2, 1) := by decide +kernel
theorem d_Md_apply_128 : decode c_Md_apply 128 = .ok (.iadd, 1) := by decide +kernel
theorem d_Md_apply_129 : decode c_Md_apply 129 = .ok (.iaload, 1) := by decide +kernel
theorem d_Md_apply_130 : decode c_Md_apply 130 = .ok (.iadd, 1) := by decide +kernel
theorem d_Md_apply_131 : decode c_Md_apply 131 = .ok (.aload_n 0, 1) := by decide +kernel
theorem d_Md_apply_132 : decode c_Md_apply 132 = .ok (.getfield 7, 3) := by decide +kernel
theorem d_Md_apply_135 : decode c_Md_apply 135 = .ok (.iload_n 2, 1) := by decide +kernel
theorem d_Md_apply_136 : decode c_Md_apply 136 = .ok (.iconst 3, 1) := by decide +kernel
theorem d_Md_apply_137 : decode c_Md_apply 137 = .ok (.iadd, 1) := by decide +kernel
theorem d_Md_apply_138 : decode c_Md_apply 138 = .ok (.iaload, 1) := by decide +kernel
theorem d_Md_apply_139 : decode c_Md_apply 139 = .ok (.iastore, 1) := by decide +kernel
theorem d_Md_apply_140 : decode c_Md_apply 140 = .ok (.aload_n 0, 1) := by decide +kernel
theorem d_Md_apply_141 : decode c_Md_apply 141 = .ok (.getfield 7, 3) := by decide +kernel
theorem d_Md_apply_144 : decode c_Md_apply 144 = .ok (.iload_n 2, 1) := by decide +kernel
theorem d_Md_apply_145 : decode c_Md_apply 145 = .ok (.iaload, 1) := by decide +kernel
theorem d_Md_apply_146 : decode c_Md_apply 146 = .ok (.iconst 1, 1) := by decide +kernel
theorem d_Md_apply_147 : decode c_Md_apply 147 = .ok (.if_icmp .eq 13, 3) := by decide +kernel
theorem d_Md_apply_150 : decode c_Md_apply 150 = .ok (.aload_n 0, 1) := by decide +kernel
theorem d_Md_apply_151 : decode c_Md_apply 151 = .ok (.getfield 7, 3) := by decide +kernel
theorem d_Md_apply_154 : decode c_Md_apply 154 = .ok (.iload_n 2, 1) := by decide +kernel
theorem d_Md_apply_155 : decode c_Md_apply 155 = .ok (.iaload, 1) := by decide +kernel
theorem d_Md_apply_156 : decode c_Md_apply 156 = .ok (.iconst 3, 1) := by decide +kernel
theorem d_Md_apply_157 : decode c_Md_apply 157 = .ok (.if_icmp .ne 31, 3) := by decide +kernel
theorem d_Md_apply_160 : decode c_Md_apply 160 = .ok (.aload_n 0, 1) := by decide +kernel
theorem d_Md_apply_161 : decode c_Md_apply 161 = .ok (.getfield 20, 3) := by decide +kernel
theorem d_Md_apply_164 : decode c_Md_apply 164 = .ok (.iload_n 3, 1) := by decide +kernel
theorem d_Md_apply_165 : decode c_Md_apply 165 = .ok (.aload_n 0, 1) := by decide +kernel
theorem d_Md_apply_166 : decode c_Md_apply 166 = .ok (.getfield 7, 3) := by decide +kernel
theorem d_Md_apply_169 : decode c_Md_apply 169 = .ok (.iload_n 2, 1) := by decide +kernel
theorem d_Md_apply_170 : decode c_Md_apply 170 = .ok (.iconst 2, 1) := by decide +kernel
theorem d_Md_apply_171 : decode c_Md_apply 171 = .ok (.iadd, 1) := by decide +kernel
theorem d_Md_apply_172 : decode c_Md_apply 172 = .ok (.iaload, 1) := by decide +kernel
theorem d_Md_apply_173 : decode c_Md_apply 173 = .ok (.iastore, 1) := by decide +kernel
theorem d_Md_apply_174 : decode c_Md_apply 174 = .ok (.aload_n 0, 1) := by decide +kernel
theorem d_Md_apply_175 : decode c_Md_apply 175 = .ok (.getfield 23, 3) := by decide +kernel
theorem d_Md_apply_178 : decode c_Md_apply 178 = .ok (.iload_n 3, 1) := by decide +kernel
theorem d_Md_apply_179 : decode c_Md_apply 179 = .ok (.aload_n 0, 1) := by decide +kernel
theorem d_Md_apply_180 : decode c_Md_apply 180 = .ok (.getfield 7, 3) := by decide +kernel
theorem d_Md_apply_183 : decode c_Md_apply 183 = .ok (.iload_n 2, 1) := by decide +kernel
theorem d_Md_apply_184 : decode c_Md_apply 184 = .ok (.iconst 3, 1) := by decide +kernel
theorem d_Md_apply_185 : decode c_Md_apply 185 = .ok (.iadd, 1) := by decide +kernel
theorem d_Md_apply_186 : decode c_Md_apply 186 = .ok (.iaload, 1) := by decide +kernel
theorem d_Md_apply_187 : decode c_Md_apply 187 = .ok (.iastore, 1) := by decide +kernel
theorem d_Md_apply_188 : decode c_Md_apply 188 = .ok (.return_, 1) := by decide +kernel
theorem d_Md_grant_0 : decode c_Md_grant 0 = .ok (.aload_n 0, 1) := by decide +kernel
theorem d_Md_grant_1 : decode c_Md_grant 1 = .ok (.getfield 35, 3) := by decide +kernel
theorem d_Md_grant_4 : decode c_Md_grant 4 = .ok (.bipush 6, 2) := by decide +kernel
theorem d_Md_grant_6 : decode c_Md_grant 6 = .ok (.iload_n 1, 1) := by decide +kernel
theorem d_Md_grant_7 : decode c_Md_grant 7 = .ok (.imul, 1) := by decide +kernel
theorem d_Md_grant_8 : decode c_Md_grant 8 = .ok (.iconst 3, 1) := by decide +kernel
theorem d_Md_grant_9 : decode c_Md_grant 9 = .ok (.iadd, 1) := by decide +kernel
theorem d_Md_grant_10 : decode c_Md_grant 10 = .ok (.iaload, 1) := by decide +kernel
theorem d_Md_grant_11 : decode c_Md_grant 11 = .ok (.istore_n 3, 1) := by decide +kernel
theorem d_Md_grant_12 : decode c_Md_grant 12 = .ok (.aload_n 0, 1) := by decide +kernel
theorem d_Md_grant_13 : decode c_Md_grant 13 = .ok (.getfield 35, 3) := by decide +kernel
theorem d_Md_grant_16 : decode c_Md_grant 16 = .ok (.bipush 6, 2) := by decide +kernel
theorem d_Md_grant_18 : decode c_Md_grant 18 = .ok (.iload_n 1, 1) := by decide +kernel
theorem d_Md_grant_19 : decode c_Md_grant 19 = .ok (.imul, 1) := by decide +kernel
theorem d_Md_grant_20 : decode c_Md_grant 20 = .ok (.iconst 4, 1) := by decide +kernel
theorem d_Md_grant_21 : decode c_Md_grant 21 = .ok (.iadd, 1) := by decide +kernel
theorem d_Md_grant_22 : decode c_Md_grant 22 = .ok (.iaload, 1) := by decide +kernel
theorem d_Md_grant_23 : decode c_Md_grant 23 = .ok (.istore 4, 2) := by decide +kernel
theorem d_Md_grant_25 : decode c_Md_grant 25 = .ok (.aload_n 0, 1) := by decide +kernel
theorem d_Md_grant_26 : decode c_Md_grant 26 = .ok (.getfield 17, 3) := by decide +kernel
theorem d_Md_grant_29 : decode c_Md_grant 29 = .ok (.iload_n 2, 1) := by decide +kernel
theorem d_Md_grant_30 : decode c_Md_grant 30 = .ok (.baload, 1) := by decide +kernel
theorem d_Md_grant_31 : decode c_Md_grant 31 = .ok (.ifCond .ne 8, 3) := by decide +kernel
theorem d_Md_grant_34 : decode c_Md_grant 34 = .ok (.iload 4, 2) := by decide +kernel
theorem d_Md_grant_36 : decode c_Md_grant 36 = .ok (.ifCond .ne 7, 3) := by decide +kernel
theorem d_Md_grant_39 : decode c_Md_grant 39 = .ok (.iconst 0, 1) := by decide +kernel
theorem d_Md_grant_40 : decode c_Md_grant 40 = .ok (.goto 22, 3) := by decide +kernel
theorem d_Md_grant_43 : decode c_Md_grant 43 = .ok (.iload 4, 2) := by decide +kernel
theorem d_Md_grant_45 : decode c_Md_grant 45 = .ok (.iconst 2, 1) := by decide +kernel
theorem d_Md_grant_46 : decode c_Md_grant 46 = .ok (.if_icmp .ne 15, 3) := by decide +kernel
theorem d_Md_grant_49 : decode c_Md_grant 49 = .ok (.aload_n 0, 1) := by decide +kernel
theorem d_Md_grant_50 : decode c_Md_grant 50 = .ok (.iload_n 2, 1) := by decide +kernel
theorem d_Md_grant_51 : decode c_Md_grant 51 = .ok (.invokevirtual 66, 3) := by decide +kernel
theorem d_Md_grant_54 : decode c_Md_grant 54 = .ok (.ifCond .ne 7, 3) := by decide +kernel
theorem d_Md_grant_57 : decode c_Md_grant 57 = .ok (.iconst 2, 1) := by decide +kernel
theorem d_Md_grant_58 : decode c_Md_grant 58 = .ok (.goto 4, 3) := by decide +kernel
theorem d_Md_grant_61 : decode c_Md_grant 61 = .ok (.iconst 1, 1) := by decide +kernel
theorem d_Md_grant_62 : decode c_Md_grant 62 = .ok (.istore 5, 2) := by decide +kernel
theorem d_Md_grant_64 : decode c_Md_grant 64 = .ok (.aload_n 0, 1) := by decide +kernel
theorem d_Md_grant_65 : decode c_Md_grant 65 = .ok (.dup, 1) := by decide +kernel
theorem d_Md_grant_66 : decode c_Md_grant 66 = .ok (.getfield 41, 3) := by decide +kernel
theorem d_Md_grant_69 : decode c_Md_grant 69 = .ok (.iconst 1, 1) := by decide +kernel
theorem d_Md_grant_70 : decode c_Md_grant 70 = .ok (.iadd, 1) := by decide +kernel
theorem d_Md_grant_71 : decode c_Md_grant 71 = .ok (.putfield 41, 3) := by decide +kernel
theorem d_Md_grant_74 : decode c_Md_grant 74 = .ok (.bipush 7, 2) := by decide +kernel
theorem d_Md_grant_76 : decode c_Md_grant 76 = .ok (.aload_n 0, 1) := by decide +kernel
theorem d_Md_grant_77 : decode c_Md_grant 77 = .ok (.getfield 41, 3) := by decide +kernel
theorem d_Md_grant_80 : decode c_Md_grant 80 = .ok (.imul, 1) := by decide +kernel
theorem d_Md_grant_81 : decode c_Md_grant 81 = .ok (.istore 6, 2) := by decide +kernel
theorem d_Md_grant_83 : decode c_Md_grant 83 = .ok (.aload_n 0, 1) := by decide +kernel
theorem d_Md_grant_84 : decode c_Md_grant 84 = .ok (.getfield 32, 3) := by decide +kernel
theorem d_Md_grant_87 : decode c_Md_grant 87 = .ok (.iload 6, 2) := by decide +kernel
theorem d_Md_grant_89 : decode c_Md_grant 89 = .ok (.iload_n 2, 1) := by decide +kernel
theorem d_Md_grant_90 : decode c_Md_grant 90 = .ok (.iastore, 1) := by decide +kernel
theorem d_Md_grant_91 : decode c_Md_grant 91 = .ok (.aload_n 0, 1) := by decide +kernel
theorem d_Md_grant_92 : decode c_Md_grant 92 = .ok (.getfield 32, 3) := by decide +kernel
theorem d_Md_grant_95 : decode c_Md_grant 95 = .ok (.iload 6, 2) := by decide +kernel
theorem d_Md_grant_97 : decode c_Md_grant 97 = .ok (.iconst 1, 1) := by decide +kernel
theorem d_Md_grant_98 : decode c_Md_grant 98 = .ok (.iadd, 1) := by decide +kernel
theorem d_Md_grant_99 : decode c_Md_grant 99 = .ok (.iload_n 3, 1) := by decide +kernel
theorem d_Md_grant_100 : decode c_Md_grant 100 = .ok (.bipush 7, 2) := by decide +kernel
theorem d_Md_grant_102 : decode c_Md_grant 102 = .ok (.iand, 1) := by decide +kernel
theorem d_Md_grant_103 : decode c_Md_grant 103 = .ok (.iastore, 1) := by decide +kernel
theorem d_Md_grant_104 : decode c_Md_grant 104 = .ok (.aload_n 0, 1) := by decide +kernel
theorem d_Md_grant_105 : decode c_Md_grant 105 = .ok (.getfield 32, 3) := by decide +kernel
theorem d_Md_grant_108 : decode c_Md_grant 108 = .ok (.iload 6, 2) := by decide +kernel
theorem d_Md_grant_110 : decode c_Md_grant 110 = .ok (.iconst 2, 1) := by decide +kernel
theorem d_Md_grant_111 : decode c_Md_grant 111 = .ok (.iadd, 1) := by decide +kernel
theorem d_Md_grant_112 : decode c_Md_grant 112 = .ok (.iload_n 3, 1) := by decide +kernel
theorem d_Md_grant_113 : decode c_Md_grant 113 = .ok (.iconst 3, 1) := by decide +kernel
theorem d_Md_grant_114 : decode c_Md_grant 114 = .ok (.ishr, 1) := by decide +kernel
theorem d_Md_grant_115 : decode c_Md_grant 115 = .ok (.bipush 7, 2) := by decide +kernel
theorem d_Md_grant_117 : decode c_Md_grant 117 = .ok (.iand, 1) := by decide +kernel
theorem d_Md_grant_118 : decode c_Md_grant 118 = .ok (.iastore, 1) := by decide +kernel
theorem d_Md_grant_119 : decode c_Md_grant 119 = .ok (.aload_n 0, 1) := by decide +kernel
theorem d_Md_grant_120 : decode c_Md_grant 120 = .ok (.getfield 32, 3) := by decide +kernel
theorem d_Md_grant_123 : decode c_Md_grant 123 = .ok (.iload 6, 2) := by decide +kernel
theorem d_Md_grant_125 : decode c_Md_grant 125 = .ok (.iconst 3, 1) := by decide +kernel
theorem d_Md_grant_126 : decode c_Md_grant 126 = .ok (.iadd, 1) := by decide +kernel
theorem d_Md_grant_127 : decode c_Md_grant 127 = .ok (.iload 5, 2) := by decide +kernel
theorem d_Md_grant_129 : decode c_Md_grant 129 = .ok (.iastore, 1) := by decide +kernel
theorem d_Md_grant_130 : decode c_Md_grant 130 = .ok (.aload_n 0, 1) := by decide +kernel
theorem d_Md_grant_131 : decode c_Md_grant 131 = .ok (.getfield 32, 3) := by decide +kernel
theorem d_Md_grant_134 : decode c_Md_grant 134 = .ok (.iload 6, 2) := by decide +kernel
theorem d_Md_grant_136 : decode c_Md_grant 136 = .ok (.iconst 4, 1) := by decide +kernel
theorem d_Md_grant_137 : decode c_Md_grant 137 = .ok (.iadd, 1) := by decide +kernel
theorem d_Md_grant_138 : decode c_Md_grant 138 = .ok (.aload_n 0, 1) := by decide +kernel
theorem d_Md_grant_139 : decode c_Md_grant 139 = .ok (.getfield 35, 3) := by decide +kernel
theorem d_Md_grant_142 : decode c_Md_grant 142 = .ok (.bipush 6, 2) := by decide +kernel
theorem d_Md_grant_144 : decode c_Md_grant 144 = .ok (.iload_n 1, 1) := by decide +kernel
theorem d_Md_grant_145 : decode c_Md_grant 145 = .ok (.imul, 1) := by decide +kernel
theorem d_Md_grant_146 : decode c_Md_grant 146 = .ok (.iaload, 1) := by decide +kernel
theorem d_Md_grant_147 : decode c_Md_grant 147 = .ok (.iastore, 1) := by decide +kernel
theorem d_Md_grant_148 : decode c_Md_grant 148 = .ok (.aload_n 0, 1) := by decide +kernel
theorem d_Md_grant_149 : decode c_Md_grant 149 = .ok (.getfield 32, 3) := by decide +kernel
theorem d_Md_grant_152 : decode c_Md_grant 152 = .ok (.iload 6, 2) := by decide +kernel
theorem d_Md_grant_154 : decode c_Md_grant 154 = .ok (.iconst 5, 1) := by decide +kernel
theorem d_Md_grant_155 : decode c_Md_grant 155 = .ok (.iadd, 1) := by decide +kernel
theorem d_Md_grant_156 : decode c_Md_grant 156 = .ok (.iload_n 3, 1) := by decide +kernel
theorem d_Md_grant_157 : decode c_Md_grant 157 = .ok (.bipush 9, 2) := by decide +kernel
theorem d_Md_grant_159 : decode c_Md_grant 159 = .ok (.ishr, 1) := by decide +kernel
theorem d_Md_grant_160 : decode c_Md_grant 160 = .ok (.iastore, 1) := by decide +kernel
theorem d_Md_grant_161 : decode c_Md_grant 161 = .ok (.aload_n 0, 1) := by decide +kernel
theorem d_Md_grant_162 : decode c_Md_grant 162 = .ok (.getfield 32, 3) := by decide +kernel
theorem d_Md_grant_165 : decode c_Md_grant 165 = .ok (.iload 6, 2) := by decide +kernel
theorem d_Md_grant_167 : decode c_Md_grant 167 = .ok (.bipush 6, 2) := by decide +kernel
theorem d_Md_grant_169 : decode c_Md_grant 169 = .ok (.iadd, 1) := by decide +kernel
theorem d_Md_grant_170 : decode c_Md_grant 170 = .ok (.iconst 1, 1) := by decide +kernel
theorem d_Md_grant_171 : decode c_Md_grant 171 = .ok (.iastore, 1) := by decide +kernel
theorem d_Md_grant_172 : decode c_Md_grant 172 = .ok (.aload_n 0, 1) := by decide +kernel
theorem d_Md_grant_173 : decode c_Md_grant 173 = .ok (.getfield 41, 3) := by decide +kernel
theorem d_Md_grant_176 : decode c_Md_grant 176 = .ok (.ireturn, 1) := by decide +kernel
theorem d_Md_breaks_0 : decode c_Md_breaks 0 = .ok (.iconst 0, 1) := by decide +kernel
theorem d_Md_breaks_1 : decode c_Md_breaks 1 = .ok (.istore_n 2, 1) := by decide +kernel
theorem d_Md_breaks_2 : decode c_Md_breaks 2 = .ok (.iconst 1, 1) := by decide +kernel
theorem d_Md_breaks_3 : decode c_Md_breaks 3 = .ok (.istore_n 3, 1) := by decide +kernel
theorem d_Md_breaks_4 : decode c_Md_breaks 4 = .ok (.iload_n 3, 1) := by decide +kernel
theorem d_Md_breaks_5 : decode c_Md_breaks 5 = .ok (.aload_n 0, 1) := by decide +kernel
theorem d_Md_breaks_6 : decode c_Md_breaks 6 = .ok (.getfield 41, 3) := by decide +kernel
theorem d_Md_breaks_9 : decode c_Md_breaks 9 = .ok (.if_icmp .gt 56, 3) := by decide +kernel
theorem d_Md_breaks_12 : decode c_Md_breaks 12 = .ok (.aload_n 0, 1) := by decide +kernel
theorem d_Md_breaks_13 : decode c_Md_breaks 13 = .ok (.iload_n 3, 1) := by decide +kernel
theorem d_Md_breaks_14 : decode c_Md_breaks 14 = .ok (.bipush 6, 2) := by decide +kernel
theorem d_Md_breaks_16 : decode c_Md_breaks 16 = .ok (.invokevirtual 49, 3) := by decide +kernel
theorem d_Md_breaks_19 : decode c_Md_breaks 19 = .ok (.ifCond .eq 40, 3) := by decide +kernel
theorem d_Md_breaks_22 : decode c_Md_breaks 22 = .ok (.aload_n 0, 1) := by decide +kernel
theorem d_Md_breaks_23 : decode c_Md_breaks 23 = .ok (.iload_n 3, 1) := by decide +kernel
theorem d_Md_breaks_24 : decode c_Md_breaks 24 = .ok (.iconst 0, 1) := by decide +kernel
theorem d_Md_breaks_25 : decode c_Md_breaks 25 = .ok (.invokevirtual 49, 3) := by decide +kernel
theorem d_Md_breaks_28 : decode c_Md_breaks 28 = .ok (.iload_n 1, 1) := by decide +kernel
theorem d_Md_breaks_29 : decode c_Md_breaks 29 = .ok (.if_icmp .ne 30, 3) := by decide +kernel
theorem d_Md_breaks_32 : decode c_Md_breaks 32 = .ok (.aload_n 0, 1) := by decide +kernel
theorem d_Md_breaks_33 : decode c_Md_breaks 33 = .ok (.iload_n 3, 1) := by decide +kernel
theorem d_Md_breaks_34 : decode c_Md_breaks 34 = .ok (.iconst 3, 1) := by decide +kernel
theorem d_Md_breaks_35 : decode c_Md_breaks 35 = .ok (.invokevirtual 49, 3) := by decide +kernel
theorem d_Md_breaks_38 : decode c_Md_breaks 38 = .ok (.iconst 2, 1) := by decide +kernel
theorem d_Md_breaks_39 : decode c_Md_breaks 39 = .ok (.if_icmp .ge 6, 3) := by decide +kernel
theorem d_Md_breaks_42 : decode c_Md_breaks 42 = .ok (.goto 17, 3) := by decide +kernel
theorem d_Md_breaks_45 : decode c_Md_breaks 45 = .ok (.aload_n 0, 1) := by decide +kernel
theorem d_Md_breaks_46 : decode c_Md_breaks 46 = .ok (.getfield 32, 3) := by decide +kernel
theorem d_Md_breaks_49 : decode c_Md_breaks 49 = .ok (.bipush 7, 2) := by decide +kernel
theorem d_Md_breaks_51 : decode c_Md_breaks 51 = .ok (.iload_n 3, 1) := by decide +kernel
theorem d_Md_breaks_52 : decode c_Md_breaks 52 = .ok (.imul, 1) := by decide +kernel
theorem d_Md_breaks_53 : decode c_Md_breaks 53 = .ok (.iconst 3, 1) := by decide +kernel
theorem d_Md_breaks_54 : decode c_Md_breaks 54 = .ok (.iadd, 1) := by decide +kernel
theorem d_Md_breaks_55 : decode c_Md_breaks 55 = .ok (.iconst 3, 1) := by decide +kernel
theorem d_Md_breaks_56 : decode c_Md_breaks 56 = .ok (.iastore, 1) := by decide +kernel
theorem d_Md_breaks_57 : decode c_Md_breaks 57 = .ok (.iconst 1, 1) := by decide +kernel
theorem d_Md_breaks_58 : decode c_Md_breaks 58 = .ok (.istore_n 2, 1) := by decide +kernel
theorem d_Md_breaks_59 : decode c_Md_breaks 59 = .ok (.iinc 3 1, 3) := by decide +kernel
theorem d_Md_breaks_62 : decode c_Md_breaks 62 = .ok (.goto (-58), 3) := by decide +kernel
theorem d_Md_breaks_65 : decode c_Md_breaks 65 = .ok (.iload_n 2, 1) := by decide +kernel
theorem d_Md_breaks_66 : decode c_Md_breaks 66 = .ok (.ireturn, 1) := by decide +kernel
theorem d_Md_sharing_0 : decode c_Md_sharing 0 = .ok (.iconst 1, 1) := by decide +kernel
theorem d_Md_sharing_1 : decode c_Md_sharing 1 = .ok (.istore_n 3, 1) := by decide +kernel
theorem d_Md_sharing_2 : decode c_Md_sharing 2 = .ok (.iload_n 3, 1) := by decide +kernel
theorem d_Md_sharing_3 : decode c_Md_sharing 3 = .ok (.aload_n 0, 1) := by decide +kernel
theorem d_Md_sharing_4 : decode c_Md_sharing 4 = .ok (.getfield 41, 3) := by decide +kernel
theorem d_Md_sharing_7 : decode c_Md_sharing 7 = .ok (.if_icmp .gt 76, 3) := by decide +kernel
theorem d_Md_sharing_10 : decode c_Md_sharing 10 = .ok (.aload_n 0, 1) := by decide +kernel
theorem d_Md_sharing_11 : decode c_Md_sharing 11 = .ok (.iload_n 3, 1) := by decide +kernel
theorem d_Md_sharing_12 : decode c_Md_sharing 12 = .ok (.bipush 6, 2) := by decide +kernel
theorem d_Md_sharing_14 : decode c_Md_sharing 14 = .ok (.invokevirtual 49, 3) := by decide +kernel
theorem d_Md_sharing_17 : decode c_Md_sharing 17 = .ok (.ifCond .eq 60, 3) := by decide +kernel
theorem d_Md_sharing_20 : decode c_Md_sharing 20 = .ok (.aload_n 0, 1) := by decide +kernel
theorem d_Md_sharing_21 : decode c_Md_sharing 21 = .ok (.iload_n 3, 1) := by decide +kernel
theorem d_Md_sharing_22 : decode c_Md_sharing 22 = .ok (.iconst 0, 1) := by decide +kernel
theorem d_Md_sharing_23 : decode c_Md_sharing 23 = .ok (.invokevirtual 49, 3) := by decide +kernel
theorem d_Md_sharing_26 : decode c_Md_sharing 26 = .ok (.iload_n 1, 1) := by decide +kernel
theorem d_Md_sharing_27 : decode c_Md_sharing 27 = .ok (.if_icmp .eq 6, 3) := by decide +kernel
theorem d_Md_sharing_30 : decode c_Md_sharing 30 = .ok (.goto 47, 3) := by decide +kernel
theorem d_Md_sharing_33 : decode c_Md_sharing 33 = .ok (.iload_n 2, 1) := by decide +kernel
theorem d_Md_sharing_34 : decode c_Md_sharing 34 = .ok (.bipush 7, 2) := by decide +kernel
theorem d_Md_sharing_36 : decode c_Md_sharing 36 = .ok (.iand, 1) := by decide +kernel
theorem d_Md_sharing_37 : decode c_Md_sharing 37 = .ok (.aload_n 0, 1) := by decide +kernel
theorem d_Md_sharing_38 : decode c_Md_sharing 38 = .ok (.iload_n 3, 1) := by decide +kernel
theorem d_Md_sharing_39 : decode c_Md_sharing 39 = .ok (.iconst 2, 1) := by decide +kernel
theorem d_Md_sharing_40 : decode c_Md_sharing 40 = .ok (.invokevirtual 49, 3) := by decide +kernel
theorem d_Md_sharing_43 : decode c_Md_sharing 43 = .ok (.iconst (-1), 1) := by decide +kernel
theorem d_Md_sharing_44 : decode c_Md_sharing 44 = .ok (.ixor, 1) := by decide +kernel
theorem d_Md_sharing_45 : decode c_Md_sharing 45 = .ok (.iand, 1) := by decide +kernel
theorem d_Md_sharing_46 : decode c_Md_sharing 46 = .ok (.istore 4, 2) := by decide +kernel
theorem d_Md_sharing_48 : decode c_Md_sharing 48 = .ok (.aload_n 0, 1) := by decide +kernel
theorem d_Md_sharing_49 : decode c_Md_sharing 49 = .ok (.iload_n 3, 1) := by decide +kernel
theorem d_Md_sharing_50 : decode c_Md_sharing 50 = .ok (.iconst 1, 1) := by decide +kernel
theorem d_Md_sharing_51 : decode c_Md_sharing 51 = .ok (.invokevirtual 49, 3) := by decide +kernel
theorem d_Md_sharing_54 : decode c_Md_sharing 54 = .ok (.iload_n 2, 1) := by decide +kernel
theorem d_Md_sharing_55 : decode c_Md_sharing 55 = .ok (.iconst 3, 1) := by decide +kernel
theorem d_Md_sharing_56 : decode c_Md_sharing 56 = .ok (.ishr, 1) := by decide +kernel
theorem d_Md_sharing_57 : decode c_Md_sharing 57 = .ok (.bipush 7, 2) := by decide +kernel
theorem d_Md_sharing_59 : decode c_Md_sharing 59 = .ok (.iand, 1) := by decide +kernel
theorem d_Md_sharing_60 : decode c_Md_sharing 60 = .ok (.iconst (-1), 1) := by decide +kernel
theorem d_Md_sharing_61 : decode c_Md_sharing 61 = .ok (.ixor, 1) := by decide +kernel
theorem d_Md_sharing_62 : decode c_Md_sharing 62 = .ok (.iand, 1) := by decide +kernel
theorem d_Md_sharing_63 : decode c_Md_sharing 63 = .ok (.istore 5, 2) := by decide +kernel
theorem d_Md_sharing_65 : decode c_Md_sharing 65 = .ok (.iload 4, 2) := by decide +kernel
theorem d_Md_sharing_67 : decode c_Md_sharing 67 = .ok (.ifCond .ne 8, 3) := by decide +kernel
theorem d_Md_sharing_70 : decode c_Md_sharing 70 = .ok (.iload 5, 2) := by decide +kernel
theorem d_Md_sharing_72 : decode c_Md_sharing 72 = .ok (.ifCond .eq 5, 3) := by decide +kernel
theorem d_Md_sharing_75 : decode c_Md_sharing 75 = .ok (.iconst 1, 1) := by decide +kernel
theorem d_Md_sharing_76 : decode c_Md_sharing 76 = .ok (.ireturn, 1) := by decide +kernel
theorem d_Md_sharing_77 : decode c_Md_sharing 77 = .ok (.iinc 3 1, 3) := by decide +kernel
theorem d_Md_sharing_80 : decode c_Md_sharing 80 = .ok (.goto (-78), 3) := by decide +kernel
theorem d_Md_sharing_83 : decode c_Md_sharing 83 = .ok (.iconst 0, 1) := by decide +kernel
theorem d_Md_sharing_84 : decode c_Md_sharing 84 = .ok (.ireturn, 1) := by decide +kernel
theorem d_Md_outcome_0 : decode c_Md_outcome 0 = .ok (.iload_n 1, 1) := by decide +kernel
theorem d_Md_outcome_1 : decode c_Md_outcome 1 = .ok (.iconst 1, 1) := by decide +kernel
theorem d_Md_outcome_2 : decode c_Md_outcome 2 = .ok (.aload_n 0, 1) := by decide +kernel
theorem d_Md_outcome_3 : decode c_Md_outcome 3 = .ok (.getfield 88, 3) := by decide +kernel
theorem d_Md_outcome_6 : decode c_Md_outcome 6 = .ok (.invokestatic 45, 3) := by decide +kernel
theorem d_Md_outcome_9 : decode c_Md_outcome 9 = .ok (.ifCond .eq 17, 3) := by decide +kernel
theorem d_Md_outcome_12 : decode c_Md_outcome 12 = .ok (.aload_n 0, 1) := by decide +kernel
theorem d_Md_outcome_13 : decode c_Md_outcome 13 = .ok (.getfield 35, 3) := by decide +kernel
theorem d_Md_outcome_16 : decode c_Md_outcome 16 = .ok (.bipush 6, 2) := by decide +kernel
theorem d_Md_outcome_18 : decode c_Md_outcome 18 = .ok (.iload_n 1, 1) := by decide +kernel
theorem d_Md_outcome_19 : decode c_Md_outcome 19 = .ok (.imul, 1) := by decide +kernel
theorem d_Md_outcome_20 : decode c_Md_outcome 20 = .ok (.iconst 5, 1) := by decide +kernel
theorem d_Md_outcome_21 : decode c_Md_outcome 21 = .ok (.iadd, 1) := by decide +kernel
theorem d_Md_outcome_22 : decode c_Md_outcome 22 = .ok (.iaload, 1) := by decide +kernel
theorem d_Md_outcome_23 : decode c_Md_outcome 23 = .ok (.goto 4, 3) := by decide +kernel
theorem d_Md_outcome_26 : decode c_Md_outcome 26 = .ok (.iconst (-1), 1) := by decide +kernel
theorem d_Md_outcome_27 : decode c_Md_outcome 27 = .ok (.ireturn, 1) := by decide +kernel
theorem d_Md_cancel_0 : decode c_Md_cancel 0 = .ok (.iload_n 1, 1) := by decide +kernel
theorem d_Md_cancel_1 : decode c_Md_cancel 1 = .ok (.iconst 1, 1) := by decide +kernel
theorem d_Md_cancel_2 : decode c_Md_cancel 2 = .ok (.aload_n 0, 1) := by decide +kernel
theorem d_Md_cancel_3 : decode c_Md_cancel 3 = .ok (.getfield 88, 3) := by decide +kernel
theorem d_Md_cancel_6 : decode c_Md_cancel 6 = .ok (.invokestatic 45, 3) := by decide +kernel
theorem d_Md_cancel_9 : decode c_Md_cancel 9 = .ok (.ifCond .eq 17, 3) := by decide +kernel
theorem d_Md_cancel_12 : decode c_Md_cancel 12 = .ok (.aload_n 0, 1) := by decide +kernel
theorem d_Md_cancel_13 : decode c_Md_cancel 13 = .ok (.getfield 35, 3) := by decide +kernel
theorem d_Md_cancel_16 : decode c_Md_cancel 16 = .ok (.bipush 6, 2) := by decide +kernel
theorem d_Md_cancel_18 : decode c_Md_cancel 18 = .ok (.iload_n 1, 1) := by decide +kernel
theorem d_Md_cancel_19 : decode c_Md_cancel 19 = .ok (.imul, 1) := by decide +kernel
theorem d_Md_cancel_20 : decode c_Md_cancel 20 = .ok (.iconst 5, 1) := by decide +kernel
theorem d_Md_cancel_21 : decode c_Md_cancel 21 = .ok (.iadd, 1) := by decide +kernel
theorem d_Md_cancel_22 : decode c_Md_cancel 22 = .ok (.iaload, 1) := by decide +kernel
theorem d_Md_cancel_23 : decode c_Md_cancel 23 = .ok (.ifCond .eq 5, 3) := by decide +kernel
theorem d_Md_cancel_26 : decode c_Md_cancel 26 = .ok (.iconst (-1), 1) := by decide +kernel
theorem d_Md_cancel_27 : decode c_Md_cancel 27 = .ok (.ireturn, 1) := by decide +kernel
theorem d_Md_cancel_28 : decode c_Md_cancel 28 = .ok (.aload_n 0, 1) := by decide +kernel
theorem d_Md_cancel_29 : decode c_Md_cancel 29 = .ok (.getfield 35, 3) := by decide +kernel
theorem d_Md_cancel_32 : decode c_Md_cancel 32 = .ok (.bipush 6, 2) := by decide +kernel
theorem d_Md_cancel_34 : decode c_Md_cancel 34 = .ok (.iload_n 1, 1) := by decide +kernel
theorem d_Md_cancel_35 : decode c_Md_cancel 35 = .ok (.imul, 1) := by decide +kernel
theorem d_Md_cancel_36 : decode c_Md_cancel 36 = .ok (.iconst 5, 1) := by decide +kernel
theorem d_Md_cancel_37 : decode c_Md_cancel 37 = .ok (.iadd, 1) := by decide +kernel
theorem d_Md_cancel_38 : decode c_Md_cancel 38 = .ok (.bipush (-9), 2) := by decide +kernel
theorem d_Md_cancel_40 : decode c_Md_cancel 40 = .ok (.iastore, 1) := by decide +kernel
theorem d_Md_cancel_41 : decode c_Md_cancel 41 = .ok (.iconst 0, 1) := by decide +kernel
theorem d_Md_cancel_42 : decode c_Md_cancel 42 = .ok (.ireturn, 1) := by decide +kernel
theorem d_Md_giveUp_0 : decode c_Md_giveUp 0 = .ok (.aload_n 0, 1) := by decide +kernel
theorem d_Md_giveUp_1 : decode c_Md_giveUp 1 = .ok (.iload_n 1, 1) := by decide +kernel
theorem d_Md_giveUp_2 : decode c_Md_giveUp 2 = .ok (.invokevirtual 94, 3) := by decide +kernel
theorem d_Md_giveUp_5 : decode c_Md_giveUp 5 = .ok (.ifCond .ne 12, 3) := by decide +kernel
theorem d_Md_giveUp_8 : decode c_Md_giveUp 8 = .ok (.aload_n 0, 1) := by decide +kernel
theorem d_Md_giveUp_9 : decode c_Md_giveUp 9 = .ok (.iload_n 1, 1) := by decide +kernel
theorem d_Md_giveUp_10 : decode c_Md_giveUp 10 = .ok (.iconst 3, 1) := by decide +kernel
theorem d_Md_giveUp_11 : decode c_Md_giveUp 11 = .ok (.invokevirtual 49, 3) := by decide +kernel
theorem d_Md_giveUp_14 : decode c_Md_giveUp 14 = .ok (.ifCond .ne 5, 3) := by decide +kernel
theorem d_Md_giveUp_17 : decode c_Md_giveUp 17 = .ok (.iconst (-1), 1) := by decide +kernel
theorem d_Md_giveUp_18 : decode c_Md_giveUp 18 = .ok (.ireturn, 1) := by decide +kernel
theorem d_Md_giveUp_19 : decode c_Md_giveUp 19 = .ok (.aload_n 0, 1) := by decide +kernel
theorem d_Md_giveUp_20 : decode c_Md_giveUp 20 = .ok (.iload_n 1, 1) := by decide +kernel
theorem d_Md_giveUp_21 : decode c_Md_giveUp 21 = .ok (.iconst 3, 1) := by decide +kernel
theorem d_Md_giveUp_22 : decode c_Md_giveUp 22 = .ok (.invokevirtual 49, 3) := by decide +kernel
theorem d_Md_giveUp_25 : decode c_Md_giveUp 25 = .ok (.istore_n 2, 1) := by decide +kernel
theorem d_Md_giveUp_26 : decode c_Md_giveUp 26 = .ok (.aload_n 0, 1) := by decide +kernel
theorem d_Md_giveUp_27 : decode c_Md_giveUp 27 = .ok (.getfield 32, 3) := by decide +kernel
theorem d_Md_giveUp_30 : decode c_Md_giveUp 30 = .ok (.bipush 7, 2) := by decide +kernel
theorem d_Md_giveUp_32 : decode c_Md_giveUp 32 = .ok (.iload_n 1, 1) := by decide +kernel
theorem d_Md_giveUp_33 : decode c_Md_giveUp 33 = .ok (.imul, 1) := by decide +kernel
theorem d_Md_giveUp_34 : decode c_Md_giveUp 34 = .ok (.iconst 3, 1) := by decide +kernel
theorem d_Md_giveUp_35 : decode c_Md_giveUp 35 = .ok (.iadd, 1) := by decide +kernel
theorem d_Md_giveUp_36 : decode c_Md_giveUp 36 = .ok (.iload_n 2, 1) := by decide +kernel
theorem d_Md_giveUp_37 : decode c_Md_giveUp 37 = .ok (.iconst 1, 1) := by decide +kernel
theorem d_Md_giveUp_38 : decode c_Md_giveUp 38 = .ok (.if_icmp .ne 7, 3) := by decide +kernel
theorem d_Md_giveUp_41 : decode c_Md_giveUp 41 = .ok (.iconst 0, 1) := by decide +kernel
theorem d_Md_giveUp_42 : decode c_Md_giveUp 42 = .ok (.goto 4, 3) := by decide +kernel
theorem d_Md_giveUp_45 : decode c_Md_giveUp 45 = .ok (.iconst 1, 1) := by decide +kernel
theorem d_Md_giveUp_46 : decode c_Md_giveUp 46 = .ok (.iastore, 1) := by decide +kernel
theorem d_Md_giveUp_47 : decode c_Md_giveUp 47 = .ok (.iload_n 2, 1) := by decide +kernel
theorem d_Md_giveUp_48 : decode c_Md_giveUp 48 = .ok (.iconst 3, 1) := by decide +kernel
theorem d_Md_giveUp_49 : decode c_Md_giveUp 49 = .ok (.if_icmp .ne 7, 3) := by decide +kernel
theorem d_Md_giveUp_52 : decode c_Md_giveUp 52 = .ok (.aload_n 0, 1) := by decide +kernel
theorem d_Md_giveUp_53 : decode c_Md_giveUp 53 = .ok (.invokevirtual 97, 3) := by decide +kernel
theorem d_Md_giveUp_56 : decode c_Md_giveUp 56 = .ok (.iload_n 2, 1) := by decide +kernel
theorem d_Md_giveUp_57 : decode c_Md_giveUp 57 = .ok (.iconst 1, 1) := by decide +kernel
theorem d_Md_giveUp_58 : decode c_Md_giveUp 58 = .ok (.if_icmp .ne 7, 3) := by decide +kernel
theorem d_Md_giveUp_61 : decode c_Md_giveUp 61 = .ok (.iconst 0, 1) := by decide +kernel
theorem d_Md_giveUp_62 : decode c_Md_giveUp 62 = .ok (.goto 4, 3) := by decide +kernel
theorem d_Md_giveUp_65 : decode c_Md_giveUp 65 = .ok (.iconst 1, 1) := by decide +kernel
theorem d_Md_giveUp_66 : decode c_Md_giveUp 66 = .ok (.ireturn, 1) := by decide +kernel
theorem d_Md_shut_0 : decode c_Md_shut 0 = .ok (.iload_n 1, 1) := by decide +kernel
theorem d_Md_shut_1 : decode c_Md_shut 1 = .ok (.iconst 1, 1) := by decide +kernel
theorem d_Md_shut_2 : decode c_Md_shut 2 = .ok (.aload_n 0, 1) := by decide +kernel
theorem d_Md_shut_3 : decode c_Md_shut 3 = .ok (.getfield 41, 3) := by decide +kernel
theorem d_Md_shut_6 : decode c_Md_shut 6 = .ok (.invokestatic 45, 3) := by decide +kernel
theorem d_Md_shut_9 : decode c_Md_shut 9 = .ok (.ifCond .eq 13, 3) := by decide +kernel
theorem d_Md_shut_12 : decode c_Md_shut 12 = .ok (.aload_n 0, 1) := by decide +kernel
theorem d_Md_shut_13 : decode c_Md_shut 13 = .ok (.iload_n 1, 1) := by decide +kernel
theorem d_Md_shut_14 : decode c_Md_shut 14 = .ok (.bipush 6, 2) := by decide +kernel
theorem d_Md_shut_16 : decode c_Md_shut 16 = .ok (.invokevirtual 49, 3) := by decide +kernel
theorem d_Md_shut_19 : decode c_Md_shut 19 = .ok (.ifCond .ne 7, 3) := by decide +kernel
theorem d_Md_shut_22 : decode c_Md_shut 22 = .ok (.iconst 1, 1) := by decide +kernel
theorem d_Md_shut_23 : decode c_Md_shut 23 = .ok (.goto 4, 3) := by decide +kernel
theorem d_Md_shut_26 : decode c_Md_shut 26 = .ok (.iconst 0, 1) := by decide +kernel
theorem d_Md_shut_27 : decode c_Md_shut 27 = .ok (.ireturn, 1) := by decide +kernel
theorem d_Md_tryAgain_0 : decode c_Md_tryAgain 0 = .ok (.iconst 1, 1) := by decide +kernel
theorem d_Md_tryAgain_1 : decode c_Md_tryAgain 1 = .ok (.istore_n 1, 1) := by decide +kernel
theorem d_Md_tryAgain_2 : decode c_Md_tryAgain 2 = .ok (.iload_n 1, 1) := by decide +kernel
theorem d_Md_tryAgain_3 : decode c_Md_tryAgain 3 = .ok (.aload_n 0, 1) := by decide +kernel
theorem d_Md_tryAgain_4 : decode c_Md_tryAgain 4 = .ok (.getfield 88, 3) := by decide +kernel
theorem d_Md_tryAgain_7 : decode c_Md_tryAgain 7 = .ok (.if_icmp .gt 39, 3) := by decide +kernel
theorem d_Md_tryAgain_10 : decode c_Md_tryAgain 10 = .ok (.aload_n 0, 1) := by decide +kernel
theorem d_Md_tryAgain_11 : decode c_Md_tryAgain 11 = .ok (.getfield 35, 3) := by decide +kernel
theorem d_Md_tryAgain_14 : decode c_Md_tryAgain 14 = .ok (.bipush 6, 2) := by decide +kernel
theorem d_Md_tryAgain_16 : decode c_Md_tryAgain 16 = .ok (.iload_n 1, 1) := by decide +kernel
theorem d_Md_tryAgain_17 : decode c_Md_tryAgain 17 = .ok (.imul, 1) := by decide +kernel
theorem d_Md_tryAgain_18 : decode c_Md_tryAgain 18 = .ok (.iconst 5, 1) := by decide +kernel
theorem d_Md_tryAgain_19 : decode c_Md_tryAgain 19 = .ok (.iadd, 1) := by decide +kernel
theorem d_Md_tryAgain_20 : decode c_Md_tryAgain 20 = .ok (.iaload, 1) := by decide +kernel
theorem d_Md_tryAgain_21 : decode c_Md_tryAgain 21 = .ok (.ifCond .ne 19, 3) := by decide +kernel
theorem d_Md_tryAgain_24 : decode c_Md_tryAgain 24 = .ok (.aload_n 0, 1) := by decide +kernel
theorem d_Md_tryAgain_25 : decode c_Md_tryAgain 25 = .ok (.getfield 35, 3) := by decide +kernel
theorem d_Md_tryAgain_28 : decode c_Md_tryAgain 28 = .ok (.bipush 6, 2) := by decide +kernel
theorem d_Md_tryAgain_30 : decode c_Md_tryAgain 30 = .ok (.iload_n 1, 1) := by decide +kernel
theorem d_Md_tryAgain_31 : decode c_Md_tryAgain 31 = .ok (.imul, 1) := by decide +kernel
theorem d_Md_tryAgain_32 : decode c_Md_tryAgain 32 = .ok (.iconst 5, 1) := by decide +kernel
theorem d_Md_tryAgain_33 : decode c_Md_tryAgain 33 = .ok (.iadd, 1) := by decide +kernel
theorem d_Md_tryAgain_34 : decode c_Md_tryAgain 34 = .ok (.aload_n 0, 1) := by decide +kernel
theorem d_Md_tryAgain_35 : decode c_Md_tryAgain 35 = .ok (.iload_n 1, 1) := by decide +kernel
theorem d_Md_tryAgain_36 : decode c_Md_tryAgain 36 = .ok (.invokevirtual 91, 3) := by decide +kernel
theorem d_Md_tryAgain_39 : decode c_Md_tryAgain 39 = .ok (.iastore, 1) := by decide +kernel
theorem d_Md_tryAgain_40 : decode c_Md_tryAgain 40 = .ok (.iinc 1 1, 3) := by decide +kernel
theorem d_Md_tryAgain_43 : decode c_Md_tryAgain 43 = .ok (.goto (-41), 3) := by decide +kernel
theorem d_Md_tryAgain_46 : decode c_Md_tryAgain 46 = .ok (.return_, 1) := by decide +kernel
theorem d_Md_close_0 : decode c_Md_close 0 = .ok (.aload_n 0, 1) := by decide +kernel
theorem d_Md_close_1 : decode c_Md_close 1 = .ok (.iload_n 1, 1) := by decide +kernel
theorem d_Md_close_2 : decode c_Md_close 2 = .ok (.invokevirtual 94, 3) := by decide +kernel
theorem d_Md_close_5 : decode c_Md_close 5 = .ok (.ifCond .eq 5, 3) := by decide +kernel
theorem d_Md_close_8 : decode c_Md_close 8 = .ok (.iconst (-1), 1) := by decide +kernel
theorem d_Md_close_9 : decode c_Md_close 9 = .ok (.ireturn, 1) := by decide +kernel
theorem d_Md_close_10 : decode c_Md_close 10 = .ok (.aload_n 0, 1) := by decide +kernel
theorem d_Md_close_11 : decode c_Md_close 11 = .ok (.iload_n 1, 1) := by decide +kernel
theorem d_Md_close_12 : decode c_Md_close 12 = .ok (.iconst 0, 1) := by decide +kernel
theorem d_Md_close_13 : decode c_Md_close 13 = .ok (.invokevirtual 49, 3) := by decide +kernel
theorem d_Md_close_16 : decode c_Md_close 16 = .ok (.istore_n 2, 1) := by decide +kernel
theorem d_Md_close_17 : decode c_Md_close 17 = .ok (.aload_n 0, 1) := by decide +kernel
theorem d_Md_close_18 : decode c_Md_close 18 = .ok (.getfield 100, 3) := by decide +kernel
theorem d_Md_close_21 : decode c_Md_close 21 = .ok (.iconst 1, 1) := by decide +kernel
theorem d_Md_close_22 : decode c_Md_close 22 = .ok (.isub, 1) := by decide +kernel
theorem d_Md_close_23 : decode c_Md_close 23 = .ok (.istore_n 3, 1) := by decide +kernel
theorem d_Md_close_24 : decode c_Md_close 24 = .ok (.iload_n 3, 1) := by decide +kernel
theorem d_Md_close_25 : decode c_Md_close 25 = .ok (.ifCond .lt 26, 3) := by decide +kernel
theorem d_Md_close_28 : decode c_Md_close 28 = .ok (.aload_n 0, 1) := by decide +kernel
theorem d_Md_close_29 : decode c_Md_close 29 = .ok (.getfield 38, 3) := by decide +kernel
theorem d_Md_close_32 : decode c_Md_close 32 = .ok (.iconst 4, 1) := by decide +kernel
theorem d_Md_close_33 : decode c_Md_close 33 = .ok (.iload_n 3, 1) := by decide +kernel
theorem d_Md_close_34 : decode c_Md_close 34 = .ok (.imul, 1) := by decide +kernel
theorem d_Md_close_35 : decode c_Md_close 35 = .ok (.iaload, 1) := by decide +kernel
theorem d_Md_close_36 : decode c_Md_close 36 = .ok (.iload_n 1, 1) := by decide +kernel
theorem d_Md_close_37 : decode c_Md_close 37 = .ok (.if_icmp .ne 8, 3) := by decide +kernel
theorem d_Md_close_40 : decode c_Md_close 40 = .ok (.aload_n 0, 1) := by decide +kernel
theorem d_Md_close_41 : decode c_Md_close 41 = .ok (.iload_n 3, 1) := by decide +kernel
theorem d_Md_close_42 : decode c_Md_close 42 = .ok (.invokevirtual 103, 3) := by decide +kernel
theorem d_Md_close_45 : decode c_Md_close 45 = .ok (.iinc 3 (-1), 3) := by decide +kernel
theorem d_Md_close_48 : decode c_Md_close 48 = .ok (.goto (-24), 3) := by decide +kernel
theorem d_Md_close_51 : decode c_Md_close 51 = .ok (.aload_n 0, 1) := by decide +kernel
theorem d_Md_close_52 : decode c_Md_close 52 = .ok (.getfield 32, 3) := by decide +kernel
theorem d_Md_close_55 : decode c_Md_close 55 = .ok (.bipush 7, 2) := by decide +kernel
theorem d_Md_close_57 : decode c_Md_close 57 = .ok (.iload_n 1, 1) := by decide +kernel
theorem d_Md_close_58 : decode c_Md_close 58 = .ok (.imul, 1) := by decide +kernel
theorem d_Md_close_59 : decode c_Md_close 59 = .ok (.bipush 6, 2) := by decide +kernel
theorem d_Md_close_61 : decode c_Md_close 61 = .ok (.iadd, 1) := by decide +kernel
theorem d_Md_close_62 : decode c_Md_close 62 = .ok (.iconst 0, 1) := by decide +kernel
theorem d_Md_close_63 : decode c_Md_close 63 = .ok (.iastore, 1) := by decide +kernel
theorem d_Md_close_64 : decode c_Md_close 64 = .ok (.aload_n 0, 1) := by decide +kernel
theorem d_Md_close_65 : decode c_Md_close 65 = .ok (.getfield 17, 3) := by decide +kernel
theorem d_Md_close_68 : decode c_Md_close 68 = .ok (.iload_n 2, 1) := by decide +kernel
theorem d_Md_close_69 : decode c_Md_close 69 = .ok (.baload, 1) := by decide +kernel
theorem d_Md_close_70 : decode c_Md_close 70 = .ok (.ifCond .eq 11, 3) := by decide +kernel
theorem d_Md_close_73 : decode c_Md_close 73 = .ok (.aload_n 0, 1) := by decide +kernel
theorem d_Md_close_74 : decode c_Md_close 74 = .ok (.iload_n 2, 1) := by decide +kernel
theorem d_Md_close_75 : decode c_Md_close 75 = .ok (.invokevirtual 106, 3) := by decide +kernel
theorem d_Md_close_78 : decode c_Md_close 78 = .ok (.ifCond .ne 7, 3) := by decide +kernel
theorem d_Md_close_81 : decode c_Md_close 81 = .ok (.iconst 1, 1) := by decide +kernel
theorem d_Md_close_82 : decode c_Md_close 82 = .ok (.goto 4, 3) := by decide +kernel
theorem d_Md_close_85 : decode c_Md_close 85 = .ok (.iconst 0, 1) := by decide +kernel
theorem d_Md_close_86 : decode c_Md_close 86 = .ok (.istore_n 3, 1) := by decide +kernel
theorem d_Md_close_87 : decode c_Md_close 87 = .ok (.aload_n 0, 1) := by decide +kernel
theorem d_Md_close_88 : decode c_Md_close 88 = .ok (.iload_n 1, 1) := by decide +kernel
theorem d_Md_close_89 : decode c_Md_close 89 = .ok (.iconst 5, 1) := by decide +kernel
theorem d_Md_close_90 : decode c_Md_close 90 = .ok (.invokevirtual 49, 3) := by decide +kernel
theorem d_Md_close_93 : decode c_Md_close 93 = .ok (.iconst 1, 1) := by decide +kernel
theorem d_Md_close_94 : decode c_Md_close 94 = .ok (.if_icmp .ne 14, 3) := by decide +kernel
theorem d_Md_close_97 : decode c_Md_close 97 = .ok (.iload_n 3, 1) := by decide +kernel
theorem d_Md_close_98 : decode c_Md_close 98 = .ok (.ifCond .eq 10, 3) := by decide +kernel
theorem d_Md_close_101 : decode c_Md_close 101 = .ok (.aload_n 0, 1) := by decide +kernel
theorem d_Md_close_102 : decode c_Md_close 102 = .ok (.getfield 26, 3) := by decide +kernel
theorem d_Md_close_105 : decode c_Md_close 105 = .ok (.iload_n 2, 1) := by decide +kernel
theorem d_Md_close_106 : decode c_Md_close 106 = .ok (.iconst 1, 1) := by decide +kernel
theorem d_Md_close_107 : decode c_Md_close 107 = .ok (.bastore, 1) := by decide +kernel
theorem d_Md_close_108 : decode c_Md_close 108 = .ok (.aload_n 0, 1) := by decide +kernel
theorem d_Md_close_109 : decode c_Md_close 109 = .ok (.getfield 26, 3) := by decide +kernel
theorem d_Md_close_112 : decode c_Md_close 112 = .ok (.iload_n 2, 1) := by decide +kernel
theorem d_Md_close_113 : decode c_Md_close 113 = .ok (.baload, 1) := by decide +kernel
theorem d_Md_close_114 : decode c_Md_close 114 = .ok (.ifCond .eq 31, 3) := by decide +kernel
theorem d_Md_close_117 : decode c_Md_close 117 = .ok (.aload_n 0, 1) := by decide +kernel
theorem d_Md_close_118 : decode c_Md_close 118 = .ok (.iload_n 2, 1) := by decide +kernel
theorem d_Md_close_119 : decode c_Md_close 119 = .ok (.invokevirtual 66, 3) := by decide +kernel
theorem d_Md_close_122 : decode c_Md_close 122 = .ok (.ifCond .ne 23, 3) := by decide +kernel
theorem d_Md_close_125 : decode c_Md_close 125 = .ok (.aload_n 0, 1) := by decide +kernel
theorem d_Md_close_126 : decode c_Md_close 126 = .ok (.getfield 26, 3) := by decide +kernel
theorem d_Md_close_129 : decode c_Md_close 129 = .ok (.iload_n 2, 1) := by decide +kernel
theorem d_Md_close_130 : decode c_Md_close 130 = .ok (.iconst 0, 1) := by decide +kernel
theorem d_Md_close_131 : decode c_Md_close 131 = .ok (.bastore, 1) := by decide +kernel
theorem d_Md_close_132 : decode c_Md_close 132 = .ok (.iload_n 3, 1) := by decide +kernel
theorem d_Md_close_133 : decode c_Md_close 133 = .ok (.ifCond .eq 12, 3) := by decide +kernel
theorem d_Md_close_136 : decode c_Md_close 136 = .ok (.aload_n 0, 1) := by decide +kernel
theorem d_Md_close_137 : decode c_Md_close 137 = .ok (.iconst 2, 1) := by decide +kernel
theorem d_Md_close_138 : decode c_Md_close 138 = .ok (.iload_n 2, 1) := by decide +kernel
theorem d_Md_close_139 : decode c_Md_close 139 = .ok (.iconst 0, 1) := by decide +kernel
theorem d_Md_close_140 : decode c_Md_close 140 = .ok (.iconst 0, 1) := by decide +kernel
theorem d_Md_close_141 : decode c_Md_close 141 = .ok (.iconst 0, 1) := by decide +kernel
theorem d_Md_close_142 : decode c_Md_close 142 = .ok (.invokevirtual 73, 3) := by decide +kernel
theorem d_Md_close_145 : decode c_Md_close 145 = .ok (.aload_n 0, 1) := by decide +kernel
theorem d_Md_close_146 : decode c_Md_close 146 = .ok (.iload_n 1, 1) := by decide +kernel
theorem d_Md_close_147 : decode c_Md_close 147 = .ok (.iconst 3, 1) := by decide +kernel
theorem d_Md_close_148 : decode c_Md_close 148 = .ok (.invokevirtual 49, 3) := by decide +kernel
theorem d_Md_close_151 : decode c_Md_close 151 = .ok (.iconst 3, 1) := by decide +kernel
theorem d_Md_close_152 : decode c_Md_close 152 = .ok (.if_icmp .ne 7, 3) := by decide +kernel
theorem d_Md_close_155 : decode c_Md_close 155 = .ok (.aload_n 0, 1) := by decide +kernel
theorem d_Md_close_156 : decode c_Md_close 156 = .ok (.invokevirtual 97, 3) := by decide +kernel
theorem d_Md_close_159 : decode c_Md_close 159 = .ok (.aload_n 0, 1) := by decide +kernel
theorem d_Md_close_160 : decode c_Md_close 160 = .ok (.iconst (-1), 1) := by decide +kernel
theorem d_Md_close_161 : decode c_Md_close 161 = .ok (.invokevirtual 66, 3) := by decide +kernel
theorem d_Md_close_164 : decode c_Md_close 164 = .ok (.ireturn, 1) := by decide +kernel
theorem d_Md_unlockAt_0 : decode c_Md_unlockAt 0 = .ok (.aload_n 0, 1) := by decide +kernel
theorem d_Md_unlockAt_1 : decode c_Md_unlockAt 1 = .ok (.dup, 1) := by decide +kernel
theorem d_Md_unlockAt_2 : decode c_Md_unlockAt 2 = .ok (.getfield 100, 3) := by decide +kernel
theorem d_Md_unlockAt_5 : decode c_Md_unlockAt 5 = .ok (.iconst 1, 1) := by decide +kernel
theorem d_Md_unlockAt_6 : decode c_Md_unlockAt 6 = .ok (.isub, 1) := by decide +kernel
theorem d_Md_unlockAt_7 : decode c_Md_unlockAt 7 = .ok (.putfield 100, 3) := by decide +kernel
theorem d_Md_unlockAt_10 : decode c_Md_unlockAt 10 = .ok (.iconst 4, 1) := by decide +kernel
theorem d_Md_unlockAt_11 : decode c_Md_unlockAt 11 = .ok (.iload_n 1, 1) := by decide +kernel
theorem d_Md_unlockAt_12 : decode c_Md_unlockAt 12 = .ok (.imul, 1) := by decide +kernel
theorem d_Md_unlockAt_13 : decode c_Md_unlockAt 13 = .ok (.istore_n 2, 1) := by decide +kernel
theorem d_Md_unlockAt_14 : decode c_Md_unlockAt 14 = .ok (.iload_n 2, 1) := by decide +kernel
theorem d_Md_unlockAt_15 : decode c_Md_unlockAt 15 = .ok (.iconst 4, 1) := by decide +kernel
theorem d_Md_unlockAt_16 : decode c_Md_unlockAt 16 = .ok (.aload_n 0, 1) := by decide +kernel
theorem d_Md_unlockAt_17 : decode c_Md_unlockAt 17 = .ok (.getfield 100, 3) := by decide +kernel
theorem d_Md_unlockAt_20 : decode c_Md_unlockAt 20 = .ok (.imul, 1) := by decide +kernel
theorem d_Md_unlockAt_21 : decode c_Md_unlockAt 21 = .ok (.if_icmp .ge 23, 3) := by decide +kernel
theorem d_Md_unlockAt_24 : decode c_Md_unlockAt 24 = .ok (.aload_n 0, 1) := by decide +kernel
theorem d_Md_unlockAt_25 : decode c_Md_unlockAt 25 = .ok (.getfield 38, 3) := by decide +kernel
theorem d_Md_unlockAt_28 : decode c_Md_unlockAt 28 = .ok (.iload_n 2, 1) := by decide +kernel
theorem d_Md_unlockAt_29 : decode c_Md_unlockAt 29 = .ok (.aload_n 0, 1) := by decide +kernel
theorem d_Md_unlockAt_30 : decode c_Md_unlockAt 30 = .ok (.getfield 38, 3) := by decide +kernel
theorem d_Md_unlockAt_33 : decode c_Md_unlockAt 33 = .ok (.iload_n 2, 1) := by decide +kernel
theorem d_Md_unlockAt_34 : decode c_Md_unlockAt 34 = .ok (.iconst 4, 1) := by decide +kernel
theorem d_Md_unlockAt_35 : decode c_Md_unlockAt 35 = .ok (.iadd, 1) := by decide +kernel
theorem d_Md_unlockAt_36 : decode c_Md_unlockAt 36 = .ok (.iaload, 1) := by decide +kernel
theorem d_Md_unlockAt_37 : decode c_Md_unlockAt 37 = .ok (.iastore, 1) := by decide +kernel
theorem d_Md_unlockAt_38 : decode c_Md_unlockAt 38 = .ok (.iinc 2 1, 3) := by decide +kernel
theorem d_Md_unlockAt_41 : decode c_Md_unlockAt 41 = .ok (.goto (-27), 3) := by decide +kernel
theorem d_Md_unlockAt_44 : decode c_Md_unlockAt 44 = .ok (.return_, 1) := by decide +kernel
theorem d_Md_inside_0 : decode c_Md_inside 0 = .ok (.iconst 0, 1) := by decide +kernel
theorem d_Md_inside_1 : decode c_Md_inside 1 = .ok (.istore_n 2, 1) := by decide +kernel
theorem d_Md_inside_2 : decode c_Md_inside 2 = .ok (.iconst 1, 1) := by decide +kernel
theorem d_Md_inside_3 : decode c_Md_inside 3 = .ok (.istore_n 3, 1) := by decide +kernel
theorem d_Md_inside_4 : decode c_Md_inside 4 = .ok (.iload_n 3, 1) := by decide +kernel
theorem d_Md_inside_5 : decode c_Md_inside 5 = .ok (.aload_n 0, 1) := by decide +kernel
theorem d_Md_inside_6 : decode c_Md_inside 6 = .ok (.getfield 53, 3) := by decide +kernel
theorem d_Md_inside_9 : decode c_Md_inside 9 = .ok (.if_icmp .gt 31, 3) := by decide +kernel
theorem d_Md_inside_12 : decode c_Md_inside 12 = .ok (.aload_n 0, 1) := by decide +kernel
theorem d_Md_inside_13 : decode c_Md_inside 13 = .ok (.getfield 13, 3) := by decide +kernel
theorem d_Md_inside_16 : decode c_Md_inside 16 = .ok (.iload_n 3, 1) := by decide +kernel
theorem d_Md_inside_17 : decode c_Md_inside 17 = .ok (.baload, 1) := by decide +kernel
theorem d_Md_inside_18 : decode c_Md_inside 18 = .ok (.ifCond .eq 16, 3) := by decide +kernel
theorem d_Md_inside_21 : decode c_Md_inside 21 = .ok (.aload_n 0, 1) := by decide +kernel
theorem d_Md_inside_22 : decode c_Md_inside 22 = .ok (.getfield 20, 3) := by decide +kernel
theorem d_Md_inside_25 : decode c_Md_inside 25 = .ok (.iload_n 3, 1) := by decide +kernel
theorem d_Md_inside_26 : decode c_Md_inside 26 = .ok (.iaload, 1) := by decide +kernel
theorem d_Md_inside_27 : decode c_Md_inside 27 = .ok (.iload_n 1, 1) := by decide +kernel
theorem d_Md_inside_28 : decode c_Md_inside 28 = .ok (.if_icmp .ne 6, 3) := by decide +kernel
theorem d_Md_inside_31 : decode c_Md_inside 31 = .ok (.iinc 2 1, 3) := by decide +kernel
theorem d_Md_inside_34 : decode c_Md_inside 34 = .ok (.iinc 3 1, 3) := by decide +kernel
theorem d_Md_inside_37 : decode c_Md_inside 37 = .ok (.goto (-33), 3) := by decide +kernel
theorem d_Md_inside_40 : decode c_Md_inside 40 = .ok (.iload_n 2, 1) := by decide +kernel
theorem d_Md_inside_41 : decode c_Md_inside 41 = .ok (.ireturn, 1) := by decide +kernel
theorem d_Md_doom_0 : decode c_Md_doom 0 = .ok (.aload_n 0, 1) := by decide +kernel
theorem d_Md_doom_1 : decode c_Md_doom 1 = .ok (.iload_n 1, 1) := by decide +kernel
theorem d_Md_doom_2 : decode c_Md_doom 2 = .ok (.invokevirtual 94, 3) := by decide +kernel
theorem d_Md_doom_5 : decode c_Md_doom 5 = .ok (.ifCond .ne 14, 3) := by decide +kernel
theorem d_Md_doom_8 : decode c_Md_doom 8 = .ok (.aload_n 0, 1) := by decide +kernel
theorem d_Md_doom_9 : decode c_Md_doom 9 = .ok (.iload_n 1, 1) := by decide +kernel
theorem d_Md_doom_10 : decode c_Md_doom 10 = .ok (.iconst 1, 1) := by decide +kernel
theorem d_Md_doom_11 : decode c_Md_doom 11 = .ok (.invokevirtual 49, 3) := by decide +kernel
theorem d_Md_doom_14 : decode c_Md_doom 14 = .ok (.iconst 4, 1) := by decide +kernel
theorem d_Md_doom_15 : decode c_Md_doom 15 = .ok (.iand, 1) := by decide +kernel
theorem d_Md_doom_16 : decode c_Md_doom 16 = .ok (.ifCond .ne 5, 3) := by decide +kernel
theorem d_Md_doom_19 : decode c_Md_doom 19 = .ok (.iconst (-1), 1) := by decide +kernel
theorem d_Md_doom_20 : decode c_Md_doom 20 = .ok (.ireturn, 1) := by decide +kernel
theorem d_Md_doom_21 : decode c_Md_doom 21 = .ok (.aload_n 0, 1) := by decide +kernel
theorem d_Md_doom_22 : decode c_Md_doom 22 = .ok (.iload_n 1, 1) := by decide +kernel
theorem d_Md_doom_23 : decode c_Md_doom 23 = .ok (.iconst 0, 1) := by decide +kernel
theorem d_Md_doom_24 : decode c_Md_doom 24 = .ok (.invokevirtual 49, 3) := by decide +kernel
theorem d_Md_doom_27 : decode c_Md_doom 27 = .ok (.istore_n 3, 1) := by decide +kernel
theorem d_Md_doom_28 : decode c_Md_doom 28 = .ok (.iload_n 2, 1) := by decide +kernel
theorem d_Md_doom_29 : decode c_Md_doom 29 = .ok (.ifCond .eq 26, 3) := by decide +kernel
theorem d_Md_doom_32 : decode c_Md_doom 32 = .ok (.iload_n 3, 1) := by decide +kernel
theorem d_Md_doom_33 : decode c_Md_doom 33 = .ok (.ifCond .eq 20, 3) := by decide +kernel
theorem d_Md_doom_36 : decode c_Md_doom 36 = .ok (.aload_n 0, 1) := by decide +kernel
theorem d_Md_doom_37 : decode c_Md_doom 37 = .ok (.getfield 17, 3) := by decide +kernel
theorem d_Md_doom_40 : decode c_Md_doom 40 = .ok (.iload_n 3, 1) := by decide +kernel
theorem d_Md_doom_41 : decode c_Md_doom 41 = .ok (.baload, 1) := by decide +kernel
theorem d_Md_doom_42 : decode c_Md_doom 42 = .ok (.ifCond .eq 13, 3) := by decide +kernel
theorem d_Md_doom_45 : decode c_Md_doom 45 = .ok (.aload_n 0, 1) := by decide +kernel
theorem d_Md_doom_46 : decode c_Md_doom 46 = .ok (.iload_n 3, 1) := by decide +kernel
theorem d_Md_doom_47 : decode c_Md_doom 47 = .ok (.invokevirtual 106, 3) := by decide +kernel
theorem d_Md_doom_50 : decode c_Md_doom 50 = .ok (.ifCond .le 5, 3) := by decide +kernel
theorem d_Md_doom_53 : decode c_Md_doom 53 = .ok (.iconst (-1), 1) := by decide +kernel
theorem d_Md_doom_54 : decode c_Md_doom 54 = .ok (.ireturn, 1) := by decide +kernel
theorem d_Md_doom_55 : decode c_Md_doom 55 = .ok (.aload_n 0, 1) := by decide +kernel
theorem d_Md_doom_56 : decode c_Md_doom 56 = .ok (.getfield 26, 3) := by decide +kernel
theorem d_Md_doom_59 : decode c_Md_doom 59 = .ok (.iload_n 3, 1) := by decide +kernel
theorem d_Md_doom_60 : decode c_Md_doom 60 = .ok (.iload_n 2, 1) := by decide +kernel
theorem d_Md_doom_61 : decode c_Md_doom 61 = .ok (.bastore, 1) := by decide +kernel
theorem d_Md_doom_62 : decode c_Md_doom 62 = .ok (.iconst 0, 1) := by decide +kernel
theorem d_Md_doom_63 : decode c_Md_doom 63 = .ok (.ireturn, 1) := by decide +kernel
theorem d_Md_move_0 : decode c_Md_move 0 = .ok (.aload_n 0, 1) := by decide +kernel
theorem d_Md_move_1 : decode c_Md_move 1 = .ok (.iload_n 1, 1) := by decide +kernel
theorem d_Md_move_2 : decode c_Md_move 2 = .ok (.invokevirtual 94, 3) := by decide +kernel
theorem d_Md_move_5 : decode c_Md_move 5 = .ok (.ifCond .ne 23, 3) := by decide +kernel
theorem d_Md_move_8 : decode c_Md_move 8 = .ok (.iload_n 2, 1) := by decide +kernel
theorem d_Md_move_9 : decode c_Md_move 9 = .ok (.iconst 0, 1) := by decide +kernel
theorem d_Md_move_10 : decode c_Md_move 10 = .ok (.bipush 24, 2) := by decide +kernel
theorem d_Md_move_12 : decode c_Md_move 12 = .ok (.invokestatic 45, 3) := by decide +kernel
theorem d_Md_move_15 : decode c_Md_move 15 = .ok (.ifCond .eq 13, 3) := by decide +kernel
theorem d_Md_move_18 : decode c_Md_move 18 = .ok (.iload_n 3, 1) := by decide +kernel
theorem d_Md_move_19 : decode c_Md_move 19 = .ok (.iconst 0, 1) := by decide +kernel
theorem d_Md_move_20 : decode c_Md_move 20 = .ok (.bipush 15, 2) := by decide +kernel
theorem d_Md_move_22 : decode c_Md_move 22 = .ok (.invokestatic 45, 3) := by decide +kernel
theorem d_Md_move_25 : decode c_Md_move 25 = .ok (.ifCond .ne 5, 3) := by decide +kernel
theorem d_Md_move_28 : decode c_Md_move 28 = .ok (.iconst (-1), 1) := by decide +kernel
theorem d_Md_move_29 : decode c_Md_move 29 = .ok (.ireturn, 1) := by decide +kernel
theorem d_Md_move_30 : decode c_Md_move 30 = .ok (.aload_n 0, 1) := by decide +kernel
theorem d_Md_move_31 : decode c_Md_move 31 = .ok (.iload_n 1, 1) := by decide +kernel
theorem d_Md_move_32 : decode c_Md_move 32 = .ok (.iconst 0, 1) := by decide +kernel
theorem d_Md_move_33 : decode c_Md_move 33 = .ok (.invokevirtual 49, 3) := by decide +kernel
theorem d_Md_move_36 : decode c_Md_move 36 = .ok (.istore 4, 2) := by decide +kernel
theorem d_Md_move_38 : decode c_Md_move 38 = .ok (.aload_n 0, 1) := by decide +kernel
theorem d_Md_move_39 : decode c_Md_move 39 = .ok (.iload_n 1, 1) := by decide +kernel
theorem d_Md_move_40 : decode c_Md_move 40 = .ok (.iconst 1, 1) := by decide +kernel
theorem d_Md_move_41 : decode c_Md_move 41 = .ok (.invokevirtual 49, 3) := by decide +kernel
theorem d_Md_move_44 : decode c_Md_move 44 = .ok (.iconst 4, 1) := by decide +kernel
theorem d_Md_move_45 : decode c_Md_move 45 = .ok (.iand, 1) := by decide +kernel
theorem d_Md_move_46 : decode c_Md_move 46 = .ok (.ifCond .eq 8, 3) := by decide +kernel
theorem d_Md_move_49 : decode c_Md_move 49 = .ok (.iload 4, 2) := by decide +kernel
theorem d_Md_move_51 : decode c_Md_move 51 = .ok (.ifCond .ne 5, 3) := by decide +kernel
theorem d_Md_move_54 : decode c_Md_move 54 = .ok (.iconst (-1), 1) := by decide +kernel
theorem d_Md_move_55 : decode c_Md_move 55 = .ok (.ireturn, 1) := by decide +kernel
theorem d_Md_move_56 : decode c_Md_move 56 = .ok (.aload_n 0, 1) := by decide +kernel
theorem d_Md_move_57 : decode c_Md_move 57 = .ok (.getfield 13, 3) := by decide +kernel
theorem d_Md_move_60 : decode c_Md_move 60 = .ok (.iload_n 2, 1) := by decide +kernel
theorem d_Md_move_61 : decode c_Md_move 61 = .ok (.baload, 1) := by decide +kernel
theorem d_Md_move_62 : decode c_Md_move 62 = .ok (.ifCond .eq 12, 3) := by decide +kernel
theorem d_Md_move_65 : decode c_Md_move 65 = .ok (.aload_n 0, 1) := by decide +kernel
theorem d_Md_move_66 : decode c_Md_move 66 = .ok (.getfield 17, 3) := by decide +kernel
theorem d_Md_move_69 : decode c_Md_move 69 = .ok (.iload_n 2, 1) := by decide +kernel
theorem d_Md_move_70 : decode c_Md_move 70 = .ok (.baload, 1) := by decide +kernel
theorem d_Md_move_71 : decode c_Md_move 71 = .ok (.ifCond .ne 6, 3) := by decide +kernel
theorem d_Md_move_74 : decode c_Md_move 74 = .ok (.bipush (-3), 2) := by decide +kernel
theorem d_Md_move_76 : decode c_Md_move 76 = .ok (.ireturn, 1) := by decide +kernel
theorem d_Md_move_77 : decode c_Md_move 77 = .ok (.aload_n 0, 1) := by decide +kernel
theorem d_Md_move_78 : decode c_Md_move 78 = .ok (.getfield 26, 3) := by decide +kernel
theorem d_Md_move_81 : decode c_Md_move 81 = .ok (.iload_n 2, 1) := by decide +kernel
theorem d_Md_move_82 : decode c_Md_move 82 = .ok (.baload, 1) := by decide +kernel
theorem d_Md_move_83 : decode c_Md_move 83 = .ok (.ifCond .eq 6, 3) := by decide +kernel
theorem d_Md_move_86 : decode c_Md_move 86 = .ok (.bipush (-7), 2) := by decide +kernel
theorem d_Md_move_88 : decode c_Md_move 88 = .ok (.ireturn, 1) := by decide +kernel
theorem d_Md_move_89 : decode c_Md_move 89 = .ok (.iload_n 2, 1) := by decide +kernel
theorem d_Md_move_90 : decode c_Md_move 90 = .ok (.istore 5, 2) := by decide +kernel
theorem d_Md_move_92 : decode c_Md_move 92 = .ok (.iload 5, 2) := by decide +kernel
theorem d_Md_move_94 : decode c_Md_move 94 = .ok (.ifCond .lt 24, 3) := by decide +kernel
theorem d_Md_move_97 : decode c_Md_move 97 = .ok (.iload 5, 2) := by decide +kernel
theorem d_Md_move_99 : decode c_Md_move 99 = .ok (.iload 4, 2) := by decide +kernel
theorem d_Md_move_101 : decode c_Md_move 101 = .ok (.if_icmp .ne 5, 3) := by decide +kernel
theorem d_Md_move_104 : decode c_Md_move 104 = .ok (.iconst (-1), 1) := by decide +kernel
theorem d_Md_move_105 : decode c_Md_move 105 = .ok (.ireturn, 1) := by decide +kernel
theorem d_Md_move_106 : decode c_Md_move 106 = .ok (.aload_n 0, 1) := by decide +kernel
theorem d_Md_move_107 : decode c_Md_move 107 = .ok (.getfield 20, 3) := by decide +kernel
theorem d_Md_move_110 : decode c_Md_move 110 = .ok (.iload 5, 2) := by decide +kernel
theorem d_Md_move_112 : decode c_Md_move 112 = .ok (.iaload, 1) := by decide +kernel
theorem d_Md_move_113 : decode c_Md_move 113 = .ok (.istore 5, 2) := by decide +kernel
theorem d_Md_move_115 : decode c_Md_move 115 = .ok (.goto (-23), 3) := by decide +kernel
theorem d_Md_move_118 : decode c_Md_move 118 = .ok (.aload_n 0, 1) := by decide +kernel
theorem d_Md_move_119 : decode c_Md_move 119 = .ok (.iload_n 2, 1) := by decide +kernel
theorem d_Md_move_120 : decode c_Md_move 120 = .ok (.iload_n 3, 1) := by decide +kernel
theorem d_Md_move_121 : decode c_Md_move 121 = .ok (.invokevirtual 70, 3) := by decide +kernel
theorem d_Md_move_124 : decode c_Md_move 124 = .ok (.ifCond .lt 6, 3) := by decide +kernel
theorem d_Md_move_127 : decode c_Md_move 127 = .ok (.bipush (-4), 2) := by decide +kernel
theorem d_Md_move_129 : decode c_Md_move 129 = .ok (.ireturn, 1) := by decide +kernel
theorem d_Md_move_130 : decode c_Md_move 130 = .ok (.aload_n 0, 1) := by decide +kernel
theorem d_Md_move_131 : decode c_Md_move 131 = .ok (.iconst 3, 1) := by decide +kernel
theorem d_Md_move_132 : decode c_Md_move 132 = .ok (.iload 4, 2) := by decide +kernel
theorem d_Md_move_134 : decode c_Md_move 134 = .ok (.iload_n 2, 1) := by decide +kernel
theorem d_Md_move_135 : decode c_Md_move 135 = .ok (.iload_n 3, 1) := by decide +kernel
theorem d_Md_move_136 : decode c_Md_move 136 = .ok (.iconst 0, 1) := by decide +kernel
theorem d_Md_move_137 : decode c_Md_move 137 = .ok (.invokevirtual 73, 3) := by decide +kernel
theorem d_Md_move_140 : decode c_Md_move 140 = .ok (.iconst 0, 1) := by decide +kernel
theorem d_Md_move_141 : decode c_Md_move 141 = .ok (.ireturn, 1) := by decide +kernel
theorem d_Md_read_0 : decode c_Md_read 0 = .ok (.aload_n 0, 1) := by decide +kernel
theorem d_Md_read_1 : decode c_Md_read 1 = .ok (.iload_n 1, 1) := by decide +kernel
theorem d_Md_read_2 : decode c_Md_read 2 = .ok (.iconst 1, 1) := by decide +kernel
theorem d_Md_read_3 : decode c_Md_read 3 = .ok (.iload_n 2, 1) := by decide +kernel
theorem d_Md_read_4 : decode c_Md_read 4 = .ok (.invokevirtual 109, 3) := by decide +kernel
theorem d_Md_read_7 : decode c_Md_read 7 = .ok (.ifCond .ne 5, 3) := by decide +kernel
theorem d_Md_read_10 : decode c_Md_read 10 = .ok (.iconst (-1), 1) := by decide +kernel
theorem d_Md_read_11 : decode c_Md_read 11 = .ok (.ireturn, 1) := by decide +kernel
theorem d_Md_read_12 : decode c_Md_read 12 = .ok (.aload_n 0, 1) := by decide +kernel
theorem d_Md_read_13 : decode c_Md_read 13 = .ok (.iload_n 1, 1) := by decide +kernel
theorem d_Md_read_14 : decode c_Md_read 14 = .ok (.iload_n 2, 1) := by decide +kernel
theorem d_Md_read_15 : decode c_Md_read 15 = .ok (.iload_n 2, 1) := by decide +kernel
theorem d_Md_read_16 : decode c_Md_read 16 = .ok (.iconst 1, 1) := by decide +kernel
theorem d_Md_read_17 : decode c_Md_read 17 = .ok (.iadd, 1) := by decide +kernel
theorem d_Md_read_18 : decode c_Md_read 18 = .ok (.iconst 0, 1) := by decide +kernel
theorem d_Md_read_19 : decode c_Md_read 19 = .ok (.iconst 0, 1) := by decide +kernel
theorem d_Md_read_20 : decode c_Md_read 20 = .ok (.invokevirtual 112, 3) := by decide +kernel
theorem d_Md_read_23 : decode c_Md_read 23 = .ok (.ifCond .eq 6, 3) := by decide +kernel
theorem d_Md_read_26 : decode c_Md_read 26 = .ok (.bipush (-8), 2) := by decide +kernel
theorem d_Md_read_28 : decode c_Md_read 28 = .ok (.ireturn, 1) := by decide +kernel
theorem d_Md_read_29 : decode c_Md_read 29 = .ok (.aload_n 0, 1) := by decide +kernel
theorem d_Md_read_30 : decode c_Md_read 30 = .ok (.aload_n 0, 1) := by decide +kernel
theorem d_Md_read_31 : decode c_Md_read 31 = .ok (.getfield 29, 3) := by decide +kernel
theorem d_Md_read_34 : decode c_Md_read 34 = .ok (.bipush 32, 2) := by decide +kernel
theorem d_Md_read_36 : decode c_Md_read 36 = .ok (.aload_n 0, 1) := by decide +kernel
theorem d_Md_read_37 : decode c_Md_read 37 = .ok (.iload_n 1, 1) := by decide +kernel
theorem d_Md_read_38 : decode c_Md_read 38 = .ok (.iconst 0, 1) := by decide +kernel
theorem d_Md_read_39 : decode c_Md_read 39 = .ok (.invokevirtual 49, 3) := by decide +kernel
theorem d_Md_read_42 : decode c_Md_read 42 = .ok (.imul, 1) := by decide +kernel
theorem d_Md_read_43 : decode c_Md_read 43 = .ok (.iload_n 2, 1) := by decide +kernel
theorem d_Md_read_44 : decode c_Md_read 44 = .ok (.iadd, 1) := by decide +kernel
theorem d_Md_read_45 : decode c_Md_read 45 = .ok (.iaload, 1) := by decide +kernel
theorem d_Md_read_46 : decode c_Md_read 46 = .ok (.putfield 116, 3) := by decide +kernel
theorem d_Md_read_49 : decode c_Md_read 49 = .ok (.iconst 0, 1) := by decide +kernel
theorem d_Md_read_50 : decode c_Md_read 50 = .ok (.ireturn, 1) := by decide +kernel
theorem d_Md_may_0 : decode c_Md_may 0 = .ok (.aload_n 0, 1) := by decide +kernel
theorem d_Md_may_1 : decode c_Md_may 1 = .ok (.iload_n 1, 1) := by decide +kernel
theorem d_Md_may_2 : decode c_Md_may 2 = .ok (.invokevirtual 94, 3) := by decide +kernel
theorem d_Md_may_5 : decode c_Md_may 5 = .ok (.ifCond .ne 43, 3) := by decide +kernel
theorem d_Md_may_8 : decode c_Md_may 8 = .ok (.aload_n 0, 1) := by decide +kernel
theorem d_Md_may_9 : decode c_Md_may 9 = .ok (.iload_n 1, 1) := by decide +kernel
theorem d_Md_may_10 : decode c_Md_may 10 = .ok (.iconst 1, 1) := by decide +kernel
theorem d_Md_may_11 : decode c_Md_may 11 = .ok (.invokevirtual 49, 3) := by decide +kernel
theorem d_Md_may_14 : decode c_Md_may 14 = .ok (.iload_n 2, 1) := by decide +kernel
theorem d_Md_may_15 : decode c_Md_may 15 = .ok (.iand, 1) := by decide +kernel
theorem d_Md_may_16 : decode c_Md_may 16 = .ok (.iload_n 2, 1) := by decide +kernel
theorem d_Md_may_17 : decode c_Md_may 17 = .ok (.if_icmp .ne 31, 3) := by decide +kernel
theorem d_Md_may_20 : decode c_Md_may 20 = .ok (.aload_n 0, 1) := by decide +kernel
theorem d_Md_may_21 : decode c_Md_may 21 = .ok (.getfield 17, 3) := by decide +kernel
theorem d_Md_may_24 : decode c_Md_may 24 = .ok (.aload_n 0, 1) := by decide +kernel
theorem d_Md_may_25 : decode c_Md_may 25 = .ok (.iload_n 1, 1) := by decide +kernel
theorem d_Md_may_26 : decode c_Md_may 26 = .ok (.iconst 0, 1) := by decide +kernel
theorem d_Md_may_27 : decode c_Md_may 27 = .ok (.invokevirtual 49, 3) := by decide +kernel
theorem d_Md_may_30 : decode c_Md_may 30 = .ok (.baload, 1) := by decide +kernel
theorem d_Md_may_31 : decode c_Md_may 31 = .ok (.ifCond .ne 17, 3) := by decide +kernel
theorem d_Md_may_34 : decode c_Md_may 34 = .ok (.iload_n 3, 1) := by decide +kernel
theorem d_Md_may_35 : decode c_Md_may 35 = .ok (.iconst 0, 1) := by decide +kernel
theorem d_Md_may_36 : decode c_Md_may 36 = .ok (.bipush 31, 2) := by decide +kernel
theorem d_Md_may_38 : decode c_Md_may 38 = .ok (.invokestatic 45, 3) := by decide +kernel
theorem d_Md_may_41 : decode c_Md_may 41 = .ok (.ifCond .eq 7, 3) := by decide +kernel
theorem d_Md_may_44 : decode c_Md_may 44 = .ok (.iconst 1, 1) := by decide +kernel
theorem d_Md_may_45 : decode c_Md_may 45 = .ok (.goto 4, 3) := by decide +kernel
theorem d_Md_may_48 : decode c_Md_may 48 = .ok (.iconst 0, 1) := by decide +kernel
theorem d_Md_may_49 : decode c_Md_may 49 = .ok (.ireturn, 1) := by decide +kernel
theorem d_Md_met_0 : decode c_Md_met 0 = .ok (.iconst 0, 1) := by decide +kernel
theorem d_Md_met_1 : decode c_Md_met 1 = .ok (.istore 6, 2) := by decide +kernel
theorem d_Md_met_3 : decode c_Md_met 3 = .ok (.iload 6, 2) := by decide +kernel
theorem d_Md_met_5 : decode c_Md_met 5 = .ok (.aload_n 0, 1) := by decide +kernel
theorem d_Md_met_6 : decode c_Md_met 6 = .ok (.getfield 100, 3) := by decide +kernel
theorem d_Md_met_9 : decode c_Md_met 9 = .ok (.if_icmp .ge 158, 3) := by decide +kernel
theorem d_Md_met_12 : decode c_Md_met 12 = .ok (.iconst 4, 1) := by decide +kernel
theorem d_Md_met_13 : decode c_Md_met 13 = .ok (.iload 6, 2) := by decide +kernel
theorem d_Md_met_15 : decode c_Md_met 15 = .ok (.imul, 1) := by decide +kernel
theorem d_Md_met_16 : decode c_Md_met 16 = .ok (.istore 7, 2) := by decide +kernel
theorem d_Md_met_18 : decode c_Md_met 18 = .ok (.aload_n 0, 1) := by decide +kernel
theorem d_Md_met_19 : decode c_Md_met 19 = .ok (.aload_n 0, 1) := by decide +kernel
theorem d_Md_met_20 : decode c_Md_met 20 = .ok (.getfield 38, 3) := by decide +kernel
theorem d_Md_met_23 : decode c_Md_met 23 = .ok (.iload 7, 2) := by decide +kernel
theorem d_Md_met_25 : decode c_Md_met 25 = .ok (.iaload, 1) := by decide +kernel
theorem d_Md_met_26 : decode c_Md_met 26 = .ok (.iconst 0, 1) := by decide +kernel
theorem d_Md_met_27 : decode c_Md_met 27 = .ok (.invokevirtual 49, 3) := by decide +kernel
theorem d_Md_met_30 : decode c_Md_met 30 = .ok (.aload_n 0, 1) := by decide +kernel
theorem d_Md_met_31 : decode c_Md_met 31 = .ok (.iload_n 1, 1) := by decide +kernel
theorem d_Md_met_32 : decode c_Md_met 32 = .ok (.iconst 0, 1) := by decide +kernel
theorem d_Md_met_33 : decode c_Md_met 33 = .ok (.invokevirtual 49, 3) := by decide +kernel
theorem d_Md_met_36 : decode c_Md_met 36 = .ok (.if_icmp .ne 125, 3) := by decide +kernel
theorem d_Md_met_39 : decode c_Md_met 39 = .ok (.aload_n 0, 1) := by decide +kernel
theorem d_Md_met_40 : decode c_Md_met 40 = .ok (.getfield 38, 3) := by decide +kernel
theorem d_Md_met_43 : decode c_Md_met 43 = .ok (.iload 7, 2) := by decide +kernel
theorem d_Md_met_45 : decode c_Md_met 45 = .ok (.iconst 1, 1) := by decide +kernel
theorem d_Md_met_46 : decode c_Md_met 46 = .ok (.iadd, 1) := by decide +kernel
theorem d_Md_met_47 : decode c_Md_met 47 = .ok (.iaload, 1) := by decide +kernel
theorem d_Md_met_48 : decode c_Md_met 48 = .ok (.iload_n 3, 1) := by decide +kernel
theorem d_Md_met_49 : decode c_Md_met 49 = .ok (.if_icmp .ge 112, 3) := by decide +kernel
theorem d_Md_met_52 : decode c_Md_met 52 = .ok (.aload_n 0, 1) := by decide +kernel
theorem d_Md_met_53 : decode c_Md_met 53 = .ok (.getfield 38, 3) := by decide +kernel
theorem d_Md_met_56 : decode c_Md_met 56 = .ok (.iload 7, 2) := by decide +kernel
theorem d_Md_met_58 : decode c_Md_met 58 = .ok (.iconst 2, 1) := by decide +kernel
theorem d_Md_met_59 : decode c_Md_met 59 = .ok (.iadd, 1) := by decide +kernel
theorem d_Md_met_60 : decode c_Md_met 60 = .ok (.iaload, 1) := by decide +kernel
theorem d_Md_met_61 : decode c_Md_met 61 = .ok (.iload_n 2, 1) := by decide +kernel
theorem d_Md_met_62 : decode c_Md_met 62 = .ok (.if_icmp .gt 6, 3) := by decide +kernel
theorem d_Md_met_65 : decode c_Md_met 65 = .ok (.goto 96, 3) := by decide +kernel
theorem d_Md_met_68 : decode c_Md_met 68 = .ok (.aload_n 0, 1) := by decide +kernel
theorem d_Md_met_69 : decode c_Md_met 69 = .ok (.getfield 38, 3) := by decide +kernel
theorem d_Md_met_72 : decode c_Md_met 72 = .ok (.iload 7, 2) := by decide +kernel
theorem d_Md_met_74 : decode c_Md_met 74 = .ok (.iaload, 1) := by decide +kernel
theorem d_Md_met_75 : decode c_Md_met 75 = .ok (.iload_n 1, 1) := by decide +kernel
theorem d_Md_met_76 : decode c_Md_met 76 = .ok (.if_icmp .ne 7, 3) := by decide +kernel
theorem d_Md_met_79 : decode c_Md_met 79 = .ok (.iconst 1, 1) := by decide +kernel
theorem d_Md_met_80 : decode c_Md_met 80 = .ok (.goto 4, 3) := by decide +kernel
theorem d_Md_met_83 : decode c_Md_met 83 = .ok (.iconst 0, 1) := by decide +kernel
theorem d_Md_met_84 : decode c_Md_met 84 = .ok (.istore 8, 2) := by decide +kernel
theorem d_Md_met_86 : decode c_Md_met 86 = .ok (.iload 4, 2) := by decide +kernel
theorem d_Md_met_88 : decode c_Md_met 88 = .ok (.ifCond .ne 16, 3) := by decide +kernel
theorem d_Md_met_91 : decode c_Md_met 91 = .ok (.aload_n 0, 1) := by decide +kernel
theorem d_Md_met_92 : decode c_Md_met 92 = .ok (.getfield 38, 3) := by decide +kernel
theorem d_Md_met_95 : decode c_Md_met 95 = .ok (.iload 7, 2) := by decide +kernel
theorem d_Md_met_97 : decode c_Md_met 97 = .ok (.iconst 3, 1) := by decide +kernel
theorem d_Md_met_98 : decode c_Md_met 98 = .ok (.iadd, 1) := by decide +kernel
theorem d_Md_met_99 : decode c_Md_met 99 = .ok (.iaload, 1) := by decide +kernel
theorem d_Md_met_100 : decode c_Md_met 100 = .ok (.iconst 1, 1) := by decide +kernel
theorem d_Md_met_101 : decode c_Md_met 101 = .ok (.if_icmp .ne 7, 3) := by decide +kernel
theorem d_Md_met_104 : decode c_Md_met 104 = .ok (.iconst 1, 1) := by decide +kernel
theorem d_Md_met_105 : decode c_Md_met 105 = .ok (.goto 4, 3) := by decide +kernel
theorem d_Md_met_108 : decode c_Md_met 108 = .ok (.iconst 0, 1) := by decide +kernel
theorem d_Md_met_109 : decode c_Md_met 109 = .ok (.istore 9, 2) := by decide +kernel
theorem d_Md_met_111 : decode c_Md_met 111 = .ok (.iload 8, 2) := by decide +kernel
theorem d_Md_met_113 : decode c_Md_met 113 = .ok (.ifCond .eq 28, 3) := by decide +kernel
theorem d_Md_met_116 : decode c_Md_met 116 = .ok (.iload 5, 2) := by decide +kernel
theorem d_Md_met_118 : decode c_Md_met 118 = .ok (.iconst 2, 1) := by decide +kernel
theorem d_Md_met_119 : decode c_Md_met 119 = .ok (.if_icmp .ne 22, 3) := by decide +kernel
theorem d_Md_met_122 : decode c_Md_met 122 = .ok (.aload_n 0, 1) := by decide +kernel
theorem d_Md_met_123 : decode c_Md_met 123 = .ok (.getfield 38, 3) := by decide +kernel
theorem d_Md_met_126 : decode c_Md_met 126 = .ok (.iload 7, 2) := by decide +kernel
theorem d_Md_met_128 : decode c_Md_met 128 = .ok (.iconst 3, 1) := by decide +kernel
theorem d_Md_met_129 : decode c_Md_met 129 = .ok (.iadd, 1) := by decide +kernel
theorem d_Md_met_130 : decode c_Md_met 130 = .ok (.iaload, 1) := by decide +kernel
theorem d_Md_met_131 : decode c_Md_met 131 = .ok (.ifCond .ne 7, 3) := by decide +kernel
theorem d_Md_met_134 : decode c_Md_met 134 = .ok (.iconst 1, 1) := by decide +kernel
theorem d_Md_met_135 : decode c_Md_met 135 = .ok (.goto 4, 3) := by decide +kernel
theorem d_Md_met_138 : decode c_Md_met 138 = .ok (.iconst 0, 1) := by decide +kernel
theorem d_Md_met_139 : decode c_Md_met 139 = .ok (.istore 9, 2) := by decide +kernel
theorem d_Md_met_141 : decode c_Md_met 141 = .ok (.iload 8, 2) := by decide +kernel
theorem d_Md_met_143 : decode c_Md_met 143 = .ok (.ifCond .eq 11, 3) := by decide +kernel
theorem d_Md_met_146 : decode c_Md_met 146 = .ok (.iload 5, 2) := by decide +kernel
theorem d_Md_met_148 : decode c_Md_met 148 = .ok (.ifCond .ne 6, 3) := by decide +kernel
theorem d_Md_met_151 : decode c_Md_met 151 = .ok (.iconst 0, 1) := by decide +kernel
theorem d_Md_met_152 : decode c_Md_met 152 = .ok (.istore 9, 2) := by decide +kernel
theorem d_Md_met_154 : decode c_Md_met 154 = .ok (.iload 9, 2) := by decide +kernel
theorem d_Md_met_156 : decode c_Md_met 156 = .ok (.ifCond .eq 5, 3) := by decide +kernel
theorem d_Md_met_159 : decode c_Md_met 159 = .ok (.iconst 1, 1) := by decide +kernel
theorem d_Md_met_160 : decode c_Md_met 160 = .ok (.ireturn, 1) := by decide +kernel
theorem d_Md_met_161 : decode c_Md_met 161 = .ok (.iinc 6 1, 3) := by decide +kernel
theorem d_Md_met_164 : decode c_Md_met 164 = .ok (.goto (-161), 3) := by decide +kernel
theorem d_Md_met_167 : decode c_Md_met 167 = .ok (.iconst 0, 1) := by decide +kernel
theorem d_Md_met_168 : decode c_Md_met 168 = .ok (.ireturn, 1) := by decide +kernel
theorem d_Md_value_0 : decode c_Md_value 0 = .ok (.aload_n 0, 1) := by decide +kernel
theorem d_Md_value_1 : decode c_Md_value 1 = .ok (.getfield 116, 3) := by decide +kernel
theorem d_Md_value_4 : decode c_Md_value 4 = .ok (.ireturn, 1) := by decide +kernel
theorem d_Md_write_0 : decode c_Md_write 0 = .ok (.aload_n 0, 1) := by decide +kernel
theorem d_Md_write_1 : decode c_Md_write 1 = .ok (.iload_n 1, 1) := by decide +kernel
theorem d_Md_write_2 : decode c_Md_write 2 = .ok (.iconst 2, 1) := by decide +kernel
theorem d_Md_write_3 : decode c_Md_write 3 = .ok (.iload_n 2, 1) := by decide +kernel
theorem d_Md_write_4 : decode c_Md_write 4 = .ok (.invokevirtual 109, 3) := by decide +kernel
theorem d_Md_write_7 : decode c_Md_write 7 = .ok (.ifCond .ne 5, 3) := by decide +kernel
theorem d_Md_write_10 : decode c_Md_write 10 = .ok (.iconst (-1), 1) := by decide +kernel
theorem d_Md_write_11 : decode c_Md_write 11 = .ok (.ireturn, 1) := by decide +kernel
theorem d_Md_write_12 : decode c_Md_write 12 = .ok (.aload_n 0, 1) := by decide +kernel
theorem d_Md_write_13 : decode c_Md_write 13 = .ok (.iload_n 1, 1) := by decide +kernel
theorem d_Md_write_14 : decode c_Md_write 14 = .ok (.iload_n 2, 1) := by decide +kernel
theorem d_Md_write_15 : decode c_Md_write 15 = .ok (.iload_n 2, 1) := by decide +kernel
theorem d_Md_write_16 : decode c_Md_write 16 = .ok (.iconst 1, 1) := by decide +kernel
theorem d_Md_write_17 : decode c_Md_write 17 = .ok (.iadd, 1) := by decide +kernel
theorem d_Md_write_18 : decode c_Md_write 18 = .ok (.iconst 1, 1) := by decide +kernel
theorem d_Md_write_19 : decode c_Md_write 19 = .ok (.iconst 2, 1) := by decide +kernel
theorem d_Md_write_20 : decode c_Md_write 20 = .ok (.invokevirtual 112, 3) := by decide +kernel
theorem d_Md_write_23 : decode c_Md_write 23 = .ok (.ifCond .eq 6, 3) := by decide +kernel
theorem d_Md_write_26 : decode c_Md_write 26 = .ok (.bipush (-8), 2) := by decide +kernel
theorem d_Md_write_28 : decode c_Md_write 28 = .ok (.ireturn, 1) := by decide +kernel
theorem d_Md_write_29 : decode c_Md_write 29 = .ok (.aload_n 0, 1) := by decide +kernel
theorem d_Md_write_30 : decode c_Md_write 30 = .ok (.iconst 4, 1) := by decide +kernel
theorem d_Md_write_31 : decode c_Md_write 31 = .ok (.aload_n 0, 1) := by decide +kernel
theorem d_Md_write_32 : decode c_Md_write 32 = .ok (.iload_n 1, 1) := by decide +kernel
theorem d_Md_write_33 : decode c_Md_write 33 = .ok (.iconst 0, 1) := by decide +kernel
theorem d_Md_write_34 : decode c_Md_write 34 = .ok (.invokevirtual 49, 3) := by decide +kernel
theorem d_Md_write_37 : decode c_Md_write 37 = .ok (.iload_n 2, 1) := by decide +kernel
theorem d_Md_write_38 : decode c_Md_write 38 = .ok (.iload_n 3, 1) := by decide +kernel
theorem d_Md_write_39 : decode c_Md_write 39 = .ok (.iconst 0, 1) := by decide +kernel
theorem d_Md_write_40 : decode c_Md_write 40 = .ok (.invokevirtual 73, 3) := by decide +kernel
theorem d_Md_write_43 : decode c_Md_write 43 = .ok (.iconst 1, 1) := by decide +kernel
theorem d_Md_write_44 : decode c_Md_write 44 = .ok (.istore 4, 2) := by decide +kernel
theorem d_Md_write_46 : decode c_Md_write 46 = .ok (.iload 4, 2) := by decide +kernel
theorem d_Md_write_48 : decode c_Md_write 48 = .ok (.aload_n 0, 1) := by decide +kernel
theorem d_Md_write_49 : decode c_Md_write 49 = .ok (.getfield 41, 3) := by decide +kernel
theorem d_Md_write_52 : decode c_Md_write 52 = .ok (.if_icmp .gt 79, 3) := by decide +kernel
theorem d_Md_write_55 : decode c_Md_write 55 = .ok (.iload 4, 2) := by decide +kernel
theorem d_Md_write_57 : decode c_Md_write 57 = .ok (.iload_n 1, 1) := by decide +kernel
theorem d_Md_write_58 : decode c_Md_write 58 = .ok (.if_icmp .eq 35, 3) := by decide +kernel
theorem d_Md_write_61 : decode c_Md_write 61 = .ok (.aload_n 0, 1) := by decide +kernel
theorem d_Md_write_62 : decode c_Md_write 62 = .ok (.iload 4, 2) := by decide +kernel
theorem d_Md_write_64 : decode c_Md_write 64 = .ok (.bipush 6, 2) := by decide +kernel
theorem d_Md_write_66 : decode c_Md_write 66 = .ok (.invokevirtual 49, 3) := by decide +kernel
theorem d_Md_write_69 : decode c_Md_write 69 = .ok (.iconst 1, 1) := by decide +kernel
theorem d_Md_write_70 : decode c_Md_write 70 = .ok (.if_icmp .ne 23, 3) := by decide +kernel
theorem d_Md_write_73 : decode c_Md_write 73 = .ok (.aload_n 0, 1) := by decide +kernel
theorem d_Md_write_74 : decode c_Md_write 74 = .ok (.iload 4, 2) := by decide +kernel
theorem d_Md_write_76 : decode c_Md_write 76 = .ok (.iconst 0, 1) := by decide +kernel
theorem d_Md_write_77 : decode c_Md_write 77 = .ok (.invokevirtual 49, 3) := by decide +kernel
theorem d_Md_write_80 : decode c_Md_write 80 = .ok (.aload_n 0, 1) := by decide +kernel
theorem d_Md_write_81 : decode c_Md_write 81 = .ok (.iload_n 1, 1) := by decide +kernel
theorem d_Md_write_82 : decode c_Md_write 82 = .ok (.iconst 0, 1) := by decide +kernel
theorem d_Md_write_83 : decode c_Md_write 83 = .ok (.invokevirtual 49, 3) := by decide +kernel
theorem d_Md_write_86 : decode c_Md_write 86 = .ok (.if_icmp .ne 7, 3) := by decide +kernel
theorem d_Md_write_89 : decode c_Md_write 89 = .ok (.iconst 1, 1) := by decide +kernel
theorem d_Md_write_90 : decode c_Md_write 90 = .ok (.goto 4, 3) := by decide +kernel
theorem d_Md_write_93 : decode c_Md_write 93 = .ok (.iconst 0, 1) := by decide +kernel
theorem d_Md_write_94 : decode c_Md_write 94 = .ok (.istore 5, 2) := by decide +kernel
theorem d_Md_write_96 : decode c_Md_write 96 = .ok (.iload 5, 2) := by decide +kernel
theorem d_Md_write_98 : decode c_Md_write 98 = .ok (.ifCond .eq 27, 3) := by decide +kernel
theorem d_Md_write_101 : decode c_Md_write 101 = .ok (.aload_n 0, 1) := by decide +kernel
theorem d_Md_write_102 : decode c_Md_write 102 = .ok (.iload 4, 2) := by decide +kernel
theorem d_Md_write_104 : decode c_Md_write 104 = .ok (.iconst 3, 1) := by decide +kernel
theorem d_Md_write_105 : decode c_Md_write 105 = .ok (.invokevirtual 49, 3) := by decide +kernel
theorem d_Md_write_108 : decode c_Md_write 108 = .ok (.iconst 1, 1) := by decide +kernel
theorem d_Md_write_109 : decode c_Md_write 109 = .ok (.if_icmp .ne 16, 3) := by decide +kernel
theorem d_Md_write_112 : decode c_Md_write 112 = .ok (.aload_n 0, 1) := by decide +kernel
theorem d_Md_write_113 : decode c_Md_write 113 = .ok (.getfield 32, 3) := by decide +kernel
theorem d_Md_write_116 : decode c_Md_write 116 = .ok (.bipush 7, 2) := by decide +kernel
theorem d_Md_write_118 : decode c_Md_write 118 = .ok (.iload 4, 2) := by decide +kernel
theorem d_Md_write_120 : decode c_Md_write 120 = .ok (.imul, 1) := by decide +kernel
theorem d_Md_write_121 : decode c_Md_write 121 = .ok (.iconst 3, 1) := by decide +kernel
theorem d_Md_write_122 : decode c_Md_write 122 = .ok (.iadd, 1) := by decide +kernel
theorem d_Md_write_123 : decode c_Md_write 123 = .ok (.iconst 0, 1) := by decide +kernel
theorem d_Md_write_124 : decode c_Md_write 124 = .ok (.iastore, 1) := by decide +kernel
theorem d_Md_write_125 : decode c_Md_write 125 = .ok (.iinc 4 1, 3) := by decide +kernel
theorem d_Md_write_128 : decode c_Md_write 128 = .ok (.goto (-82), 3) := by decide +kernel
theorem d_Md_write_131 : decode c_Md_write 131 = .ok (.iconst 0, 1) := by decide +kernel
theorem d_Md_write_132 : decode c_Md_write 132 = .ok (.ireturn, 1) := by decide +kernel
theorem d_Md_lock_0 : decode c_Md_lock 0 = .ok (.aload_n 0, 1) := by decide +kernel
theorem d_Md_lock_1 : decode c_Md_lock 1 = .ok (.iload_n 1, 1) := by decide +kernel
theorem d_Md_lock_2 : decode c_Md_lock 2 = .ok (.iload_n 2, 1) := by decide +kernel
theorem d_Md_lock_3 : decode c_Md_lock 3 = .ok (.iload_n 3, 1) := by decide +kernel
theorem d_Md_lock_4 : decode c_Md_lock 4 = .ok (.invokevirtual 119, 3) := by decide +kernel
theorem d_Md_lock_7 : decode c_Md_lock 7 = .ok (.ifCond .eq 5, 3) := by decide +kernel
theorem d_Md_lock_10 : decode c_Md_lock 10 = .ok (.iconst (-1), 1) := by decide +kernel
theorem d_Md_lock_11 : decode c_Md_lock 11 = .ok (.ireturn, 1) := by decide +kernel
theorem d_Md_lock_12 : decode c_Md_lock 12 = .ok (.aload_n 0, 1) := by decide +kernel
theorem d_Md_lock_13 : decode c_Md_lock 13 = .ok (.iload_n 1, 1) := by decide +kernel
theorem d_Md_lock_14 : decode c_Md_lock 14 = .ok (.iload_n 2, 1) := by decide +kernel
theorem d_Md_lock_15 : decode c_Md_lock 15 = .ok (.iload_n 2, 1) := by decide +kernel
theorem d_Md_lock_16 : decode c_Md_lock 16 = .ok (.iload_n 3, 1) := by decide +kernel
theorem d_Md_lock_17 : decode c_Md_lock 17 = .ok (.iadd, 1) := by decide +kernel
theorem d_Md_lock_18 : decode c_Md_lock 18 = .ok (.iload 4, 2) := by decide +kernel
theorem d_Md_lock_20 : decode c_Md_lock 20 = .ok (.iconst 1, 1) := by decide +kernel
theorem d_Md_lock_21 : decode c_Md_lock 21 = .ok (.invokevirtual 112, 3) := by decide +kernel
theorem d_Md_lock_24 : decode c_Md_lock 24 = .ok (.ifCond .eq 6, 3) := by decide +kernel
theorem d_Md_lock_27 : decode c_Md_lock 27 = .ok (.bipush (-8), 2) := by decide +kernel
theorem d_Md_lock_29 : decode c_Md_lock 29 = .ok (.ireturn, 1) := by decide +kernel
theorem d_Md_lock_30 : decode c_Md_lock 30 = .ok (.aload_n 0, 1) := by decide +kernel
theorem d_Md_lock_31 : decode c_Md_lock 31 = .ok (.aload_n 0, 1) := by decide +kernel
theorem d_Md_lock_32 : decode c_Md_lock 32 = .ok (.iload_n 1, 1) := by decide +kernel
theorem d_Md_lock_33 : decode c_Md_lock 33 = .ok (.iconst 0, 1) := by decide +kernel
theorem d_Md_lock_34 : decode c_Md_lock 34 = .ok (.invokevirtual 49, 3) := by decide +kernel
theorem d_Md_lock_37 : decode c_Md_lock 37 = .ok (.invokevirtual 122, 3) := by decide +kernel
theorem d_Md_lock_40 : decode c_Md_lock 40 = .ok (.bipush 8, 2) := by decide +kernel
theorem d_Md_lock_42 : decode c_Md_lock 42 = .ok (.if_icmp .ne 6, 3) := by decide +kernel
theorem d_Md_lock_45 : decode c_Md_lock 45 = .ok (.bipush (-2), 2) := by decide +kernel
theorem d_Md_lock_47 : decode c_Md_lock 47 = .ok (.ireturn, 1) := by decide +kernel
theorem d_Md_lock_48 : decode c_Md_lock 48 = .ok (.iconst 4, 1) := by decide +kernel
theorem d_Md_lock_49 : decode c_Md_lock 49 = .ok (.aload_n 0, 1) := by decide +kernel
theorem d_Md_lock_50 : decode c_Md_lock 50 = .ok (.getfield 100, 3) := by decide +kernel
theorem d_Md_lock_53 : decode c_Md_lock 53 = .ok (.imul, 1) := by decide +kernel
theorem d_Md_lock_54 : decode c_Md_lock 54 = .ok (.istore 5, 2) := by decide +kernel
theorem d_Md_lock_56 : decode c_Md_lock 56 = .ok (.aload_n 0, 1) := by decide +kernel
theorem d_Md_lock_57 : decode c_Md_lock 57 = .ok (.getfield 38, 3) := by decide +kernel
theorem d_Md_lock_60 : decode c_Md_lock 60 = .ok (.iload 5, 2) := by decide +kernel
theorem d_Md_lock_62 : decode c_Md_lock 62 = .ok (.iload_n 1, 1) := by decide +kernel
theorem d_Md_lock_63 : decode c_Md_lock 63 = .ok (.iastore, 1) := by decide +kernel
theorem d_Md_lock_64 : decode c_Md_lock 64 = .ok (.aload_n 0, 1) := by decide +kernel
theorem d_Md_lock_65 : decode c_Md_lock 65 = .ok (.getfield 38, 3) := by decide +kernel
theorem d_Md_lock_68 : decode c_Md_lock 68 = .ok (.iload 5, 2) := by decide +kernel
theorem d_Md_lock_70 : decode c_Md_lock 70 = .ok (.iconst 1, 1) := by decide +kernel
theorem d_Md_lock_71 : decode c_Md_lock 71 = .ok (.iadd, 1) := by decide +kernel
theorem d_Md_lock_72 : decode c_Md_lock 72 = .ok (.iload_n 2, 1) := by decide +kernel
theorem d_Md_lock_73 : decode c_Md_lock 73 = .ok (.iastore, 1) := by decide +kernel
theorem d_Md_lock_74 : decode c_Md_lock 74 = .ok (.aload_n 0, 1) := by decide +kernel
theorem d_Md_lock_75 : decode c_Md_lock 75 = .ok (.getfield 38, 3) := by decide +kernel
theorem d_Md_lock_78 : decode c_Md_lock 78 = .ok (.iload 5, 2) := by decide +kernel
theorem d_Md_lock_80 : decode c_Md_lock 80 = .ok (.iconst 2, 1) := by decide +kernel
theorem d_Md_lock_81 : decode c_Md_lock 81 = .ok (.iadd, 1) := by decide +kernel
theorem d_Md_lock_82 : decode c_Md_lock 82 = .ok (.iload_n 2, 1) := by decide +kernel
theorem d_Md_lock_83 : decode c_Md_lock 83 = .ok (.iload_n 3, 1) := by decide +kernel
theorem d_Md_lock_84 : decode c_Md_lock 84 = .ok (.iadd, 1) := by decide +kernel
theorem d_Md_lock_85 : decode c_Md_lock 85 = .ok (.iastore, 1) := by decide +kernel
theorem d_Md_lock_86 : decode c_Md_lock 86 = .ok (.aload_n 0, 1) := by decide +kernel
theorem d_Md_lock_87 : decode c_Md_lock 87 = .ok (.getfield 38, 3) := by decide +kernel
theorem d_Md_lock_90 : decode c_Md_lock 90 = .ok (.iload 5, 2) := by decide +kernel
theorem d_Md_lock_92 : decode c_Md_lock 92 = .ok (.iconst 3, 1) := by decide +kernel
theorem d_Md_lock_93 : decode c_Md_lock 93 = .ok (.iadd, 1) := by decide +kernel
theorem d_Md_lock_94 : decode c_Md_lock 94 = .ok (.iload 4, 2) := by decide +kernel
theorem d_Md_lock_96 : decode c_Md_lock 96 = .ok (.ifCond .eq 7, 3) := by decide +kernel
theorem d_Md_lock_99 : decode c_Md_lock 99 = .ok (.iconst 1, 1) := by decide +kernel
theorem d_Md_lock_100 : decode c_Md_lock 100 = .ok (.goto 4, 3) := by decide +kernel
theorem d_Md_lock_103 : decode c_Md_lock 103 = .ok (.iconst 0, 1) := by decide +kernel
theorem d_Md_lock_104 : decode c_Md_lock 104 = .ok (.iastore, 1) := by decide +kernel
theorem d_Md_lock_105 : decode c_Md_lock 105 = .ok (.aload_n 0, 1) := by decide +kernel
theorem d_Md_lock_106 : decode c_Md_lock 106 = .ok (.dup, 1) := by decide +kernel
theorem d_Md_lock_107 : decode c_Md_lock 107 = .ok (.getfield 100, 3) := by decide +kernel
theorem d_Md_lock_110 : decode c_Md_lock 110 = .ok (.iconst 1, 1) := by decide +kernel
theorem d_Md_lock_111 : decode c_Md_lock 111 = .ok (.iadd, 1) := by decide +kernel
theorem d_Md_lock_112 : decode c_Md_lock 112 = .ok (.putfield 100, 3) := by decide +kernel
theorem d_Md_lock_115 : decode c_Md_lock 115 = .ok (.aload_n 0, 1) := by decide +kernel
theorem d_Md_lock_116 : decode c_Md_lock 116 = .ok (.aload_n 0, 1) := by decide +kernel
theorem d_Md_lock_117 : decode c_Md_lock 117 = .ok (.iload_n 1, 1) := by decide +kernel
theorem d_Md_lock_118 : decode c_Md_lock 118 = .ok (.iconst 0, 1) := by decide +kernel
theorem d_Md_lock_119 : decode c_Md_lock 119 = .ok (.invokevirtual 49, 3) := by decide +kernel
theorem d_Md_lock_122 : decode c_Md_lock 122 = .ok (.invokevirtual 122, 3) := by decide +kernel
theorem d_Md_lock_125 : decode c_Md_lock 125 = .ok (.ireturn, 1) := by decide +kernel
theorem d_Md_badRange_0 : decode c_Md_badRange 0 = .ok (.aload_n 0, 1) := by decide +kernel
theorem d_Md_badRange_1 : decode c_Md_badRange 1 = .ok (.iload_n 1, 1) := by decide +kernel
theorem d_Md_badRange_2 : decode c_Md_badRange 2 = .ok (.iconst 0, 1) := by decide +kernel
theorem d_Md_badRange_3 : decode c_Md_badRange 3 = .ok (.iload_n 2, 1) := by decide +kernel
theorem d_Md_badRange_4 : decode c_Md_badRange 4 = .ok (.invokevirtual 109, 3) := by decide +kernel
theorem d_Md_badRange_7 : decode c_Md_badRange 7 = .ok (.ifCond .eq 15, 3) := by decide +kernel
theorem d_Md_badRange_10 : decode c_Md_badRange 10 = .ok (.iload_n 3, 1) := by decide +kernel
theorem d_Md_badRange_11 : decode c_Md_badRange 11 = .ok (.iconst 1, 1) := by decide +kernel
theorem d_Md_badRange_12 : decode c_Md_badRange 12 = .ok (.bipush 32, 2) := by decide +kernel
theorem d_Md_badRange_14 : decode c_Md_badRange 14 = .ok (.iload_n 2, 1) := by decide +kernel
theorem d_Md_badRange_15 : decode c_Md_badRange 15 = .ok (.isub, 1) := by decide +kernel
theorem d_Md_badRange_16 : decode c_Md_badRange 16 = .ok (.invokestatic 45, 3) := by decide +kernel
theorem d_Md_badRange_19 : decode c_Md_badRange 19 = .ok (.ifCond .ne 7, 3) := by decide +kernel
theorem d_Md_badRange_22 : decode c_Md_badRange 22 = .ok (.iconst 1, 1) := by decide +kernel
theorem d_Md_badRange_23 : decode c_Md_badRange 23 = .ok (.goto 4, 3) := by decide +kernel
theorem d_Md_badRange_26 : decode c_Md_badRange 26 = .ok (.iconst 0, 1) := by decide +kernel
theorem d_Md_badRange_27 : decode c_Md_badRange 27 = .ok (.ireturn, 1) := by decide +kernel
theorem d_Md_locksOf_0 : decode c_Md_locksOf 0 = .ok (.iconst 0, 1) := by decide +kernel
theorem d_Md_locksOf_1 : decode c_Md_locksOf 1 = .ok (.istore_n 2, 1) := by decide +kernel
theorem d_Md_locksOf_2 : decode c_Md_locksOf 2 = .ok (.iconst 0, 1) := by decide +kernel
theorem d_Md_locksOf_3 : decode c_Md_locksOf 3 = .ok (.istore_n 3, 1) := by decide +kernel
theorem d_Md_locksOf_4 : decode c_Md_locksOf 4 = .ok (.iload_n 3, 1) := by decide +kernel
theorem d_Md_locksOf_5 : decode c_Md_locksOf 5 = .ok (.aload_n 0, 1) := by decide +kernel
theorem d_Md_locksOf_6 : decode c_Md_locksOf 6 = .ok (.getfield 100, 3) := by decide +kernel
theorem d_Md_locksOf_9 : decode c_Md_locksOf 9 = .ok (.if_icmp .ge 29, 3) := by decide +kernel
theorem d_Md_locksOf_12 : decode c_Md_locksOf 12 = .ok (.aload_n 0, 1) := by decide +kernel
theorem d_Md_locksOf_13 : decode c_Md_locksOf 13 = .ok (.aload_n 0, 1) := by decide +kernel
theorem d_Md_locksOf_14 : decode c_Md_locksOf 14 = .ok (.getfield 38, 3) := by decide +kernel
theorem d_Md_locksOf_17 : decode c_Md_locksOf 17 = .ok (.iconst 4, 1) := by decide +kernel
theorem d_Md_locksOf_18 : decode c_Md_locksOf 18 = .ok (.iload_n 3, 1) := by decide +kernel
theorem d_Md_locksOf_19 : decode c_Md_locksOf 19 = .ok (.imul, 1) := by decide +kernel
theorem d_Md_locksOf_20 : decode c_Md_locksOf 20 = .ok (.iaload, 1) := by decide +kernel
theorem d_Md_locksOf_21 : decode c_Md_locksOf 21 = .ok (.iconst 0, 1) := by decide +kernel
theorem d_Md_locksOf_22 : decode c_Md_locksOf 22 = .ok (.invokevirtual 49, 3) := by decide +kernel
theorem d_Md_locksOf_25 : decode c_Md_locksOf 25 = .ok (.iload_n 1, 1) := by decide +kernel
theorem d_Md_locksOf_26 : decode c_Md_locksOf 26 = .ok (.if_icmp .ne 6, 3) := by decide +kernel
theorem d_Md_locksOf_29 : decode c_Md_locksOf 29 = .ok (.iinc 2 1, 3) := by decide +kernel
theorem d_Md_locksOf_32 : decode c_Md_locksOf 32 = .ok (.iinc 3 1, 3) := by decide +kernel
theorem d_Md_locksOf_35 : decode c_Md_locksOf 35 = .ok (.goto (-31), 3) := by decide +kernel
theorem d_Md_locksOf_38 : decode c_Md_locksOf 38 = .ok (.iload_n 2, 1) := by decide +kernel
theorem d_Md_locksOf_39 : decode c_Md_locksOf 39 = .ok (.ireturn, 1) := by decide +kernel
theorem d_Md_unlock_0 : decode c_Md_unlock 0 = .ok (.aload_n 0, 1) := by decide +kernel
theorem d_Md_unlock_1 : decode c_Md_unlock 1 = .ok (.iload_n 1, 1) := by decide +kernel
theorem d_Md_unlock_2 : decode c_Md_unlock 2 = .ok (.iload_n 2, 1) := by decide +kernel
theorem d_Md_unlock_3 : decode c_Md_unlock 3 = .ok (.iload_n 3, 1) := by decide +kernel
theorem d_Md_unlock_4 : decode c_Md_unlock 4 = .ok (.invokevirtual 119, 3) := by decide +kernel
theorem d_Md_unlock_7 : decode c_Md_unlock 7 = .ok (.ifCond .eq 5, 3) := by decide +kernel
theorem d_Md_unlock_10 : decode c_Md_unlock 10 = .ok (.iconst (-1), 1) := by decide +kernel
theorem d_Md_unlock_11 : decode c_Md_unlock 11 = .ok (.ireturn, 1) := by decide +kernel
theorem d_Md_unlock_12 : decode c_Md_unlock 12 = .ok (.iconst 0, 1) := by decide +kernel
theorem d_Md_unlock_13 : decode c_Md_unlock 13 = .ok (.istore 4, 2) := by decide +kernel
theorem d_Md_unlock_15 : decode c_Md_unlock 15 = .ok (.iload 4, 2) := by decide +kernel
theorem d_Md_unlock_17 : decode c_Md_unlock 17 = .ok (.aload_n 0, 1) := by decide +kernel
theorem d_Md_unlock_18 : decode c_Md_unlock 18 = .ok (.getfield 100, 3) := by decide +kernel
theorem d_Md_unlock_21 : decode c_Md_unlock 21 = .ok (.if_icmp .ge 74, 3) := by decide +kernel
theorem d_Md_unlock_24 : decode c_Md_unlock 24 = .ok (.aload_n 0, 1) := by decide +kernel
theorem d_Md_unlock_25 : decode c_Md_unlock 25 = .ok (.getfield 38, 3) := by decide +kernel
theorem d_Md_unlock_28 : decode c_Md_unlock 28 = .ok (.iconst 4, 1) := by decide +kernel
theorem d_Md_unlock_29 : decode c_Md_unlock 29 = .ok (.iload 4, 2) := by decide +kernel
theorem d_Md_unlock_31 : decode c_Md_unlock 31 = .ok (.imul, 1) := by decide +kernel
theorem d_Md_unlock_32 : decode c_Md_unlock 32 = .ok (.iaload, 1) := by decide +kernel
theorem d_Md_unlock_33 : decode c_Md_unlock 33 = .ok (.iload_n 1, 1) := by decide +kernel
theorem d_Md_unlock_34 : decode c_Md_unlock 34 = .ok (.if_icmp .ne 55, 3) := by decide +kernel
theorem d_Md_unlock_37 : decode c_Md_unlock 37 = .ok (.aload_n 0, 1) := by decide +kernel
theorem d_Md_unlock_38 : decode c_Md_unlock 38 = .ok (.getfield 38, 3) := by decide +kernel
theorem d_Md_unlock_41 : decode c_Md_unlock 41 = .ok (.iconst 4, 1) := by decide +kernel
theorem d_Md_unlock_42 : decode c_Md_unlock 42 = .ok (.iload 4, 2) := by decide +kernel
theorem d_Md_unlock_44 : decode c_Md_unlock 44 = .ok (.imul, 1) := by decide +kernel
theorem d_Md_unlock_45 : decode c_Md_unlock 45 = .ok (.iconst 1, 1) := by decide +kernel
theorem d_Md_unlock_46 : decode c_Md_unlock 46 = .ok (.iadd, 1) := by decide +kernel
theorem d_Md_unlock_47 : decode c_Md_unlock 47 = .ok (.iaload, 1) := by decide +kernel
theorem d_Md_unlock_48 : decode c_Md_unlock 48 = .ok (.iload_n 2, 1) := by decide +kernel
theorem d_Md_unlock_49 : decode c_Md_unlock 49 = .ok (.if_icmp .ne 40, 3) := by decide +kernel
theorem d_Md_unlock_52 : decode c_Md_unlock 52 = .ok (.aload_n 0, 1) := by decide +kernel
theorem d_Md_unlock_53 : decode c_Md_unlock 53 = .ok (.getfield 38, 3) := by decide +kernel
theorem d_Md_unlock_56 : decode c_Md_unlock 56 = .ok (.iconst 4, 1) := by decide +kernel
theorem d_Md_unlock_57 : decode c_Md_unlock 57 = .ok (.iload 4, 2) := by decide +kernel
theorem d_Md_unlock_59 : decode c_Md_unlock 59 = .ok (.imul, 1) := by decide +kernel
theorem d_Md_unlock_60 : decode c_Md_unlock 60 = .ok (.iconst 2, 1) := by decide +kernel
theorem d_Md_unlock_61 : decode c_Md_unlock 61 = .ok (.iadd, 1) := by decide +kernel
theorem d_Md_unlock_62 : decode c_Md_unlock 62 = .ok (.iaload, 1) := by decide +kernel
theorem d_Md_unlock_63 : decode c_Md_unlock 63 = .ok (.iload_n 2, 1) := by decide +kernel
theorem d_Md_unlock_64 : decode c_Md_unlock 64 = .ok (.iload_n 3, 1) := by decide +kernel
theorem d_Md_unlock_65 : decode c_Md_unlock 65 = .ok (.iadd, 1) := by decide +kernel
theorem d_Md_unlock_66 : decode c_Md_unlock 66 = .ok (.if_icmp .eq 6, 3) := by decide +kernel
theorem d_Md_unlock_69 : decode c_Md_unlock 69 = .ok (.goto 20, 3) := by decide +kernel
theorem d_Md_unlock_72 : decode c_Md_unlock 72 = .ok (.aload_n 0, 1) := by decide +kernel
theorem d_Md_unlock_73 : decode c_Md_unlock 73 = .ok (.iload 4, 2) := by decide +kernel
theorem d_Md_unlock_75 : decode c_Md_unlock 75 = .ok (.invokevirtual 103, 3) := by decide +kernel
theorem d_Md_unlock_78 : decode c_Md_unlock 78 = .ok (.aload_n 0, 1) := by decide +kernel
theorem d_Md_unlock_79 : decode c_Md_unlock 79 = .ok (.aload_n 0, 1) := by decide +kernel
theorem d_Md_unlock_80 : decode c_Md_unlock 80 = .ok (.iload_n 1, 1) := by decide +kernel
theorem d_Md_unlock_81 : decode c_Md_unlock 81 = .ok (.iconst 0, 1) := by decide +kernel
theorem d_Md_unlock_82 : decode c_Md_unlock 82 = .ok (.invokevirtual 49, 3) := by decide +kernel
theorem d_Md_unlock_85 : decode c_Md_unlock 85 = .ok (.invokevirtual 122, 3) := by decide +kernel
theorem d_Md_unlock_88 : decode c_Md_unlock 88 = .ok (.ireturn, 1) := by decide +kernel
theorem d_Md_unlock_89 : decode c_Md_unlock 89 = .ok (.iinc 4 1, 3) := by decide +kernel
theorem d_Md_unlock_92 : decode c_Md_unlock 92 = .ok (.goto (-77), 3) := by decide +kernel
theorem d_Md_unlock_95 : decode c_Md_unlock 95 = .ok (.iconst (-1), 1) := by decide +kernel
theorem d_Md_unlock_96 : decode c_Md_unlock 96 = .ok (.ireturn, 1) := by decide +kernel
theorem d_Md_sync_0 : decode c_Md_sync 0 = .ok (.aload_n 0, 1) := by decide +kernel
theorem d_Md_sync_1 : decode c_Md_sync 1 = .ok (.aload_n 0, 1) := by decide +kernel
theorem d_Md_sync_2 : decode c_Md_sync 2 = .ok (.getfield 56, 3) := by decide +kernel
theorem d_Md_sync_5 : decode c_Md_sync 5 = .ok (.putfield 63, 3) := by decide +kernel
theorem d_Md_sync_8 : decode c_Md_sync 8 = .ok (.aload_n 0, 1) := by decide +kernel
theorem d_Md_sync_9 : decode c_Md_sync 9 = .ok (.getfield 56, 3) := by decide +kernel
theorem d_Md_sync_12 : decode c_Md_sync 12 = .ok (.ireturn, 1) := by decide +kernel
theorem d_Md_crash_0 : decode c_Md_crash 0 = .ok (.aload_n 0, 1) := by decide +kernel
theorem d_Md_crash_1 : decode c_Md_crash 1 = .ok (.aload_n 0, 1) := by decide +kernel
theorem d_Md_crash_2 : decode c_Md_crash 2 = .ok (.getfield 63, 3) := by decide +kernel
theorem d_Md_crash_5 : decode c_Md_crash 5 = .ok (.putfield 56, 3) := by decide +kernel
theorem d_Md_crash_8 : decode c_Md_crash 8 = .ok (.aload_n 0, 1) := by decide +kernel
theorem d_Md_crash_9 : decode c_Md_crash 9 = .ok (.iconst 0, 1) := by decide +kernel
theorem d_Md_crash_10 : decode c_Md_crash 10 = .ok (.putfield 53, 3) := by decide +kernel
theorem d_Md_crash_13 : decode c_Md_crash 13 = .ok (.iconst 1, 1) := by decide +kernel
theorem d_Md_crash_14 : decode c_Md_crash 14 = .ok (.istore_n 1, 1) := by decide +kernel
theorem d_Md_crash_15 : decode c_Md_crash 15 = .ok (.iload_n 1, 1) := by decide +kernel
theorem d_Md_crash_16 : decode c_Md_crash 16 = .ok (.bipush 25, 2) := by decide +kernel
theorem d_Md_crash_18 : decode c_Md_crash 18 = .ok (.if_icmp .ge 16, 3) := by decide +kernel
theorem d_Md_crash_21 : decode c_Md_crash 21 = .ok (.aload_n 0, 1) := by decide +kernel
theorem d_Md_crash_22 : decode c_Md_crash 22 = .ok (.getfield 13, 3) := by decide +kernel
theorem d_Md_crash_25 : decode c_Md_crash 25 = .ok (.iload_n 1, 1) := by decide +kernel
theorem d_Md_crash_26 : decode c_Md_crash 26 = .ok (.iconst 0, 1) := by decide +kernel
theorem d_Md_crash_27 : decode c_Md_crash 27 = .ok (.bastore, 1) := by decide +kernel
theorem d_Md_crash_28 : decode c_Md_crash 28 = .ok (.iinc 1 1, 3) := by decide +kernel
theorem d_Md_crash_31 : decode c_Md_crash 31 = .ok (.goto (-16), 3) := by decide +kernel
theorem d_Md_crash_34 : decode c_Md_crash 34 = .ok (.iconst 0, 1) := by decide +kernel
theorem d_Md_crash_35 : decode c_Md_crash 35 = .ok (.istore_n 1, 1) := by decide +kernel
theorem d_Md_crash_36 : decode c_Md_crash 36 = .ok (.iload_n 1, 1) := by decide +kernel
theorem d_Md_crash_37 : decode c_Md_crash 37 = .ok (.bipush 25, 2) := by decide +kernel
theorem d_Md_crash_39 : decode c_Md_crash 39 = .ok (.if_icmp .ge 16, 3) := by decide +kernel
theorem d_Md_crash_42 : decode c_Md_crash 42 = .ok (.aload_n 0, 1) := by decide +kernel
theorem d_Md_crash_43 : decode c_Md_crash 43 = .ok (.getfield 26, 3) := by decide +kernel
theorem d_Md_crash_46 : decode c_Md_crash 46 = .ok (.iload_n 1, 1) := by decide +kernel
theorem d_Md_crash_47 : decode c_Md_crash 47 = .ok (.iconst 0, 1) := by decide +kernel
theorem d_Md_crash_48 : decode c_Md_crash 48 = .ok (.bastore, 1) := by decide +kernel
theorem d_Md_crash_49 : decode c_Md_crash 49 = .ok (.iinc 1 1, 3) := by decide +kernel
theorem d_Md_crash_52 : decode c_Md_crash 52 = .ok (.goto (-16), 3) := by decide +kernel
theorem d_Md_crash_55 : decode c_Md_crash 55 = .ok (.iconst 0, 1) := by decide +kernel
theorem d_Md_crash_56 : decode c_Md_crash 56 = .ok (.istore_n 1, 1) := by decide +kernel
theorem d_Md_crash_57 : decode c_Md_crash 57 = .ok (.iload_n 1, 1) := by decide +kernel
theorem d_Md_crash_58 : decode c_Md_crash 58 = .ok (.aload_n 0, 1) := by decide +kernel
theorem d_Md_crash_59 : decode c_Md_crash 59 = .ok (.getfield 56, 3) := by decide +kernel
theorem d_Md_crash_62 : decode c_Md_crash 62 = .ok (.if_icmp .ge 14, 3) := by decide +kernel
theorem d_Md_crash_65 : decode c_Md_crash 65 = .ok (.aload_n 0, 1) := by decide +kernel
theorem d_Md_crash_66 : decode c_Md_crash 66 = .ok (.iload_n 1, 1) := by decide +kernel
theorem d_Md_crash_67 : decode c_Md_crash 67 = .ok (.invokevirtual 59, 3) := by decide +kernel
theorem d_Md_crash_70 : decode c_Md_crash 70 = .ok (.iinc 1 1, 3) := by decide +kernel
theorem d_Md_crash_73 : decode c_Md_crash 73 = .ok (.goto (-16), 3) := by decide +kernel
theorem d_Md_crash_76 : decode c_Md_crash 76 = .ok (.iconst 1, 1) := by decide +kernel
theorem d_Md_crash_77 : decode c_Md_crash 77 = .ok (.istore_n 1, 1) := by decide +kernel
theorem d_Md_crash_78 : decode c_Md_crash 78 = .ok (.iload_n 1, 1) := by decide +kernel
theorem d_Md_crash_79 : decode c_Md_crash 79 = .ok (.aload_n 0, 1) := by decide +kernel
theorem d_Md_crash_80 : decode c_Md_crash 80 = .ok (.getfield 41, 3) := by decide +kernel
theorem d_Md_crash_83 : decode c_Md_crash 83 = .ok (.if_icmp .gt 22, 3) := by decide +kernel
theorem d_Md_crash_86 : decode c_Md_crash 86 = .ok (.aload_n 0, 1) := by decide +kernel
theorem d_Md_crash_87 : decode c_Md_crash 87 = .ok (.getfield 32, 3) := by decide +kernel
theorem d_Md_crash_90 : decode c_Md_crash 90 = .ok (.bipush 7, 2) := by decide +kernel
theorem d_Md_crash_92 : decode c_Md_crash 92 = .ok (.iload_n 1, 1) := by decide +kernel
theorem d_Md_crash_93 : decode c_Md_crash 93 = .ok (.imul, 1) := by decide +kernel
theorem d_Md_crash_94 : decode c_Md_crash 94 = .ok (.bipush 6, 2) := by decide +kernel
theorem d_Md_crash_96 : decode c_Md_crash 96 = .ok (.iadd, 1) := by decide +kernel
theorem d_Md_crash_97 : decode c_Md_crash 97 = .ok (.iconst 0, 1) := by decide +kernel
theorem d_Md_crash_98 : decode c_Md_crash 98 = .ok (.iastore, 1) := by decide +kernel
theorem d_Md_crash_99 : decode c_Md_crash 99 = .ok (.iinc 1 1, 3) := by decide +kernel
theorem d_Md_crash_102 : decode c_Md_crash 102 = .ok (.goto (-24), 3) := by decide +kernel
theorem d_Md_crash_105 : decode c_Md_crash 105 = .ok (.aload_n 0, 1) := by decide +kernel
theorem d_Md_crash_106 : decode c_Md_crash 106 = .ok (.iconst 0, 1) := by decide +kernel
theorem d_Md_crash_107 : decode c_Md_crash 107 = .ok (.putfield 100, 3) := by decide +kernel
theorem d_Md_crash_110 : decode c_Md_crash 110 = .ok (.iconst 1, 1) := by decide +kernel
theorem d_Md_crash_111 : decode c_Md_crash 111 = .ok (.istore_n 1, 1) := by decide +kernel
theorem d_Md_crash_112 : decode c_Md_crash 112 = .ok (.iload_n 1, 1) := by decide +kernel
theorem d_Md_crash_113 : decode c_Md_crash 113 = .ok (.aload_n 0, 1) := by decide +kernel
theorem d_Md_crash_114 : decode c_Md_crash 114 = .ok (.getfield 88, 3) := by decide +kernel
theorem d_Md_crash_117 : decode c_Md_crash 117 = .ok (.if_icmp .gt 36, 3) := by decide +kernel
theorem d_Md_crash_120 : decode c_Md_crash 120 = .ok (.aload_n 0, 1) := by decide +kernel
theorem d_Md_crash_121 : decode c_Md_crash 121 = .ok (.getfield 35, 3) := by decide +kernel
theorem d_Md_crash_124 : decode c_Md_crash 124 = .ok (.bipush 6, 2) := by decide +kernel
theorem d_Md_crash_126 : decode c_Md_crash 126 = .ok (.iload_n 1, 1) := by decide +kernel
theorem d_Md_crash_127 : decode c_Md_crash 127 = .ok (.imul, 1) := by decide +kernel
theorem d_Md_crash_128 : decode c_Md_crash 128 = .ok (.iconst 5, 1) := by decide +kernel
theorem d_Md_crash_129 : decode c_Md_crash 129 = .ok (.iadd, 1) := by decide +kernel
theorem d_Md_crash_130 : decode c_Md_crash 130 = .ok (.iaload, 1) := by decide +kernel
theorem d_Md_crash_131 : decode c_Md_crash 131 = .ok (.ifCond .ne 16, 3) := by decide +kernel
theorem d_Md_crash_134 : decode c_Md_crash 134 = .ok (.aload_n 0, 1) := by decide +kernel
theorem d_Md_crash_135 : decode c_Md_crash 135 = .ok (.getfield 35, 3) := by decide +kernel
theorem d_Md_crash_138 : decode c_Md_crash 138 = .ok (.bipush 6, 2) := by decide +kernel
theorem d_Md_crash_140 : decode c_Md_crash 140 = .ok (.iload_n 1, 1) := by decide +kernel
theorem d_Md_crash_141 : decode c_Md_crash 141 = .ok (.imul, 1) := by decide +kernel
theorem d_Md_crash_142 : decode c_Md_crash 142 = .ok (.iconst 5, 1) := by decide +kernel
theorem d_Md_crash_143 : decode c_Md_crash 143 = .ok (.iadd, 1) := by decide +kernel
theorem d_Md_crash_144 : decode c_Md_crash 144 = .ok (.bipush (-9), 2) := by decide +kernel
theorem d_Md_crash_146 : decode c_Md_crash 146 = .ok (.iastore, 1) := by decide +kernel
theorem d_Md_crash_147 : decode c_Md_crash 147 = .ok (.iinc 1 1, 3) := by decide +kernel
theorem d_Md_crash_150 : decode c_Md_crash 150 = .ok (.goto (-38), 3) := by decide +kernel
theorem d_Md_crash_153 : decode c_Md_crash 153 = .ok (.aload_n 0, 1) := by decide +kernel
theorem d_Md_crash_154 : decode c_Md_crash 154 = .ok (.getfield 56, 3) := by decide +kernel
theorem d_Md_crash_157 : decode c_Md_crash 157 = .ok (.ireturn, 1) := by decide +kernel
theorem d_Md_find_0 : decode c_Md_find 0 = .ok (.iload_n 1, 1) := by decide +kernel
theorem d_Md_find_1 : decode c_Md_find 1 = .ok (.iconst 0, 1) := by decide +kernel
theorem d_Md_find_2 : decode c_Md_find 2 = .ok (.bipush 24, 2) := by decide +kernel
theorem d_Md_find_4 : decode c_Md_find 4 = .ok (.invokestatic 45, 3) := by decide +kernel
theorem d_Md_find_7 : decode c_Md_find 7 = .ok (.ifCond .eq 22, 3) := by decide +kernel
theorem d_Md_find_10 : decode c_Md_find 10 = .ok (.iload_n 2, 1) := by decide +kernel
theorem d_Md_find_11 : decode c_Md_find 11 = .ok (.iconst 0, 1) := by decide +kernel
theorem d_Md_find_12 : decode c_Md_find 12 = .ok (.bipush 15, 2) := by decide +kernel
theorem d_Md_find_14 : decode c_Md_find 14 = .ok (.invokestatic 45, 3) := by decide +kernel
theorem d_Md_find_17 : decode c_Md_find 17 = .ok (.ifCond .eq 12, 3) := by decide +kernel
theorem d_Md_find_20 : decode c_Md_find 20 = .ok (.aload_n 0, 1) := by decide +kernel
theorem d_Md_find_21 : decode c_Md_find 21 = .ok (.iload_n 1, 1) := by decide +kernel
theorem d_Md_find_22 : decode c_Md_find 22 = .ok (.iload_n 2, 1) := by decide +kernel
theorem d_Md_find_23 : decode c_Md_find 23 = .ok (.invokevirtual 70, 3) := by decide +kernel
theorem d_Md_find_26 : decode c_Md_find 26 = .ok (.goto 4, 3) := by decide +kernel
theorem d_Md_find_29 : decode c_Md_find 29 = .ok (.iconst (-1), 1) := by decide +kernel
theorem d_Md_find_30 : decode c_Md_find 30 = .ok (.ireturn, 1) := by decide +kernel
theorem d_Md_node_0 : decode c_Md_node 0 = .ok (.iload_n 1, 1) := by decide +kernel
theorem d_Md_node_1 : decode c_Md_node 1 = .ok (.iconst 0, 1) := by decide +kernel
theorem d_Md_node_2 : decode c_Md_node 2 = .ok (.aload_n 0, 1) := by decide +kernel
theorem d_Md_node_3 : decode c_Md_node 3 = .ok (.getfield 53, 3) := by decide +kernel
theorem d_Md_node_6 : decode c_Md_node 6 = .ok (.invokestatic 45, 3) := by decide +kernel
theorem d_Md_node_9 : decode c_Md_node 9 = .ok (.ifCond .eq 12, 3) := by decide +kernel
theorem d_Md_node_12 : decode c_Md_node 12 = .ok (.aload_n 0, 1) := by decide +kernel
theorem d_Md_node_13 : decode c_Md_node 13 = .ok (.getfield 13, 3) := by decide +kernel
theorem d_Md_node_16 : decode c_Md_node 16 = .ok (.iload_n 1, 1) := by decide +kernel
theorem d_Md_node_17 : decode c_Md_node 17 = .ok (.baload, 1) := by decide +kernel
theorem d_Md_node_18 : decode c_Md_node 18 = .ok (.ifCond .ne 5, 3) := by decide +kernel
theorem d_Md_node_21 : decode c_Md_node 21 = .ok (.iconst (-1), 1) := by decide +kernel
theorem d_Md_node_22 : decode c_Md_node 22 = .ok (.ireturn, 1) := by decide +kernel
theorem d_Md_node_23 : decode c_Md_node 23 = .ok (.iload_n 2, 1) := by decide +kernel
theorem d_Md_node_24 : decode c_Md_node 24 = .ok (.tableswitch 106 0 6 #[44, 51, 58, 73, 88, 94, 100], 44) := by decide +kernel
theorem d_Md_node_68 : decode c_Md_node 68 = .ok (.aload_n 0, 1) := by decide +kernel
theorem d_Md_node_69 : decode c_Md_node 69 = .ok (.getfield 20, 3) := by decide +kernel
theorem d_Md_node_72 : decode c_Md_node 72 = .ok (.iload_n 1, 1) := by decide +kernel
theorem d_Md_node_73 : decode c_Md_node 73 = .ok (.iaload, 1) := by decide +kernel
theorem d_Md_node_74 : decode c_Md_node 74 = .ok (.ireturn, 1) := by decide +kernel
theorem d_Md_node_75 : decode c_Md_node 75 = .ok (.aload_n 0, 1) := by decide +kernel
theorem d_Md_node_76 : decode c_Md_node 76 = .ok (.getfield 23, 3) := by decide +kernel
theorem d_Md_node_79 : decode c_Md_node 79 = .ok (.iload_n 1, 1) := by decide +kernel
theorem d_Md_node_80 : decode c_Md_node 80 = .ok (.iaload, 1) := by decide +kernel
theorem d_Md_node_81 : decode c_Md_node 81 = .ok (.ireturn, 1) := by decide +kernel
theorem d_Md_node_82 : decode c_Md_node 82 = .ok (.aload_n 0, 1) := by decide +kernel
theorem d_Md_node_83 : decode c_Md_node 83 = .ok (.getfield 17, 3) := by decide +kernel
theorem d_Md_node_86 : decode c_Md_node 86 = .ok (.iload_n 1, 1) := by decide +kernel
theorem d_Md_node_87 : decode c_Md_node 87 = .ok (.baload, 1) := by decide +kernel
theorem d_Md_node_88 : decode c_Md_node 88 = .ok (.ifCond .eq 7, 3) := by decide +kernel
theorem d_Md_node_91 : decode c_Md_node 91 = .ok (.iconst 1, 1) := by decide +kernel
theorem d_Md_node_92 : decode c_Md_node 92 = .ok (.goto 4, 3) := by decide +kernel
theorem d_Md_node_95 : decode c_Md_node 95 = .ok (.iconst 0, 1) := by decide +kernel
theorem d_Md_node_96 : decode c_Md_node 96 = .ok (.ireturn, 1) := by decide +kernel
theorem d_Md_node_97 : decode c_Md_node 97 = .ok (.aload_n 0, 1) := by decide +kernel
theorem d_Md_node_98 : decode c_Md_node 98 = .ok (.getfield 26, 3) := by decide +kernel
theorem d_Md_node_101 : decode c_Md_node 101 = .ok (.iload_n 1, 1) := by decide +kernel
theorem d_Md_node_102 : decode c_Md_node 102 = .ok (.baload, 1) := by decide +kernel
theorem d_Md_node_103 : decode c_Md_node 103 = .ok (.ifCond .eq 7, 3) := by decide +kernel
theorem d_Md_node_106 : decode c_Md_node 106 = .ok (.iconst 1, 1) := by decide +kernel
theorem d_Md_node_107 : decode c_Md_node 107 = .ok (.goto 4, 3) := by decide +kernel
theorem d_Md_node_110 : decode c_Md_node 110 = .ok (.iconst 0, 1) := by decide +kernel
theorem d_Md_node_111 : decode c_Md_node 111 = .ok (.ireturn, 1) := by decide +kernel
theorem d_Md_node_112 : decode c_Md_node 112 = .ok (.aload_n 0, 1) := by decide +kernel
theorem d_Md_node_113 : decode c_Md_node 113 = .ok (.iload_n 1, 1) := by decide +kernel
theorem d_Md_node_114 : decode c_Md_node 114 = .ok (.invokevirtual 66, 3) := by decide +kernel
theorem d_Md_node_117 : decode c_Md_node 117 = .ok (.ireturn, 1) := by decide +kernel
theorem d_Md_node_118 : decode c_Md_node 118 = .ok (.aload_n 0, 1) := by decide +kernel
theorem d_Md_node_119 : decode c_Md_node 119 = .ok (.iload_n 1, 1) := by decide +kernel
theorem d_Md_node_120 : decode c_Md_node 120 = .ok (.invokevirtual 122, 3) := by decide +kernel
theorem d_Md_node_123 : decode c_Md_node 123 = .ok (.ireturn, 1) := by decide +kernel
theorem d_Md_node_124 : decode c_Md_node 124 = .ok (.aload_n 0, 1) := by decide +kernel
theorem d_Md_node_125 : decode c_Md_node 125 = .ok (.iload_n 1, 1) := by decide +kernel
theorem d_Md_node_126 : decode c_Md_node 126 = .ok (.invokevirtual 106, 3) := by decide +kernel
theorem d_Md_node_129 : decode c_Md_node 129 = .ok (.ireturn, 1) := by decide +kernel
theorem d_Md_node_130 : decode c_Md_node 130 = .ok (.iconst (-1), 1) := by decide +kernel
theorem d_Md_node_131 : decode c_Md_node 131 = .ok (.ireturn, 1) := by decide +kernel
theorem d_Md_handle_0 : decode c_Md_handle 0 = .ok (.aload_n 0, 1) := by decide +kernel
theorem d_Md_handle_1 : decode c_Md_handle 1 = .ok (.iload_n 1, 1) := by decide +kernel
theorem d_Md_handle_2 : decode c_Md_handle 2 = .ok (.invokevirtual 94, 3) := by decide +kernel
theorem d_Md_handle_5 : decode c_Md_handle 5 = .ok (.ifCond .ne 12, 3) := by decide +kernel
theorem d_Md_handle_8 : decode c_Md_handle 8 = .ok (.iload_n 2, 1) := by decide +kernel
theorem d_Md_handle_9 : decode c_Md_handle 9 = .ok (.iconst 0, 1) := by decide +kernel
theorem d_Md_handle_10 : decode c_Md_handle 10 = .ok (.iconst 4, 1) := by decide +kernel
theorem d_Md_handle_11 : decode c_Md_handle 11 = .ok (.invokestatic 45, 3) := by decide +kernel
theorem d_Md_handle_14 : decode c_Md_handle 14 = .ok (.ifCond .ne 7, 3) := by decide +kernel
theorem d_Md_handle_17 : decode c_Md_handle 17 = .ok (.iconst (-1), 1) := by decide +kernel
theorem d_Md_handle_18 : decode c_Md_handle 18 = .ok (.goto 9, 3) := by decide +kernel
theorem d_Md_handle_21 : decode c_Md_handle 21 = .ok (.aload_n 0, 1) := by decide +kernel
theorem d_Md_handle_22 : decode c_Md_handle 22 = .ok (.iload_n 1, 1) := by decide +kernel
theorem d_Md_handle_23 : decode c_Md_handle 23 = .ok (.iload_n 2, 1) := by decide +kernel
theorem d_Md_handle_24 : decode c_Md_handle 24 = .ok (.invokevirtual 49, 3) := by decide +kernel
theorem d_Md_handle_27 : decode c_Md_handle 27 = .ok (.ireturn, 1) := by decide +kernel
theorem d_Md_count_0 : decode c_Md_count 0 = .ok (.iload_n 1, 1) := by decide +kernel
theorem d_Md_count_1 : decode c_Md_count 1 = .ok (.tableswitch 111 0 6 #[43, 48, 54, 91, 96, 101, 106], 43) := by decide +kernel
theorem d_Md_count_44 : decode c_Md_count 44 = .ok (.aload_n 0, 1) := by decide +kernel
theorem d_Md_count_45 : decode c_Md_count 45 = .ok (.getfield 53, 3) := by decide +kernel
theorem d_Md_count_48 : decode c_Md_count 48 = .ok (.ireturn, 1) := by decide +kernel
theorem d_Md_count_49 : decode c_Md_count 49 = .ok (.aload_n 0, 1) := by decide +kernel
theorem d_Md_count_50 : decode c_Md_count 50 = .ok (.iconst (-1), 1) := by decide +kernel
theorem d_Md_count_51 : decode c_Md_count 51 = .ok (.invokevirtual 66, 3) := by decide +kernel
theorem d_Md_count_54 : decode c_Md_count 54 = .ok (.ireturn, 1) := by decide +kernel
theorem d_Md_count_55 : decode c_Md_count 55 = .ok (.iconst 0, 1) := by decide +kernel
theorem d_Md_count_56 : decode c_Md_count 56 = .ok (.istore_n 2, 1) := by decide +kernel
theorem d_Md_count_57 : decode c_Md_count 57 = .ok (.iconst 1, 1) := by decide +kernel
theorem d_Md_count_58 : decode c_Md_count 58 = .ok (.istore_n 3, 1) := by decide +kernel
theorem d_Md_count_59 : decode c_Md_count 59 = .ok (.iload_n 3, 1) := by decide +kernel
theorem d_Md_count_60 : decode c_Md_count 60 = .ok (.aload_n 0, 1) := by decide +kernel
theorem d_Md_count_61 : decode c_Md_count 61 = .ok (.getfield 88, 3) := by decide +kernel
theorem d_Md_count_64 : decode c_Md_count 64 = .ok (.if_icmp .gt 26, 3) := by decide +kernel
theorem d_Md_count_67 : decode c_Md_count 67 = .ok (.aload_n 0, 1) := by decide +kernel
theorem d_Md_count_68 : decode c_Md_count 68 = .ok (.getfield 35, 3) := by decide +kernel
theorem d_Md_count_71 : decode c_Md_count 71 = .ok (.bipush 6, 2) := by decide +kernel
theorem d_Md_count_73 : decode c_Md_count 73 = .ok (.iload_n 3, 1) := by decide +kernel
theorem d_Md_count_74 : decode c_Md_count 74 = .ok (.imul, 1) := by decide +kernel
theorem d_Md_count_75 : decode c_Md_count 75 = .ok (.iconst 5, 1) := by decide +kernel
theorem d_Md_count_76 : decode c_Md_count 76 = .ok (.iadd, 1) := by decide +kernel
theorem d_Md_count_77 : decode c_Md_count 77 = .ok (.iaload, 1) := by decide +kernel
theorem d_Md_count_78 : decode c_Md_count 78 = .ok (.ifCond .ne 6, 3) := by decide +kernel
theorem d_Md_count_81 : decode c_Md_count 81 = .ok (.iinc 2 1, 3) := by decide +kernel
theorem d_Md_count_84 : decode c_Md_count 84 = .ok (.iinc 3 1, 3) := by decide +kernel
theorem d_Md_count_87 : decode c_Md_count 87 = .ok (.goto (-28), 3) := by decide +kernel
theorem d_Md_count_90 : decode c_Md_count 90 = .ok (.iload_n 2, 1) := by decide +kernel
theorem d_Md_count_91 : decode c_Md_count 91 = .ok (.ireturn, 1) := by decide +kernel
theorem d_Md_count_92 : decode c_Md_count 92 = .ok (.aload_n 0, 1) := by decide +kernel
theorem d_Md_count_93 : decode c_Md_count 93 = .ok (.getfield 56, 3) := by decide +kernel
theorem d_Md_count_96 : decode c_Md_count 96 = .ok (.ireturn, 1) := by decide +kernel
theorem d_Md_count_97 : decode c_Md_count 97 = .ok (.aload_n 0, 1) := by decide +kernel
theorem d_Md_count_98 : decode c_Md_count 98 = .ok (.getfield 63, 3) := by decide +kernel
theorem d_Md_count_101 : decode c_Md_count 101 = .ok (.ireturn, 1) := by decide +kernel
theorem d_Md_count_102 : decode c_Md_count 102 = .ok (.aload_n 0, 1) := by decide +kernel
theorem d_Md_count_103 : decode c_Md_count 103 = .ok (.getfield 88, 3) := by decide +kernel
theorem d_Md_count_106 : decode c_Md_count 106 = .ok (.ireturn, 1) := by decide +kernel
theorem d_Md_count_107 : decode c_Md_count 107 = .ok (.aload_n 0, 1) := by decide +kernel
theorem d_Md_count_108 : decode c_Md_count 108 = .ok (.getfield 41, 3) := by decide +kernel
theorem d_Md_count_111 : decode c_Md_count 111 = .ok (.ireturn, 1) := by decide +kernel
theorem d_Md_count_112 : decode c_Md_count 112 = .ok (.iconst (-1), 1) := by decide +kernel
theorem d_Md_count_113 : decode c_Md_count 113 = .ok (.ireturn, 1) := by decide +kernel
theorem d_Lw_law_0 : decode c_Lw_law 0 = .ok (.new 7, 3) := by decide +kernel
theorem d_Lw_law_3 : decode c_Lw_law 3 = .ok (.dup, 1) := by decide +kernel
theorem d_Lw_law_4 : decode c_Lw_law 4 = .ok (.invokespecial 9, 3) := by decide +kernel
theorem d_Lw_law_7 : decode c_Lw_law 7 = .ok (.astore_n 1, 1) := by decide +kernel
theorem d_Lw_law_8 : decode c_Lw_law 8 = .ok (.new 10, 3) := by decide +kernel
theorem d_Lw_law_11 : decode c_Lw_law 11 = .ok (.dup, 1) := by decide +kernel
theorem d_Lw_law_12 : decode c_Lw_law 12 = .ok (.invokespecial 12, 3) := by decide +kernel
theorem d_Lw_law_15 : decode c_Lw_law 15 = .ok (.astore_n 2, 1) := by decide +kernel
theorem d_Lw_law_16 : decode c_Lw_law 16 = .ok (.iconst 0, 1) := by decide +kernel
theorem d_Lw_law_17 : decode c_Lw_law 17 = .ok (.istore_n 3, 1) := by decide +kernel
theorem d_Lw_law_18 : decode c_Lw_law 18 = .ok (.iload_n 3, 1) := by decide +kernel
theorem d_Lw_law_19 : decode c_Lw_law 19 = .ok (.aload_n 0, 1) := by decide +kernel
theorem d_Lw_law_20 : decode c_Lw_law 20 = .ok (.arraylength, 1) := by decide +kernel
theorem d_Lw_law_21 : decode c_Lw_law 21 = .ok (.bipush 6, 2) := by decide +kernel
theorem d_Lw_law_23 : decode c_Lw_law 23 = .ok (.isub, 1) := by decide +kernel
theorem d_Lw_law_24 : decode c_Lw_law 24 = .ok (.if_icmp .gt 698, 3) := by decide +kernel
theorem d_Lw_law_27 : decode c_Lw_law 27 = .ok (.aload_n 0, 1) := by decide +kernel
theorem d_Lw_law_28 : decode c_Lw_law 28 = .ok (.iload_n 3, 1) := by decide +kernel
theorem d_Lw_law_29 : decode c_Lw_law 29 = .ok (.iaload, 1) := by decide +kernel
theorem d_Lw_law_30 : decode c_Lw_law 30 = .ok (.bipush 31, 2) := by decide +kernel
theorem d_Lw_law_32 : decode c_Lw_law 32 = .ok (.iand, 1) := by decide +kernel
theorem d_Lw_law_33 : decode c_Lw_law 33 = .ok (.tableswitch 683 0 17 #[87, 150, 173, 196, 219, 242, 291, 334, 367, 380, 423, 492, 535, 548, 561, 594, 627, 660], 87) := by decide +kernel
theorem d_Lw_law_120 : decode c_Lw_law 120 = .ok (.aload_n 1, 1) := by decide +kernel
theorem d_Lw_law_121 : decode c_Lw_law 121 = .ok (.aload_n 0, 1) := by decide +kernel
theorem d_Lw_law_122 : decode c_Lw_law 122 = .ok (.iload_n 3, 1) := by decide +kernel
theorem d_Lw_law_123 : decode c_Lw_law 123 = .ok (.iconst 1, 1) := by decide +kernel
theorem d_Lw_law_124 : decode c_Lw_law 124 = .ok (.iadd, 1) := by decide +kernel
theorem d_Lw_law_125 : decode c_Lw_law 125 = .ok (.iaload, 1) := by decide +kernel
theorem d_Lw_law_126 : decode c_Lw_law 126 = .ok (.aload_n 0, 1) := by decide +kernel
theorem d_Lw_law_127 : decode c_Lw_law 127 = .ok (.iload_n 3, 1) := by decide +kernel
theorem d_Lw_law_128 : decode c_Lw_law 128 = .ok (.iconst 2, 1) := by decide +kernel
theorem d_Lw_law_129 : decode c_Lw_law 129 = .ok (.iadd, 1) := by decide +kernel
theorem d_Lw_law_130 : decode c_Lw_law 130 = .ok (.iaload, 1) := by decide +kernel
theorem d_Lw_law_131 : decode c_Lw_law 131 = .ok (.aload_n 0, 1) := by decide +kernel
theorem d_Lw_law_132 : decode c_Lw_law 132 = .ok (.iload_n 3, 1) := by decide +kernel
theorem d_Lw_law_133 : decode c_Lw_law 133 = .ok (.iconst 3, 1) := by decide +kernel
theorem d_Lw_law_134 : decode c_Lw_law 134 = .ok (.iadd, 1) := by decide +kernel
theorem d_Lw_law_135 : decode c_Lw_law 135 = .ok (.iaload, 1) := by decide +kernel
theorem d_Lw_law_136 : decode c_Lw_law 136 = .ok (.aload_n 0, 1) := by decide +kernel
theorem d_Lw_law_137 : decode c_Lw_law 137 = .ok (.iload_n 3, 1) := by decide +kernel
theorem d_Lw_law_138 : decode c_Lw_law 138 = .ok (.iconst 4, 1) := by decide +kernel
theorem d_Lw_law_139 : decode c_Lw_law 139 = .ok (.iadd, 1) := by decide +kernel
theorem d_Lw_law_140 : decode c_Lw_law 140 = .ok (.iaload, 1) := by decide +kernel
theorem d_Lw_law_141 : decode c_Lw_law 141 = .ok (.aload_n 0, 1) := by decide +kernel
theorem d_Lw_law_142 : decode c_Lw_law 142 = .ok (.iload_n 3, 1) := by decide +kernel
theorem d_Lw_law_143 : decode c_Lw_law 143 = .ok (.iconst 5, 1) := by decide +kernel
theorem d_Lw_law_144 : decode c_Lw_law 144 = .ok (.iadd, 1) := by decide +kernel
theorem d_Lw_law_145 : decode c_Lw_law 145 = .ok (.iaload, 1) := by decide +kernel
theorem d_Lw_law_146 : decode c_Lw_law 146 = .ok (.invokevirtual 13, 3) := by decide +kernel
theorem d_Lw_law_149 : decode c_Lw_law 149 = .ok (.aload_n 2, 1) := by decide +kernel
theorem d_Lw_law_150 : decode c_Lw_law 150 = .ok (.aload_n 0, 1) := by decide +kernel
theorem d_Lw_law_151 : decode c_Lw_law 151 = .ok (.iload_n 3, 1) := by decide +kernel
theorem d_Lw_law_152 : decode c_Lw_law 152 = .ok (.iconst 1, 1) := by decide +kernel
theorem d_Lw_law_153 : decode c_Lw_law 153 = .ok (.iadd, 1) := by decide +kernel
theorem d_Lw_law_154 : decode c_Lw_law 154 = .ok (.iaload, 1) := by decide +kernel
theorem d_Lw_law_155 : decode c_Lw_law 155 = .ok (.aload_n 0, 1) := by decide +kernel
theorem d_Lw_law_156 : decode c_Lw_law 156 = .ok (.iload_n 3, 1) := by decide +kernel
theorem d_Lw_law_157 : decode c_Lw_law 157 = .ok (.iconst 2, 1) := by decide +kernel
theorem d_Lw_law_158 : decode c_Lw_law 158 = .ok (.iadd, 1) := by decide +kernel
theorem d_Lw_law_159 : decode c_Lw_law 159 = .ok (.iaload, 1) := by decide +kernel
theorem d_Lw_law_160 : decode c_Lw_law 160 = .ok (.aload_n 0, 1) := by decide +kernel
theorem d_Lw_law_161 : decode c_Lw_law 161 = .ok (.iload_n 3, 1) := by decide +kernel
theorem d_Lw_law_162 : decode c_Lw_law 162 = .ok (.iconst 3, 1) := by decide +kernel
theorem d_Lw_law_163 : decode c_Lw_law 163 = .ok (.iadd, 1) := by decide +kernel
theorem d_Lw_law_164 : decode c_Lw_law 164 = .ok (.iaload, 1) := by decide +kernel
theorem d_Lw_law_165 : decode c_Lw_law 165 = .ok (.aload_n 0, 1) := by decide +kernel
theorem d_Lw_law_166 : decode c_Lw_law 166 = .ok (.iload_n 3, 1) := by decide +kernel
theorem d_Lw_law_167 : decode c_Lw_law 167 = .ok (.iconst 4, 1) := by decide +kernel
theorem d_Lw_law_168 : decode c_Lw_law 168 = .ok (.iadd, 1) := by decide +kernel
theorem d_Lw_law_169 : decode c_Lw_law 169 = .ok (.iaload, 1) := by decide +kernel
theorem d_Lw_law_170 : decode c_Lw_law 170 = .ok (.aload_n 0, 1) := by decide +kernel
theorem d_Lw_law_171 : decode c_Lw_law 171 = .ok (.iload_n 3, 1) := by decide +kernel
theorem d_Lw_law_172 : decode c_Lw_law 172 = .ok (.iconst 5, 1) := by decide +kernel
theorem d_Lw_law_173 : decode c_Lw_law 173 = .ok (.iadd, 1) := by decide +kernel
theorem d_Lw_law_174 : decode c_Lw_law 174 = .ok (.iaload, 1) := by decide +kernel
theorem d_Lw_law_175 : decode c_Lw_law 175 = .ok (.invokevirtual 17, 3) := by decide +kernel
theorem d_Lw_law_178 : decode c_Lw_law 178 = .ok (.if_icmp .eq 538, 3) := by decide +kernel
theorem d_Lw_law_181 : decode c_Lw_law 181 = .ok (.iconst 0, 1) := by decide +kernel
theorem d_Lw_law_182 : decode c_Lw_law 182 = .ok (.ireturn, 1) := by decide +kernel
theorem d_Lw_law_183 : decode c_Lw_law 183 = .ok (.aload_n 1, 1) := by decide +kernel
theorem d_Lw_law_184 : decode c_Lw_law 184 = .ok (.aload_n 0, 1) := by decide +kernel
theorem d_Lw_law_185 : decode c_Lw_law 185 = .ok (.iload_n 3, 1) := by decide +kernel
theorem d_Lw_law_186 : decode c_Lw_law 186 = .ok (.iconst 1, 1) := by decide +kernel
theorem d_Lw_law_187 : decode c_Lw_law 187 = .ok (.iadd, 1) := by decide +kernel
theorem d_Lw_law_188 : decode c_Lw_law 188 = .ok (.iaload, 1) := by decide +kernel
theorem d_Lw_law_189 : decode c_Lw_law 189 = .ok (.invokevirtual 18, 3) := by decide +kernel
theorem d_Lw_law_192 : decode c_Lw_law 192 = .ok (.aload_n 2, 1) := by decide +kernel
theorem d_Lw_law_193 : decode c_Lw_law 193 = .ok (.aload_n 0, 1) := by decide +kernel
theorem d_Lw_law_194 : decode c_Lw_law 194 = .ok (.iload_n 3, 1) := by decide +kernel
theorem d_Lw_law_195 : decode c_Lw_law 195 = .ok (.iconst 1, 1) := by decide +kernel
theorem d_Lw_law_196 : decode c_Lw_law 196 = .ok (.iadd, 1) := by decide +kernel
theorem d_Lw_law_197 : decode c_Lw_law 197 = .ok (.iaload, 1) := by decide +kernel
theorem d_Lw_law_198 : decode c_Lw_law 198 = .ok (.invokevirtual 22, 3) := by decide +kernel
theorem d_Lw_law_201 : decode c_Lw_law 201 = .ok (.if_icmp .eq 515, 3) := by decide +kernel
theorem d_Lw_law_204 : decode c_Lw_law 204 = .ok (.iconst 0, 1) := by decide +kernel
theorem d_Lw_law_205 : decode c_Lw_law 205 = .ok (.ireturn, 1) := by decide +kernel
theorem d_Lw_law_206 : decode c_Lw_law 206 = .ok (.aload_n 1, 1) := by decide +kernel
theorem d_Lw_law_207 : decode c_Lw_law 207 = .ok (.aload_n 0, 1) := by decide +kernel
theorem d_Lw_law_208 : decode c_Lw_law 208 = .ok (.iload_n 3, 1) := by decide +kernel
theorem d_Lw_law_209 : decode c_Lw_law 209 = .ok (.iconst 1, 1) := by decide +kernel
theorem d_Lw_law_210 : decode c_Lw_law 210 = .ok (.iadd, 1) := by decide +kernel
theorem d_Lw_law_211 : decode c_Lw_law 211 = .ok (.iaload, 1) := by decide +kernel
theorem d_Lw_law_212 : decode c_Lw_law 212 = .ok (.invokevirtual 23, 3) := by decide +kernel
theorem d_Lw_law_215 : decode c_Lw_law 215 = .ok (.aload_n 2, 1) := by decide +kernel
theorem d_Lw_law_216 : decode c_Lw_law 216 = .ok (.aload_n 0, 1) := by decide +kernel
theorem d_Lw_law_217 : decode c_Lw_law 217 = .ok (.iload_n 3, 1) := by decide +kernel
theorem d_Lw_law_218 : decode c_Lw_law 218 = .ok (.iconst 1, 1) := by decide +kernel
theorem d_Lw_law_219 : decode c_Lw_law 219 = .ok (.iadd, 1) := by decide +kernel
theorem d_Lw_law_220 : decode c_Lw_law 220 = .ok (.iaload, 1) := by decide +kernel
theorem d_Lw_law_221 : decode c_Lw_law 221 = .ok (.invokevirtual 26, 3) := by decide +kernel
theorem d_Lw_law_224 : decode c_Lw_law 224 = .ok (.if_icmp .eq 492, 3) := by decide +kernel
theorem d_Lw_law_227 : decode c_Lw_law 227 = .ok (.iconst 0, 1) := by decide +kernel
theorem d_Lw_law_228 : decode c_Lw_law 228 = .ok (.ireturn, 1) := by decide +kernel
theorem d_Lw_law_229 : decode c_Lw_law 229 = .ok (.aload_n 1, 1) := by decide +kernel
theorem d_Lw_law_230 : decode c_Lw_law 230 = .ok (.aload_n 0, 1) := by decide +kernel
theorem d_Lw_law_231 : decode c_Lw_law 231 = .ok (.iload_n 3, 1) := by decide +kernel
theorem d_Lw_law_232 : decode c_Lw_law 232 = .ok (.iconst 1, 1) := by decide +kernel
theorem d_Lw_law_233 : decode c_Lw_law 233 = .ok (.iadd, 1) := by decide +kernel
theorem d_Lw_law_234 : decode c_Lw_law 234 = .ok (.iaload, 1) := by decide +kernel
theorem d_Lw_law_235 : decode c_Lw_law 235 = .ok (.invokevirtual 27, 3) := by decide +kernel
theorem d_Lw_law_238 : decode c_Lw_law 238 = .ok (.aload_n 2, 1) := by decide +kernel
theorem d_Lw_law_239 : decode c_Lw_law 239 = .ok (.aload_n 0, 1) := by decide +kernel
theorem d_Lw_law_240 : decode c_Lw_law 240 = .ok (.iload_n 3, 1) := by decide +kernel
theorem d_Lw_law_241 : decode c_Lw_law 241 = .ok (.iconst 1, 1) := by decide +kernel
theorem d_Lw_law_242 : decode c_Lw_law 242 = .ok (.iadd, 1) := by decide +kernel
theorem d_Lw_law_243 : decode c_Lw_law 243 = .ok (.iaload, 1) := by decide +kernel
theorem d_Lw_law_244 : decode c_Lw_law 244 = .ok (.invokevirtual 30, 3) := by decide +kernel
theorem d_Lw_law_247 : decode c_Lw_law 247 = .ok (.if_icmp .eq 469, 3) := by decide +kernel
theorem d_Lw_law_250 : decode c_Lw_law 250 = .ok (.iconst 0, 1) := by decide +kernel
theorem d_Lw_law_251 : decode c_Lw_law 251 = .ok (.ireturn, 1) := by decide +kernel
theorem d_Lw_law_252 : decode c_Lw_law 252 = .ok (.aload_n 1, 1) := by decide +kernel
theorem d_Lw_law_253 : decode c_Lw_law 253 = .ok (.aload_n 0, 1) := by decide +kernel
theorem d_Lw_law_254 : decode c_Lw_law 254 = .ok (.iload_n 3, 1) := by decide +kernel
theorem d_Lw_law_255 : decode c_Lw_law 255 = .ok (.iconst 1, 1) := by decide +kernel
theorem d_Lw_law_256 : decode c_Lw_law 256 = .ok (.iadd, 1) := by decide +kernel
theorem d_Lw_law_257 : decode c_Lw_law 257 = .ok (.iaload, 1) := by decide +kernel
theorem d_Lw_law_258 : decode c_Lw_law 258 = .ok (.invokevirtual 31, 3) := by decide +kernel
theorem d_Lw_law_261 : decode c_Lw_law 261 = .ok (.aload_n 2, 1) := by decide +kernel
theorem d_Lw_law_262 : decode c_Lw_law 262 = .ok (.aload_n 0, 1) := by decide +kernel
theorem d_Lw_law_263 : decode c_Lw_law 263 = .ok (.iload_n 3, 1) := by decide +kernel
theorem d_Lw_law_264 : decode c_Lw_law 264 = .ok (.iconst 1, 1) := by decide +kernel
theorem d_Lw_law_265 : decode c_Lw_law 265 = .ok (.iadd, 1) := by decide +kernel
theorem d_Lw_law_266 : decode c_Lw_law 266 = .ok (.iaload, 1) := by decide +kernel
theorem d_Lw_law_267 : decode c_Lw_law 267 = .ok (.invokevirtual 34, 3) := by decide +kernel
theorem d_Lw_law_270 : decode c_Lw_law 270 = .ok (.if_icmp .eq 446, 3) := by decide +kernel
theorem d_Lw_law_273 : decode c_Lw_law 273 = .ok (.iconst 0, 1) := by decide +kernel
theorem d_Lw_law_274 : decode c_Lw_law 274 = .ok (.ireturn, 1) := by decide +kernel
theorem d_Lw_law_275 : decode c_Lw_law 275 = .ok (.aload_n 1, 1) := by decide +kernel
theorem d_Lw_law_276 : decode c_Lw_law 276 = .ok (.aload_n 0, 1) := by decide +kernel
theorem d_Lw_law_277 : decode c_Lw_law 277 = .ok (.iload_n 3, 1) := by decide +kernel
theorem d_Lw_law_278 : decode c_Lw_law 278 = .ok (.iconst 1, 1) := by decide +kernel
theorem d_Lw_law_279 : decode c_Lw_law 279 = .ok (.iadd, 1) := by decide +kernel
theorem d_Lw_law_280 : decode c_Lw_law 280 = .ok (.iaload, 1) := by decide +kernel
theorem d_Lw_law_281 : decode c_Lw_law 281 = .ok (.aload_n 0, 1) := by decide +kernel
theorem d_Lw_law_282 : decode c_Lw_law 282 = .ok (.iload_n 3, 1) := by decide +kernel
theorem d_Lw_law_283 : decode c_Lw_law 283 = .ok (.iconst 2, 1) := by decide +kernel
theorem d_Lw_law_284 : decode c_Lw_law 284 = .ok (.iadd, 1) := by decide +kernel
theorem d_Lw_law_285 : decode c_Lw_law 285 = .ok (.iaload, 1) := by decide +kernel
theorem d_Lw_law_286 : decode c_Lw_law 286 = .ok (.ifCond .eq 7, 3) := by decide +kernel
theorem d_Lw_law_289 : decode c_Lw_law 289 = .ok (.iconst 1, 1) := by decide +kernel
theorem d_Lw_law_290 : decode c_Lw_law 290 = .ok (.goto 4, 3) := by decide +kernel
theorem d_Lw_law_293 : decode c_Lw_law 293 = .ok (.iconst 0, 1) := by decide +kernel
theorem d_Lw_law_294 : decode c_Lw_law 294 = .ok (.invokevirtual 35, 3) := by decide +kernel
theorem d_Lw_law_297 : decode c_Lw_law 297 = .ok (.aload_n 2, 1) := by decide +kernel
theorem d_Lw_law_298 : decode c_Lw_law 298 = .ok (.aload_n 0, 1) := by decide +kernel
theorem d_Lw_law_299 : decode c_Lw_law 299 = .ok (.iload_n 3, 1) := by decide +kernel
theorem d_Lw_law_300 : decode c_Lw_law 300 = .ok (.iconst 1, 1) := by decide +kernel
theorem d_Lw_law_301 : decode c_Lw_law 301 = .ok (.iadd, 1) := by decide +kernel
theorem d_Lw_law_302 : decode c_Lw_law 302 = .ok (.iaload, 1) := by decide +kernel
theorem d_Lw_law_303 : decode c_Lw_law 303 = .ok (.aload_n 0, 1) := by decide +kernel
theorem d_Lw_law_304 : decode c_Lw_law 304 = .ok (.iload_n 3, 1) := by decide +kernel
theorem d_Lw_law_305 : decode c_Lw_law 305 = .ok (.iconst 2, 1) := by decide +kernel
theorem d_Lw_law_306 : decode c_Lw_law 306 = .ok (.iadd, 1) := by decide +kernel
theorem d_Lw_law_307 : decode c_Lw_law 307 = .ok (.iaload, 1) := by decide +kernel
theorem d_Lw_law_308 : decode c_Lw_law 308 = .ok (.ifCond .eq 7, 3) := by decide +kernel
theorem d_Lw_law_311 : decode c_Lw_law 311 = .ok (.iconst 1, 1) := by decide +kernel
theorem d_Lw_law_312 : decode c_Lw_law 312 = .ok (.goto 4, 3) := by decide +kernel
theorem d_Lw_law_315 : decode c_Lw_law 315 = .ok (.iconst 0, 1) := by decide +kernel
theorem d_Lw_law_316 : decode c_Lw_law 316 = .ok (.invokevirtual 39, 3) := by decide +kernel
theorem d_Lw_law_319 : decode c_Lw_law 319 = .ok (.if_icmp .eq 397, 3) := by decide +kernel
theorem d_Lw_law_322 : decode c_Lw_law 322 = .ok (.iconst 0, 1) := by decide +kernel
theorem d_Lw_law_323 : decode c_Lw_law 323 = .ok (.ireturn, 1) := by decide +kernel
theorem d_Lw_law_324 : decode c_Lw_law 324 = .ok (.aload_n 1, 1) := by decide +kernel
theorem d_Lw_law_325 : decode c_Lw_law 325 = .ok (.aload_n 0, 1) := by decide +kernel
theorem d_Lw_law_326 : decode c_Lw_law 326 = .ok (.iload_n 3, 1) := by decide +kernel
theorem d_Lw_law_327 : decode c_Lw_law 327 = .ok (.iconst 1, 1) := by decide +kernel
theorem d_Lw_law_328 : decode c_Lw_law 328 = .ok (.iadd, 1) := by decide +kernel
theorem d_Lw_law_329 : decode c_Lw_law 329 = .ok (.iaload, 1) := by decide +kernel
theorem d_Lw_law_330 : decode c_Lw_law 330 = .ok (.aload_n 0, 1) := by decide +kernel
theorem d_Lw_law_331 : decode c_Lw_law 331 = .ok (.iload_n 3, 1) := by decide +kernel
theorem d_Lw_law_332 : decode c_Lw_law 332 = .ok (.iconst 2, 1) := by decide +kernel
theorem d_Lw_law_333 : decode c_Lw_law 333 = .ok (.iadd, 1) := by decide +kernel
theorem d_Lw_law_334 : decode c_Lw_law 334 = .ok (.iaload, 1) := by decide +kernel
theorem d_Lw_law_335 : decode c_Lw_law 335 = .ok (.aload_n 0, 1) := by decide +kernel
theorem d_Lw_law_336 : decode c_Lw_law 336 = .ok (.iload_n 3, 1) := by decide +kernel
theorem d_Lw_law_337 : decode c_Lw_law 337 = .ok (.iconst 3, 1) := by decide +kernel
theorem d_Lw_law_338 : decode c_Lw_law 338 = .ok (.iadd, 1) := by decide +kernel
theorem d_Lw_law_339 : decode c_Lw_law 339 = .ok (.iaload, 1) := by decide +kernel
theorem d_Lw_law_340 : decode c_Lw_law 340 = .ok (.invokevirtual 40, 3) := by decide +kernel
theorem d_Lw_law_343 : decode c_Lw_law 343 = .ok (.aload_n 2, 1) := by decide +kernel
theorem d_Lw_law_344 : decode c_Lw_law 344 = .ok (.aload_n 0, 1) := by decide +kernel
theorem d_Lw_law_345 : decode c_Lw_law 345 = .ok (.iload_n 3, 1) := by decide +kernel
theorem d_Lw_law_346 : decode c_Lw_law 346 = .ok (.iconst 1, 1) := by decide +kernel
theorem d_Lw_law_347 : decode c_Lw_law 347 = .ok (.iadd, 1) := by decide +kernel
theorem d_Lw_law_348 : decode c_Lw_law 348 = .ok (.iaload, 1) := by decide +kernel
theorem d_Lw_law_349 : decode c_Lw_law 349 = .ok (.aload_n 0, 1) := by decide +kernel
theorem d_Lw_law_350 : decode c_Lw_law 350 = .ok (.iload_n 3, 1) := by decide +kernel
theorem d_Lw_law_351 : decode c_Lw_law 351 = .ok (.iconst 2, 1) := by decide +kernel
theorem d_Lw_law_352 : decode c_Lw_law 352 = .ok (.iadd, 1) := by decide +kernel
theorem d_Lw_law_353 : decode c_Lw_law 353 = .ok (.iaload, 1) := by decide +kernel
theorem d_Lw_law_354 : decode c_Lw_law 354 = .ok (.aload_n 0, 1) := by decide +kernel
theorem d_Lw_law_355 : decode c_Lw_law 355 = .ok (.iload_n 3, 1) := by decide +kernel
theorem d_Lw_law_356 : decode c_Lw_law 356 = .ok (.iconst 3, 1) := by decide +kernel
theorem d_Lw_law_357 : decode c_Lw_law 357 = .ok (.iadd, 1) := by decide +kernel
theorem d_Lw_law_358 : decode c_Lw_law 358 = .ok (.iaload, 1) := by decide +kernel
theorem d_Lw_law_359 : decode c_Lw_law 359 = .ok (.invokevirtual 44, 3) := by decide +kernel
theorem d_Lw_law_362 : decode c_Lw_law 362 = .ok (.if_icmp .eq 354, 3) := by decide +kernel
theorem d_Lw_law_365 : decode c_Lw_law 365 = .ok (.iconst 0, 1) := by decide +kernel
theorem d_Lw_law_366 : decode c_Lw_law 366 = .ok (.ireturn, 1) := by decide +kernel
theorem d_Lw_law_367 : decode c_Lw_law 367 = .ok (.aload_n 1, 1) := by decide +kernel
theorem d_Lw_law_368 : decode c_Lw_law 368 = .ok (.aload_n 0, 1) := by decide +kernel
theorem d_Lw_law_369 : decode c_Lw_law 369 = .ok (.iload_n 3, 1) := by decide +kernel
theorem d_Lw_law_370 : decode c_Lw_law 370 = .ok (.iconst 1, 1) := by decide +kernel
theorem d_Lw_law_371 : decode c_Lw_law 371 = .ok (.iadd, 1) := by decide +kernel
theorem d_Lw_law_372 : decode c_Lw_law 372 = .ok (.iaload, 1) := by decide +kernel
theorem d_Lw_law_373 : decode c_Lw_law 373 = .ok (.aload_n 0, 1) := by decide +kernel
theorem d_Lw_law_374 : decode c_Lw_law 374 = .ok (.iload_n 3, 1) := by decide +kernel
theorem d_Lw_law_375 : decode c_Lw_law 375 = .ok (.iconst 2, 1) := by decide +kernel
theorem d_Lw_law_376 : decode c_Lw_law 376 = .ok (.iadd, 1) := by decide +kernel
theorem d_Lw_law_377 : decode c_Lw_law 377 = .ok (.iaload, 1) := by decide +kernel
theorem d_Lw_law_378 : decode c_Lw_law 378 = .ok (.invokevirtual 45, 3) := by decide +kernel
theorem d_Lw_law_381 : decode c_Lw_law 381 = .ok (.aload_n 2, 1) := by decide +kernel
theorem d_Lw_law_382 : decode c_Lw_law 382 = .ok (.aload_n 0, 1) := by decide +kernel
theorem d_Lw_law_383 : decode c_Lw_law 383 = .ok (.iload_n 3, 1) := by decide +kernel
theorem d_Lw_law_384 : decode c_Lw_law 384 = .ok (.iconst 1, 1) := by decide +kernel
theorem d_Lw_law_385 : decode c_Lw_law 385 = .ok (.iadd, 1) := by decide +kernel
theorem d_Lw_law_386 : decode c_Lw_law 386 = .ok (.iaload, 1) := by decide +kernel
theorem d_Lw_law_387 : decode c_Lw_law 387 = .ok (.aload_n 0, 1) := by decide +kernel
theorem d_Lw_law_388 : decode c_Lw_law 388 = .ok (.iload_n 3, 1) := by decide +kernel
theorem d_Lw_law_389 : decode c_Lw_law 389 = .ok (.iconst 2, 1) := by decide +kernel
theorem d_Lw_law_390 : decode c_Lw_law 390 = .ok (.iadd, 1) := by decide +kernel
theorem d_Lw_law_391 : decode c_Lw_law 391 = .ok (.iaload, 1) := by decide +kernel
theorem d_Lw_law_392 : decode c_Lw_law 392 = .ok (.invokevirtual 49, 3) := by decide +kernel
theorem d_Lw_law_395 : decode c_Lw_law 395 = .ok (.if_icmp .eq 321, 3) := by decide +kernel
theorem d_Lw_law_398 : decode c_Lw_law 398 = .ok (.iconst 0, 1) := by decide +kernel
theorem d_Lw_law_399 : decode c_Lw_law 399 = .ok (.ireturn, 1) := by decide +kernel
theorem d_Lw_law_400 : decode c_Lw_law 400 = .ok (.aload_n 1, 1) := by decide +kernel
theorem d_Lw_law_401 : decode c_Lw_law 401 = .ok (.invokevirtual 50, 3) := by decide +kernel
theorem d_Lw_law_404 : decode c_Lw_law 404 = .ok (.aload_n 2, 1) := by decide +kernel
theorem d_Lw_law_405 : decode c_Lw_law 405 = .ok (.invokevirtual 54, 3) := by decide +kernel
theorem d_Lw_law_408 : decode c_Lw_law 408 = .ok (.if_icmp .eq 308, 3) := by decide +kernel
theorem d_Lw_law_411 : decode c_Lw_law 411 = .ok (.iconst 0, 1) := by decide +kernel
theorem d_Lw_law_412 : decode c_Lw_law 412 = .ok (.ireturn, 1) := by decide +kernel
theorem d_Lw_law_413 : decode c_Lw_law 413 = .ok (.aload_n 1, 1) := by decide +kernel
theorem d_Lw_law_414 : decode c_Lw_law 414 = .ok (.aload_n 0, 1) := by decide +kernel
theorem d_Lw_law_415 : decode c_Lw_law 415 = .ok (.iload_n 3, 1) := by decide +kernel
theorem d_Lw_law_416 : decode c_Lw_law 416 = .ok (.iconst 1, 1) := by decide +kernel
theorem d_Lw_law_417 : decode c_Lw_law 417 = .ok (.iadd, 1) := by decide +kernel
theorem d_Lw_law_418 : decode c_Lw_law 418 = .ok (.iaload, 1) := by decide +kernel
theorem d_Lw_law_419 : decode c_Lw_law 419 = .ok (.aload_n 0, 1) := by decide +kernel
theorem d_Lw_law_420 : decode c_Lw_law 420 = .ok (.iload_n 3, 1) := by decide +kernel
theorem d_Lw_law_421 : decode c_Lw_law 421 = .ok (.iconst 2, 1) := by decide +kernel
theorem d_Lw_law_422 : decode c_Lw_law 422 = .ok (.iadd, 1) := by decide +kernel
theorem d_Lw_law_423 : decode c_Lw_law 423 = .ok (.iaload, 1) := by decide +kernel
theorem d_Lw_law_424 : decode c_Lw_law 424 = .ok (.aload_n 0, 1) := by decide +kernel
theorem d_Lw_law_425 : decode c_Lw_law 425 = .ok (.iload_n 3, 1) := by decide +kernel
theorem d_Lw_law_426 : decode c_Lw_law 426 = .ok (.iconst 3, 1) := by decide +kernel
theorem d_Lw_law_427 : decode c_Lw_law 427 = .ok (.iadd, 1) := by decide +kernel
theorem d_Lw_law_428 : decode c_Lw_law 428 = .ok (.iaload, 1) := by decide +kernel
theorem d_Lw_law_429 : decode c_Lw_law 429 = .ok (.invokevirtual 55, 3) := by decide +kernel
theorem d_Lw_law_432 : decode c_Lw_law 432 = .ok (.aload_n 2, 1) := by decide +kernel
theorem d_Lw_law_433 : decode c_Lw_law 433 = .ok (.aload_n 0, 1) := by decide +kernel
theorem d_Lw_law_434 : decode c_Lw_law 434 = .ok (.iload_n 3, 1) := by decide +kernel
theorem d_Lw_law_435 : decode c_Lw_law 435 = .ok (.iconst 1, 1) := by decide +kernel
theorem d_Lw_law_436 : decode c_Lw_law 436 = .ok (.iadd, 1) := by decide +kernel
theorem d_Lw_law_437 : decode c_Lw_law 437 = .ok (.iaload, 1) := by decide +kernel
theorem d_Lw_law_438 : decode c_Lw_law 438 = .ok (.aload_n 0, 1) := by decide +kernel
theorem d_Lw_law_439 : decode c_Lw_law 439 = .ok (.iload_n 3, 1) := by decide +kernel
theorem d_Lw_law_440 : decode c_Lw_law 440 = .ok (.iconst 2, 1) := by decide +kernel
theorem d_Lw_law_441 : decode c_Lw_law 441 = .ok (.iadd, 1) := by decide +kernel
theorem d_Lw_law_442 : decode c_Lw_law 442 = .ok (.iaload, 1) := by decide +kernel
theorem d_Lw_law_443 : decode c_Lw_law 443 = .ok (.aload_n 0, 1) := by decide +kernel
theorem d_Lw_law_444 : decode c_Lw_law 444 = .ok (.iload_n 3, 1) := by decide +kernel
theorem d_Lw_law_445 : decode c_Lw_law 445 = .ok (.iconst 3, 1) := by decide +kernel
theorem d_Lw_law_446 : decode c_Lw_law 446 = .ok (.iadd, 1) := by decide +kernel
theorem d_Lw_law_447 : decode c_Lw_law 447 = .ok (.iaload, 1) := by decide +kernel
theorem d_Lw_law_448 : decode c_Lw_law 448 = .ok (.invokevirtual 58, 3) := by decide +kernel
theorem d_Lw_law_451 : decode c_Lw_law 451 = .ok (.if_icmp .eq 265, 3) := by decide +kernel
theorem d_Lw_law_454 : decode c_Lw_law 454 = .ok (.iconst 0, 1) := by decide +kernel
theorem d_Lw_law_455 : decode c_Lw_law 455 = .ok (.ireturn, 1) := by decide +kernel
theorem d_Lw_law_456 : decode c_Lw_law 456 = .ok (.aload_n 1, 1) := by decide +kernel
theorem d_Lw_law_457 : decode c_Lw_law 457 = .ok (.aload_n 0, 1) := by decide +kernel
theorem d_Lw_law_458 : decode c_Lw_law 458 = .ok (.iload_n 3, 1) := by decide +kernel
theorem d_Lw_law_459 : decode c_Lw_law 459 = .ok (.iconst 1, 1) := by decide +kernel
theorem d_Lw_law_460 : decode c_Lw_law 460 = .ok (.iadd, 1) := by decide +kernel
theorem d_Lw_law_461 : decode c_Lw_law 461 = .ok (.iaload, 1) := by decide +kernel
theorem d_Lw_law_462 : decode c_Lw_law 462 = .ok (.aload_n 0, 1) := by decide +kernel
theorem d_Lw_law_463 : decode c_Lw_law 463 = .ok (.iload_n 3, 1) := by decide +kernel
theorem d_Lw_law_464 : decode c_Lw_law 464 = .ok (.iconst 2, 1) := by decide +kernel
theorem d_Lw_law_465 : decode c_Lw_law 465 = .ok (.iadd, 1) := by decide +kernel
theorem d_Lw_law_466 : decode c_Lw_law 466 = .ok (.iaload, 1) := by decide +kernel
theorem d_Lw_law_467 : decode c_Lw_law 467 = .ok (.aload_n 0, 1) := by decide +kernel
theorem d_Lw_law_468 : decode c_Lw_law 468 = .ok (.iload_n 3, 1) := by decide +kernel
theorem d_Lw_law_469 : decode c_Lw_law 469 = .ok (.iconst 3, 1) := by decide +kernel
theorem d_Lw_law_470 : decode c_Lw_law 470 = .ok (.iadd, 1) := by decide +kernel
theorem d_Lw_law_471 : decode c_Lw_law 471 = .ok (.iaload, 1) := by decide +kernel
theorem d_Lw_law_472 : decode c_Lw_law 472 = .ok (.aload_n 0, 1) := by decide +kernel
theorem d_Lw_law_473 : decode c_Lw_law 473 = .ok (.iload_n 3, 1) := by decide +kernel
theorem d_Lw_law_474 : decode c_Lw_law 474 = .ok (.iconst 4, 1) := by decide +kernel
theorem d_Lw_law_475 : decode c_Lw_law 475 = .ok (.iadd, 1) := by decide +kernel
theorem d_Lw_law_476 : decode c_Lw_law 476 = .ok (.iaload, 1) := by decide +kernel
theorem d_Lw_law_477 : decode c_Lw_law 477 = .ok (.ifCond .eq 7, 3) := by decide +kernel
theorem d_Lw_law_480 : decode c_Lw_law 480 = .ok (.iconst 1, 1) := by decide +kernel
theorem d_Lw_law_481 : decode c_Lw_law 481 = .ok (.goto 4, 3) := by decide +kernel
theorem d_Lw_law_484 : decode c_Lw_law 484 = .ok (.iconst 0, 1) := by decide +kernel
theorem d_Lw_law_485 : decode c_Lw_law 485 = .ok (.invokevirtual 59, 3) := by decide +kernel
theorem d_Lw_law_488 : decode c_Lw_law 488 = .ok (.aload_n 2, 1) := by decide +kernel
theorem d_Lw_law_489 : decode c_Lw_law 489 = .ok (.aload_n 0, 1) := by decide +kernel
theorem d_Lw_law_490 : decode c_Lw_law 490 = .ok (.iload_n 3, 1) := by decide +kernel
theorem d_Lw_law_491 : decode c_Lw_law 491 = .ok (.iconst 1, 1) := by decide +kernel
theorem d_Lw_law_492 : decode c_Lw_law 492 = .ok (.iadd, 1) := by decide +kernel
theorem d_Lw_law_493 : decode c_Lw_law 493 = .ok (.iaload, 1) := by decide +kernel
theorem d_Lw_law_494 : decode c_Lw_law 494 = .ok (.aload_n 0, 1) := by decide +kernel
theorem d_Lw_law_495 : decode c_Lw_law 495 = .ok (.iload_n 3, 1) := by decide +kernel
theorem d_Lw_law_496 : decode c_Lw_law 496 = .ok (.iconst 2, 1) := by decide +kernel
theorem d_Lw_law_497 : decode c_Lw_law 497 = .ok (.iadd, 1) := by decide +kernel
theorem d_Lw_law_498 : decode c_Lw_law 498 = .ok (.iaload, 1) := by decide +kernel
theorem d_Lw_law_499 : decode c_Lw_law 499 = .ok (.aload_n 0, 1) := by decide +kernel
theorem d_Lw_law_500 : decode c_Lw_law 500 = .ok (.iload_n 3, 1) := by decide +kernel
theorem d_Lw_law_501 : decode c_Lw_law 501 = .ok (.iconst 3, 1) := by decide +kernel
theorem d_Lw_law_502 : decode c_Lw_law 502 = .ok (.iadd, 1) := by decide +kernel
theorem d_Lw_law_503 : decode c_Lw_law 503 = .ok (.iaload, 1) := by decide +kernel
theorem d_Lw_law_504 : decode c_Lw_law 504 = .ok (.aload_n 0, 1) := by decide +kernel
theorem d_Lw_law_505 : decode c_Lw_law 505 = .ok (.iload_n 3, 1) := by decide +kernel
theorem d_Lw_law_506 : decode c_Lw_law 506 = .ok (.iconst 4, 1) := by decide +kernel
theorem d_Lw_law_507 : decode c_Lw_law 507 = .ok (.iadd, 1) := by decide +kernel
theorem d_Lw_law_508 : decode c_Lw_law 508 = .ok (.iaload, 1) := by decide +kernel
theorem d_Lw_law_509 : decode c_Lw_law 509 = .ok (.ifCond .eq 7, 3) := by decide +kernel
theorem d_Lw_law_512 : decode c_Lw_law 512 = .ok (.iconst 1, 1) := by decide +kernel
theorem d_Lw_law_513 : decode c_Lw_law 513 = .ok (.goto 4, 3) := by decide +kernel
theorem d_Lw_law_516 : decode c_Lw_law 516 = .ok (.iconst 0, 1) := by decide +kernel
theorem d_Lw_law_517 : decode c_Lw_law 517 = .ok (.invokevirtual 63, 3) := by decide +kernel
theorem d_Lw_law_520 : decode c_Lw_law 520 = .ok (.if_icmp .eq 196, 3) := by decide +kernel
theorem d_Lw_law_523 : decode c_Lw_law 523 = .ok (.iconst 0, 1) := by decide +kernel
theorem d_Lw_law_524 : decode c_Lw_law 524 = .ok (.ireturn, 1) := by decide +kernel
theorem d_Lw_law_525 : decode c_Lw_law 525 = .ok (.aload_n 1, 1) := by decide +kernel
theorem d_Lw_law_526 : decode c_Lw_law 526 = .ok (.aload_n 0, 1) := by decide +kernel
theorem d_Lw_law_527 : decode c_Lw_law 527 = .ok (.iload_n 3, 1) := by decide +kernel
theorem d_Lw_law_528 : decode c_Lw_law 528 = .ok (.iconst 1, 1) := by decide +kernel
theorem d_Lw_law_529 : decode c_Lw_law 529 = .ok (.iadd, 1) := by decide +kernel
theorem d_Lw_law_530 : decode c_Lw_law 530 = .ok (.iaload, 1) := by decide +kernel
theorem d_Lw_law_531 : decode c_Lw_law 531 = .ok (.aload_n 0, 1) := by decide +kernel
theorem d_Lw_law_532 : decode c_Lw_law 532 = .ok (.iload_n 3, 1) := by decide +kernel
theorem d_Lw_law_533 : decode c_Lw_law 533 = .ok (.iconst 2, 1) := by decide +kernel
theorem d_Lw_law_534 : decode c_Lw_law 534 = .ok (.iadd, 1) := by decide +kernel
theorem d_Lw_law_535 : decode c_Lw_law 535 = .ok (.iaload, 1) := by decide +kernel
theorem d_Lw_law_536 : decode c_Lw_law 536 = .ok (.aload_n 0, 1) := by decide +kernel
theorem d_Lw_law_537 : decode c_Lw_law 537 = .ok (.iload_n 3, 1) := by decide +kernel
theorem d_Lw_law_538 : decode c_Lw_law 538 = .ok (.iconst 3, 1) := by decide +kernel
theorem d_Lw_law_539 : decode c_Lw_law 539 = .ok (.iadd, 1) := by decide +kernel
theorem d_Lw_law_540 : decode c_Lw_law 540 = .ok (.iaload, 1) := by decide +kernel
theorem d_Lw_law_541 : decode c_Lw_law 541 = .ok (.invokevirtual 64, 3) := by decide +kernel
theorem d_Lw_law_544 : decode c_Lw_law 544 = .ok (.aload_n 2, 1) := by decide +kernel
theorem d_Lw_law_545 : decode c_Lw_law 545 = .ok (.aload_n 0, 1) := by decide +kernel
theorem d_Lw_law_546 : decode c_Lw_law 546 = .ok (.iload_n 3, 1) := by decide +kernel
theorem d_Lw_law_547 : decode c_Lw_law 547 = .ok (.iconst 1, 1) := by decide +kernel
theorem d_Lw_law_548 : decode c_Lw_law 548 = .ok (.iadd, 1) := by decide +kernel
theorem d_Lw_law_549 : decode c_Lw_law 549 = .ok (.iaload, 1) := by decide +kernel
theorem d_Lw_law_550 : decode c_Lw_law 550 = .ok (.aload_n 0, 1) := by decide +kernel
theorem d_Lw_law_551 : decode c_Lw_law 551 = .ok (.iload_n 3, 1) := by decide +kernel
theorem d_Lw_law_552 : decode c_Lw_law 552 = .ok (.iconst 2, 1) := by decide +kernel
theorem d_Lw_law_553 : decode c_Lw_law 553 = .ok (.iadd, 1) := by decide +kernel
theorem d_Lw_law_554 : decode c_Lw_law 554 = .ok (.iaload, 1) := by decide +kernel
theorem d_Lw_law_555 : decode c_Lw_law 555 = .ok (.aload_n 0, 1) := by decide +kernel
theorem d_Lw_law_556 : decode c_Lw_law 556 = .ok (.iload_n 3, 1) := by decide +kernel
theorem d_Lw_law_557 : decode c_Lw_law 557 = .ok (.iconst 3, 1) := by decide +kernel
theorem d_Lw_law_558 : decode c_Lw_law 558 = .ok (.iadd, 1) := by decide +kernel
theorem d_Lw_law_559 : decode c_Lw_law 559 = .ok (.iaload, 1) := by decide +kernel
theorem d_Lw_law_560 : decode c_Lw_law 560 = .ok (.invokevirtual 67, 3) := by decide +kernel
theorem d_Lw_law_563 : decode c_Lw_law 563 = .ok (.if_icmp .eq 153, 3) := by decide +kernel
theorem d_Lw_law_566 : decode c_Lw_law 566 = .ok (.iconst 0, 1) := by decide +kernel
theorem d_Lw_law_567 : decode c_Lw_law 567 = .ok (.ireturn, 1) := by decide +kernel
theorem d_Lw_law_568 : decode c_Lw_law 568 = .ok (.aload_n 1, 1) := by decide +kernel
theorem d_Lw_law_569 : decode c_Lw_law 569 = .ok (.invokevirtual 68, 3) := by decide +kernel
theorem d_Lw_law_572 : decode c_Lw_law 572 = .ok (.aload_n 2, 1) := by decide +kernel
theorem d_Lw_law_573 : decode c_Lw_law 573 = .ok (.invokevirtual 71, 3) := by decide +kernel
theorem d_Lw_law_576 : decode c_Lw_law 576 = .ok (.if_icmp .eq 140, 3) := by decide +kernel
theorem d_Lw_law_579 : decode c_Lw_law 579 = .ok (.iconst 0, 1) := by decide +kernel
theorem d_Lw_law_580 : decode c_Lw_law 580 = .ok (.ireturn, 1) := by decide +kernel
theorem d_Lw_law_581 : decode c_Lw_law 581 = .ok (.aload_n 1, 1) := by decide +kernel
theorem d_Lw_law_582 : decode c_Lw_law 582 = .ok (.invokevirtual 72, 3) := by decide +kernel
theorem d_Lw_law_585 : decode c_Lw_law 585 = .ok (.aload_n 2, 1) := by decide +kernel
theorem d_Lw_law_586 : decode c_Lw_law 586 = .ok (.invokevirtual 75, 3) := by decide +kernel
theorem d_Lw_law_589 : decode c_Lw_law 589 = .ok (.if_icmp .eq 127, 3) := by decide +kernel
theorem d_Lw_law_592 : decode c_Lw_law 592 = .ok (.iconst 0, 1) := by decide +kernel
theorem d_Lw_law_593 : decode c_Lw_law 593 = .ok (.ireturn, 1) := by decide +kernel
theorem d_Lw_law_594 : decode c_Lw_law 594 = .ok (.aload_n 1, 1) := by decide +kernel
theorem d_Lw_law_595 : decode c_Lw_law 595 = .ok (.aload_n 0, 1) := by decide +kernel
theorem d_Lw_law_596 : decode c_Lw_law 596 = .ok (.iload_n 3, 1) := by decide +kernel
theorem d_Lw_law_597 : decode c_Lw_law 597 = .ok (.iconst 1, 1) := by decide +kernel
theorem d_Lw_law_598 : decode c_Lw_law 598 = .ok (.iadd, 1) := by decide +kernel
theorem d_Lw_law_599 : decode c_Lw_law 599 = .ok (.iaload, 1) := by decide +kernel
theorem d_Lw_law_600 : decode c_Lw_law 600 = .ok (.aload_n 0, 1) := by decide +kernel
theorem d_Lw_law_601 : decode c_Lw_law 601 = .ok (.iload_n 3, 1) := by decide +kernel
theorem d_Lw_law_602 : decode c_Lw_law 602 = .ok (.iconst 2, 1) := by decide +kernel
theorem d_Lw_law_603 : decode c_Lw_law 603 = .ok (.iadd, 1) := by decide +kernel
theorem d_Lw_law_604 : decode c_Lw_law 604 = .ok (.iaload, 1) := by decide +kernel
theorem d_Lw_law_605 : decode c_Lw_law 605 = .ok (.invokevirtual 76, 3) := by decide +kernel
theorem d_Lw_law_608 : decode c_Lw_law 608 = .ok (.aload_n 2, 1) := by decide +kernel
theorem d_Lw_law_609 : decode c_Lw_law 609 = .ok (.aload_n 0, 1) := by decide +kernel
theorem d_Lw_law_610 : decode c_Lw_law 610 = .ok (.iload_n 3, 1) := by decide +kernel
theorem d_Lw_law_611 : decode c_Lw_law 611 = .ok (.iconst 1, 1) := by decide +kernel
theorem d_Lw_law_612 : decode c_Lw_law 612 = .ok (.iadd, 1) := by decide +kernel
theorem d_Lw_law_613 : decode c_Lw_law 613 = .ok (.iaload, 1) := by decide +kernel
theorem d_Lw_law_614 : decode c_Lw_law 614 = .ok (.aload_n 0, 1) := by decide +kernel
theorem d_Lw_law_615 : decode c_Lw_law 615 = .ok (.iload_n 3, 1) := by decide +kernel
theorem d_Lw_law_616 : decode c_Lw_law 616 = .ok (.iconst 2, 1) := by decide +kernel
theorem d_Lw_law_617 : decode c_Lw_law 617 = .ok (.iadd, 1) := by decide +kernel
theorem d_Lw_law_618 : decode c_Lw_law 618 = .ok (.iaload, 1) := by decide +kernel
theorem d_Lw_law_619 : decode c_Lw_law 619 = .ok (.invokevirtual 79, 3) := by decide +kernel
theorem d_Lw_law_622 : decode c_Lw_law 622 = .ok (.if_icmp .eq 94, 3) := by decide +kernel
theorem d_Lw_law_625 : decode c_Lw_law 625 = .ok (.iconst 0, 1) := by decide +kernel
theorem d_Lw_law_626 : decode c_Lw_law 626 = .ok (.ireturn, 1) := by decide +kernel
theorem d_Lw_law_627 : decode c_Lw_law 627 = .ok (.aload_n 1, 1) := by decide +kernel
theorem d_Lw_law_628 : decode c_Lw_law 628 = .ok (.aload_n 0, 1) := by decide +kernel
theorem d_Lw_law_629 : decode c_Lw_law 629 = .ok (.iload_n 3, 1) := by decide +kernel
theorem d_Lw_law_630 : decode c_Lw_law 630 = .ok (.iconst 1, 1) := by decide +kernel
theorem d_Lw_law_631 : decode c_Lw_law 631 = .ok (.iadd, 1) := by decide +kernel
theorem d_Lw_law_632 : decode c_Lw_law 632 = .ok (.iaload, 1) := by decide +kernel
theorem d_Lw_law_633 : decode c_Lw_law 633 = .ok (.aload_n 0, 1) := by decide +kernel
theorem d_Lw_law_634 : decode c_Lw_law 634 = .ok (.iload_n 3, 1) := by decide +kernel
theorem d_Lw_law_635 : decode c_Lw_law 635 = .ok (.iconst 2, 1) := by decide +kernel
theorem d_Lw_law_636 : decode c_Lw_law 636 = .ok (.iadd, 1) := by decide +kernel
theorem d_Lw_law_637 : decode c_Lw_law 637 = .ok (.iaload, 1) := by decide +kernel
theorem d_Lw_law_638 : decode c_Lw_law 638 = .ok (.invokevirtual 80, 3) := by decide +kernel
theorem d_Lw_law_641 : decode c_Lw_law 641 = .ok (.aload_n 2, 1) := by decide +kernel
theorem d_Lw_law_642 : decode c_Lw_law 642 = .ok (.aload_n 0, 1) := by decide +kernel
theorem d_Lw_law_643 : decode c_Lw_law 643 = .ok (.iload_n 3, 1) := by decide +kernel
theorem d_Lw_law_644 : decode c_Lw_law 644 = .ok (.iconst 1, 1) := by decide +kernel
theorem d_Lw_law_645 : decode c_Lw_law 645 = .ok (.iadd, 1) := by decide +kernel
theorem d_Lw_law_646 : decode c_Lw_law 646 = .ok (.iaload, 1) := by decide +kernel
theorem d_Lw_law_647 : decode c_Lw_law 647 = .ok (.aload_n 0, 1) := by decide +kernel
theorem d_Lw_law_648 : decode c_Lw_law 648 = .ok (.iload_n 3, 1) := by decide +kernel
theorem d_Lw_law_649 : decode c_Lw_law 649 = .ok (.iconst 2, 1) := by decide +kernel
theorem d_Lw_law_650 : decode c_Lw_law 650 = .ok (.iadd, 1) := by decide +kernel
theorem d_Lw_law_651 : decode c_Lw_law 651 = .ok (.iaload, 1) := by decide +kernel
theorem d_Lw_law_652 : decode c_Lw_law 652 = .ok (.invokevirtual 83, 3) := by decide +kernel
theorem d_Lw_law_655 : decode c_Lw_law 655 = .ok (.if_icmp .eq 61, 3) := by decide +kernel
theorem d_Lw_law_658 : decode c_Lw_law 658 = .ok (.iconst 0, 1) := by decide +kernel
theorem d_Lw_law_659 : decode c_Lw_law 659 = .ok (.ireturn, 1) := by decide +kernel
theorem d_Lw_law_660 : decode c_Lw_law 660 = .ok (.aload_n 1, 1) := by decide +kernel
theorem d_Lw_law_661 : decode c_Lw_law 661 = .ok (.aload_n 0, 1) := by decide +kernel
theorem d_Lw_law_662 : decode c_Lw_law 662 = .ok (.iload_n 3, 1) := by decide +kernel
theorem d_Lw_law_663 : decode c_Lw_law 663 = .ok (.iconst 1, 1) := by decide +kernel
theorem d_Lw_law_664 : decode c_Lw_law 664 = .ok (.iadd, 1) := by decide +kernel
theorem d_Lw_law_665 : decode c_Lw_law 665 = .ok (.iaload, 1) := by decide +kernel
theorem d_Lw_law_666 : decode c_Lw_law 666 = .ok (.aload_n 0, 1) := by decide +kernel
theorem d_Lw_law_667 : decode c_Lw_law 667 = .ok (.iload_n 3, 1) := by decide +kernel
theorem d_Lw_law_668 : decode c_Lw_law 668 = .ok (.iconst 2, 1) := by decide +kernel
theorem d_Lw_law_669 : decode c_Lw_law 669 = .ok (.iadd, 1) := by decide +kernel
theorem d_Lw_law_670 : decode c_Lw_law 670 = .ok (.iaload, 1) := by decide +kernel
theorem d_Lw_law_671 : decode c_Lw_law 671 = .ok (.invokevirtual 84, 3) := by decide +kernel
theorem d_Lw_law_674 : decode c_Lw_law 674 = .ok (.aload_n 2, 1) := by decide +kernel
theorem d_Lw_law_675 : decode c_Lw_law 675 = .ok (.aload_n 0, 1) := by decide +kernel
theorem d_Lw_law_676 : decode c_Lw_law 676 = .ok (.iload_n 3, 1) := by decide +kernel
theorem d_Lw_law_677 : decode c_Lw_law 677 = .ok (.iconst 1, 1) := by decide +kernel
theorem d_Lw_law_678 : decode c_Lw_law 678 = .ok (.iadd, 1) := by decide +kernel
theorem d_Lw_law_679 : decode c_Lw_law 679 = .ok (.iaload, 1) := by decide +kernel
theorem d_Lw_law_680 : decode c_Lw_law 680 = .ok (.aload_n 0, 1) := by decide +kernel
theorem d_Lw_law_681 : decode c_Lw_law 681 = .ok (.iload_n 3, 1) := by decide +kernel
theorem d_Lw_law_682 : decode c_Lw_law 682 = .ok (.iconst 2, 1) := by decide +kernel
theorem d_Lw_law_683 : decode c_Lw_law 683 = .ok (.iadd, 1) := by decide +kernel
theorem d_Lw_law_684 : decode c_Lw_law 684 = .ok (.iaload, 1) := by decide +kernel
theorem d_Lw_law_685 : decode c_Lw_law 685 = .ok (.invokevirtual 87, 3) := by decide +kernel
theorem d_Lw_law_688 : decode c_Lw_law 688 = .ok (.if_icmp .eq 28, 3) := by decide +kernel
theorem d_Lw_law_691 : decode c_Lw_law 691 = .ok (.iconst 0, 1) := by decide +kernel
theorem d_Lw_law_692 : decode c_Lw_law 692 = .ok (.ireturn, 1) := by decide +kernel
theorem d_Lw_law_693 : decode c_Lw_law 693 = .ok (.aload_n 1, 1) := by decide +kernel
theorem d_Lw_law_694 : decode c_Lw_law 694 = .ok (.aload_n 0, 1) := by decide +kernel
theorem d_Lw_law_695 : decode c_Lw_law 695 = .ok (.iload_n 3, 1) := by decide +kernel
theorem d_Lw_law_696 : decode c_Lw_law 696 = .ok (.iconst 1, 1) := by decide +kernel
theorem d_Lw_law_697 : decode c_Lw_law 697 = .ok (.iadd, 1) := by decide +kernel
theorem d_Lw_law_698 : decode c_Lw_law 698 = .ok (.iaload, 1) := by decide +kernel
theorem d_Lw_law_699 : decode c_Lw_law 699 = .ok (.invokevirtual 88, 3) := by decide +kernel
theorem d_Lw_law_702 : decode c_Lw_law 702 = .ok (.aload_n 2, 1) := by decide +kernel
theorem d_Lw_law_703 : decode c_Lw_law 703 = .ok (.aload_n 0, 1) := by decide +kernel
theorem d_Lw_law_704 : decode c_Lw_law 704 = .ok (.iload_n 3, 1) := by decide +kernel
theorem d_Lw_law_705 : decode c_Lw_law 705 = .ok (.iconst 1, 1) := by decide +kernel
theorem d_Lw_law_706 : decode c_Lw_law 706 = .ok (.iadd, 1) := by decide +kernel
theorem d_Lw_law_707 : decode c_Lw_law 707 = .ok (.iaload, 1) := by decide +kernel
theorem d_Lw_law_708 : decode c_Lw_law 708 = .ok (.invokevirtual 91, 3) := by decide +kernel
theorem d_Lw_law_711 : decode c_Lw_law 711 = .ok (.if_icmp .eq 5, 3) := by decide +kernel
theorem d_Lw_law_714 : decode c_Lw_law 714 = .ok (.iconst 0, 1) := by decide +kernel
theorem d_Lw_law_715 : decode c_Lw_law 715 = .ok (.ireturn, 1) := by decide +kernel
theorem d_Lw_law_716 : decode c_Lw_law 716 = .ok (.iinc 3 6, 3) := by decide +kernel
theorem d_Lw_law_719 : decode c_Lw_law 719 = .ok (.goto (-701), 3) := by decide +kernel
theorem d_Lw_law_722 : decode c_Lw_law 722 = .ok (.iconst 1, 1) := by decide +kernel
theorem d_Lw_law_723 : decode c_Lw_law 723 = .ok (.ireturn, 1) := by decide +kernel
end
section
/-! THE ABSTRACT WORLD. A value is an int or a reference (kind, ordinal); ordinal 0 is null. Kinds below 99 are the classes of vwCl in their order, 99 is the script, kinds from 100 on are regions of arrays. -/
abbrev VV : Type := Int32 ⊕ (Nat × Nat)
abbrev AD : Type := Nat → Nat → Nat
/-- how many of a kind; the ints; the references; the lengths; cells and slots made so far -/
abbrev WW : Type := (Nat → Nat) × (Nat → Nat → Nat → Int32) × (Nat → Nat → Nat → Nat) × (Nat → Nat → Nat) × Nat × Nat
def wC (w : WW) (k : Nat) : Nat := w.1 k
def wI (w : WW) (k o j : Nat) : Int32 := w.2.1 k o j
def wR (w : WW) (k o j : Nat) : Nat := w.2.2.1 k o j
def wL (w : WW) (k o : Nat) : Nat := w.2.2.2.1 k o
def wn (w : WW) : Nat := w.2.2.2.2.1
def wz (w : WW) : Nat := w.2.2.2.2.2
def sI (w : WW) (k o j : Nat) (x : Int32) : WW := (w.1, (fun k' o' j' => if k' = k ∧ o' = o ∧ j' = j then x else w.2.1 k' o' j'), w.2.2)
def sR (w : WW) (k o j r : Nat) : WW := (w.1, w.2.1, (fun k' o' j' => if k' = k ∧ o' = o ∧ j' = j then r else w.2.2.1 k' o' j'), w.2.2.2)
def nO (w : WW) (k n : Nat) : WW := ((fun k' => if k' = k then w.1 k + 1 else w.1 k'), w.2.1, w.2.2.1, w.2.2.2.1, w.2.2.2.2.1 + 1, w.2.2.2.2.2 + n)
def nA (w : WW) (k n : Nat) : WW := ((fun k' => if k' = k then w.1 k + 1 else w.1 k'), w.2.1, w.2.2.1, (fun k' o' => if k' = k ∧ o' = w.1 k + 1 then n else w.2.2.2.1 k' o'), w.2.2.2.2.1 + 1, w.2.2.2.2.2 + n)
theorem wC_sI (w : WW) (k o j : Nat) (x : Int32) (k' : Nat) : wC (sI w k o j x) k' = wC w k' := rfl
theorem wI_sI (w : WW) (k o j : Nat) (x : Int32) (k' o' j' : Nat) : wI (sI w k o j x) k' o' j' = if k' = k ∧ o' = o ∧ j' = j then x else wI w k' o' j' := rfl
theorem wR_sI (w : WW) (k o j : Nat) (x : Int32) (k' o' j' : Nat) : wR (sI w k o j x) k' o' j' = wR w k' o' j' := rfl
theorem wL_sI (w : WW) (k o j : Nat) (x : Int32) (k' o' : Nat) : wL (sI w k o j x) k' o' = wL w k' o' := rfl
theorem wn_sI (w : WW) (k o j : Nat) (x : Int32) : wn (sI w k o j x) = wn w := rfl
theorem wz_sI (w : WW) (k o j : Nat) (x : Int32) : wz (sI w k o j x) = wz w := rfl
theorem wC_sR (w : WW) (k o j r : Nat) (k' : Nat) : wC (sR w k o j r) k' = wC w k' := rfl
theorem wI_sR (w : WW) (k o j r : Nat) (k' o' j' : Nat) : wI (sR w k o j r) k' o' j' = wI w k' o' j' := rfl
theorem wR_sR (w : WW) (k o j r : Nat) (k' o' j' : Nat) : wR (sR w k o j r) k' o' j' = if k' = k ∧ o' = o ∧ j' = j then r else wR w k' o' j' := rfl
theorem wL_sR (w : WW) (k o j r : Nat) (k' o' : Nat) : wL (sR w k o j r) k' o' = wL w k' o' := rfl
theorem wn_sR (w : WW) (k o j r : Nat) : wn (sR w k o j r) = wn w := rfl
theorem wz_sR (w : WW) (k o j r : Nat) : wz (sR w k o j r) = wz w := rfl
theorem wC_nO (w : WW) (k n k' : Nat) : wC (nO w k n) k' = if k' = k then wC w k + 1 else wC w k' := rfl
theorem wI_nO (w : WW) (k n k' o' j' : Nat) : wI (nO w k n) k' o' j' = wI w k' o' j' := rfl
theorem wR_nO (w : WW) (k n k' o' j' : Nat) : wR (nO w k n) k' o' j' = wR w k' o' j' := rfl
theorem wL_nO (w : WW) (k n k' o' : Nat) : wL (nO w k n) k' o' = wL w k' o' := rfl
theorem wn_nO (w : WW) (k n : Nat) : wn (nO w k n) = wn w + 1 := rfl
theorem wz_nO (w : WW) (k n : Nat) : wz (nO w k n) = wz w + n := rfl
theorem wC_nA (w : WW) (k n k' : Nat) : wC (nA w k n) k' = if k' = k then wC w k + 1 else wC w k' := rfl
theorem wI_nA (w : WW) (k n k' o' j' : Nat) : wI (nA w k n) k' o' j' = wI w k' o' j' := rfl
theorem wR_nA (w : WW) (k n k' o' j' : Nat) : wR (nA w k n) k' o' j' = wR w k' o' j' := rfl
theorem wL_nA (w : WW) (k n k' o' : Nat) : wL (nA w k n) k' o' = if k' = k ∧ o' = wC w k + 1 then n else wL w k' o' := rfl
theorem wn_nA (w : WW) (k n : Nat) : wn (nA w k n) = wn w + 1 := rfl
theorem wz_nA (w : WW) (k n : Nat) : wz (nA w k n) = wz w + n := rfl
/-! what the values and cells are on the machine -/
def rv (ad : AD) (q : Nat × Nat) : Value := if q.2 = 0 then .null else .ref (ad q.1 q.2)
def vv (ad : AD) : VV → Value
  | .inl x => .int x
  | .inr q => rv ad q
def inR (w : WW) (k o : Nat) : Prop := 1 ≤ o ∧ o ≤ wC w k
def okV (w : WW) : VV → Prop
  | .inl _ => True
  | .inr q => q.2 ≤ wC w q.1
def fv (ad : AD) (w : WW) (k o j : Nat) : Value := match fty k j with
  | 0 => .int (wI w k o j)
  | 1 => .int (wI w k o j)
  | k' + 2 => rv ad (k', wR w k o j)
def av (ad : AD) (w : WW) (k o j : Nat) : Value := match aelem k with
  | 0 => .int (wI w k o j)
  | 1 => .int (wI w k o j)
  | k' + 2 => rv ad (k', wR w k o j)
def aty (k : Nat) : FieldType := match aelem k with
  | 0 => .int
  | 1 => .boolean
  | k' + 2 => .object (knm k')
def Rel (s : State) (D : va_G) (b0 : Nat) (ad : AD) (w : WW) (H : Heap) : Prop :=
  (∀ (k o : Nat) (C : String) (T : u_T) (N : Nat), vwCl[k]? = some (C, T, N) → inR w k o → t_OB (ad k o) (D.1 k) N (D.2 k) H (fv ad w k o)) ∧
  (∀ k o : Nat, 100 ≤ k → inR w k o → ∃ cA : ClassId, ArrOfT s cA (aty k) ∧ va_RA s cA (aty k) ∧ H[ad k o]? = some (arrV cA (wL w k o) (av ad w k o))) ∧
  (∀ k o k' o' : Nat, k ≠ 99 → k' ≠ 99 → inR w k o → inR w k' o' → ad k o = ad k' o' → k = k' ∧ o = o') ∧
  (∀ k o : Nat, k ≠ 99 → inR w k o → b0 ≤ ad k o ∧ ad k o < H.size) ∧
  (∀ k o j k' : Nat, k < 99 → fty k j = k' + 2 → inR w k o → wR w k o j ≤ wC w k') ∧
  (∀ k o j k' : Nat, 100 ≤ k → aelem k = k' + 2 → inR w k o → wR w k o j ≤ wC w k') ∧
  (∀ k o j : Nat, wC w k < o → wI w k o j = 0 ∧ wR w k o j = 0) ∧
  (∀ o : Nat, inR w 99 o → ad 99 o < b0 ∧ va_X (ad 99 o) (wL w 99 o) (wI w 99 o) s H)
def EX (w : WW) (ad ad' : AD) : Prop := ∀ k o : Nat, inR w k o → ad' k o = ad k o
theorem EX.rf {w : WW} {ad : AD} : EX w ad ad := fun _ _ _ => rfl
theorem vv_ext {w : WW} {ad ad' : AD} (h : EX w ad ad') {v : VV} (hv : okV w v) : vv ad' v = vv ad v := by
  cases v with
  | inl x => rfl
  | inr q =>
    show rv ad' q = rv ad q
    unfold rv
    by_cases h0 : q.2 = 0
    · rw [if_pos h0, if_pos h0]
    · rw [if_neg h0, if_neg h0, h q.1 q.2 ⟨Nat.pos_of_ne_zero h0, hv⟩]
theorem vv_cat (ad : AD) (v : VV) : (vv ad v).category = 1 := by
  cases v with
  | inl x => rfl
  | inr q =>
    show (rv ad q).category = 1
    unfold rv
    by_cases h0 : q.2 = 0
    · rw [if_pos h0]; rfl
    · rw [if_neg h0]; rfl
theorem rv_nz {ad : AD} {k o : Nat} (h : o ≠ 0) : rv ad (k, o) = .ref (ad k o) := if_neg h
theorem rv_z {ad : AD} {k : Nat} : rv ad (k, 0) = .null := rfl
theorem okV.mono {w w' : WW} (h : ∀ k, wC w k ≤ wC w' k) {v : VV} (hv : okV w v) : okV w' v := by
  cases v with
  | inl x => trivial
  | inr q => exact Nat.le_trans hv (h q.1)
theorem Rel.moved {s U : State} (hvm : s.vm.Alike U.vm) {D : va_G} {b0 : Nat} {ad : AD} {w : WW} {H : Heap} (h : Rel s D b0 ad w H) : Rel U D b0 ad w H := by
  obtain ⟨h1, h2, h3, h4, h5, h6, h7, h8⟩ := h
  refine ⟨h1, fun k o hk ho => ?_, h3, h4, h5, h6, h7, fun o ho => ⟨(h8 o ho).1, (h8 o ho).2.moved hvm⟩⟩
  obtain ⟨cA, a1, a2, a3⟩ := h2 k o hk ho
  exact ⟨cA, arrOfT_moved hvm a1, a2.moved hvm, a3⟩
/-! the locals -/
def prs (ad : AD) (ls : List (Option VV)) : List (Nat × Value) := (List.range ls.length).filterMap (fun i => match ls[i]? with
  | some (some v) => some (i, vv ad v)
  | _ => none)
theorem prs_of {ad : AD} {ls : List (Option VV)} {i : Nat} {v : VV} (h : ls[i]? = some (some v)) : (i, vv ad v) ∈ prs ad ls :=
  List.mem_filterMap.mpr ⟨i, List.mem_range.mpr (List.getElem?_eq_some_iff.mp h).1, by rw [h]⟩
theorem prs_to {ad : AD} {ls : List (Option VV)} {q : Nat × Value} (h : q ∈ prs ad ls) : ∃ v, ls[q.1]? = some (some v) ∧ q.2 = vv ad v := by
  obtain ⟨i, hi, he⟩ := List.mem_filterMap.mp h
  split at he
  · rename_i v hv
    cases he
    exact ⟨v, hv, rfl⟩
  · cases he
def LR (ad : AD) (ls : List (Option VV)) (rl : Array Slot) (nL : Nat) : Prop := ls.length = nL ∧ lv_has rl nL (prs ad ls)
theorem LR.get {ad : AD} {ls : List (Option VV)} {rl : Array Slot} {nL i : Nat} {v : VV} (h : LR ad ls rl nL) (hl : ls[i]? = some (some v)) : rl[i]? = some (.val (vv ad v)) := h.2.2.2 _ (prs_of hl)
theorem LR.of {ad' : AD} {ls' : List (Option VV)} {rl : Array Slot} {nL : Nat} {lv : List (Nat × Value)} (hn : ls'.length = nL) (h : lv_has rl nL lv) (hm : ∀ i v, ls'[i]? = some (some v) → (i, vv ad' v) ∈ lv) : LR ad' ls' rl nL := by
  refine ⟨hn, h.1, h.2.1, fun q hq => ?_⟩
  obtain ⟨v, h1, h2⟩ := prs_to hq
  have := h.2.2 _ (hm q.1 v h1)
  rw [h2]
  exact this
theorem LR.set {ad : AD} {ls : List (Option VV)} {rl rl' : Array Slot} {nL i : Nat} {v : VV} (h : LR ad ls rl nL)
    (h' : lv_has rl' nL ((i, vv ad v) :: (prs ad ls).filter (fun q => !(q.1 == i) && !(q.1 + 1 == i && q.2.category == 2)))) : LR ad (ls.set i (some v)) rl' nL := by
  refine LR.of (by rw [List.length_set]; exact h.1) h' (fun j u hj => ?_)
  by_cases hji : j = i
  · subst hji
    have hlt : j < ls.length := by
      have := (List.getElem?_eq_some_iff.mp hj).1
      rwa [List.length_set] at this
    rw [List.getElem?_set_self hlt] at hj
    cases hj
    exact List.mem_cons_self
  · rw [List.getElem?_set_ne (fun q => hji q.symm)] at hj
    refine List.mem_cons_of_mem _ (List.mem_filter.mpr ⟨prs_of hj, ?_⟩)
    simp [hji, vv_cat]
theorem LR.ext {w : WW} {ad ad' : AD} {ls : List (Option VV)} {rl : Array Slot} {nL : Nat} (h : LR ad ls rl nL) (he : EX w ad ad') (hok : ∀ v, some v ∈ ls → okV w v) : LR ad' ls rl nL :=
  LR.of h.1 h.2 (fun i v hi => by rw [vv_ext he (hok v (List.mem_of_getElem? hi))]; exact prs_of hi)
theorem map_ext {w : WW} {ad ad' : AD} (he : EX w ad ad') : ∀ {st : List VV}, (∀ v ∈ st, okV w v) → st.map (vv ad') = st.map (vv ad) := by
  intro st h
  exact List.map_congr_left (fun v hv => vv_ext he (h v hv))
/-! the judgement -/
def OKS (w : WW) (ls : List (Option VV)) (st : List VV) : Prop := (∀ v, some v ∈ ls → okV w v) ∧ ∀ v ∈ st, okV w v
def retI : Option FieldType → Instr
  | none => .return_
  | some .int => .ireturn
  | some .boolean => .ireturn
  | some _ => .areturn
def RT : Option FieldType → Option VV → Prop
  | none, none => True
  | some .int, some (.inl _) => True
  | some .boolean, some (.inl x) => x = 0 ∨ x = 1
  | some (.object _), some (.inr _) => True
  | some (.array _), some (.inr _) => True
  | _, _ => False
/-- the cells of a world, weighed by their kinds -/
def tot (f : Nat → Nat) (w : WW) : Nat := ((List.range 120).map (fun k => f k * wC w k)).sum
theorem sum_up (f c c' : Nat → Nat) (a : Nat) (h : ∀ k, k ≠ a → c' k = c k) (ha : c' a = c a + 1) : ∀ m, ((List.range m).map (fun k => f k * c' k)).sum = ((List.range m).map (fun k => f k * c k)).sum + if a < m then f a else 0 := by
  intro m
  induction m with
  | zero => simp
  | succ m ih =>
    rw [List.range_succ, List.map_append, List.map_append, List.sum_append, List.sum_append, ih]
    simp only [List.map_cons, List.map_nil, List.sum_cons, List.sum_nil]
    by_cases e : m = a
    · subst e
      rw [ha, Nat.mul_add, if_neg (Nat.lt_irrefl _), if_pos (Nat.lt_succ_self _)]
      omega
    · rw [h m e]
      by_cases l : a < m
      · rw [if_pos l, if_pos (by omega)]
        omega
      · rw [if_neg l, if_neg (by omega)]
        omega
/-- a world that grew out of another: nothing is lost, and what was made is counted by its kind -/
def MON (w w' : WW) : Prop := wn w ≤ wn w' ∧ wz w ≤ wz w' ∧ (∀ k, wC w k ≤ wC w' k) ∧ wn w' + tot (fun _ => 1) w = wn w + tot (fun _ => 1) w' ∧ wz w' + tot ksz w ≤ wz w + tot ksz w'
theorem MON.rf {w : WW} : MON w w := ⟨Nat.le_refl _, Nat.le_refl _, fun _ => Nat.le_refl _, rfl, Nat.le_refl _⟩
theorem MON.tr {w w1 w2 : WW} (a : MON w w1) (b : MON w1 w2) : MON w w2 := by
  obtain ⟨a1, a2, a3, a4, a5⟩ := a
  obtain ⟨b1, b2, b3, b4, b5⟩ := b
  exact ⟨Nat.le_trans a1 b1, Nat.le_trans a2 b2, fun k => Nat.le_trans (a3 k) (b3 k), by omega, by omega⟩
def VK (D : va_G) (s : State) : Prop := va_K D vwCl [] s ∧ ∀ C ∈ aoN, va_AO C s
theorem VK.moved {D : va_G} {u U : State} (hvm : u.vm.Alike U.vm) (h : VK D u) : VK D U := ⟨h.1.moved hvm, fun C hC => (h.2 C hC).moved hvm⟩
def CX (p : Program) (R : Room) (s : State) (m : MethodId) (args : Array Value) (meth : Method) (c : Code) (D : va_G) (b0 : Nat) (own : String) (cc : ByteArray) (nL : Nat) (ret : Option FieldType) (ini : Bool) (d : Nat) : Prop :=
  p.tables.exec = Jvm.exec ∧ c.code = cc ∧ meth.sig.returnType = ret ∧ c.maxLocals = nL ∧ s.vm.findClass own = some m.cls ∧ (∀ w ∈ tbl, w.before args s = true) ∧ meth.locks = false ∧ (ini = true → meth.name = "<init>") ∧ VK D s ∧ d ≤ R.frames ∧ 34 * d ≤ R.locals ∧ b0 ≤ s.heap.size
def KR (p : Program) (l : Launch) (e : Env) (R : Room) (s : State) (m : MethodId) (args : Array Value) (below : List Frame) (meth : Method) (c : Code) (Q : State → Prop) (D : va_G) (b0 c0 s0 : Nat) (w0 : WW) (ad0 : AD) (cc : ByteArray) (ret : Option FieldType) (r : Option VV) (w' : WW) : Prop :=
  wn w' ≤ R.cells + c0 ∧ wz w' ≤ R.slots + s0 ∧ ∀ (H' : Heap) (locs' : List Loc) (ad' : AD) (pc' : Nat) (rl' : Array Slot) (cells' slots' : Nat), va_S (fun q => b0 ≤ q) s.heap H' locs' → Rel s D b0 ad' w' H' → EX w0 ad0 ad' → (∀ v, r = some v → okV w' v) → RT ret r → decode cc pc' = .ok (retI ret, 1) → cells' + c0 = wn w' → slots' + s0 = wz w' →
    W p l e R s m args below meth c H' locs' cells' slots' Q (F0 m pc' rl' (r.toList.map (vv ad')))
def ST (s : State) (D : va_G) (b0 c0 s0 : Nat) (w0 : WW) (ad0 : AD) (nL : Nat) (ls : List (Option VV)) (st : List VV) (w : WW) (H : Heap) (locs : List Loc) (cells slots : Nat) (ad : AD) (rl : Array Slot) : Prop :=
  va_S (fun q => b0 ≤ q) s.heap H locs ∧ Rel s D b0 ad w H ∧ LR ad ls rl nL ∧ OKS w ls st ∧ (∀ k, wC w0 k ≤ wC w k) ∧ EX w0 ad0 ad ∧ cells + c0 = wn w ∧ slots + s0 = wz w
def XS (own : String) (cc : ByteArray) (nL : Nat) (ret : Option FieldType) (ini : Bool) (d pc : Nat) (ls : List (Option VV)) (st : List VV) (w : WW) (r : Option VV) (w' : WW) : Prop :=
  (MON w w' ∧ RT ret r) ∧ ∀ (p : Program) (l : Launch) (e : Env) (R : Room) (s : State) (m : MethodId) (args : Array Value) (below : List Frame) (meth : Method) (c : Code) (Q : State → Prop) (D : va_G) (b0 c0 s0 : Nat) (w0 : WW) (ad0 : AD),
    CX p R s m args meth c D b0 own cc nL ret ini d → KR p l e R s m args below meth c Q D b0 c0 s0 w0 ad0 cc ret r w' → ∀ (H : Heap) (locs : List Loc) (cells slots : Nat) (ad : AD) (rl : Array Slot), ST s D b0 c0 s0 w0 ad0 nL ls st w H locs cells slots ad rl →
      W p l e R s m args below meth c H locs cells slots Q (F0 m pc rl (st.map (vv ad)))
/-- from this place the method ends, with an answer and a world that have Q -/
def XE (own : String) (cc : ByteArray) (nL : Nat) (ret : Option FieldType) (ini : Bool) (d pc : Nat) (ls : List (Option VV)) (st : List VV) (w : WW) (Q : Option VV → WW → Prop) : Prop := ∃ (r : Option VV) (w' : WW), Q r w' ∧ XS own cc nL ret ini d pc ls st w r w'
section STL
variable {s : State} {D : va_G} {b0 c0 s0 : Nat} {w0 : WW} {ad0 : AD} {nL : Nat} {ls : List (Option VV)} {st : List VV} {w : WW} {H : Heap} {locs : List Loc} {cells slots : Nat} {ad : AD} {rl : Array Slot}
theorem ST.stk (S : ST s D b0 c0 s0 w0 ad0 nL ls st w H locs cells slots ad rl) {st' : List VV} (h : ∀ v ∈ st', okV w v) : ST s D b0 c0 s0 w0 ad0 nL ls st' w H locs cells slots ad rl :=
  ⟨S.1, S.2.1, S.2.2.1, ⟨S.2.2.2.1.1, h⟩, S.2.2.2.2⟩
theorem ST.ok (S : ST s D b0 c0 s0 w0 ad0 nL ls st w H locs cells slots ad rl) {v : VV} (h : v ∈ st) : okV w v := S.2.2.2.1.2 v h
theorem ST.push (S : ST s D b0 c0 s0 w0 ad0 nL ls st w H locs cells slots ad rl) {v : VV} (h : okV w v) : ST s D b0 c0 s0 w0 ad0 nL ls (v :: st) w H locs cells slots ad rl :=
  S.stk (fun u hu => by
    rcases List.mem_cons.mp hu with rfl | hu
    · exact h
    · exact S.ok hu)
theorem ST.pop {v : VV} (S : ST s D b0 c0 s0 w0 ad0 nL ls (v :: st) w H locs cells slots ad rl) : ST s D b0 c0 s0 w0 ad0 nL ls st w H locs cells slots ad rl :=
  S.stk (fun u hu => S.ok (List.mem_cons_of_mem _ hu))
theorem ST.top {v : VV} (S : ST s D b0 c0 s0 w0 ad0 nL ls (v :: st) w H locs cells slots ad rl) : okV w v := S.ok List.mem_cons_self
theorem ST.loc (S : ST s D b0 c0 s0 w0 ad0 nL ls st w H locs cells slots ad rl) {i : Nat} {v : VV} (h : ls[i]? = some (some v)) : okV w v := S.2.2.2.1.1 v (List.mem_of_getElem? h)
theorem ST.setl (S : ST s D b0 c0 s0 w0 ad0 nL ls st w H locs cells slots ad rl) {i : Nat} {v : VV} {rl' : Array Slot} (hv : okV w v) (h' : lv_has rl' nL ((i, vv ad v) :: (prs ad ls).filter (fun q => !(q.1 == i) && !(q.1 + 1 == i && q.2.category == 2)))) :
    ST s D b0 c0 s0 w0 ad0 nL (ls.set i (some v)) st w H locs cells slots ad rl' := by
  refine ⟨S.1, S.2.1, S.2.2.1.set h', ⟨fun u hu => ?_, S.2.2.2.1.2⟩, S.2.2.2.2⟩
  rcases List.mem_or_eq_of_mem_set hu with h | h
  · exact S.2.2.2.1.1 u h
  · cases h; exact hv
end STL
section XR
variable {own : String} {cc : ByteArray} {nL : Nat} {ret : Option FieldType} {ini : Bool} {d pc : Nat} {ls : List (Option VV)} {st : List VV} {w : WW} {Q : Option VV → WW → Prop}
theorem XE.mono {Q' : Option VV → WW → Prop} (h : XE own cc nL ret ini d pc ls st w Q') (hQ : ∀ r w', Q' r w' → Q r w') : XE own cc nL ret ini d pc ls st w Q := by
  obtain ⟨r, w', q, x⟩ := h
  exact ⟨r, w', hQ r w' q, x⟩
theorem XE.retn {r : Option VV} (hd : decode cc pc = .ok (retI ret, 1)) (hr : RT ret r) (hst : st = r.toList) (q : Q r w) : XE own cc nL ret ini d pc ls st w Q := by
  subst hst
  refine ⟨r, w, q, ⟨MON.rf, hr⟩, ?_⟩
  intro p l e R s m args below meth c Q' D b0 c0 s0 w0 ad0 C K H locs cells slots ad rl S
  exact K.2.2 H locs ad pc rl cells slots S.1 S.2.1 S.2.2.2.2.2.1 (fun v hv => S.ok (by rw [hv]; exact List.mem_singleton.mpr rfl)) hr hd S.2.2.2.2.2.2.1 S.2.2.2.2.2.2.2
theorem XE.iconst {n : Int} {x : Int32} (hd : decode cc pc = .ok (.iconst n, 1)) (hv : Int32.ofInt n = x) (k : XE own cc nL ret ini d (pc + 1) ls (.inl x :: st) w Q) : XE own cc nL ret ini d pc ls (st) w Q := by
  obtain ⟨r, w', q, hm, f⟩ := k
  refine ⟨r, w', q, hm, ?_⟩
  intro p l e R s m args below meth c Q' D b0 c0 s0 w0 ad0 C K H locs cells slots ad rl S
  exact lv_iconst C.1 C.2.1 hd hv (f p l e R s m args below meth c Q' D b0 c0 s0 w0 ad0 C K H locs cells slots ad rl (S.push (v := .inl x) trivial))
theorem XE.bipush {n : Int} {x : Int32} (hd : decode cc pc = .ok (.bipush n, 2)) (hv : (Int8.ofInt n).toInt32 = x) (k : XE own cc nL ret ini d (pc + 2) ls (.inl x :: st) w Q) : XE own cc nL ret ini d pc ls (st) w Q := by
  obtain ⟨r, w', q, hm, f⟩ := k
  refine ⟨r, w', q, hm, ?_⟩
  intro p l e R s m args below meth c Q' D b0 c0 s0 w0 ad0 C K H locs cells slots ad rl S
  exact lv_bipush C.1 C.2.1 hd hv (f p l e R s m args below meth c Q' D b0 c0 s0 w0 ad0 C K H locs cells slots ad rl (S.push (v := .inl x) trivial))
theorem XE.sipush {n : Int} {x : Int32} (hd : decode cc pc = .ok (.sipush n, 3)) (hv : (Int16.ofInt n).toInt32 = x) (k : XE own cc nL ret ini d (pc + 3) ls (.inl x :: st) w Q) : XE own cc nL ret ini d pc ls (st) w Q := by
  obtain ⟨r, w', q, hm, f⟩ := k
  refine ⟨r, w', q, hm, ?_⟩
  intro p l e R s m args below meth c Q' D b0 c0 s0 w0 ad0 C K H locs cells slots ad rl S
  exact lv_sipush C.1 C.2.1 hd hv (f p l e R s m args below meth c Q' D b0 c0 s0 w0 ad0 C K H locs cells slots ad rl (S.push (v := .inl x) trivial))
theorem XE.ldc {n : Nat} {x : Int32} (hd : decode cc pc = .ok (.ldc n, 2)) (hv : Cond.constant own n x ∈ tbl) (k : XE own cc nL ret ini d (pc + 2) ls (.inl x :: st) w Q) : XE own cc nL ret ini d pc ls (st) w Q := by
  obtain ⟨r, w', q, hm, f⟩ := k
  refine ⟨r, w', q, hm, ?_⟩
  intro p l e R s m args below meth c Q' D b0 c0 s0 w0 ad0 C K H locs cells slots ad rl S
  exact lv_ldc C.1 C.2.1 C.2.2.2.2.1 (C.2.2.2.2.2.1 _ hv) hd (f p l e R s m args below meth c Q' D b0 c0 s0 w0 ad0 C K H locs cells slots ad rl (S.push (v := .inl x) trivial))
theorem XE.null  (hd : decode cc pc = .ok (.aconst_null, 1)) (k : XE own cc nL ret ini d (pc + 1) ls (.inr (0, 0) :: st) w Q) : XE own cc nL ret ini d pc ls (st) w Q := by
  obtain ⟨r, w', q, hm, f⟩ := k
  refine ⟨r, w', q, hm, ?_⟩
  intro p l e R s m args below meth c Q' D b0 c0 s0 w0 ad0 C K H locs cells slots ad rl S
  exact lv_null C.1 C.2.1 hd (f p l e R s m args below meth c Q' D b0 c0 s0 w0 ad0 C K H locs cells slots ad rl (S.push (v := .inr (0, 0)) (Nat.zero_le _)))
theorem XE.iload_n {n : Fin 4} {x : Int32} (hd : decode cc pc = .ok (.iload_n n, 1)) (hl : ls[n.val]? = some (some (.inl x))) (k : XE own cc nL ret ini d (pc + 1) ls (.inl x :: st) w Q) : XE own cc nL ret ini d pc ls (st) w Q := by
  obtain ⟨r, w', q, hm, f⟩ := k
  refine ⟨r, w', q, hm, ?_⟩
  intro p l e R s m args below meth c Q' D b0 c0 s0 w0 ad0 C K H locs cells slots ad rl S
  exact lv_iload_n C.1 C.2.1 hd rfl (S.2.2.1.get hl) (f p l e R s m args below meth c Q' D b0 c0 s0 w0 ad0 C K H locs cells slots ad rl (S.push (v := .inl x) trivial))
theorem XE.iload {n : Nat} {x : Int32} (hd : decode cc pc = .ok (.iload n, 2)) (hl : ls[n]? = some (some (.inl x))) (k : XE own cc nL ret ini d (pc + 2) ls (.inl x :: st) w Q) : XE own cc nL ret ini d pc ls (st) w Q := by
  obtain ⟨r, w', q, hm, f⟩ := k
  refine ⟨r, w', q, hm, ?_⟩
  intro p l e R s m args below meth c Q' D b0 c0 s0 w0 ad0 C K H locs cells slots ad rl S
  exact lv_iload C.1 C.2.1 hd (S.2.2.1.get hl) (f p l e R s m args below meth c Q' D b0 c0 s0 w0 ad0 C K H locs cells slots ad rl (S.push (v := .inl x) trivial))
theorem XE.aload_n {n : Fin 4} {q : Nat × Nat} (hd : decode cc pc = .ok (.aload_n n, 1)) (hl : ls[n.val]? = some (some (.inr q))) (k : XE own cc nL ret ini d (pc + 1) ls (.inr q :: st) w Q) : XE own cc nL ret ini d pc ls st w Q := by
  obtain ⟨r, w', hq, hm, f⟩ := k
  refine ⟨r, w', hq, hm, ?_⟩
  intro p l e R s m args below meth c Q' D b0 c0 s0 w0 ad0 C K H locs cells slots ad rl S
  have g := S.2.2.1.get hl
  have f2 := f p l e R s m args below meth c Q' D b0 c0 s0 w0 ad0 C K H locs cells slots ad rl (S.push (S.loc hl))
  obtain ⟨k1, o⟩ := q
  cases o with
  | zero => exact lv_aload_nN C.1 C.2.1 hd rfl g f2
  | succ o => exact lv_aload_n (x := ad k1 (o + 1)) C.1 C.2.1 hd rfl g f2
theorem XE.aload {n : Nat} {q : Nat × Nat} (hd : decode cc pc = .ok (.aload n, 2)) (hl : ls[n]? = some (some (.inr q))) (k : XE own cc nL ret ini d (pc + 2) ls (.inr q :: st) w Q) : XE own cc nL ret ini d pc ls st w Q := by
  obtain ⟨r, w', hq, hm, f⟩ := k
  refine ⟨r, w', hq, hm, ?_⟩
  intro p l e R s m args below meth c Q' D b0 c0 s0 w0 ad0 C K H locs cells slots ad rl S
  have g := S.2.2.1.get hl
  have f2 := f p l e R s m args below meth c Q' D b0 c0 s0 w0 ad0 C K H locs cells slots ad rl (S.push (S.loc hl))
  obtain ⟨k1, o⟩ := q
  cases o with
  | zero => exact lv_aloadN C.1 C.2.1 hd g f2
  | succ o => exact lv_aload (x := ad k1 (o + 1)) C.1 C.2.1 hd g f2
theorem XE.istore_n {n : Fin 4} {x : Int32} (hd : decode cc pc = .ok (.istore_n n, 1)) (hn : n.val < nL) (k : XE own cc nL ret ini d (pc + 1) (ls.set n.val (some (.inl x))) st w Q) : XE own cc nL ret ini d pc ls (.inl x :: st) w Q := by
  obtain ⟨r, w', hq, hm, f⟩ := k
  refine ⟨r, w', hq, hm, ?_⟩
  intro p l e R s m args below meth c Q' D b0 c0 s0 w0 ad0 C K H locs cells slots ad rl S
  exact lv_istore_n C.1 C.2.1 hd rfl S.2.2.1.2 hn rfl (fun rl' h' => f p l e R s m args below meth c Q' D b0 c0 s0 w0 ad0 C K H locs cells slots ad rl' (S.pop.setl (v := .inl x) trivial h'))
theorem XE.istore {n : Nat} {x : Int32} (hd : decode cc pc = .ok (.istore n, 2)) (hn : n < nL) (k : XE own cc nL ret ini d (pc + 2) (ls.set n (some (.inl x))) st w Q) : XE own cc nL ret ini d pc ls (.inl x :: st) w Q := by
  obtain ⟨r, w', hq, hm, f⟩ := k
  refine ⟨r, w', hq, hm, ?_⟩
  intro p l e R s m args below meth c Q' D b0 c0 s0 w0 ad0 C K H locs cells slots ad rl S
  exact lv_istore C.1 C.2.1 hd S.2.2.1.2 hn rfl (fun rl' h' => f p l e R s m args below meth c Q' D b0 c0 s0 w0 ad0 C K H locs cells slots ad rl' (S.pop.setl (v := .inl x) trivial h'))
theorem XE.astore_n {n : Fin 4} {q : Nat × Nat} (hd : decode cc pc = .ok (.astore_n n, 1)) (hn : n.val < nL) (k : XE own cc nL ret ini d (pc + 1) (ls.set n.val (some (.inr q))) st w Q) : XE own cc nL ret ini d pc ls (.inr q :: st) w Q := by
  obtain ⟨r, w', hq, hm, f⟩ := k
  refine ⟨r, w', hq, hm, ?_⟩
  intro p l e R s m args below meth c Q' D b0 c0 s0 w0 ad0 C K H locs cells slots ad rl S
  have f2 := fun rl' h' => f p l e R s m args below meth c Q' D b0 c0 s0 w0 ad0 C K H locs cells slots ad rl' (S.pop.setl (i := n.val) (v := .inr q) S.top h')
  obtain ⟨k1, o⟩ := q
  cases o with
  | zero => exact lv_astore_nN C.1 C.2.1 hd rfl S.2.2.1.2 hn rfl f2
  | succ o => exact lv_astore_n (x := ad k1 (o + 1)) C.1 C.2.1 hd rfl S.2.2.1.2 hn rfl f2
theorem XE.astore {n : Nat} {q : Nat × Nat} (hd : decode cc pc = .ok (.astore n, 2)) (hn : n < nL) (k : XE own cc nL ret ini d (pc + 2) (ls.set n (some (.inr q))) st w Q) : XE own cc nL ret ini d pc ls (.inr q :: st) w Q := by
  obtain ⟨r, w', hq, hm, f⟩ := k
  refine ⟨r, w', hq, hm, ?_⟩
  intro p l e R s m args below meth c Q' D b0 c0 s0 w0 ad0 C K H locs cells slots ad rl S
  have f2 := fun rl' h' => f p l e R s m args below meth c Q' D b0 c0 s0 w0 ad0 C K H locs cells slots ad rl' (S.pop.setl (i := n) (v := .inr q) S.top h')
  obtain ⟨k1, o⟩ := q
  cases o with
  | zero => exact lv_astoreN C.1 C.2.1 hd S.2.2.1.2 hn rfl f2
  | succ o => exact lv_astore (x := ad k1 (o + 1)) C.1 C.2.1 hd S.2.2.1.2 hn rfl f2
theorem XE.iinc {i : Nat} {n : Int} {x y : Int32} (hd : decode cc pc = .ok (.iinc i n, 3)) (hl : ls[i]? = some (some (.inl x))) (hv : x + Int32.ofInt n = y) (k : XE own cc nL ret ini d (pc + 3) (ls.set i (some (.inl y))) st w Q) : XE own cc nL ret ini d pc ls st w Q := by
  obtain ⟨r, w', hq, hm, f⟩ := k
  refine ⟨r, w', hq, hm, ?_⟩
  intro p l e R s m args below meth c Q' D b0 c0 s0 w0 ad0 C K H locs cells slots ad rl S
  obtain ⟨j, hj⟩ := List.getElem?_of_mem (prs_of (ad := ad) hl)
  have hn : i < nL := by rw [← S.2.2.1.1]; exact (List.getElem?_eq_some_iff.mp hl).1
  exact lv_iinc C.1 C.2.1 hd S.2.2.1.2 hj hv hn rfl (fun rl' h' => f p l e R s m args below meth c Q' D b0 c0 s0 w0 ad0 C K H locs cells slots ad rl' (S.setl (v := .inl y) trivial h'))
theorem XE.iadd {x y z : Int32} (hd : decode cc pc = .ok (.iadd, 1)) (hv : x + y = z) (k : XE own cc nL ret ini d (pc + 1) ls (.inl z :: st) w Q) : XE own cc nL ret ini d pc ls (.inl y :: .inl x :: st) w Q := by
  obtain ⟨r, w', q, hm, f⟩ := k
  refine ⟨r, w', q, hm, ?_⟩
  intro p l e R s m args below meth c Q' D b0 c0 s0 w0 ad0 C K H locs cells slots ad rl S
  subst hv
  exact lv_iadd C.1 C.2.1 hd (f p l e R s m args below meth c Q' D b0 c0 s0 w0 ad0 C K H locs cells slots ad rl (S.pop.pop.push (v := .inl _) trivial))
theorem XE.isub {x y z : Int32} (hd : decode cc pc = .ok (.isub, 1)) (hv : x - y = z) (k : XE own cc nL ret ini d (pc + 1) ls (.inl z :: st) w Q) : XE own cc nL ret ini d pc ls (.inl y :: .inl x :: st) w Q := by
  obtain ⟨r, w', q, hm, f⟩ := k
  refine ⟨r, w', q, hm, ?_⟩
  intro p l e R s m args below meth c Q' D b0 c0 s0 w0 ad0 C K H locs cells slots ad rl S
  subst hv
  exact lv_isub C.1 C.2.1 hd (f p l e R s m args below meth c Q' D b0 c0 s0 w0 ad0 C K H locs cells slots ad rl (S.pop.pop.push (v := .inl _) trivial))
theorem XE.imul {x y z : Int32} (hd : decode cc pc = .ok (.imul, 1)) (hv : x * y = z) (k : XE own cc nL ret ini d (pc + 1) ls (.inl z :: st) w Q) : XE own cc nL ret ini d pc ls (.inl y :: .inl x :: st) w Q := by
  obtain ⟨r, w', q, hm, f⟩ := k
  refine ⟨r, w', q, hm, ?_⟩
  intro p l e R s m args below meth c Q' D b0 c0 s0 w0 ad0 C K H locs cells slots ad rl S
  subst hv
  exact lv_imul C.1 C.2.1 hd (f p l e R s m args below meth c Q' D b0 c0 s0 w0 ad0 C K H locs cells slots ad rl (S.pop.pop.push (v := .inl _) trivial))
theorem XE.iand {x y z : Int32} (hd : decode cc pc = .ok (.iand, 1)) (hv : x &&& y = z) (k : XE own cc nL ret ini d (pc + 1) ls (.inl z :: st) w Q) : XE own cc nL ret ini d pc ls (.inl y :: .inl x :: st) w Q := by
  obtain ⟨r, w', q, hm, f⟩ := k
  refine ⟨r, w', q, hm, ?_⟩
  intro p l e R s m args below meth c Q' D b0 c0 s0 w0 ad0 C K H locs cells slots ad rl S
  subst hv
  exact lv_iand C.1 C.2.1 hd (f p l e R s m args below meth c Q' D b0 c0 s0 w0 ad0 C K H locs cells slots ad rl (S.pop.pop.push (v := .inl _) trivial))
theorem XE.ior {x y z : Int32} (hd : decode cc pc = .ok (.ior, 1)) (hv : x ||| y = z) (k : XE own cc nL ret ini d (pc + 1) ls (.inl z :: st) w Q) : XE own cc nL ret ini d pc ls (.inl y :: .inl x :: st) w Q := by
  obtain ⟨r, w', q, hm, f⟩ := k
  refine ⟨r, w', q, hm, ?_⟩
  intro p l e R s m args below meth c Q' D b0 c0 s0 w0 ad0 C K H locs cells slots ad rl S
  subst hv
  exact lv_ior C.1 C.2.1 hd (f p l e R s m args below meth c Q' D b0 c0 s0 w0 ad0 C K H locs cells slots ad rl (S.pop.pop.push (v := .inl _) trivial))
theorem XE.ixor {x y z : Int32} (hd : decode cc pc = .ok (.ixor, 1)) (hv : x ^^^ y = z) (k : XE own cc nL ret ini d (pc + 1) ls (.inl z :: st) w Q) : XE own cc nL ret ini d pc ls (.inl y :: .inl x :: st) w Q := by
  obtain ⟨r, w', q, hm, f⟩ := k
  refine ⟨r, w', q, hm, ?_⟩
  intro p l e R s m args below meth c Q' D b0 c0 s0 w0 ad0 C K H locs cells slots ad rl S
  subst hv
  exact lv_ixor C.1 C.2.1 hd (f p l e R s m args below meth c Q' D b0 c0 s0 w0 ad0 C K H locs cells slots ad rl (S.pop.pop.push (v := .inl _) trivial))
theorem XE.ineg {x z : Int32} (hd : decode cc pc = .ok (.ineg, 1)) (hv : -x = z) (k : XE own cc nL ret ini d (pc + 1) ls (.inl z :: st) w Q) : XE own cc nL ret ini d pc ls (.inl x :: st) w Q := by
  obtain ⟨r, w', q, hm, f⟩ := k
  refine ⟨r, w', q, hm, ?_⟩
  intro p l e R s m args below meth c Q' D b0 c0 s0 w0 ad0 C K H locs cells slots ad rl S
  subst hv
  exact lv_ineg C.1 C.2.1 hd (f p l e R s m args below meth c Q' D b0 c0 s0 w0 ad0 C K H locs cells slots ad rl (S.pop.push (v := .inl _) trivial))
theorem XE.dup {v : VV} (hd : decode cc pc = .ok (.dup, 1)) (k : XE own cc nL ret ini d (pc + 1) ls (v :: v :: st) w Q) : XE own cc nL ret ini d pc ls (v :: st) w Q := by
  obtain ⟨r, w', q, hm, f⟩ := k
  refine ⟨r, w', q, hm, ?_⟩
  intro p l e R s m args below meth c Q' D b0 c0 s0 w0 ad0 C K H locs cells slots ad rl S
  exact lv_dup C.1 C.2.1 hd (vv_cat ad v) (f p l e R s m args below meth c Q' D b0 c0 s0 w0 ad0 C K H locs cells slots ad rl (S.push S.top))
theorem XE.pop {v : VV} (hd : decode cc pc = .ok (.pop, 1)) (k : XE own cc nL ret ini d (pc + 1) ls st w Q) : XE own cc nL ret ini d pc ls (v :: st) w Q := by
  obtain ⟨r, w', q, hm, f⟩ := k
  refine ⟨r, w', q, hm, ?_⟩
  intro p l e R s m args below meth c Q' D b0 c0 s0 w0 ad0 C K H locs cells slots ad rl S
  exact lv_pop C.1 C.2.1 hd (vv_cat ad v) (f p l e R s m args below meth c Q' D b0 c0 s0 w0 ad0 C K H locs cells slots ad rl S.pop)
theorem XE.dup_x1 {a b : VV} (hd : decode cc pc = .ok (.dup_x1, 1)) (k : XE own cc nL ret ini d (pc + 1) ls (a :: b :: a :: st) w Q) : XE own cc nL ret ini d pc ls (a :: b :: st) w Q := by
  obtain ⟨r, w', q, hm, f⟩ := k
  refine ⟨r, w', q, hm, ?_⟩
  intro p l e R s m args below meth c Q' D b0 c0 s0 w0 ad0 C K H locs cells slots ad rl S
  exact lv_dup_x1 C.1 C.2.1 hd (vv_cat ad a) (vv_cat ad b) (f p l e R s m args below meth c Q' D b0 c0 s0 w0 ad0 C K H locs cells slots ad rl (((S.pop.pop.push S.top).push S.pop.top).push S.top))
theorem XE.dup2 {a b : VV} (hd : decode cc pc = .ok (.dup2, 1)) (k : XE own cc nL ret ini d (pc + 1) ls (a :: b :: a :: b :: st) w Q) : XE own cc nL ret ini d pc ls (a :: b :: st) w Q := by
  obtain ⟨r, w', q, hm, f⟩ := k
  refine ⟨r, w', q, hm, ?_⟩
  intro p l e R s m args below meth c Q' D b0 c0 s0 w0 ad0 C K H locs cells slots ad rl S
  exact lv_dup2_11 C.1 C.2.1 hd (vv_cat ad a) (vv_cat ad b) (f p l e R s m args below meth c Q' D b0 c0 s0 w0 ad0 C K H locs cells slots ad rl ((S.push S.pop.top).push S.top))
theorem XE.if_eq {x : Int32} {off : Int} (tgt : Nat) (hd : decode cc pc = .ok (.ifCond .eq off, 3)) (ht : (pc : Int) + off = (tgt : Int)) (kt : x = 0 → XE own cc nL ret ini d tgt ls st w Q) (kf : ¬ x = 0 → XE own cc nL ret ini d (pc + 3) ls st w Q) : XE own cc nL ret ini d pc ls (.inl x :: st) w Q := by
  by_cases hc : x = 0
  · obtain ⟨r, w', q, hm, f⟩ := kt hc
    refine ⟨r, w', q, hm, ?_⟩
    intro p l e R s m args below meth c Q' D b0 c0 s0 w0 ad0 C K H locs cells slots ad rl S
    have f2 := f p l e R s m args below meth c Q' D b0 c0 s0 w0 ad0 C K H locs cells slots ad rl S.pop
    exact lv_if_eq C.1 C.2.1 hd ht (fun z => f2) (fun z => absurd hc z)
  · obtain ⟨r, w', q, hm, f⟩ := kf hc
    refine ⟨r, w', q, hm, ?_⟩
    intro p l e R s m args below meth c Q' D b0 c0 s0 w0 ad0 C K H locs cells slots ad rl S
    have f2 := f p l e R s m args below meth c Q' D b0 c0 s0 w0 ad0 C K H locs cells slots ad rl S.pop
    exact lv_if_eq C.1 C.2.1 hd ht (fun z => absurd z hc) (fun z => f2)
theorem XE.icmp_eq {x y : Int32} {off : Int} (tgt : Nat) (hd : decode cc pc = .ok (.if_icmp .eq off, 3)) (ht : (pc : Int) + off = (tgt : Int)) (kt : x = y → XE own cc nL ret ini d tgt ls st w Q) (kf : ¬ x = y → XE own cc nL ret ini d (pc + 3) ls st w Q) : XE own cc nL ret ini d pc ls (.inl y :: .inl x :: st) w Q := by
  by_cases hc : x = y
  · obtain ⟨r, w', q, hm, f⟩ := kt hc
    refine ⟨r, w', q, hm, ?_⟩
    intro p l e R s m args below meth c Q' D b0 c0 s0 w0 ad0 C K H locs cells slots ad rl S
    have f2 := f p l e R s m args below meth c Q' D b0 c0 s0 w0 ad0 C K H locs cells slots ad rl S.pop.pop
    exact lv_icmp_eq C.1 C.2.1 hd ht (fun z => f2) (fun z => absurd hc z)
  · obtain ⟨r, w', q, hm, f⟩ := kf hc
    refine ⟨r, w', q, hm, ?_⟩
    intro p l e R s m args below meth c Q' D b0 c0 s0 w0 ad0 C K H locs cells slots ad rl S
    have f2 := f p l e R s m args below meth c Q' D b0 c0 s0 w0 ad0 C K H locs cells slots ad rl S.pop.pop
    exact lv_icmp_eq C.1 C.2.1 hd ht (fun z => absurd z hc) (fun z => f2)
theorem XE.if_ne {x : Int32} {off : Int} (tgt : Nat) (hd : decode cc pc = .ok (.ifCond .ne off, 3)) (ht : (pc : Int) + off = (tgt : Int)) (kt : ¬ x = 0 → XE own cc nL ret ini d tgt ls st w Q) (kf : x = 0 → XE own cc nL ret ini d (pc + 3) ls st w Q) : XE own cc nL ret ini d pc ls (.inl x :: st) w Q := by
  by_cases hc : x = 0
  · obtain ⟨r, w', q, hm, f⟩ := kf hc
    refine ⟨r, w', q, hm, ?_⟩
    intro p l e R s m args below meth c Q' D b0 c0 s0 w0 ad0 C K H locs cells slots ad rl S
    have f2 := f p l e R s m args below meth c Q' D b0 c0 s0 w0 ad0 C K H locs cells slots ad rl S.pop
    exact lv_if_ne C.1 C.2.1 hd ht (fun z => absurd hc z) (fun z => f2)
  · obtain ⟨r, w', q, hm, f⟩ := kt hc
    refine ⟨r, w', q, hm, ?_⟩
    intro p l e R s m args below meth c Q' D b0 c0 s0 w0 ad0 C K H locs cells slots ad rl S
    have f2 := f p l e R s m args below meth c Q' D b0 c0 s0 w0 ad0 C K H locs cells slots ad rl S.pop
    exact lv_if_ne C.1 C.2.1 hd ht (fun z => f2) (fun z => absurd z hc)
theorem XE.icmp_ne {x y : Int32} {off : Int} (tgt : Nat) (hd : decode cc pc = .ok (.if_icmp .ne off, 3)) (ht : (pc : Int) + off = (tgt : Int)) (kt : ¬ x = y → XE own cc nL ret ini d tgt ls st w Q) (kf : x = y → XE own cc nL ret ini d (pc + 3) ls st w Q) : XE own cc nL ret ini d pc ls (.inl y :: .inl x :: st) w Q := by
  by_cases hc : x = y
  · obtain ⟨r, w', q, hm, f⟩ := kf hc
    refine ⟨r, w', q, hm, ?_⟩
    intro p l e R s m args below meth c Q' D b0 c0 s0 w0 ad0 C K H locs cells slots ad rl S
    have f2 := f p l e R s m args below meth c Q' D b0 c0 s0 w0 ad0 C K H locs cells slots ad rl S.pop.pop
    exact lv_icmp_ne C.1 C.2.1 hd ht (fun z => absurd hc z) (fun z => f2)
  · obtain ⟨r, w', q, hm, f⟩ := kt hc
    refine ⟨r, w', q, hm, ?_⟩
    intro p l e R s m args below meth c Q' D b0 c0 s0 w0 ad0 C K H locs cells slots ad rl S
    have f2 := f p l e R s m args below meth c Q' D b0 c0 s0 w0 ad0 C K H locs cells slots ad rl S.pop.pop
    exact lv_icmp_ne C.1 C.2.1 hd ht (fun z => f2) (fun z => absurd z hc)
theorem XE.if_lt {x : Int32} {off : Int} (tgt : Nat) (hd : decode cc pc = .ok (.ifCond .lt off, 3)) (ht : (pc : Int) + off = (tgt : Int)) (kt : x < 0 → XE own cc nL ret ini d tgt ls st w Q) (kf : ¬ x < 0 → XE own cc nL ret ini d (pc + 3) ls st w Q) : XE own cc nL ret ini d pc ls (.inl x :: st) w Q := by
  by_cases hc : x < 0
  · obtain ⟨r, w', q, hm, f⟩ := kt hc
    refine ⟨r, w', q, hm, ?_⟩
    intro p l e R s m args below meth c Q' D b0 c0 s0 w0 ad0 C K H locs cells slots ad rl S
    have f2 := f p l e R s m args below meth c Q' D b0 c0 s0 w0 ad0 C K H locs cells slots ad rl S.pop
    exact lv_if_lt C.1 C.2.1 hd ht (fun z => f2) (fun z => absurd hc z)
  · obtain ⟨r, w', q, hm, f⟩ := kf hc
    refine ⟨r, w', q, hm, ?_⟩
    intro p l e R s m args below meth c Q' D b0 c0 s0 w0 ad0 C K H locs cells slots ad rl S
    have f2 := f p l e R s m args below meth c Q' D b0 c0 s0 w0 ad0 C K H locs cells slots ad rl S.pop
    exact lv_if_lt C.1 C.2.1 hd ht (fun z => absurd z hc) (fun z => f2)
theorem XE.icmp_lt {x y : Int32} {off : Int} (tgt : Nat) (hd : decode cc pc = .ok (.if_icmp .lt off, 3)) (ht : (pc : Int) + off = (tgt : Int)) (kt : x < y → XE own cc nL ret ini d tgt ls st w Q) (kf : ¬ x < y → XE own cc nL ret ini d (pc + 3) ls st w Q) : XE own cc nL ret ini d pc ls (.inl y :: .inl x :: st) w Q := by
  by_cases hc : x < y
  · obtain ⟨r, w', q, hm, f⟩ := kt hc
    refine ⟨r, w', q, hm, ?_⟩
    intro p l e R s m args below meth c Q' D b0 c0 s0 w0 ad0 C K H locs cells slots ad rl S
    have f2 := f p l e R s m args below meth c Q' D b0 c0 s0 w0 ad0 C K H locs cells slots ad rl S.pop.pop
    exact lv_icmp_lt C.1 C.2.1 hd ht (fun z => f2) (fun z => absurd hc z)
  · obtain ⟨r, w', q, hm, f⟩ := kf hc
    refine ⟨r, w', q, hm, ?_⟩
    intro p l e R s m args below meth c Q' D b0 c0 s0 w0 ad0 C K H locs cells slots ad rl S
    have f2 := f p l e R s m args below meth c Q' D b0 c0 s0 w0 ad0 C K H locs cells slots ad rl S.pop.pop
    exact lv_icmp_lt C.1 C.2.1 hd ht (fun z => absurd z hc) (fun z => f2)
theorem XE.if_ge {x : Int32} {off : Int} (tgt : Nat) (hd : decode cc pc = .ok (.ifCond .ge off, 3)) (ht : (pc : Int) + off = (tgt : Int)) (kt : 0 ≤ x → XE own cc nL ret ini d tgt ls st w Q) (kf : ¬ 0 ≤ x → XE own cc nL ret ini d (pc + 3) ls st w Q) : XE own cc nL ret ini d pc ls (.inl x :: st) w Q := by
  by_cases hc : 0 ≤ x
  · obtain ⟨r, w', q, hm, f⟩ := kt hc
    refine ⟨r, w', q, hm, ?_⟩
    intro p l e R s m args below meth c Q' D b0 c0 s0 w0 ad0 C K H locs cells slots ad rl S
    have f2 := f p l e R s m args below meth c Q' D b0 c0 s0 w0 ad0 C K H locs cells slots ad rl S.pop
    exact lv_if_ge C.1 C.2.1 hd ht (fun z => f2) (fun z => absurd hc z)
  · obtain ⟨r, w', q, hm, f⟩ := kf hc
    refine ⟨r, w', q, hm, ?_⟩
    intro p l e R s m args below meth c Q' D b0 c0 s0 w0 ad0 C K H locs cells slots ad rl S
    have f2 := f p l e R s m args below meth c Q' D b0 c0 s0 w0 ad0 C K H locs cells slots ad rl S.pop
    exact lv_if_ge C.1 C.2.1 hd ht (fun z => absurd z hc) (fun z => f2)
theorem XE.icmp_ge {x y : Int32} {off : Int} (tgt : Nat) (hd : decode cc pc = .ok (.if_icmp .ge off, 3)) (ht : (pc : Int) + off = (tgt : Int)) (kt : y ≤ x → XE own cc nL ret ini d tgt ls st w Q) (kf : ¬ y ≤ x → XE own cc nL ret ini d (pc + 3) ls st w Q) : XE own cc nL ret ini d pc ls (.inl y :: .inl x :: st) w Q := by
  by_cases hc : y ≤ x
  · obtain ⟨r, w', q, hm, f⟩ := kt hc
    refine ⟨r, w', q, hm, ?_⟩
    intro p l e R s m args below meth c Q' D b0 c0 s0 w0 ad0 C K H locs cells slots ad rl S
    have f2 := f p l e R s m args below meth c Q' D b0 c0 s0 w0 ad0 C K H locs cells slots ad rl S.pop.pop
    exact lv_icmp_ge C.1 C.2.1 hd ht (fun z => f2) (fun z => absurd hc z)
  · obtain ⟨r, w', q, hm, f⟩ := kf hc
    refine ⟨r, w', q, hm, ?_⟩
    intro p l e R s m args below meth c Q' D b0 c0 s0 w0 ad0 C K H locs cells slots ad rl S
    have f2 := f p l e R s m args below meth c Q' D b0 c0 s0 w0 ad0 C K H locs cells slots ad rl S.pop.pop
    exact lv_icmp_ge C.1 C.2.1 hd ht (fun z => absurd z hc) (fun z => f2)
theorem XE.if_gt {x : Int32} {off : Int} (tgt : Nat) (hd : decode cc pc = .ok (.ifCond .gt off, 3)) (ht : (pc : Int) + off = (tgt : Int)) (kt : 0 < x → XE own cc nL ret ini d tgt ls st w Q) (kf : ¬ 0 < x → XE own cc nL ret ini d (pc + 3) ls st w Q) : XE own cc nL ret ini d pc ls (.inl x :: st) w Q := by
  by_cases hc : 0 < x
  · obtain ⟨r, w', q, hm, f⟩ := kt hc
    refine ⟨r, w', q, hm, ?_⟩
    intro p l e R s m args below meth c Q' D b0 c0 s0 w0 ad0 C K H locs cells slots ad rl S
    have f2 := f p l e R s m args below meth c Q' D b0 c0 s0 w0 ad0 C K H locs cells slots ad rl S.pop
    exact lv_if_gt C.1 C.2.1 hd ht (fun z => f2) (fun z => absurd hc z)
  · obtain ⟨r, w', q, hm, f⟩ := kf hc
    refine ⟨r, w', q, hm, ?_⟩
    intro p l e R s m args below meth c Q' D b0 c0 s0 w0 ad0 C K H locs cells slots ad rl S
    have f2 := f p l e R s m args below meth c Q' D b0 c0 s0 w0 ad0 C K H locs cells slots ad rl S.pop
    exact lv_if_gt C.1 C.2.1 hd ht (fun z => absurd z hc) (fun z => f2)
theorem XE.icmp_gt {x y : Int32} {off : Int} (tgt : Nat) (hd : decode cc pc = .ok (.if_icmp .gt off, 3)) (ht : (pc : Int) + off = (tgt : Int)) (kt : y < x → XE own cc nL ret ini d tgt ls st w Q) (kf : ¬ y < x → XE own cc nL ret ini d (pc + 3) ls st w Q) : XE own cc nL ret ini d pc ls (.inl y :: .inl x :: st) w Q := by
  by_cases hc : y < x
  · obtain ⟨r, w', q, hm, f⟩ := kt hc
    refine ⟨r, w', q, hm, ?_⟩
    intro p l e R s m args below meth c Q' D b0 c0 s0 w0 ad0 C K H locs cells slots ad rl S
    have f2 := f p l e R s m args below meth c Q' D b0 c0 s0 w0 ad0 C K H locs cells slots ad rl S.pop.pop
    exact lv_icmp_gt C.1 C.2.1 hd ht (fun z => f2) (fun z => absurd hc z)
  · obtain ⟨r, w', q, hm, f⟩ := kf hc
    refine ⟨r, w', q, hm, ?_⟩
    intro p l e R s m args below meth c Q' D b0 c0 s0 w0 ad0 C K H locs cells slots ad rl S
    have f2 := f p l e R s m args below meth c Q' D b0 c0 s0 w0 ad0 C K H locs cells slots ad rl S.pop.pop
    exact lv_icmp_gt C.1 C.2.1 hd ht (fun z => absurd z hc) (fun z => f2)
theorem XE.if_le {x : Int32} {off : Int} (tgt : Nat) (hd : decode cc pc = .ok (.ifCond .le off, 3)) (ht : (pc : Int) + off = (tgt : Int)) (kt : x ≤ 0 → XE own cc nL ret ini d tgt ls st w Q) (kf : ¬ x ≤ 0 → XE own cc nL ret ini d (pc + 3) ls st w Q) : XE own cc nL ret ini d pc ls (.inl x :: st) w Q := by
  by_cases hc : x ≤ 0
  · obtain ⟨r, w', q, hm, f⟩ := kt hc
    refine ⟨r, w', q, hm, ?_⟩
    intro p l e R s m args below meth c Q' D b0 c0 s0 w0 ad0 C K H locs cells slots ad rl S
    have f2 := f p l e R s m args below meth c Q' D b0 c0 s0 w0 ad0 C K H locs cells slots ad rl S.pop
    exact lv_if_le C.1 C.2.1 hd ht (fun z => f2) (fun z => absurd hc z)
  · obtain ⟨r, w', q, hm, f⟩ := kf hc
    refine ⟨r, w', q, hm, ?_⟩
    intro p l e R s m args below meth c Q' D b0 c0 s0 w0 ad0 C K H locs cells slots ad rl S
    have f2 := f p l e R s m args below meth c Q' D b0 c0 s0 w0 ad0 C K H locs cells slots ad rl S.pop
    exact lv_if_le C.1 C.2.1 hd ht (fun z => absurd z hc) (fun z => f2)
theorem XE.icmp_le {x y : Int32} {off : Int} (tgt : Nat) (hd : decode cc pc = .ok (.if_icmp .le off, 3)) (ht : (pc : Int) + off = (tgt : Int)) (kt : x ≤ y → XE own cc nL ret ini d tgt ls st w Q) (kf : ¬ x ≤ y → XE own cc nL ret ini d (pc + 3) ls st w Q) : XE own cc nL ret ini d pc ls (.inl y :: .inl x :: st) w Q := by
  by_cases hc : x ≤ y
  · obtain ⟨r, w', q, hm, f⟩ := kt hc
    refine ⟨r, w', q, hm, ?_⟩
    intro p l e R s m args below meth c Q' D b0 c0 s0 w0 ad0 C K H locs cells slots ad rl S
    have f2 := f p l e R s m args below meth c Q' D b0 c0 s0 w0 ad0 C K H locs cells slots ad rl S.pop.pop
    exact lv_icmp_le C.1 C.2.1 hd ht (fun z => f2) (fun z => absurd hc z)
  · obtain ⟨r, w', q, hm, f⟩ := kf hc
    refine ⟨r, w', q, hm, ?_⟩
    intro p l e R s m args below meth c Q' D b0 c0 s0 w0 ad0 C K H locs cells slots ad rl S
    have f2 := f p l e R s m args below meth c Q' D b0 c0 s0 w0 ad0 C K H locs cells slots ad rl S.pop.pop
    exact lv_icmp_le C.1 C.2.1 hd ht (fun z => absurd z hc) (fun z => f2)
theorem XE.goto {off : Int} (tgt : Nat) (hd : decode cc pc = .ok (.goto off, 3)) (ht : (pc : Int) + off = (tgt : Int)) (k : XE own cc nL ret ini d tgt ls st w Q) : XE own cc nL ret ini d pc ls st w Q := by
  obtain ⟨r, w', q, hm, f⟩ := k
  refine ⟨r, w', q, hm, ?_⟩
  intro p l e R s m args below meth c Q' D b0 c0 s0 w0 ad0 C K H locs cells slots ad rl S
  exact lv_goto C.1 C.2.1 hd ht (f p l e R s m args below meth c Q' D b0 c0 s0 w0 ad0 C K H locs cells slots ad rl S)
theorem XE.ifnull {kk o : Nat} {off : Int} (tgt : Nat) (hd : decode cc pc = .ok (.ifnull off, 3)) (ht : (pc : Int) + off = (tgt : Int)) (kt : o = 0 → XE own cc nL ret ini d tgt ls st w Q) (kf : o ≠ 0 → XE own cc nL ret ini d (pc + 3) ls st w Q) : XE own cc nL ret ini d pc ls (.inr (kk, o) :: st) w Q := by
  cases o with
  | zero =>
    obtain ⟨r, w', q, hm, f⟩ := kt rfl
    refine ⟨r, w', q, hm, ?_⟩
    intro p l e R s m args below meth c Q' D b0 c0 s0 w0 ad0 C K H locs cells slots ad rl S
    exact lv_ifnullN C.1 C.2.1 hd ht (f p l e R s m args below meth c Q' D b0 c0 s0 w0 ad0 C K H locs cells slots ad rl S.pop)
  | succ o =>
    obtain ⟨r, w', q, hm, f⟩ := kf (Nat.succ_ne_zero o)
    refine ⟨r, w', q, hm, ?_⟩
    intro p l e R s m args below meth c Q' D b0 c0 s0 w0 ad0 C K H locs cells slots ad rl S
    exact lv_ifnull (x := ad kk (o + 1)) C.1 C.2.1 hd (f p l e R s m args below meth c Q' D b0 c0 s0 w0 ad0 C K H locs cells slots ad rl S.pop)
theorem XE.ifnonnull {kk o : Nat} {off : Int} (tgt : Nat) (hd : decode cc pc = .ok (.ifnonnull off, 3)) (ht : (pc : Int) + off = (tgt : Int)) (kt : o ≠ 0 → XE own cc nL ret ini d tgt ls st w Q) (kf : o = 0 → XE own cc nL ret ini d (pc + 3) ls st w Q) : XE own cc nL ret ini d pc ls (.inr (kk, o) :: st) w Q := by
  cases o with
  | zero =>
    obtain ⟨r, w', q, hm, f⟩ := kf rfl
    refine ⟨r, w', q, hm, ?_⟩
    intro p l e R s m args below meth c Q' D b0 c0 s0 w0 ad0 C K H locs cells slots ad rl S
    exact lv_ifnonnullN C.1 C.2.1 hd (f p l e R s m args below meth c Q' D b0 c0 s0 w0 ad0 C K H locs cells slots ad rl S.pop)
  | succ o =>
    obtain ⟨r, w', q, hm, f⟩ := kt (Nat.succ_ne_zero o)
    refine ⟨r, w', q, hm, ?_⟩
    intro p l e R s m args below meth c Q' D b0 c0 s0 w0 ad0 C K H locs cells slots ad rl S
    exact lv_ifnonnull (x := ad kk (o + 1)) C.1 C.2.1 hd ht (f p l e R s m args below meth c Q' D b0 c0 s0 w0 ad0 C K H locs cells slots ad rl S.pop)
theorem rv_rf (ad : AD) (q : Nat × Nat) : rv ad q = va_rf (if q.2 = 0 then none else some (ad q.1 q.2)) := by
  unfold rv
  by_cases h : q.2 = 0
  · rw [if_pos h, if_pos h]; rfl
  · rw [if_neg h, if_neg h]; rfl
theorem rf_eq {s : State} {D : va_G} {b0 : Nat} {ad : AD} {w : WW} {H : Heap} (hR : Rel s D b0 ad w H) {k x y : Nat} (hk : k ≠ 99) (hx : x ≤ wC w k) (hy : y ≤ wC w k) :
    ((if x = 0 then none else some (ad k x)) = (if y = 0 then (none : Option Nat) else some (ad k y))) ↔ x = y := by
  by_cases h1 : x = 0 <;> by_cases h2 : y = 0
  · simp [h1, h2]
  · simp [h1, h2]; exact fun h => h2 h.symm
  · simp [h1, h2]
  · simp only [h1, h2, if_false, Option.some.injEq]
    exact ⟨fun h => (hR.2.2.1 k x k y hk hk ⟨Nat.pos_of_ne_zero h1, hx⟩ ⟨Nat.pos_of_ne_zero h2, hy⟩ h).2, fun h => by rw [h]⟩
theorem XE.acmp_eq {kk x y : Nat} {off : Int} (tgt : Nat) (hd : decode cc pc = .ok (.if_acmp .eq off, 3)) (ht : (pc : Int) + off = (tgt : Int)) (hk : kk ≠ 99) (kt : x = y → XE own cc nL ret ini d tgt ls st w Q) (kf : x ≠ y → XE own cc nL ret ini d (pc + 3) ls st w Q) : XE own cc nL ret ini d pc ls (.inr (kk, y) :: .inr (kk, x) :: st) w Q := by
  by_cases hc : x = y
  · obtain ⟨r, w', q, hm, f⟩ := kt hc
    refine ⟨r, w', q, hm, ?_⟩
    intro p l e R s m args below meth c Q' D b0 c0 s0 w0 ad0 C K H locs cells slots ad rl S
    have f2 := f p l e R s m args below meth c Q' D b0 c0 s0 w0 ad0 C K H locs cells slots ad rl S.pop.pop
    have g := lv_acmp_eq (rest := st.map (vv ad)) (ls := rl) C.1 C.2.1 hd ht (fun _ => f2) (fun z => absurd ((rf_eq S.2.1 hk S.pop.top S.top).mpr hc) z)
    rw [← rv_rf ad (kk, y), ← rv_rf ad (kk, x)] at g
    exact g
  · obtain ⟨r, w', q, hm, f⟩ := kf hc
    refine ⟨r, w', q, hm, ?_⟩
    intro p l e R s m args below meth c Q' D b0 c0 s0 w0 ad0 C K H locs cells slots ad rl S
    have f2 := f p l e R s m args below meth c Q' D b0 c0 s0 w0 ad0 C K H locs cells slots ad rl S.pop.pop
    have g := lv_acmp_eq (rest := st.map (vv ad)) (ls := rl) C.1 C.2.1 hd ht (fun z => absurd ((rf_eq S.2.1 hk S.pop.top S.top).mp z) hc) (fun _ => f2)
    rw [← rv_rf ad (kk, y), ← rv_rf ad (kk, x)] at g
    exact g
theorem XE.acmp_ne {kk x y : Nat} {off : Int} (tgt : Nat) (hd : decode cc pc = .ok (.if_acmp .ne off, 3)) (ht : (pc : Int) + off = (tgt : Int)) (hk : kk ≠ 99) (kt : x ≠ y → XE own cc nL ret ini d tgt ls st w Q) (kf : x = y → XE own cc nL ret ini d (pc + 3) ls st w Q) : XE own cc nL ret ini d pc ls (.inr (kk, y) :: .inr (kk, x) :: st) w Q := by
  by_cases hc : x = y
  · obtain ⟨r, w', q, hm, f⟩ := kf hc
    refine ⟨r, w', q, hm, ?_⟩
    intro p l e R s m args below meth c Q' D b0 c0 s0 w0 ad0 C K H locs cells slots ad rl S
    have f2 := f p l e R s m args below meth c Q' D b0 c0 s0 w0 ad0 C K H locs cells slots ad rl S.pop.pop
    have g := lv_acmp_ne (rest := st.map (vv ad)) (ls := rl) C.1 C.2.1 hd ht (fun z => absurd ((rf_eq S.2.1 hk S.pop.top S.top).mpr hc) z) (fun _ => f2)
    rw [← rv_rf ad (kk, y), ← rv_rf ad (kk, x)] at g
    exact g
  · obtain ⟨r, w', q, hm, f⟩ := kt hc
    refine ⟨r, w', q, hm, ?_⟩
    intro p l e R s m args below meth c Q' D b0 c0 s0 w0 ad0 C K H locs cells slots ad rl S
    have f2 := f p l e R s m args below meth c Q' D b0 c0 s0 w0 ad0 C K H locs cells slots ad rl S.pop.pop
    have g := lv_acmp_ne (rest := st.map (vv ad)) (ls := rl) C.1 C.2.1 hd ht (fun _ => f2) (fun z => absurd ((rf_eq S.2.1 hk S.pop.top S.top).mp z) hc)
    rw [← rv_rf ad (kk, y), ← rv_rf ad (kk, x)] at g
    exact g
theorem XE.tableOut {dflt lo hi : Int} {offs : Array Int} {len : Nat} {x : Int32} (tgt : Nat) (hd : decode cc pc = .ok (.tableswitch dflt lo hi offs, len)) (h : x.toInt < lo ∨ hi < x.toInt) (ht : (pc : Int) + dflt = (tgt : Int)) (k : XE own cc nL ret ini d tgt ls st w Q) : XE own cc nL ret ini d pc ls (.inl x :: st) w Q := by
  obtain ⟨r, w', q, hm, f⟩ := k
  refine ⟨r, w', q, hm, ?_⟩
  intro p l e R s m args below meth c Q' D b0 c0 s0 w0 ad0 C K H locs cells slots ad rl S
  exact lv_tableOut C.1 C.2.1 hd h ht (f p l e R s m args below meth c Q' D b0 c0 s0 w0 ad0 C K H locs cells slots ad rl S.pop)
theorem XE.tableIn {dflt lo hi : Int} {offs : Array Int} {len : Nat} {x : Int32} {off : Int} (tgt : Nat) (hd : decode cc pc = .ok (.tableswitch dflt lo hi offs, len)) (h1 : ¬ x.toInt < lo) (h2 : ¬ hi < x.toInt) (ho : offs[(x.toInt - lo).toNat]? = some off) (ht : (pc : Int) + off = (tgt : Int)) (k : XE own cc nL ret ini d tgt ls st w Q) : XE own cc nL ret ini d pc ls (.inl x :: st) w Q := by
  obtain ⟨r, w', q, hm, f⟩ := k
  refine ⟨r, w', q, hm, ?_⟩
  intro p l e R s m args below meth c Q' D b0 c0 s0 w0 ad0 C K H locs cells slots ad rl S
  exact lv_tableIn C.1 C.2.1 hd h1 h2 ho ht (f p l e R s m args below meth c Q' D b0 c0 s0 w0 ad0 C K H locs cells slots ad rl S.pop)
theorem XE.lookup {dflt : Int} {ps : Array (Int × Int)} {len : Nat} {x : Int32} {off : Int} (tgt : Nat) (hd : decode cc pc = .ok (.lookupswitch dflt ps, len)) (hp : (ps.toList.zip (ps.toList.drop 1)).all (fun (a, next) => a.1 < next.1) = true) (ho : Op.lookupswitch.offset ps.toList dflt x.toInt = off) (ht : (pc : Int) + off = (tgt : Int)) (k : XE own cc nL ret ini d tgt ls st w Q) : XE own cc nL ret ini d pc ls (.inl x :: st) w Q := by
  obtain ⟨r, w', q, hm, f⟩ := k
  refine ⟨r, w', q, hm, ?_⟩
  intro p l e R s m args below meth c Q' D b0 c0 s0 w0 ad0 C K H locs cells slots ad rl S
  exact lv_lookup C.1 C.2.1 hd hp ho ht (f p l e R s m args below meth c Q' D b0 c0 s0 w0 ad0 C K H locs cells slots ad rl S.pop)
theorem XE.ishl {x y z : Int32} (hd : decode cc pc = .ok (.ishl, 1)) (hv : x <<< (y &&& 31) = z) (k : XE own cc nL ret ini d (pc + 1) ls (.inl z :: st) w Q) : XE own cc nL ret ini d pc ls (.inl y :: .inl x :: st) w Q := by
  obtain ⟨r, w', q, hm, f⟩ := k
  refine ⟨r, w', q, hm, ?_⟩
  intro p l e R s m args below meth c Q' D b0 c0 s0 w0 ad0 C K H locs cells slots ad rl S
  subst hv
  exact lv_ishl C.1 C.2.1 hd (f p l e R s m args below meth c Q' D b0 c0 s0 w0 ad0 C K H locs cells slots ad rl (S.pop.pop.push (v := .inl _) trivial))
theorem XE.ishr {x y z : Int32} (hd : decode cc pc = .ok (.ishr, 1)) (hv : x >>> (y &&& 31) = z) (k : XE own cc nL ret ini d (pc + 1) ls (.inl z :: st) w Q) : XE own cc nL ret ini d pc ls (.inl y :: .inl x :: st) w Q := by
  obtain ⟨r, w', q, hm, f⟩ := k
  refine ⟨r, w', q, hm, ?_⟩
  intro p l e R s m args below meth c Q' D b0 c0 s0 w0 ad0 C K H locs cells slots ad rl S
  subst hv
  exact lv_ishr C.1 C.2.1 hd (f p l e R s m args below meth c Q' D b0 c0 s0 w0 ad0 C K H locs cells slots ad rl (S.pop.pop.push (v := .inl _) trivial))
theorem XE.idiv {x y z : Int32} (hd : decode cc pc = .ok (.idiv, 1)) (hn : ¬ y = 0) (hv : x / y = z) (k : XE own cc nL ret ini d (pc + 1) ls (.inl z :: st) w Q) : XE own cc nL ret ini d pc ls (.inl y :: .inl x :: st) w Q := by
  obtain ⟨r, w', q, hm, f⟩ := k
  refine ⟨r, w', q, hm, ?_⟩
  intro p l e R s m args below meth c Q' D b0 c0 s0 w0 ad0 C K H locs cells slots ad rl S
  subst hv
  exact lv_idiv C.1 C.2.1 hd hn (f p l e R s m args below meth c Q' D b0 c0 s0 w0 ad0 C K H locs cells slots ad rl (S.pop.pop.push (v := .inl _) trivial))
theorem XE.irem {x y z : Int32} (hd : decode cc pc = .ok (.irem, 1)) (hn : ¬ y = 0) (hv : x - x / y * y = z) (k : XE own cc nL ret ini d (pc + 1) ls (.inl z :: st) w Q) : XE own cc nL ret ini d pc ls (.inl y :: .inl x :: st) w Q := by
  obtain ⟨r, w', q, hm, f⟩ := k
  refine ⟨r, w', q, hm, ?_⟩
  intro p l e R s m args below meth c Q' D b0 c0 s0 w0 ad0 C K H locs cells slots ad rl S
  subst hv
  exact lv_irem C.1 C.2.1 hd hn (f p l e R s m args below meth c Q' D b0 c0 s0 w0 ad0 C K H locs cells slots ad rl (S.pop.pop.push (v := .inl _) trivial))
end XR

/-! the heap: fields -/
def FLD (own : String) (idx k j : Nat) : Prop := ∃ (C : String) (T : u_T) (N : Nat), vwCl[k]? = some (C, T, N) ∧ j < N ∧ Cond.fieldLink own idx (T j).1 (T j).2.1 (T j).2.2.1 ∈ tbl
def PLD (own : String) (idx : Nat) (ini : Bool) (k j : Nat) : Prop := ∃ (C : String) (T : u_T) (N : Nat), vwCl[k]? = some (C, T, N) ∧ j < N ∧ Cond.fieldLink own idx (T j).1 (T j).2.1 (T j).2.2.1 ∈ tbl ∧ ((T j).2.2.2 = false ∨ ((T j).2.2.2 = true ∧ ini = true ∧ (T j).1 = own))
theorem fv_i {ad : AD} {w : WW} {k o j : Nat} (h : fty k j < 2) : fv ad w k o j = .int (wI w k o j) := by
  unfold fv
  split
  · rfl
  · rfl
  · rename_i h2; omega
theorem fv_r {ad : AD} {w : WW} {k o j k' : Nat} (h : fty k j = k' + 2) : fv ad w k o j = rv ad (k', wR w k o j) := by
  unfold fv
  rw [h]
theorem av_i {ad : AD} {w : WW} {k o j : Nat} (h : aelem k < 2) : av ad w k o j = .int (wI w k o j) := by
  unfold av
  split
  · rfl
  · rfl
  · rename_i h2; omega
theorem av_r {ad : AD} {w : WW} {k o j k' : Nat} (h : aelem k = k' + 2) : av ad w k o j = rv ad (k', wR w k o j) := by
  unfold av
  rw [h]
theorem fv_same {ad : AD} {w w1 : WW} {k o j : Nat} (h1 : wI w1 k o j = wI w k o j) (h2 : wR w1 k o j = wR w k o j) : fv ad w1 k o j = fv ad w k o j := by
  unfold fv
  rw [h1, h2]
theorem av_same {ad : AD} {w w1 : WW} {k o j : Nat} (h1 : wI w1 k o j = wI w k o j) (h2 : wR w1 k o j = wR w k o j) : av ad w1 k o j = av ad w k o j := by
  unfold av
  rw [h1, h2]
theorem fv_ext {w : WW} {ad ad' : AD} (h : EX w ad ad') {k o j : Nat} (hr : ∀ k', fty k j = k' + 2 → wR w k o j ≤ wC w k') : fv ad' w k o j = fv ad w k o j := by
  unfold fv
  split
  · rfl
  · rfl
  · rename_i k' he; exact vv_ext (v := .inr (k', wR w k o j)) h (hr k' he)
theorem av_ext {w : WW} {ad ad' : AD} (h : EX w ad ad') {k o j : Nat} (hr : ∀ k', aelem k = k' + 2 → wR w k o j ≤ wC w k') : av ad' w k o j = av ad w k o j := by
  unfold av
  split
  · rfl
  · rfl
  · rename_i k' he; exact vv_ext (v := .inr (k', wR w k o j)) h (hr k' he)
theorem vw_lt {k : Nat} {q : vw_C} (h : vwCl[k]? = some q) : k < 99 := Nat.lt_of_lt_of_le (List.getElem?_eq_some_iff.mp h).1 (by decide)
/-- a write to one place of one cell (an object's field or an array's element) -/
theorem Rel.wr {s : State} {D : va_G} {b0 : Nat} {ad : AD} {w w1 : WW} {H H1 : Heap} (hR : Rel s D b0 ad w H) {k o j : Nat} (hk9 : k ≠ 99) (ho : inR w k o)
    (hz : H1.size = H.size) (hq : ∀ q : Nat, q ≠ ad k o → H1[q]? = H[q]?)
    (hC : ∀ k', wC w1 k' = wC w k') (hL : ∀ k' o', wL w1 k' o' = wL w k' o')
    (hI : ∀ k' o' j', ¬ (k' = k ∧ o' = o ∧ j' = j) → wI w1 k' o' j' = wI w k' o' j' ∧ wR w1 k' o' j' = wR w k' o' j')
    (hr : ∀ k', fty k j = k' + 2 → k < 99 → wR w1 k o j ≤ wC w k') (hr2 : ∀ k', aelem k = k' + 2 → 100 ≤ k → wR w1 k o j ≤ wC w k')
    (hO : ∀ (C : String) (T : u_T) (N : Nat), vwCl[k]? = some (C, T, N) → t_OB (ad k o) (D.1 k) N (D.2 k) H1 (fv ad w1 k o))
    (hA : 100 ≤ k → ∃ cA : ClassId, ArrOfT s cA (aty k) ∧ va_RA s cA (aty k) ∧ H1[ad k o]? = some (arrV cA (wL w k o) (av ad w1 k o))) : Rel s D b0 ad w1 H1 := by
  obtain ⟨h1, h2, h3, h4, h5, h6, h7, h8⟩ := hR
  have iR : ∀ {k' o'}, inR w1 k' o' → inR w k' o' := fun h => ⟨h.1, by rw [← hC]; exact h.2⟩
  have ap : ∀ {k' o'}, k' ≠ 99 → inR w k' o' → ¬ (k' = k ∧ o' = o) → H1[ad k' o']? = H[ad k' o']? := fun h9 h n => hq _ (fun e => n (h3 _ _ _ _ h9 hk9 h ho e))
  have same : ∀ {k' o' : Nat}, ¬ (k' = k ∧ o' = o) → ∀ j', wI w1 k' o' j' = wI w k' o' j' ∧ wR w1 k' o' j' = wR w k' o' j' := fun n j' => hI _ _ _ (fun e => n ⟨e.1, e.2.1⟩)
  refine ⟨fun k' o' C T N hc h => ?_, fun k' o' hk' h => ?_, fun a b a' b' x1 x2 x3 x4 => h3 a b a' b' x1 x2 (iR x3) (iR x4), fun a b x1 x2 => ?_, fun k' o' j' k2 hk' e h => ?_, fun k' o' j' k2 hk' e h => ?_, fun k' o' j' h => ?_, fun o' h => ?_⟩
  · by_cases n : k' = k ∧ o' = o
    · obtain ⟨rfl, rfl⟩ := n
      exact hO C T N hc
    · have e9 : k' ≠ 99 := Nat.ne_of_lt (vw_lt hc)
      exact ((h1 k' o' C T N hc (iR h)).kept (ap e9 (iR h) n)).to (fun j' _ => (fv_same (same n j').1 (same n j').2).symm)
  · by_cases n : k' = k ∧ o' = o
    · obtain ⟨rfl, rfl⟩ := n
      rw [hL]
      exact hA hk'
    · obtain ⟨cA, a1, a2, a3⟩ := h2 k' o' hk' (iR h)
      refine ⟨cA, a1, a2, ?_⟩
      rw [ap (by omega) (iR h) n, a3, hL]
      congr 2
      funext j'
      exact (av_same (same n j').1 (same n j').2).symm
  · rw [hz]
    exact h4 a b x1 (iR x2)
  · rw [hC]
    by_cases n : k' = k ∧ o' = o ∧ j' = j
    · obtain ⟨rfl, rfl, rfl⟩ := n
      exact hr k2 e hk'
    · rw [(hI _ _ _ n).2]
      exact h5 k' o' j' k2 hk' e (iR h)
  · rw [hC]
    by_cases n : k' = k ∧ o' = o ∧ j' = j
    · obtain ⟨rfl, rfl, rfl⟩ := n
      exact hr2 k2 e hk'
    · rw [(hI _ _ _ n).2]
      exact h6 k' o' j' k2 hk' e (iR h)
  · rw [hC] at h
    have n : ¬ (k' = k ∧ o' = o ∧ j' = j) := fun ⟨e1, e2, _⟩ => by
      subst e1; subst e2
      exact absurd ho.2 (Nat.not_le.mpr h)
    rw [(hI _ _ _ n).1, (hI _ _ _ n).2]
    exact h7 k' o' j' h
  · obtain ⟨x1, x2⟩ := h8 o' (iR h)
    refine ⟨x1, ?_⟩
    have e : wI w1 99 o' = wI w 99 o' := by
      funext j'
      exact (hI _ _ _ (fun n => hk9 n.1.symm)).1
    rw [hL, e]
    exact x2.kept (hq _ (fun e2 => by
      have := (h4 k o hk9 ho).1
      omega))
section HP
variable {p : Program} {l : Launch} {e : Env} {R : Room} {s : State} {m : MethodId} {args : Array Value} {below : List Frame} {meth : Method} {c : Code} {H : Heap} {locs : List Loc} {cells slots : Nat} {Q' : State → Prop} {D : va_G} {b0 : Nat} {ad : AD} {w : WW} {rl : Array Slot} {rest : List Value}
variable {own : String} {cc : ByteArray} {nL : Nat} {ret : Option FieldType} {ini : Bool} {d pc : Nat}
theorem gx_getf (C : CX p R s m args meth c D b0 own cc nL ret ini d) (hR : Rel s D b0 ad w H) {k o j idx : Nat} (hF : FLD own idx k j) (ho : inR w k o) (hd : decode cc pc = .ok (.getfield idx, 3))
    (kk : W p l e R s m args below meth c H locs cells slots Q' (F0 m (pc + 3) rl (fv ad w k o j :: rest))) : W p l e R s m args below meth c H locs cells slots Q' (F0 m pc rl (.ref (ad k o) :: rest)) := by
  obtain ⟨Cn, T, N, hc, hj, hlk⟩ := hF
  obtain ⟨cell, q1, q2, q3, q4⟩ := hR.1 k o Cn T N hc ho
  obtain ⟨hx, hb, -, -, hown, hts, -, -, hK, -⟩ := C
  obtain ⟨hS, hfc, kC, hkC, hkind⟩ := hK.1.1 k _ hc
  obtain ⟨cf, kf, fi, f, hi, hsl⟩ := hS j hj
  refine W.getf hx hb hown (hts _ hlk) hi (u_facts hfc hkC (u_lays hts (vw_in hc) hj) hi).1 q1 (by rw [q3]; exact fun h => by cases h) (v := fv ad w k o j) ?_ rfl rfl hd kk
  rw [hsl, q4 j hj]
theorem gx_putf (C : CX p R s m args meth c D b0 own cc nL ret ini d) (hS0 : va_S (fun q => b0 ≤ q) s.heap H locs) (hR : Rel s D b0 ad w H) {k o j idx : Nat} (hF : PLD own idx ini k j) (ho : inR w k o) {v : Value} {w1 : WW}
    (hn : narrow (ftT (fty k j)) v = v) (hfit : fits (ftT (fty k j)) v = true)
    (hC : ∀ k', wC w1 k' = wC w k') (hL : ∀ k' o', wL w1 k' o' = wL w k' o')
    (hI : ∀ k' o' j', ¬ (k' = k ∧ o' = o ∧ j' = j) → wI w1 k' o' j' = wI w k' o' j' ∧ wR w1 k' o' j' = wR w k' o' j')
    (hr : ∀ k', fty k j = k' + 2 → wR w1 k o j ≤ wC w k') (hv : fv ad w1 k o j = v) (hd : decode cc pc = .ok (.putfield idx, 3))
    (kk : ∀ (H1 : Heap) (locs1 : List Loc), Rel s D b0 ad w1 H1 → va_S (fun q => b0 ≤ q) s.heap H1 locs1 → W p l e R s m args below meth c H1 locs1 cells slots Q' (F0 m (pc + 3) rl rest)) : W p l e R s m args below meth c H locs cells slots Q' (F0 m pc rl (v :: .ref (ad k o) :: rest)) := by
  obtain ⟨Cn, T, N, hc, hj, hlk, hfin⟩ := hF
  have hk9 : k ≠ 99 := Nat.ne_of_lt (vw_lt hc)
  obtain ⟨cell, q1, q2, q3, q4⟩ := hR.1 k o Cn T N hc ho
  obtain ⟨hx, hb, -, -, hown, hts, -, hini, hK, -⟩ := C
  have hap := va_apart (own := own) hts (vw_in hc) (fun j => ftT (fty k j)) (fty_ok hc) (fnm_ok hc) hK.1 hc
  obtain ⟨hS, hfc, kC, hkC, hkind⟩ := hK.1.1 k _ hc
  obtain ⟨cf, kf, fi, f, hi, hsl⟩ := hS j hj
  have hlay := hts _ (vw_in hc _ (u_in_lay hj))
  unfold u_lay at hlay
  have hst := (u_facts hfc hkC (u_lays hts (vw_in hc) hj) hi).1
  have go : ∀ H' : Heap, H'[ad k o]? = some (cell.setSlot f.slot v) → H'.size = H.size → (∀ q, q ≠ ad k o → H'[q]? = H[q]?) → W p l e R s m args below meth c H' (locs ++ [⟨ad k o, f.slot⟩]) cells slots Q' (F0 m (pc + 3) rl rest) := by
    intro H' e1 e2 e3
    rw [hsl] at e1 ⊢
    refine kk H' _ (hR.wr hk9 ho e2 e3 hC hL hI (fun k' h _ => hr k' h) (fun k' _ h => absurd (vw_lt hc) (by omega)) (fun C2 T2 N2 h2 => ?_) (fun h => absurd (vw_lt hc) (by omega))) (hS0.put e2 e3 (hR.2.2.2.1 k o hk9 ho).1)
    cases hc.symm.trans h2
    refine t_OB.to (V := updV (fv ad w k o) j v) ⟨_, e1, q2, q3, t_set q4 hap hj v⟩ (fun j' _ => ?_)
    by_cases hjj : j' = j
    · subst hjj
      rw [hv]
      simp [updV]
    · have hs := hI k o j' (fun z => hjj z.2.2)
      rw [fv_same hs.1 hs.2]
      simp [updV, hjj]
  rcases hfin with hf | ⟨hf, hi1, hown2⟩
  · rw [if_neg (by rw [hf]; decide)] at hlay
    have h6 := u_store hfc hkC hkind hlay hi (fty_ok hc j hj) hn hfit
    exact W.putK hx hb (f := f) ⟨hown, hts _ hlk, ⟨_, _, _, hi⟩, hst⟩ (by rw [q2]; exact h6) q1 q3 (by rw [hsl]; exact k2_hasslot (q4 j hj)) rfl rfl hd go
  · rw [if_pos hf] at hlay
    have hcf : m.cls = cf := by
      obtain ⟨_, _, c', _, _, _, -, -, hf', -, -, -, hown3, -⟩ := Cond.laysFinal_spec hlay
      have e1 : c' = cf := by have := hi.symm.trans hf'; simp at this; exact this.1.symm
      rw [hown2] at hown3
      rw [← e1]; exact Option.some.inj (hown.symm.trans hown3)
    have h6 := u_fits hfc hkC hkind (Or.inr hlay) hi (fty_ok hc j hj) hn hfit
    exact W.putFinK hx hb hown (hts _ hlk) hi hst hcf (hini hi1) (by rw [q2]; exact h6) q1 q3 (by rw [hsl]; exact k2_hasslot (q4 j hj)) rfl rfl hd go
end HP
section XH
variable {own : String} {cc : ByteArray} {nL : Nat} {ret : Option FieldType} {ini : Bool} {d pc : Nat} {ls : List (Option VV)} {st : List VV} {w : WW} {Q : Option VV → WW → Prop}
theorem XE.getI {k o j idx : Nat} {x : Int32} (hd : decode cc pc = .ok (.getfield idx, 3)) (hF : FLD own idx k j) (ht : fty k j < 2) (ho : o ≠ 0) (hx : wI w k o j = x) (kk : XE own cc nL ret ini d (pc + 3) ls (.inl x :: st) w Q) : XE own cc nL ret ini d pc ls (.inr (k, o) :: st) w Q := by
  subst hx
  obtain ⟨r, w', q, hm, f⟩ := kk
  refine ⟨r, w', q, hm, ?_⟩
  intro p l e R s m args below meth c Q' D b0 c0 s0 w0 ad0 C K H locs cells slots ad rl S
  have f2 := f p l e R s m args below meth c Q' D b0 c0 s0 w0 ad0 C K H locs cells slots ad rl (S.pop.push (v := .inl _) trivial)
  show W _ _ _ _ _ _ _ _ _ _ _ _ _ _ _ (F0 m pc rl (rv ad (k, o) :: st.map (vv ad)))
  rw [rv_nz ho]
  refine gx_getf C S.2.1 hF ⟨Nat.pos_of_ne_zero ho, S.top⟩ hd ?_
  rw [fv_i ht]
  exact f2
theorem XE.getR {k o j idx k' x : Nat} (hd : decode cc pc = .ok (.getfield idx, 3)) (hF : FLD own idx k j) (ht : fty k j = k' + 2) (ho : o ≠ 0) (hx : wR w k o j = x) (kk : XE own cc nL ret ini d (pc + 3) ls (.inr (k', x) :: st) w Q) : XE own cc nL ret ini d pc ls (.inr (k, o) :: st) w Q := by
  subst hx
  obtain ⟨r, w', q, hm, f⟩ := kk
  refine ⟨r, w', q, hm, ?_⟩
  intro p l e R s m args below meth c Q' D b0 c0 s0 w0 ad0 C K H locs cells slots ad rl S
  have hk : k < 99 := by obtain ⟨_, _, _, hc, _⟩ := hF; exact vw_lt hc
  have hin : inR w k o := ⟨Nat.pos_of_ne_zero ho, S.top⟩
  have f2 := f p l e R s m args below meth c Q' D b0 c0 s0 w0 ad0 C K H locs cells slots ad rl (S.pop.push (v := .inr (k', wR w k o j)) (S.2.1.2.2.2.2.1 k o j k' hk ht hin))
  show W _ _ _ _ _ _ _ _ _ _ _ _ _ _ _ (F0 m pc rl (rv ad (k, o) :: st.map (vv ad)))
  rw [rv_nz ho]
  refine gx_getf C S.2.1 hF hin hd ?_
  rw [fv_r ht]
  exact f2
theorem ST.world {s : State} {D : va_G} {b0 c0 s0 : Nat} {w0 : WW} {ad0 : AD} {nL : Nat} {ls : List (Option VV)} {st : List VV} {w w1 : WW} {H H1 : Heap} {locs locs1 : List Loc} {cells slots : Nat} {ad : AD} {rl : Array Slot} (S : ST s D b0 c0 s0 w0 ad0 nL ls st w H locs cells slots ad rl)
    (hS : va_S (fun q => b0 ≤ q) s.heap H1 locs1) (hR : Rel s D b0 ad w1 H1) (hC : ∀ k, wC w1 k = wC w k) (hn : wn w1 = wn w) (hz : wz w1 = wz w) : ST s D b0 c0 s0 w0 ad0 nL ls st w1 H1 locs1 cells slots ad rl := by
  have mo : ∀ k, wC w k ≤ wC w1 k := fun k => Nat.le_of_eq (hC k).symm
  exact ⟨hS, hR, S.2.2.1, ⟨fun v hv => (S.2.2.2.1.1 v hv).mono mo, fun v hv => (S.2.2.2.1.2 v hv).mono mo⟩, fun k => by rw [hC]; exact S.2.2.2.2.1 k, S.2.2.2.2.2.1, by rw [hn]; exact S.2.2.2.2.2.2.1, by rw [hz]; exact S.2.2.2.2.2.2.2⟩
theorem XE.putI {k o j idx : Nat} {x : Int32} (hd : decode cc pc = .ok (.putfield idx, 3)) (hF : PLD own idx ini k j) (ht : fty k j = 0 ∨ (fty k j = 1 ∧ (x = 0 ∨ x = 1))) (ho : o ≠ 0) (kk : XE own cc nL ret ini d (pc + 3) ls st (sI w k o j x) Q) : XE own cc nL ret ini d pc ls (.inl x :: .inr (k, o) :: st) w Q := by
  obtain ⟨r, w', q, hm, f⟩ := kk
  refine ⟨r, w', q, hm, ?_⟩
  intro p l e R s m args below meth c Q' D b0 c0 s0 w0 ad0 C K H locs cells slots ad rl S
  show W _ _ _ _ _ _ _ _ _ _ _ _ _ _ _ (F0 m pc rl (.int x :: rv ad (k, o) :: st.map (vv ad)))
  rw [rv_nz ho]
  have h2 : fty k j < 2 := by omega
  have hnf : narrow (ftT (fty k j)) (.int x) = .int x ∧ fits (ftT (fty k j)) (.int x) = true := by
    rcases ht with h | ⟨h, hb⟩
    · rw [h]; exact ⟨rfl, rfl⟩
    · rw [h]
      rcases hb with hb | hb <;> rw [hb] <;> exact ⟨by decide, by decide⟩
  refine gx_putf C S.1 S.2.1 hF ⟨Nat.pos_of_ne_zero ho, S.pop.top⟩ (w1 := sI w k o j x) hnf.1 hnf.2 (fun _ => rfl) (fun _ _ => rfl) (fun k' o' j' h => ⟨by rw [wI_sI, if_neg h], rfl⟩) (fun k' h => by omega) (by rw [fv_i h2, wI_sI, if_pos ⟨rfl, rfl, rfl⟩]) hd (fun H1 locs1 hR1 hS1 => ?_)
  exact f p l e R s m args below meth c Q' D b0 c0 s0 w0 ad0 C K H1 locs1 cells slots ad rl (S.pop.pop.world hS1 hR1 (fun _ => rfl) rfl rfl)
theorem fits_r (k : Nat) (ad : AD) (q : Nat × Nat) : narrow (kT k) (rv ad q) = rv ad q ∧ fits (kT k) (rv ad q) = true := by
  unfold kT rv
  by_cases h : 100 ≤ k <;> by_cases h2 : q.2 = 0
  · rw [if_pos h, if_pos h2]; exact ⟨rfl, rfl⟩
  · rw [if_pos h, if_neg h2]; exact ⟨rfl, rfl⟩
  · rw [if_neg h, if_pos h2]; exact ⟨rfl, rfl⟩
  · rw [if_neg h, if_neg h2]; exact ⟨rfl, rfl⟩
theorem XE.putR {k o j idx k' k2 x : Nat} (hd : decode cc pc = .ok (.putfield idx, 3)) (hF : PLD own idx ini k j) (ht : fty k j = k' + 2) (hk : k2 = k' ∨ x = 0) (ho : o ≠ 0) (kk : XE own cc nL ret ini d (pc + 3) ls st (sR w k o j x) Q) : XE own cc nL ret ini d pc ls (.inr (k2, x) :: .inr (k, o) :: st) w Q := by
  obtain ⟨r, w', q, hm, f⟩ := kk
  refine ⟨r, w', q, hm, ?_⟩
  intro p l e R s m args below meth c Q' D b0 c0 s0 w0 ad0 C K H locs cells slots ad rl S
  have hx : x ≤ wC w k' := by
    rcases hk with rfl | rfl
    · exact S.top
    · exact Nat.zero_le _
  have hv : rv ad (k2, x) = rv ad (k', x) := by
    rcases hk with rfl | rfl
    · rfl
    · rfl
  show W _ _ _ _ _ _ _ _ _ _ _ _ _ _ _ (F0 m pc rl (rv ad (k2, x) :: rv ad (k, o) :: st.map (vv ad)))
  rw [rv_nz ho, hv]
  have hnf : narrow (ftT (fty k j)) (rv ad (k', x)) = rv ad (k', x) ∧ fits (ftT (fty k j)) (rv ad (k', x)) = true := by
    rw [ht]
    exact fits_r k' ad (k', x)
  refine gx_putf C S.1 S.2.1 hF ⟨Nat.pos_of_ne_zero ho, S.pop.top⟩ (w1 := sR w k o j x) hnf.1 hnf.2 (fun _ => rfl) (fun _ _ => rfl) (fun k1 o' j' h => ⟨rfl, by rw [wR_sR, if_neg h]⟩) (fun k1 h => by
    have : k1 = k' := by omega
    subst this
    rw [wR_sR, if_pos ⟨rfl, rfl, rfl⟩]
    exact hx) (by rw [fv_r ht, wR_sR, if_pos ⟨rfl, rfl, rfl⟩]) hd (fun H1 locs1 hR1 hS1 => ?_)
  exact f p l e R s m args below meth c Q' D b0 c0 s0 w0 ad0 C K H1 locs1 cells slots ad rl (S.pop.pop.world hS1 hR1 (fun _ => rfl) rfl rfl)

/-- an index within -/
def IXN (i : Int32) (L n : Nat) : Prop := ¬ i < 0 ∧ i.toNatClampNeg = n ∧ n < L
theorem IXN.nI {n L : Nat} (h : n < L) (hL : L ≤ 1000000) : IXN (nI n) L n := ⟨nI_pos (by omega), nI_clamp (by omega), h⟩
theorem IXN.no {i : Int32} {L n : Nat} (h : IXN i L n) : ¬ (i < 0 ∨ L ≤ i.toNatClampNeg) := by
  rintro (h1 | h1)
  · exact h.1 h1
  · rw [h.2.1] at h1
    exact absurd h.2.2 (Nat.not_lt.mpr h1)
theorem aty_i {k : Nat} (h : aelem k = 0) : aty k = .int := by unfold aty; rw [h]
theorem aty_b {k : Nat} (h : aelem k = 1) : aty k = .boolean := by unfold aty; rw [h]
theorem aty_r {k k' : Nat} (h : aelem k = k' + 2) : aty k = .object (knm k') := by unfold aty; rw [h]
theorem XE.iald {k o n : Nat} {i x : Int32} (hd : decode cc pc = .ok (.iaload, 1)) (hk : k = 99 ∨ (100 ≤ k ∧ aelem k = 0)) (ho : o ≠ 0) (hi : IXN i (wL w k o) n) (hx : wI w k o n = x) (kk : XE own cc nL ret ini d (pc + 1) ls (.inl x :: st) w Q) : XE own cc nL ret ini d pc ls (.inl i :: .inr (k, o) :: st) w Q := by
  subst hx
  obtain ⟨r, w', q, hm, f⟩ := kk
  refine ⟨r, w', q, hm, ?_⟩
  intro p l e R s m args below meth c Q' D b0 c0 s0 w0 ad0 C K H locs cells slots ad rl S
  have f2 := f p l e R s m args below meth c Q' D b0 c0 s0 w0 ad0 C K H locs cells slots ad rl (S.pop.pop.push (v := .inl _) trivial)
  show W _ _ _ _ _ _ _ _ _ _ _ _ _ _ _ (F0 m pc rl (.int i :: rv ad (k, o) :: st.map (vv ad)))
  rw [rv_nz ho]
  have hin : inR w k o := ⟨Nat.pos_of_ne_zero ho, S.pop.top⟩
  have hno := hi.no
  have hlt := hi.2.2
  rcases hk with rfl | ⟨hk, ha⟩
  · obtain ⟨-, scr, h1, h2, h3, h4, h5⟩ := S.2.1.2.2.2.2.2.2.2 o hin
    exact W.iald (v := .int (wI w 99 o n)) C.1 C.2.1 h1 h2 h3 (by rw [h4]; exact hno) (by rw [hi.2.1]; exact h5 _ hlt) rfl rfl hd f2
  · obtain ⟨cA, a1, a2, a3⟩ := S.2.1.2.1 k o hk hin
    rw [aty_i ha] at a1
    exact W.iald (v := .int (wI w k o n)) C.1 C.2.1 a3 (a1 _ _) (fun q => by cases q) (by rw [arrV_size]; exact hno) (by rw [hi.2.1, arrV_read _ _ hlt, av_i (by omega)]) rfl rfl hd f2
theorem XE.zald {k o n : Nat} {i x : Int32} (hd : decode cc pc = .ok (.baload, 1)) (hk : 100 ≤ k) (ha : aelem k = 1) (ho : o ≠ 0) (hi : IXN i (wL w k o) n) (hx : wI w k o n = x) (kk : XE own cc nL ret ini d (pc + 1) ls (.inl x :: st) w Q) : XE own cc nL ret ini d pc ls (.inl i :: .inr (k, o) :: st) w Q := by
  subst hx
  obtain ⟨r, w', q, hm, f⟩ := kk
  refine ⟨r, w', q, hm, ?_⟩
  intro p l e R s m args below meth c Q' D b0 c0 s0 w0 ad0 C K H locs cells slots ad rl S
  have f2 := f p l e R s m args below meth c Q' D b0 c0 s0 w0 ad0 C K H locs cells slots ad rl (S.pop.pop.push (v := .inl _) trivial)
  show W _ _ _ _ _ _ _ _ _ _ _ _ _ _ _ (F0 m pc rl (.int i :: rv ad (k, o) :: st.map (vv ad)))
  rw [rv_nz ho]
  have hin : inR w k o := ⟨Nat.pos_of_ne_zero ho, S.pop.top⟩
  have hno := hi.no
  have hlt := hi.2.2
  obtain ⟨cA, a1, a2, a3⟩ := S.2.1.2.1 k o hk hin
  rw [aty_b ha] at a1
  exact W.zald (v := .int (wI w k o n)) C.1 C.2.1 a3 (a1 _ _) (fun q => by cases q) (by rw [arrV_size]; exact hno) (by rw [hi.2.1, arrV_read _ _ hlt, av_i (by omega)]) rfl rfl hd f2
theorem XE.alen {k o : Nat} {x : Int32} (hd : decode cc pc = .ok (.arraylength, 1)) (hk : k = 99 ∨ 100 ≤ k) (ho : o ≠ 0) (hx : nI (wL w k o) = x) (kk : XE own cc nL ret ini d (pc + 1) ls (.inl x :: st) w Q) : XE own cc nL ret ini d pc ls (.inr (k, o) :: st) w Q := by
  subst hx
  obtain ⟨r, w', q, hm, f⟩ := kk
  refine ⟨r, w', q, hm, ?_⟩
  intro p l e R s m args below meth c Q' D b0 c0 s0 w0 ad0 C K H locs cells slots ad rl S
  have f2 := f p l e R s m args below meth c Q' D b0 c0 s0 w0 ad0 C K H locs cells slots ad rl (S.pop.push (v := .inl _) trivial)
  show W _ _ _ _ _ _ _ _ _ _ _ _ _ _ _ (F0 m pc rl (rv ad (k, o) :: st.map (vv ad)))
  rw [rv_nz ho]
  have hin : inR w k o := ⟨Nat.pos_of_ne_zero ho, S.top⟩
  rcases hk with rfl | hk
  · obtain ⟨-, scr, h1, h2, h3, h4, h5⟩ := S.2.1.2.2.2.2.2.2.2 o hin
    exact W.alen (n := Int32.ofNat (wL w 99 o)) C.1 C.2.1 h1 h2 (by rw [h4] <;> rfl) rfl rfl hd f2
  · obtain ⟨cA, a1, a2, a3⟩ := S.2.1.2.1 k o hk hin
    exact W.alen (n := Int32.ofNat (wL w k o)) C.1 C.2.1 a3 (a1 _ _) (by rw [arrV_size] <;> rfl) rfl rfl hd f2
theorem XE.aald {k o n k' x : Nat} {i : Int32} (hd : decode cc pc = .ok (.aaload, 1)) (hk : 100 ≤ k) (ha : aelem k = k' + 2) (ho : o ≠ 0) (hi : IXN i (wL w k o) n) (hx : wR w k o n = x) (kk : XE own cc nL ret ini d (pc + 1) ls (.inr (k', x) :: st) w Q) : XE own cc nL ret ini d pc ls (.inl i :: .inr (k, o) :: st) w Q := by
  subst hx
  obtain ⟨r, w', q, hm, f⟩ := kk
  refine ⟨r, w', q, hm, ?_⟩
  intro p l e R s m args below meth c Q' D b0 c0 s0 w0 ad0 C K H locs cells slots ad rl S
  have hin : inR w k o := ⟨Nat.pos_of_ne_zero ho, S.pop.top⟩
  have f2 := f p l e R s m args below meth c Q' D b0 c0 s0 w0 ad0 C K H locs cells slots ad rl (S.pop.pop.push (v := .inr (k', wR w k o n)) (S.2.1.2.2.2.2.2.1 k o n k' hk ha hin))
  show W _ _ _ _ _ _ _ _ _ _ _ _ _ _ _ (F0 m pc rl (.int i :: rv ad (k, o) :: st.map (vv ad)))
  rw [rv_nz ho]
  obtain ⟨cA, a1, a2, a3⟩ := S.2.1.2.1 k o hk hin
  rw [aty_r ha] at a1
  exact W.aald (v := rv ad (k', wR w k o n)) (ty := .object (knm k')) C.1 C.2.1 a3 (a1 _ _) rfl (fun q => by cases q) (by rw [arrV_size]; exact hi.no) (by rw [hi.2.1, arrV_read _ _ hi.2.2, av_r ha]) rfl rfl hd f2
theorem av_st {ad : AD} {w w1 : WW} {k o n : Nat} {v : Value} (hv : av ad w1 k o n = v) (hI : ∀ j, j ≠ n → wI w1 k o j = wI w k o j ∧ wR w1 k o j = wR w k o j) : updV (av ad w k o) n v = av ad w1 k o := by
  funext j
  by_cases h : j = n
  · subst h
    simp [updV, hv]
  · rw [av_same (hI j h).1 (hI j h).2]
    simp [updV, h]
theorem XE.iast {k o n : Nat} {i x : Int32} (hd : decode cc pc = .ok (.iastore, 1)) (hk : 100 ≤ k) (ha : aelem k = 0) (ho : o ≠ 0) (hi : IXN i (wL w k o) n) (kk : XE own cc nL ret ini d (pc + 1) ls st (sI w k o n x) Q) : XE own cc nL ret ini d pc ls (.inl x :: .inl i :: .inr (k, o) :: st) w Q := by
  obtain ⟨r, w', q, hm, f⟩ := kk
  refine ⟨r, w', q, hm, ?_⟩
  intro p l e R s m args below meth c Q' D b0 c0 s0 w0 ad0 C K H locs cells slots ad rl S
  have hin : inR w k o := ⟨Nat.pos_of_ne_zero ho, S.pop.pop.top⟩
  show W _ _ _ _ _ _ _ _ _ _ _ _ _ _ _ (F0 m pc rl (.int x :: .int i :: rv ad (k, o) :: st.map (vv ad)))
  rw [rv_nz ho]
  obtain ⟨cA, a1, a2, a3⟩ := S.2.1.2.1 k o hk hin
  have a1' := a1
  rw [aty_i ha] at a1'
  refine W.iast C.1 C.2.1 a3 (a1' _ _) (fun q => by cases q) (by rw [arrV_size]; exact hi.no) rfl rfl hd fun H1 e1 z1 o1 => ?_
  rw [hi.2.1, arrV_store, av_st (ad := ad) (w := w) (w1 := sI w k o n x) (by rw [av_i (by omega), wI_sI, if_pos ⟨rfl, rfl, rfl⟩]) (fun j hj => ⟨by rw [wI_sI, if_neg (fun z => hj z.2.2)], rfl⟩)] at e1
  have hR1 : Rel s D b0 ad (sI w k o n x) H1 := S.2.1.wr (by omega) hin z1 o1 (fun _ => rfl) (fun _ _ => rfl) (fun k' o' j' h => ⟨by rw [wI_sI, if_neg h], rfl⟩) (fun k' _ h => by omega) (fun k' h _ => by omega) (fun C2 T2 N2 h2 => absurd (vw_lt h2) (by omega)) (fun _ => ⟨cA, a1, a2, e1⟩)
  exact f p l e R s m args below meth c Q' D b0 c0 s0 w0 ad0 C K H1 _ cells slots ad rl (S.pop.pop.pop.world (S.1.put z1 o1 (S.2.1.2.2.2.1 k o (by omega) hin).1) hR1 (fun _ => rfl) rfl rfl)
theorem XE.zast {k o n : Nat} {i x : Int32} (hd : decode cc pc = .ok (.bastore, 1)) (hk : 100 ≤ k) (ha : aelem k = 1) (hb : x = 0 ∨ x = 1) (ho : o ≠ 0) (hi : IXN i (wL w k o) n) (kk : XE own cc nL ret ini d (pc + 1) ls st (sI w k o n x) Q) : XE own cc nL ret ini d pc ls (.inl x :: .inl i :: .inr (k, o) :: st) w Q := by
  obtain ⟨r, w', q, hm, f⟩ := kk
  refine ⟨r, w', q, hm, ?_⟩
  intro p l e R s m args below meth c Q' D b0 c0 s0 w0 ad0 C K H locs cells slots ad rl S
  have hin : inR w k o := ⟨Nat.pos_of_ne_zero ho, S.pop.pop.top⟩
  show W _ _ _ _ _ _ _ _ _ _ _ _ _ _ _ (F0 m pc rl (.int x :: .int i :: rv ad (k, o) :: st.map (vv ad)))
  rw [rv_nz ho]
  obtain ⟨cA, a1, a2, a3⟩ := S.2.1.2.1 k o hk hin
  have a1' := a1
  rw [aty_b ha] at a1'
  refine W.zast C.1 C.2.1 a3 (a1' _ _) (fun q => by cases q) (by rw [arrV_size]; exact hi.no) rfl rfl hd fun H1 e1 z1 o1 => ?_
  rw [show narrow .boolean (.int x) = .int x by rcases hb with h | h <;> rw [h] <;> decide, hi.2.1, arrV_store, av_st (ad := ad) (w := w) (w1 := sI w k o n x) (by rw [av_i (by omega), wI_sI, if_pos ⟨rfl, rfl, rfl⟩]) (fun j hj => ⟨by rw [wI_sI, if_neg (fun z => hj z.2.2)], rfl⟩)] at e1
  have hR1 : Rel s D b0 ad (sI w k o n x) H1 := S.2.1.wr (by omega) hin z1 o1 (fun _ => rfl) (fun _ _ => rfl) (fun k' o' j' h => ⟨by rw [wI_sI, if_neg h], rfl⟩) (fun k' _ h => by omega) (fun k' h _ => by omega) (fun C2 T2 N2 h2 => absurd (vw_lt h2) (by omega)) (fun _ => ⟨cA, a1, a2, e1⟩)
  exact f p l e R s m args below meth c Q' D b0 c0 s0 w0 ad0 C K H1 _ cells slots ad rl (S.pop.pop.pop.world (S.1.put z1 o1 (S.2.1.2.2.2.1 k o (by omega) hin).1) hR1 (fun _ => rfl) rfl rfl)
theorem XE.aast {k o n k' k2 x : Nat} {i : Int32} {Cn : String} {T : u_T} {N : Nat} (hd : decode cc pc = .ok (.aastore, 1)) (hk : 100 ≤ k) (ha : aelem k = k' + 2) (hc : vwCl[k']? = some (Cn, T, N)) (hk2 : k2 = k' ∨ x = 0) (ho : o ≠ 0) (hi : IXN i (wL w k o) n) (kk : XE own cc nL ret ini d (pc + 1) ls st (sR w k o n x) Q) : XE own cc nL ret ini d pc ls (.inr (k2, x) :: .inl i :: .inr (k, o) :: st) w Q := by
  obtain ⟨r, w', q, hm, f⟩ := kk
  refine ⟨r, w', q, hm, ?_⟩
  intro p l e R s m args below meth c Q' D b0 c0 s0 w0 ad0 C K H locs cells slots ad rl S
  have hin : inR w k o := ⟨Nat.pos_of_ne_zero ho, S.pop.pop.top⟩
  have hx : x ≤ wC w k' := by
    rcases hk2 with rfl | rfl
    · exact S.top
    · exact Nat.zero_le _
  have hv : rv ad (k2, x) = rv ad (k', x) := by
    rcases hk2 with rfl | rfl
    · rfl
    · rfl
  show W _ _ _ _ _ _ _ _ _ _ _ _ _ _ _ (F0 m pc rl (rv ad (k2, x) :: .int i :: rv ad (k, o) :: st.map (vv ad)))
  rw [rv_nz ho, hv]
  obtain ⟨cA, a1, a2, a3⟩ := S.2.1.2.1 k o hk hin
  have a1' := a1
  have a2' := a2
  rw [aty_r ha] at a1' a2'
  have go : ∀ H1 : Heap, H1[ad k o]? = some ((arrV cA (wL w k o) (av ad w k o)).setSlot i.toNatClampNeg (rv ad (k', x))) → H1.size = H.size → (∀ q, q ≠ ad k o → H1[q]? = H[q]?) → W p l e R s m args below meth c H1 (locs ++ [⟨ad k o, i.toNatClampNeg⟩]) cells slots Q' (F0 m (pc + 1) rl (st.map (vv ad))) := by
    intro H1 e1 z1 o1
    rw [hi.2.1, arrV_store, av_st (ad := ad) (w := w) (w1 := sR w k o n x) (by rw [av_r ha, wR_sR, if_pos ⟨rfl, rfl, rfl⟩]) (fun j hj => ⟨rfl, by rw [wR_sR, if_neg (fun z => hj z.2.2)]⟩)] at e1
    have hR1 : Rel s D b0 ad (sR w k o n x) H1 := S.2.1.wr (by omega) hin z1 o1 (fun _ => rfl) (fun _ _ => rfl) (fun k1 o' j' h => ⟨rfl, by rw [wR_sR, if_neg h]⟩) (fun k' _ h => by omega) (fun k1 h _ => by
      have : k1 = k' := by omega
      subst this
      rw [wR_sR, if_pos ⟨rfl, rfl, rfl⟩]
      exact hx) (fun C2 T2 N2 h2 => absurd (vw_lt h2) (by omega)) (fun _ => ⟨cA, a1, a2, e1⟩)
    exact f p l e R s m args below meth c Q' D b0 c0 s0 w0 ad0 C K H1 _ cells slots ad rl (S.pop.pop.pop.world (S.1.put z1 o1 (S.2.1.2.2.2.1 k o (by omega) hin).1) hR1 (fun _ => rfl) rfl rfl)
  by_cases hx0 : x = 0
  · subst hx0
    exact va_WaastN (C := knm k') C.1 C.2.1 a3 (a1' _ _) (fun h => by cases h) (by rw [arrV_size]; exact hi.no) rfl rfl hd go
  · obtain ⟨cellV, g1, g2, g3, -⟩ := S.2.1.1 k' x Cn T N hc ⟨Nat.pos_of_ne_zero hx0, hx⟩
    have hcls := (C.2.2.2.2.2.2.2.2.1.1.1 k' _ hc).2
    obtain ⟨kA, comp, k1, k2', k3, -⟩ := a2'
    rw [knm_ok hc] at k3
    have hcomp : comp = D.1 k' := Option.some.inj (k3.symm.trans hcls.1)
    subst hcomp
    obtain ⟨kC, hkC, -⟩ := hcls.2
    rw [rv_nz hx0] at go ⊢
    exact W.aast C.1 C.2.1 a3 (fun q h => by cases h) (fun h => by cases h) k1 k2' rfl hkC ⟨hi.1, by rw [arrV_size, hi.2.1]; exact hi.2.2⟩ g1 (fun q h => by rw [g3] at h; cases h) (by rw [g2]; exact hkC) (by rw [g2]; exact va_assign hcls) rfl rfl hd go
/-! making -/
def adN (ad : AD) (k o a : Nat) : AD := fun k' o' => if k' = k ∧ o' = o then a else ad k' o'
theorem adN_new (ad : AD) (k o a : Nat) : adN ad k o a k o = a := if_pos ⟨rfl, rfl⟩
theorem adN_old {ad : AD} {k o a k' o' : Nat} (h : ¬ (k' = k ∧ o' = o)) : adN ad k o a k' o' = ad k' o' := if_neg h
theorem adN_EX (ad : AD) (w : WW) (k a : Nat) : EX w ad (adN ad k (wC w k + 1) a) := fun k' o' h => adN_old (fun e => by
  obtain ⟨rfl, rfl⟩ := e
  exact absurd h.2 (by omega))
theorem Rel.nw {s : State} {D : va_G} {b0 : Nat} {ad : AD} {w w1 : WW} {H H1 : Heap} (hR : Rel s D b0 ad w H) {k : Nat} (hk9 : k ≠ 99) (hb : b0 ≤ H.size)
    (hz : H1.size = H.size + 1) (hq : ∀ q : Nat, q < H.size → H1[q]? = H[q]?)
    (hC : ∀ k', wC w1 k' = if k' = k then wC w k + 1 else wC w k') (hI : ∀ k' o' j', wI w1 k' o' j' = wI w k' o' j' ∧ wR w1 k' o' j' = wR w k' o' j')
    (hL : ∀ k' o', ¬ (k' = k ∧ o' = wC w k + 1) → wL w1 k' o' = wL w k' o')
    (hO : ∀ (C : String) (T : u_T) (N : Nat), vwCl[k]? = some (C, T, N) → t_OB H.size (D.1 k) N (D.2 k) H1 (fv (adN ad k (wC w k + 1) H.size) w1 k (wC w k + 1)))
    (hA : 100 ≤ k → ∃ cA : ClassId, ArrOfT s cA (aty k) ∧ va_RA s cA (aty k) ∧ H1[H.size]? = some (arrV cA (wL w1 k (wC w k + 1)) (av (adN ad k (wC w k + 1) H.size) w1 k (wC w k + 1)))) :
    Rel s D b0 (adN ad k (wC w k + 1) H.size) w1 H1 := by
  have hE := adN_EX ad w k H.size
  obtain ⟨h1, h2, h3, h4, h5, h6, h7, h8⟩ := hR
  have mo : ∀ k', wC w k' ≤ wC w1 k' := fun k' => by
    rw [hC]
    split
    · rename_i e; rw [e]; omega
    · exact Nat.le_refl _
  have cs : ∀ {k' o'}, inR w1 k' o' → (k' = k ∧ o' = wC w k + 1) ∨ (inR w k' o' ∧ ¬ (k' = k ∧ o' = wC w k + 1)) := by
    intro k' o' h
    by_cases n : k' = k ∧ o' = wC w k + 1
    · exact Or.inl n
    · refine Or.inr ⟨⟨h.1, ?_⟩, n⟩
      have h9 := h.2
      rw [hC] at h9
      by_cases e : k' = k
      · subst e
        rw [if_pos rfl] at h9
        have : o' ≠ wC w k' + 1 := fun q => n ⟨rfl, q⟩
        omega
      · rw [if_neg e] at h9
        exact h9
  have z0 : ∀ j, wR w1 k (wC w k + 1) j = 0 := fun j => by rw [(hI _ _ _).2]; exact (h7 k _ j (by omega)).2
  refine ⟨fun k' o' C T N hc h => ?_, fun k' o' hk' h => ?_, fun a b a' b' x1 x2 x3 x4 x5 => ?_, fun a b x1 x2 => ?_, fun k' o' j' k2 hk' e h => ?_, fun k' o' j' k2 hk' e h => ?_, fun k' o' j' h => ?_, fun o' h => ?_⟩
  · rcases cs h with ⟨rfl, rfl⟩ | ⟨h', n⟩
    · rw [adN_new]
      exact hO C T N hc
    · rw [adN_old n]
      have e9 : k' ≠ 99 := Nat.ne_of_lt (vw_lt hc)
      refine ((h1 k' o' C T N hc h').kept (hq _ (h4 k' o' e9 h').2)).to (fun j' _ => ?_)
      rw [fv_same (w := w) (hI _ _ _).1 (hI _ _ _).2]
      exact (fv_ext hE (fun k2 e2 => h5 k' o' j' k2 (vw_lt hc) e2 h')).symm
  · rcases cs h with ⟨rfl, rfl⟩ | ⟨h', n⟩
    · rw [adN_new]
      exact hA hk'
    · rw [adN_old n]
      obtain ⟨cA, a1, a2, a3⟩ := h2 k' o' hk' h'
      refine ⟨cA, a1, a2, ?_⟩
      rw [hq _ (h4 k' o' (by omega) h').2, a3, hL _ _ n]
      congr 2
      funext j'
      rw [av_same (w := w) (hI _ _ _).1 (hI _ _ _).2]
      exact (av_ext hE (fun k2 e2 => h6 k' o' j' k2 hk' e2 h')).symm
  · rcases cs x3 with ⟨rfl, rfl⟩ | ⟨h', n⟩ <;> rcases cs x4 with ⟨rfl, rfl⟩ | ⟨h'', n'⟩
    · exact ⟨rfl, rfl⟩
    · rw [adN_new, adN_old n'] at x5
      have := (h4 _ _ x2 h'').2
      omega
    · rw [adN_new, adN_old n] at x5
      have := (h4 _ _ x1 h').2
      omega
    · rw [adN_old n, adN_old n'] at x5
      exact h3 _ _ _ _ x1 x2 h' h'' x5
  · rcases cs x2 with ⟨rfl, rfl⟩ | ⟨h', n⟩
    · rw [adN_new, hz]
      exact ⟨hb, by omega⟩
    · rw [adN_old n, hz]
      have := h4 a b x1 h'
      exact ⟨this.1, by omega⟩
  · rcases cs h with ⟨rfl, rfl⟩ | ⟨h', n⟩
    · rw [z0]; exact Nat.zero_le _
    · rw [(hI _ _ _).2]
      exact Nat.le_trans (h5 k' o' j' k2 hk' e h') (mo k2)
  · rcases cs h with ⟨rfl, rfl⟩ | ⟨h', n⟩
    · rw [z0]; exact Nat.zero_le _
    · rw [(hI _ _ _).2]
      exact Nat.le_trans (h6 k' o' j' k2 hk' e h') (mo k2)
  · rw [(hI _ _ _).1, (hI _ _ _).2]
    exact h7 k' o' j' (Nat.lt_of_le_of_lt (mo k') h)
  · rcases cs h with ⟨e, -⟩ | ⟨h', n⟩
    · exact absurd e.symm hk9
    · rw [adN_old n]
      obtain ⟨x1, x2⟩ := h8 o' h'
      refine ⟨x1, ?_⟩
      have e : wI w1 99 o' = wI w 99 o' := by
        funext j'
        exact (hI _ _ _).1
      rw [hL _ _ n, e]
      exact x2.kept (hq _ (by omega))
theorem ST.nw {s : State} {D : va_G} {b0 c0 s0 : Nat} {w0 : WW} {ad0 ad1 : AD} {nL : Nat} {ls : List (Option VV)} {st : List VV} {w w1 : WW} {H H1 : Heap} {locs locs1 : List Loc} {cells slots cells1 slots1 : Nat} {ad : AD} {rl : Array Slot} (S : ST s D b0 c0 s0 w0 ad0 nL ls st w H locs cells slots ad rl)
    (hS : va_S (fun q => b0 ≤ q) s.heap H1 locs1) (hR : Rel s D b0 ad1 w1 H1) (hE : EX w ad ad1) (hC : ∀ k, wC w k ≤ wC w1 k) (hn : cells1 + c0 = wn w1) (hz : slots1 + s0 = wz w1) : ST s D b0 c0 s0 w0 ad0 nL ls st w1 H1 locs1 cells1 slots1 ad1 rl :=
  ⟨hS, hR, S.2.2.1.ext hE S.2.2.2.1.1, ⟨fun v hv => (S.2.2.2.1.1 v hv).mono hC, fun v hv => (S.2.2.2.1.2 v hv).mono hC⟩, fun k => Nat.le_trans (S.2.2.2.2.1 k) (hC k),
    fun k o h => (hE k o ⟨h.1, Nat.le_trans h.2 (S.2.2.2.2.1 k)⟩).trans (S.2.2.2.2.2.1 k o h), hn, hz⟩
def NEWD (own : String) (idx k N : Nat) : Prop := ∃ (C : String) (T : u_T), vwCl[k]? = some (C, T, N) ∧ Cond.classLink own idx C ∈ tbl ∧ Cond.instantiable C N ∈ tbl ∧ Cond.initialized C ∈ tbl
theorem ft_def {w : WW} {ad : AD} {k o j : Nat} (h1 : wI w k o j = 0) (h2 : wR w k o j = 0) : defaultValue (ftT (fty k j)) = fv ad w k o j := by
  unfold fv
  split
  · rename_i h; rw [h, h1]; rfl
  · rename_i h; rw [h, h1]; rfl
  · rename_i k' h
    rw [h, h2]
    show defaultValue (kT k') = _
    unfold kT
    split <;> rfl
theorem tot_nO (f : Nat → Nat) (w : WW) {k : Nat} (n : Nat) (hk : k < 120) : tot f (nO w k n) = tot f w + f k := by
  have := sum_up f (wC w) (wC (nO w k n)) k (fun k' h => by rw [wC_nO, if_neg h]) (by rw [wC_nO, if_pos rfl]) 120
  rw [if_pos hk] at this
  exact this
theorem tot_nA (f : Nat → Nat) (w : WW) {k : Nat} (n : Nat) (hk : k < 120) : tot f (nA w k n) = tot f w + f k := by
  have := sum_up f (wC w) (wC (nA w k n)) k (fun k' h => by rw [wC_nA, if_neg h]) (by rw [wC_nA, if_pos rfl]) 120
  rw [if_pos hk] at this
  exact this
theorem mon_nO (w : WW) {k n : Nat} (hk : k < 120) (hn : n ≤ ksz k) : MON w (nO w k n) := ⟨by rw [wn_nO]; omega, by rw [wz_nO]; omega, fun k' => by
  rw [wC_nO]
  split
  · rename_i e; rw [e]; omega
  · exact Nat.le_refl _, by rw [tot_nO _ _ _ hk, wn_nO]; omega, by rw [tot_nO _ _ _ hk, wz_nO]; omega⟩
theorem mon_nA (w : WW) {k n : Nat} (hk : k < 120) (hn : n ≤ ksz k) : MON w (nA w k n) := ⟨by rw [wn_nA]; omega, by rw [wz_nA]; omega, fun k' => by
  rw [wC_nA]
  split
  · rename_i e; rw [e]; omega
  · exact Nat.le_refl _, by rw [tot_nA _ _ _ hk, wn_nA]; omega, by rw [tot_nA _ _ _ hk, wz_nA]; omega⟩
theorem XE.new {k N idx : Nat} (hd : decode cc pc = .ok (.new idx, 3)) (hN : NEWD own idx k N) (kk : XE own cc nL ret ini d (pc + 3) ls (.inr (k, wC w k + 1) :: st) (nO w k N) Q) : XE own cc nL ret ini d pc ls st w Q := by
  obtain ⟨r, w', q, hm, f⟩ := kk
  obtain ⟨Cn, T, hc, hcl, hins, hini⟩ := hN
  have mo := mon_nO w (Nat.lt_trans (vw_lt hc) (by decide)) (ksz_ok hc)
  refine ⟨r, w', q, ⟨mo.tr hm.1, hm.2⟩, ?_⟩
  intro p l e R s m args below meth c Q' D b0 c0 s0 w0 ad0 C K H locs cells slots ad rl S
  have hk9 : k ≠ 99 := Nat.ne_of_lt (vw_lt hc)
  have hts := C.2.2.2.2.2.1
  have hKn := C.2.2.2.2.2.2.2.2.1.1.1 k _ hc
  have m1 := hm.1.1
  have m2 := hm.1.2.1
  rw [wn_nO] at m1
  rw [wz_nO] at m2
  have r1 := K.1
  have r2 := K.2.1
  have c1 := S.2.2.2.2.2.2.1
  have c2 := S.2.2.2.2.2.2.2
  have hbH : b0 ≤ H.size := Nat.le_trans C.2.2.2.2.2.2.2.2.2.2.2 S.1.1
  refine W.newcK C.1 C.2.1 C.2.2.2.2.1 (hts _ hcl) (hts _ hins) (hts _ hini) rfl hd (by omega) (by omega) hKn.2.1 rfl fun H1 kC hkC e1 z1 o1 => ?_
  have hR1 : Rel s D b0 (adN ad k (wC w k + 1) H.size) (nO w k N) H1 := by
    refine S.2.1.nw hk9 hbH z1 o1 (fun k' => wC_nO w k N k') (fun _ _ _ => ⟨rfl, rfl⟩) (fun _ _ _ => rfl) (fun C2 T2 N2 h2 => ?_) (fun h => absurd (vw_lt hc) (by omega))
    cases hc.symm.trans h2
    refine (u_born (fun j => ftT (fty k j)) hts (vw_in hc) hKn hkC e1 (fty_ok hc)).to (fun j _ => ?_)
    have z := S.2.1.2.2.2.2.2.2.1 k (wC w k + 1) j (by omega)
    exact ft_def z.1 z.2
  have S1 := S.nw (locs1 := locs) (cells1 := cells + 1) (slots1 := slots + N) ⟨Nat.le_trans S.1.1 (by omega), fun x h1 h2 => (o1 x (Nat.lt_of_lt_of_le h1 S.1.1)).trans (S.1.2.1 x h1 h2), S.1.2.2⟩ hR1 (adN_EX ad w k H.size) mo.2.2.1 (by rw [wn_nO]; omega) (by rw [wz_nO]; omega)
  have S2 := S1.push (v := .inr (k, wC w k + 1)) (show wC w k + 1 ≤ wC (nO w k N) k by rw [wC_nO, if_pos rfl]; exact Nat.le_refl _)
  have f2 := f p l e R s m args below meth c Q' D b0 c0 s0 w0 ad0 C K H1 locs (cells + 1) (slots + N) _ rl S2
  have e2 : ((Sum.inr (k, wC w k + 1) : VV) :: st).map (vv (adN ad k (wC w k + 1) H.size)) = .ref H.size :: st.map (vv ad) := by
    show rv (adN ad k (wC w k + 1) H.size) (k, wC w k + 1) :: st.map (vv (adN ad k (wC w k + 1) H.size)) = _
    rw [rv_nz (Nat.succ_ne_zero _), adN_new, map_ext (adN_EX ad w k H.size) S.2.2.2.1.2]
  rw [e2] at f2
  exact f2
theorem XE.newa {k n : Nat} {x : Int32} (hd : decode cc pc = .ok (.newarray .int, 2)) (hk : 100 ≤ k) (hk2 : k < 120) (ha : aelem k = 0) (hcl : Cond.arrayClass .int ∈ tbl) (hx0 : ¬ x < 0) (hx : x.toNatClampNeg = n) (hn : n ≤ ksz k) (kk : XE own cc nL ret ini d (pc + 2) ls (.inr (k, wC w k + 1) :: st) (nA w k n) Q) : XE own cc nL ret ini d pc ls (.inl x :: st) w Q := by
  obtain ⟨r, w', q, hm, f⟩ := kk
  have mo := mon_nA w hk2 hn
  have hn6 := Nat.le_trans hn (ksz_le k)
  refine ⟨r, w', q, ⟨mo.tr hm.1, hm.2⟩, ?_⟩
  intro p l e R s m args below meth c Q' D b0 c0 s0 w0 ad0 C K H locs cells slots ad rl S
  have hts := C.2.2.2.2.2.1
  have m1 := hm.1.1
  have m2 := hm.1.2.1
  rw [wn_nA] at m1
  rw [wz_nA] at m2
  have r1 := K.1
  have r2 := K.2.1
  have c1 := S.2.2.2.2.2.2.1
  have c2 := S.2.2.2.2.2.2.2
  have hbH : b0 ≤ H.size := Nat.le_trans C.2.2.2.2.2.2.2.2.2.2.2 S.1.1
  refine va_newaK C.1 C.2.1 (atype := .int) (hts _ hcl) rfl hd rfl hx0 hx (by show n * 4 ≤ _; omega) (by omega) (by omega) rfl fun H1 cA e1 z1 o1 hAr hNm => ?_
  have hR1 : Rel s D b0 (adN ad k (wC w k + 1) H.size) (nA w k n) H1 := by
    refine S.2.1.nw (by omega) hbH z1 o1 (fun k' => wC_nA w k n k') (fun _ _ _ => ⟨rfl, rfl⟩) (fun k' o' h => by rw [wL_nA, if_neg h]) (fun C2 T2 N2 h2 => absurd (vw_lt h2) (by omega)) (fun _ => ⟨cA, by rw [aty_i ha]; exact hAr, by rw [aty_i ha]; exact hNm, ?_⟩)
    rw [e1, wL_nA, if_pos ⟨rfl, rfl⟩]
    congr 2
    funext j
    rw [av_i (by omega), wI_nA, (S.2.1.2.2.2.2.2.2.1 k (wC w k + 1) j (by omega)).1]
    rfl
  have S1 := S.pop.nw (locs1 := locs) (cells1 := cells + 1) (slots1 := slots + n) ⟨Nat.le_trans S.1.1 (by omega), fun x h1 h2 => (o1 x (Nat.lt_of_lt_of_le h1 S.1.1)).trans (S.1.2.1 x h1 h2), S.1.2.2⟩ hR1 (adN_EX ad w k H.size) mo.2.2.1 (by rw [wn_nA]; omega) (by rw [wz_nA]; omega)
  have S2 := S1.push (v := .inr (k, wC w k + 1)) (show wC w k + 1 ≤ wC (nA w k n) k by rw [wC_nA, if_pos rfl]; exact Nat.le_refl _)
  have f2 := f p l e R s m args below meth c Q' D b0 c0 s0 w0 ad0 C K H1 locs (cells + 1) (slots + n) _ rl S2
  have e2 : ((Sum.inr (k, wC w k + 1) : VV) :: st).map (vv (adN ad k (wC w k + 1) H.size)) = .ref H.size :: st.map (vv ad) := by
    show rv (adN ad k (wC w k + 1) H.size) (k, wC w k + 1) :: st.map (vv (adN ad k (wC w k + 1) H.size)) = _
    rw [rv_nz (Nat.succ_ne_zero _), adN_new, map_ext (adN_EX ad w k H.size) S.pop.2.2.2.1.2]
  rw [e2] at f2
  exact f2
theorem XE.newz {k n : Nat} {x : Int32} (hd : decode cc pc = .ok (.newarray .boolean, 2)) (hk : 100 ≤ k) (hk2 : k < 120) (ha : aelem k = 1) (hcl : Cond.arrayClass .boolean ∈ tbl) (hx0 : ¬ x < 0) (hx : x.toNatClampNeg = n) (hn : n ≤ ksz k) (kk : XE own cc nL ret ini d (pc + 2) ls (.inr (k, wC w k + 1) :: st) (nA w k n) Q) : XE own cc nL ret ini d pc ls (.inl x :: st) w Q := by
  obtain ⟨r, w', q, hm, f⟩ := kk
  have mo := mon_nA w hk2 hn
  have hn6 := Nat.le_trans hn (ksz_le k)
  refine ⟨r, w', q, ⟨mo.tr hm.1, hm.2⟩, ?_⟩
  intro p l e R s m args below meth c Q' D b0 c0 s0 w0 ad0 C K H locs cells slots ad rl S
  have hts := C.2.2.2.2.2.1
  have m1 := hm.1.1
  have m2 := hm.1.2.1
  rw [wn_nA] at m1
  rw [wz_nA] at m2
  have r1 := K.1
  have r2 := K.2.1
  have c1 := S.2.2.2.2.2.2.1
  have c2 := S.2.2.2.2.2.2.2
  have hbH : b0 ≤ H.size := Nat.le_trans C.2.2.2.2.2.2.2.2.2.2.2 S.1.1
  refine va_newaK C.1 C.2.1 (atype := .boolean) (hts _ hcl) rfl hd rfl hx0 hx (by show n * 1 ≤ _; omega) (by omega) (by omega) rfl fun H1 cA e1 z1 o1 hAr hNm => ?_
  have hR1 : Rel s D b0 (adN ad k (wC w k + 1) H.size) (nA w k n) H1 := by
    refine S.2.1.nw (by omega) hbH z1 o1 (fun k' => wC_nA w k n k') (fun _ _ _ => ⟨rfl, rfl⟩) (fun k' o' h => by rw [wL_nA, if_neg h]) (fun C2 T2 N2 h2 => absurd (vw_lt h2) (by omega)) (fun _ => ⟨cA, by rw [aty_b ha]; exact hAr, by rw [aty_b ha]; exact hNm, ?_⟩)
    rw [e1, wL_nA, if_pos ⟨rfl, rfl⟩]
    congr 2
    funext j
    rw [av_i (by omega), wI_nA, (S.2.1.2.2.2.2.2.2.1 k (wC w k + 1) j (by omega)).1]
    rfl
  have S1 := S.pop.nw (locs1 := locs) (cells1 := cells + 1) (slots1 := slots + n) ⟨Nat.le_trans S.1.1 (by omega), fun x h1 h2 => (o1 x (Nat.lt_of_lt_of_le h1 S.1.1)).trans (S.1.2.1 x h1 h2), S.1.2.2⟩ hR1 (adN_EX ad w k H.size) mo.2.2.1 (by rw [wn_nA]; omega) (by rw [wz_nA]; omega)
  have S2 := S1.push (v := .inr (k, wC w k + 1)) (show wC w k + 1 ≤ wC (nA w k n) k by rw [wC_nA, if_pos rfl]; exact Nat.le_refl _)
  have f2 := f p l e R s m args below meth c Q' D b0 c0 s0 w0 ad0 C K H1 locs (cells + 1) (slots + n) _ rl S2
  have e2 : ((Sum.inr (k, wC w k + 1) : VV) :: st).map (vv (adN ad k (wC w k + 1) H.size)) = .ref H.size :: st.map (vv ad) := by
    show rv (adN ad k (wC w k + 1) H.size) (k, wC w k + 1) :: st.map (vv (adN ad k (wC w k + 1) H.size)) = _
    rw [rv_nz (Nat.succ_ne_zero _), adN_new, map_ext (adN_EX ad w k H.size) S.pop.2.2.2.1.2]
  rw [e2] at f2
  exact f2
def ANWD (own : String) (idx k : Nat) : Prop := ∃ k' : Nat, aelem k = k' + 2 ∧ Cond.classLink own idx (knm k') ∈ tbl ∧ knm k' ∈ aoN
theorem XE.anew {k n idx : Nat} {x : Int32} (hd : decode cc pc = .ok (.anewarray idx, 3)) (hk : 100 ≤ k) (hk2 : k < 120) (hcl : ANWD own idx k) (hx0 : ¬ x < 0) (hx : x.toNatClampNeg = n) (hn : n ≤ ksz k) (kk : XE own cc nL ret ini d (pc + 3) ls (.inr (k, wC w k + 1) :: st) (nA w k n) Q) : XE own cc nL ret ini d pc ls (.inl x :: st) w Q := by
  subst hx
  obtain ⟨r, w', q, hm, f⟩ := kk
  have mo := mon_nA w hk2 hn
  have hn6 := Nat.le_trans hn (ksz_le k)
  refine ⟨r, w', q, ⟨mo.tr hm.1, hm.2⟩, ?_⟩
  intro p l e R s m args below meth c Q' D b0 c0 s0 w0 ad0 C K H locs cells slots ad rl S
  have hts := C.2.2.2.2.2.1
  obtain ⟨k', ha, hl1, hl2⟩ := hcl
  have m1 := hm.1.1
  have m2 := hm.1.2.1
  rw [wn_nA] at m1
  rw [wz_nA] at m2
  have r1 := K.1
  have r2 := K.2.1
  have c1 := S.2.2.2.2.2.2.1
  have c2 := S.2.2.2.2.2.2.2
  have hbH : b0 ≤ H.size := Nat.le_trans C.2.2.2.2.2.2.2.2.2.2.2 S.1.1
  refine W.anew C.1 C.2.1 C.2.2.2.2.1 (hts _ hl1) (va_AO.use (C.2.2.2.2.2.2.2.2.1.2 _ hl2)) rfl hd rfl hx0 (by omega) (by omega) (by omega) fun cA kA comp g1 g2 g3 g4 => ?_
  generalize hH1 : H.push ({ cls := cA, slots := Array.replicate x.toNatClampNeg .null, vm := .none } : Cell) = H1
  have z1 : H1.size = H.size + 1 := by rw [← hH1, Array.size_push]
  have e1 : H1[H.size]? = some (arrV cA x.toNatClampNeg (fun _ => .null)) := by rw [← hH1, Array.getElem?_push_size, ← arrV_new]
  have o1 : ∀ q : Nat, q < H.size → H1[q]? = H[q]? := fun q hq => by rw [← hH1, Array.getElem?_push, if_neg (Nat.ne_of_lt hq)]
  have hAr : ArrOfT s cA (.object (knm k')) := fun N z => ⟨(fun k h => by cases h), kA, g2, comp, g3⟩
  have hR1 : Rel s D b0 (adN ad k (wC w k + 1) H.size) (nA w k x.toNatClampNeg) H1 := by
    refine S.2.1.nw (by omega) hbH z1 o1 (fun k' => wC_nA w k _ k') (fun _ _ _ => ⟨rfl, rfl⟩) (fun k' o' h => by rw [wL_nA, if_neg h]) (fun C2 T2 N2 h2 => absurd (vw_lt h2) (by omega)) (fun _ => ⟨cA, by rw [aty_r ha]; exact hAr, by rw [aty_r ha]; exact ⟨kA, comp, g2, g3, g4, g1⟩, ?_⟩)
    rw [e1, wL_nA, if_pos ⟨rfl, rfl⟩]
    congr 2
    funext j
    rw [av_r ha, wR_nA, (S.2.1.2.2.2.2.2.2.1 k (wC w k + 1) j (by omega)).2]
    rfl
  have S1 := S.pop.nw (locs1 := locs) (cells1 := cells + 1) (slots1 := slots + x.toNatClampNeg) ⟨Nat.le_trans S.1.1 (by omega), fun x h1 h2 => (o1 x (Nat.lt_of_lt_of_le h1 S.1.1)).trans (S.1.2.1 x h1 h2), S.1.2.2⟩ hR1 (adN_EX ad w k H.size) mo.2.2.1 (by rw [wn_nA]; omega) (by rw [wz_nA]; omega)
  have S2 := S1.push (v := .inr (k, wC w k + 1)) (show wC w k + 1 ≤ wC (nA w k x.toNatClampNeg) k by rw [wC_nA, if_pos rfl]; exact Nat.le_refl _)
  have f2 := f p l e R s m args below meth c Q' D b0 c0 s0 w0 ad0 C K H1 locs (cells + 1) (slots + x.toNatClampNeg) _ rl S2
  have e2 : ((Sum.inr (k, wC w k + 1) : VV) :: st).map (vv (adN ad k (wC w k + 1) H.size)) = .ref H.size :: st.map (vv ad) := by
    show rv (adN ad k (wC w k + 1) H.size) (k, wC w k + 1) :: st.map (vv (adN ad k (wC w k + 1) H.size)) = _
    rw [rv_nz (Nat.succ_ne_zero _), adN_new, map_ext (adN_EX ad w k H.size) S.pop.2.2.2.1.2]
  rw [e2] at f2
  exact f2
end XH

/-! calls -/
def MT (y : MethodName) (cc : ByteArray) (nL : Nat) (ret : Option FieldType) (d : Nat) (As : List VV) (w : WW) (r : Option VV) (w' : WW) : Prop :=
  (MON w w' ∧ RT ret r) ∧ ∀ (l : Launch) (D : va_G) (b0 : Nat) (ad : AD), Met l y (Cond.code y cc nL ret :: tbl) { frames := d, cells := wn w' - wn w, slots := wz w' - wz w, locals := 34 * d }
    (fun a U => a = (As.map (vv ad)).toArray ∧ b0 ≤ U.heap.size ∧ Rel U D b0 ad w U.heap ∧ (∀ v ∈ As, okV w v) ∧ VK D U)
    (fun _ u o t => ∃ ad' : AD, EX w ad ad' ∧ o = .returned (r.map (vv ad')) ∧ Rel t D b0 ad' w' t.heap ∧ (∀ v, r = some v → okV w' v) ∧ va_F (fun q => b0 ≤ q) u t)
    (wn w' - wn w) (wz w' - wz w) (fun q => b0 ≤ q)
/-- a call with these arguments in this world returns, with an answer and a world that have Q -/
def CE (y : MethodName) (cc : ByteArray) (nL : Nat) (ret : Option FieldType) (d : Nat) (As : List VV) (w : WW) (Q : Option VV → WW → Prop) : Prop := ∃ (r : Option VV) (w' : WW), Q r w' ∧ MT y cc nL ret d As w r w'
theorem CE.mono {y : MethodName} {cc : ByteArray} {nL : Nat} {ret : Option FieldType} {d : Nat} {As : List VV} {w : WW} {Q Q' : Option VV → WW → Prop} (h : CE y cc nL ret d As w Q') (hQ : ∀ r w', Q' r w' → Q r w') : CE y cc nL ret d As w Q := by
  obtain ⟨r, w', q, x⟩ := h
  exact ⟨r, w', hQ r w' q, x⟩
theorem lg_vv (ad : AD) : ∀ As : List VV, lg_sl (As.map (vv ad)) = As.map (fun v => Slot.val (vv ad v)) := by
  intro As
  induction As with
  | nil => rfl
  | cons v As ih =>
    show (if (vv ad v).category = 2 then _ else _) ++ lg_sl (As.map (vv ad)) = _
    rw [if_neg (by rw [vv_cat]; decide), ih]
    rfl
theorem lv_args_vv (ad : AD) : ∀ (As : List VV) (i : Nat) (j : Nat) (v : VV), As[j]? = some v → (i + j, vv ad v) ∈ lv_args i (As.map (vv ad)) := by
  intro As
  induction As with
  | nil => intro i j v h; simp at h
  | cons u As ih =>
    intro i j v h
    show _ ∈ (i, vv ad u) :: lv_args (if (vv ad u).category = 2 then i + 2 else i + 1) (As.map (vv ad))
    rw [if_neg (by rw [vv_cat]; decide)]
    cases j with
    | zero =>
      cases h
      exact List.mem_cons_self
    | succ j =>
      have := ih (i + 1) j v h
      rw [show i + (j + 1) = i + 1 + j by omega]
      exact List.mem_cons_of_mem _ this
theorem RT_no {r : Option VV} {ty : FieldType} (h1 : ty ≠ .int) (h2 : ty ≠ .boolean) (h3 : ∀ n, ty ≠ .object n) (h4 : ∀ t, ty ≠ .array t) (h : RT (some ty) r) : False := by
  cases ty <;> simp_all [RT]
set_option maxHeartbeats 4000000 in
theorem CE.of {y : MethodName} {cc : ByteArray} {nL : Nat} {ret : Option FieldType} {ini : Bool} {d : Nat} {As : List VV} {w : WW} {Q : Option VV → WW → Prop} (hy : plainName y.cls = true) (hini : ini = true → y.name = "<init>") (hn : As.length ≤ nL)
    (k : XE y.cls cc nL ret ini d 0 (As.map some ++ List.replicate (nL - As.length) none) [] w Q) : CE y cc nL ret d As w Q := by
  obtain ⟨r, w', hQq, hm, f⟩ := k
  refine ⟨r, w', hQq, hm, fun l D b0 ad => ?_⟩
  refine Met.ofW (cc := cc) (maxL := nL) (ret := ret) hy rfl ?_
  intro p e s m args below meth c s₁ B hml hv
  obtain ⟨rfl, hb0, hR, hok, hK⟩ := hv
  have hts := atoms_spec (ws := Cond.code y cc nL ret :: tbl) B.pre
  have hr := B.returns
  rw [lg_entry_eq]
  have hlen : (lg_sl (As.map (vv ad))).length = As.length := by rw [lg_vv]; simp
  have hl := lv_entry (As.map (vv ad)) (n := nL) (by rw [hlen]; exact hn)
  have hx := B.exec
  have hb := B.bytes
  have hlocks := B.notSynchronized
  have m1 := hm.1.1
  have m2 := hm.1.2.1
  refine f p l e _ s m _ below meth c _ D b0 (wn w) (wz w) w ad ⟨hx, hb, hr, hml, findClass_of_methodNamed B.named, fun v hv => hts v (List.mem_cons_of_mem _ hv), hlocks, fun h => by rw [(name_of_methodNamed B.named B.method).1]; exact hini h, hK, Nat.le_refl _, Nat.le_refl _, hb0⟩ ⟨by show wn w' ≤ wn w' - wn w + wn w; omega, by show wz w' ≤ wz w' - wz w + wz w; omega, ?_⟩ s.heap [] 0 0 ad _ ⟨va_S.rf, hR, ?_, ⟨fun v hv => ?_, fun v hv => absurd hv List.not_mem_nil⟩, fun _ => Nat.le_refl _, EX.rf, Nat.zero_add _, Nat.zero_add _⟩
  · intro H' locs' ad' pc' rl' cells' slots' hS' hR' hE' hok' hrt hdg hc1 hc2
    have e1 : cells' = wn w' - wn w := by omega
    have e2 : slots' = wz w' - wz w := by omega
    subst e1; subst e2
    have post : ∀ (v : Option Value) (t : State), v = r.map (vv ad') → t.heap = H' → s.WarmedH t.vm → ∃ ad' : AD, EX w ad ad' ∧ Outcome.returned v = .returned (r.map (vv ad')) ∧ Rel t D b0 ad' w' t.heap ∧ (∀ v, r = some v → okV w' v) ∧ va_F (fun q => b0 ≤ q) s t := by
      intro v t hv ht hW
      exact ⟨ad', hE', by rw [hv], by rw [ht]; exact hR'.moved hW.alike, hok', hS'.F ht⟩
    cases ret with
    | none =>
      cases r with
      | some v => exact hrt.elim
      | none => exact W.vret hx hb hr (fun t ht hW => post none t rfl ht hW) hS'.2.2 hdg
    | some ty =>
      cases r with
      | none => cases ty <;> exact hrt.elim
      | some v =>
        cases ty with
        | int =>
          cases v with
          | inl x => exact W.iret (v := x) hx hb hr (fun t ht hW => post (some (.int x)) t rfl ht hW) hS'.2.2 hdg
          | inr q => exact hrt.elim
        | boolean =>
          cases v with
          | inl x => exact W.zret (v := x) hx hb hr (by rcases hrt with h | h <;> rw [h] <;> decide) (fun t ht hW => post (some (.int x)) t rfl ht hW) hS'.2.2 hdg
          | inr q => exact hrt.elim
        | object n =>
          cases v with
          | inl x => exact hrt.elim
          | inr q => exact W.aret (v := rv ad' q) hx hb hr (Or.inl ⟨n, rfl⟩) (by rw [rv_rf]; exact va_rf_or _) (fun t ht hW => post (some (rv ad' q)) t rfl ht hW) hS'.2.2 hdg
        | array n =>
          cases v with
          | inl x => exact hrt.elim
          | inr q => exact W.aret (v := rv ad' q) hx hb hr (Or.inr ⟨n, rfl⟩) (by rw [rv_rf]; exact va_rf_or _) (fun t ht hW => post (some (rv ad' q)) t rfl ht hW) hS'.2.2 hdg
        | _ => exact hrt.elim
  · refine LR.of (by simp; omega) hl (fun i v hi => ?_)
    have hi2 : i < As.length := by
      rcases Nat.lt_or_ge i As.length with h | h
      · exact h
      · rw [List.getElem?_append_right (by simpa using h)] at hi
        have := List.mem_of_getElem? hi
        rw [List.mem_replicate] at this
        exact absurd this.2 (by simp)
    rw [List.getElem?_append_left (by simpa using hi2), List.getElem?_map, List.getElem?_eq_getElem hi2] at hi
    have := lv_args_vv ad As 0 i v (by rw [List.getElem?_eq_getElem hi2]; simpa using hi)
    rwa [Nat.zero_add] at this
  · rcases List.mem_append.mp hv with h | h
    · obtain ⟨u, hu, he⟩ := List.mem_map.mp h
      cases he
      exact hok v hu
    · rw [List.mem_replicate] at h
      exact absurd h.2 (by simp)
/-- the words of a callee -/
def CAB (own : String) (idx : Nat) (y : MethodName) (cc : ByteArray) (nL : Nat) (ret : Option FieldType) (n : Nat) : Prop := Cond.methodLink own idx y ∈ tbl ∧ Cond.code y cc nL ret ∈ tbl ∧ Cond.initialized y.cls ∈ tbl ∧ nL ≤ 15 ∧ (y.cls ≠ "java/lang/invoke/MethodHandle" ∧ y.cls ≠ "java/lang/invoke/VarHandle" ∧ (parseMethodDescriptor y.desc).map (fun d => d.parameters.length) = some n)
theorem gi_tbl {y : MethodName} {cc : ByteArray} {nL : Nat} {ret : Option FieldType} (h : Cond.code y cc nL ret ∈ tbl) : GoodIn tbl (Cond.code y cc nL ret :: tbl) := fun v hv => by
  rcases List.mem_cons.mp hv with rfl | hv
  · exact ⟨h, tbl_good _ h⟩
  · exact ⟨hv, tbl_good _ hv⟩
theorem sum_cat (ad : AD) : ∀ st : List VV, ((st.map (vv ad)).map fun v => v.category).sum = st.length := by
  intro st
  induction st with
  | nil => rfl
  | cons v st ih => simp only [List.map_cons, List.sum_cons, ih, vv_cat, List.length_cons]; omega
section XC
variable {own : String} {cc : ByteArray} {nL : Nat} {ret : Option FieldType} {ini : Bool} {d pc : Nat} {ls : List (Option VV)} {st : List VV} {w : WW} {Q : Option VV → WW → Prop}
theorem pre_blind {D : va_G} {b0 : Nat} {ad : AD} {As : List VV} {w : WW} : FrameBlind (fun a U => a = (As.map (vv ad)).toArray ∧ b0 ≤ U.heap.size ∧ Rel U D b0 ad w U.heap ∧ (∀ v ∈ As, okV w v) ∧ VK D U) :=
  fun a U g mk q => ⟨q.1, q.2.1, Rel.moved (s := U) (U := U.calling g mk a) (Vm.Alike.refl U.vm) q.2.2.1, q.2.2.2.1, VK.moved (u := U) (U := U.calling g mk a) (Vm.Alike.refl U.vm) q.2.2.2.2⟩
/-- behind any call -/
theorem gx_back {p : Program} {l : Launch} {e : Env} {R : Room} {s : State} {m : MethodId} {args : Array Value} {below : List Frame} {meth : Method} {c : Code} {H : Heap} {locs : List Loc} {cells slots : Nat} {Q' : State → Prop} {D : va_G} {b0 c0 s0 : Nat} {ad ad0 : AD} {w0 w1 : WW} {rl : Array Slot} {rest : List VV} {r1 : Option VV} {stk : List Value}
    (S : ST s D b0 c0 s0 w0 ad0 nL ls rest w H locs cells slots ad rl) (hm : MON w w1)
    (hr : va_Run p l e R s m args below meth c H locs cells slots (wn w1 - wn w) (wz w1 - wz w) (F0 m pc rl stk) (rest.map (vv ad)) (fun u o t => ∃ ad' : AD, EX w ad ad' ∧ o = .returned (r1.map (vv ad')) ∧ Rel t D b0 ad' w1 t.heap ∧ (∀ v, r1 = some v → okV w1 v) ∧ va_F (fun q => b0 ≤ q) u t) (fun q => b0 ≤ q))
    (kk : ∀ (H1 : Heap) (locs1 : List Loc) (cells1 slots1 : Nat) (ad1 : AD), ST s D b0 c0 s0 w0 ad0 nL ls (r1.toList ++ rest) w1 H1 locs1 cells1 slots1 ad1 rl → W p l e R s m args below meth c H1 locs1 cells1 slots1 Q' (F0 m (pc + 3) rl ((r1.toList ++ rest).map (vv ad1)))) :
    W p l e R s m args below meth c H locs cells slots Q' (F0 m pc rl stk) := by
  intro T hT X
  obtain ⟨v, st₀, t, T', L, h0, X', hL, e1, e2, ⟨ad1, hE, ho, hR1, hok1, hF⟩, st2⟩ := hr T hT X
  cases ho
  obtain ⟨hz, hk⟩ := hF
  rw [h0] at hz hk
  have al : s.vm.Alike t.vm := by rw [← e2]; exact X'.warmed.alike
  have S1 : ST s D b0 c0 s0 w0 ad0 nL ls (r1.toList ++ rest) w1 T'.heap (locs ++ L) (cells + (wn w1 - wn w)) (slots + (wz w1 - wz w)) ad1 rl := by
    refine (S.nw (locs1 := locs ++ L) (H1 := T'.heap) ⟨Nat.le_trans S.1.1 (by rw [e1]; exact hz), fun q h1 h2 => by rw [e1, hk q (Nat.lt_of_lt_of_le h1 S.1.1) h2]; exact S.1.2.1 q h1 h2, fun q hq => ?_⟩ (by rw [e1]; exact hR1.moved al.symm) hE hm.2.2.1 ?_ ?_).stk (fun v hv => ?_)
    · rcases List.mem_append.mp hq with h | h
      · exact S.1.2.2 q h
      · exact hL q h
    · have := S.2.2.2.2.2.2.1
      have := hm.1
      omega
    · have := S.2.2.2.2.2.2.2
      have := hm.2.1
      omega
    · rcases List.mem_append.mp hv with h | h
      · exact hok1 v (by cases r1 with
          | none => exact absurd h List.not_mem_nil
          | some u => rw [List.mem_singleton.mp h])
      · exact (S.ok h).mono hm.2.2.1
  obtain ⟨t2, a1, b1⟩ := kk T'.heap (locs ++ L) _ _ ad1 S1 T' rfl X'
  refine ⟨t2, st2 t2 ?_, b1⟩
  have e3 : (r1.map (vv ad1)).toList ++ rest.map (vv ad) = (r1.toList ++ rest).map (vv ad1) := by
    rw [List.map_append, map_ext hE S.2.2.2.1.2]
    cases r1 <;> rfl
  show Steps p.tables e below (T'.setTop (F0 m (pc + 3) rl ((r1.map (vv ad1)).toList ++ rest.map (vv ad)))) t2
  rw [e3]
  exact a1
theorem rooms {d d' nL' cells slots c0 s0 a a' z z' : Nat} {R : Room} (h : d' + 1 ≤ d) (hf : d ≤ R.frames) (hl : 34 * d ≤ R.locals) (hn : nL' ≤ 15) (m1 : a ≤ a') (m2 : z ≤ z') (c1 : cells + c0 = a) (c2 : slots + s0 = z) (r1 : a' ≤ R.cells + c0) (r2 : z' ≤ R.slots + s0) :
    (d' + 1 ≤ R.frames ∧ 8 + (nL' + 11) + 34 * d' ≤ R.locals) ∧ (cells + (a' - a) ≤ R.cells ∧ slots + (z' - z) ≤ R.slots) := by omega
theorem XE.callV {k o idx n d' nL' : Nat} {y : MethodName} {cc' : ByteArray} {ret' : Option FieldType} {As rest : List VV} {Cn : String} {T : u_T} {N : Nat} {Qc : Option VV → WW → Prop} (hd : decode cc pc = .ok (.invokevirtual idx, 3)) (hB : CAB own idx y cc' nL' ret' n) (hc : vwCl[k]? = some (Cn, T, N)) (hyc : y.cls = Cn) (hin : Cond.instanceMethod y ∈ tbl) (hse : Cond.selects y.cls y y ∈ tbl) (ho : o ≠ 0) (hn : As.length = n) (hrest : rest.length ≤ 8) (hdd : d' + 1 ≤ d)
    (hst : st = As.reverse ++ .inr (k, o) :: rest) (hC : CE y cc' nL' ret' d' (.inr (k, o) :: As) w Qc) (kk : ∀ r1 w1, MON w w1 → Qc r1 w1 → XE own cc nL ret ini d (pc + 3) ls (r1.toList ++ rest) w1 Q) : XE own cc nL ret ini d pc ls st w Q := by
  subst hst
  obtain ⟨r1, w1, q1, hm1, hM⟩ := hC
  obtain ⟨r, w', q, hm, f⟩ := kk r1 w1 hm1.1 q1
  refine ⟨r, w', q, ⟨hm1.1.tr hm.1, hm.2⟩, ?_⟩
  intro p l e R s m args below meth c Q' D b0 c0 s0 w0 ad0 C K H locs cells slots ad rl S
  obtain ⟨b1, b2, b3, b4, b5, b6, b7⟩ := hB
  have hts := C.2.2.2.2.2.1
  have hof : ∀ v ∈ As, okV w v := fun v hv => S.ok (List.mem_append_left _ (List.mem_reverse.mpr hv))
  have hoo : okV w (.inr (k, o)) := S.ok (List.mem_append_right _ List.mem_cons_self)
  have Sr := S.stk (st' := rest) (fun v hv => S.ok (List.mem_append_right _ (List.mem_cons_of_mem _ hv)))
  have rms := rooms hdd C.2.2.2.2.2.2.2.2.2.1 C.2.2.2.2.2.2.2.2.2.2.1 b4 hm1.1.1 hm1.1.2.1 S.2.2.2.2.2.2.1 S.2.2.2.2.2.2.2 (Nat.le_trans hm.1.1 K.1) (Nat.le_trans hm.1.2.1 K.2.1)
  obtain ⟨cell, g1, g2, g3, -⟩ := S.2.1.1 k o Cn T N hc ⟨Nat.pos_of_ne_zero ho, hoo⟩
  have hcls := (C.2.2.2.2.2.2.2.2.1.1.1 k _ hc).2
  have gi : GoodIn tbl (wsV own idx y.cls y (Cond.code y cc' nL' ret' :: tbl)) := fun v hv => by
    have hv : v ∈ tbl := by
      unfold wsV at hv
      rcases List.mem_append.mp hv with h | h
      · simp only [List.mem_cons, List.mem_nil_iff, or_false] at h
        rcases h with rfl | rfl | rfl | rfl
        · exact b1
        · exact hin
        · exact hse
        · exact b3
      · rcases List.mem_cons.mp h with rfl | h
        · exact b2
        · exact h
    exact ⟨hv, tbl_good _ hv⟩
  have hrun := va_runV (p := p) (e := e) (below := below) (locs := locs) (cells := cells) (slots := slots) (meth := meth) (As := As.map (vv ad)) (rest := rest.map (vv ad)) (b := ad k o) (g := F0 m pc rl ((As.map (vv ad)).reverse ++ .ref (ad k o) :: rest.map (vv ad))) ⟨C.1, C.2.1, C.2.2.2.1, C.2.2.2.2.1, hts⟩ (hM l D b0 ad)
    (cwV (R := R) n hts gi rfl rfl rfl ⟨rfl, b5, b6, b7⟩ rms.1)
    ⟨pre_blind, ⟨cell, g1, by rw [g3]; rfl, by rw [hyc, g2]; exact hcls.1⟩, fun U hU hW => ⟨by show _ = (rv ad (k, o) :: As.map (vv ad)).toArray; rw [rv_nz ho], by rw [hU]; exact Nat.le_trans C.2.2.2.2.2.2.2.2.2.2.2 S.1.1, by rw [hU]; exact S.2.1.moved hW.alike, fun v hv => by
      rcases List.mem_cons.mp hv with rfl | h
      · exact hoo
      · exact hof v h, VK.moved hW.alike C.2.2.2.2.2.2.2.2.1⟩⟩ rfl (by rw [List.length_map]; exact hn) (by rw [S.2.2.1.2.1]) rfl (lv_room (by rw [sum_cat]; exact hrest)) hd rms.2
  have e0 : (As.reverse ++ .inr (k, o) :: rest).map (vv ad) = (As.map (vv ad)).reverse ++ .ref (ad k o) :: rest.map (vv ad) := by
    rw [List.map_append, List.map_reverse, List.map_cons]
    show _ ++ rv ad (k, o) :: _ = _
    rw [rv_nz ho]
  rw [e0]
  exact gx_back Sr hm1.1 hrun (fun H1 locs1 cells1 slots1 ad1 S1 => f p l e R s m args below meth c Q' D b0 c0 s0 w0 ad0 C K H1 locs1 cells1 slots1 ad1 rl S1)
theorem XE.callS {idx n d' nL' : Nat} {y : MethodName} {cc' : ByteArray} {ret' : Option FieldType} {As rest : List VV} {Qc : Option VV → WW → Prop} (hd : decode cc pc = .ok (.invokestatic idx, 3)) (hB : CAB own idx y cc' nL' ret' n) (hsa : Cond.static y ∈ tbl) (hn : As.length = n) (hrest : rest.length ≤ 8) (hdd : d' + 1 ≤ d)
    (hst : st = As.reverse ++ rest) (hC : CE y cc' nL' ret' d' As w Qc) (kk : ∀ r1 w1, MON w w1 → Qc r1 w1 → XE own cc nL ret ini d (pc + 3) ls (r1.toList ++ rest) w1 Q) : XE own cc nL ret ini d pc ls st w Q := by
  subst hst
  obtain ⟨r1, w1, q1, hm1, hM⟩ := hC
  obtain ⟨r, w', q, hm, f⟩ := kk r1 w1 hm1.1 q1
  refine ⟨r, w', q, ⟨hm1.1.tr hm.1, hm.2⟩, ?_⟩
  intro p l e R s m args below meth c Q' D b0 c0 s0 w0 ad0 C K H locs cells slots ad rl S
  obtain ⟨b1, b2, b3, b4, b5, b6, b7⟩ := hB
  have hts := C.2.2.2.2.2.1
  have hof : ∀ v ∈ As, okV w v := fun v hv => S.ok (List.mem_append_left _ (List.mem_reverse.mpr hv))
  have Sr := S.stk (st' := rest) (fun v hv => S.ok (List.mem_append_right _ hv))
  have rms := rooms hdd C.2.2.2.2.2.2.2.2.2.1 C.2.2.2.2.2.2.2.2.2.2.1 b4 hm1.1.1 hm1.1.2.1 S.2.2.2.2.2.2.1 S.2.2.2.2.2.2.2 (Nat.le_trans hm.1.1 K.1) (Nat.le_trans hm.1.2.1 K.2.1)
  have hrun := va_runS (p := p) (e := e) (below := below) (locs := locs) (cells := cells) (slots := slots) (meth := meth) (As := As.map (vv ad)) (rest := rest.map (vv ad)) (g := F0 m pc rl ((As.map (vv ad)).reverse ++ rest.map (vv ad))) ⟨C.1, C.2.1, C.2.2.2.1, C.2.2.2.2.1, hts⟩ (hM l D b0 ad)
    ⟨callB_of (R := R) n hts (gi_tbl b2) rfl rfl rfl (hts _ b3) (hts _ b1) ⟨b5, b6, b7⟩ rms.1, hts _ hsa⟩
    ⟨pre_blind, fun U hU hW => ⟨rfl, by rw [hU]; exact Nat.le_trans C.2.2.2.2.2.2.2.2.2.2.2 S.1.1, by rw [hU]; exact S.2.1.moved hW.alike, hof, VK.moved hW.alike C.2.2.2.2.2.2.2.2.1⟩⟩ rfl (by rw [List.length_map]; exact hn) (by rw [S.2.2.1.2.1]) rfl (lv_room (by rw [sum_cat]; exact hrest)) hd rms.2
  have e0 : (As.reverse ++ rest).map (vv ad) = (As.map (vv ad)).reverse ++ rest.map (vv ad) := by
    rw [List.map_append, List.map_reverse]
  rw [e0]
  exact gx_back Sr hm1.1 hrun (fun H1 locs1 cells1 slots1 ad1 S1 => f p l e R s m args below meth c Q' D b0 c0 s0 w0 ad0 C K H1 locs1 cells1 slots1 ad1 rl S1)
theorem XE.callI {k o idx n d' nL' : Nat} {y : MethodName} {cc' : ByteArray} {As rest : List VV} {Qc : Option VV → WW → Prop} (hd : decode cc pc = .ok (.invokespecial idx, 3)) (hB : CAB own idx y cc' nL' none n) (hy1 : y.name = "<init>") (hin : Cond.instanceMethod y ∈ tbl) (ho : o ≠ 0) (hn : As.length = n) (hrest : rest.length ≤ 8) (hdd : d' + 1 ≤ d)
    (hst : st = As.reverse ++ .inr (k, o) :: rest) (hC : CE y cc' nL' none d' (.inr (k, o) :: As) w Qc) (kk : ∀ r1 w1, MON w w1 → Qc r1 w1 → XE own cc nL ret ini d (pc + 3) ls (r1.toList ++ rest) w1 Q) : XE own cc nL ret ini d pc ls st w Q := by
  subst hst
  obtain ⟨r1, w1, q1, hm1, hM⟩ := hC
  obtain ⟨r, w', q, hm, f⟩ := kk r1 w1 hm1.1 q1
  refine ⟨r, w', q, ⟨hm1.1.tr hm.1, hm.2⟩, ?_⟩
  intro p l e R s m args below meth c Q' D b0 c0 s0 w0 ad0 C K H locs cells slots ad rl S
  obtain ⟨b1, b2, b3, b4, b5, b6, b7⟩ := hB
  have hts := C.2.2.2.2.2.1
  have hof : ∀ v ∈ As, okV w v := fun v hv => S.ok (List.mem_append_left _ (List.mem_reverse.mpr hv))
  have hoo : okV w (.inr (k, o)) := S.ok (List.mem_append_right _ List.mem_cons_self)
  have Sr := S.stk (st' := rest) (fun v hv => S.ok (List.mem_append_right _ (List.mem_cons_of_mem _ hv)))
  have rms := rooms hdd C.2.2.2.2.2.2.2.2.2.1 C.2.2.2.2.2.2.2.2.2.2.1 b4 hm1.1.1 hm1.1.2.1 S.2.2.2.2.2.2.1 S.2.2.2.2.2.2.2 (Nat.le_trans hm.1.1 K.1) (Nat.le_trans hm.1.2.1 K.2.1)
  have hrun := va_runI (p := p) (e := e) (below := below) (locs := locs) (cells := cells) (slots := slots) (meth := meth) (As := As.map (vv ad)) (rest := rest.map (vv ad)) (b := ad k o) (g := F0 m pc rl ((As.map (vv ad)).reverse ++ .ref (ad k o) :: rest.map (vv ad))) ⟨C.1, C.2.1, C.2.2.2.1, C.2.2.2.2.1, hts⟩ (hM l D b0 ad)
    ⟨callB_of (R := R) n hts (gi_tbl b2) rfl rfl rfl (hts _ b3) (hts _ b1) ⟨b5, b6, b7⟩ rms.1, hy1, hts _ hin⟩
    ⟨pre_blind, fun U hU hW => ⟨by show _ = (rv ad (k, o) :: As.map (vv ad)).toArray; rw [rv_nz ho], by rw [hU]; exact Nat.le_trans C.2.2.2.2.2.2.2.2.2.2.2 S.1.1, by rw [hU]; exact S.2.1.moved hW.alike, fun v hv => by
      rcases List.mem_cons.mp hv with rfl | h
      · exact hoo
      · exact hof v h, VK.moved hW.alike C.2.2.2.2.2.2.2.2.1⟩⟩ rfl (by rw [List.length_map]; exact hn) (by rw [S.2.2.1.2.1]) rfl (lv_room (by rw [sum_cat]; exact hrest)) hd rms.2
  have e0 : (As.reverse ++ .inr (k, o) :: rest).map (vv ad) = (As.map (vv ad)).reverse ++ .ref (ad k o) :: rest.map (vv ad) := by
    rw [List.map_append, List.map_reverse, List.map_cons]
    show _ ++ rv ad (k, o) :: _ = _
    rw [rv_nz ho]
  rw [e0]
  exact gx_back Sr hm1.1 hrun (fun H1 locs1 cells1 slots1 ad1 S1 => f p l e R s m args below meth c Q' D b0 c0 s0 w0 ad0 C K H1 locs1 cells1 slots1 ad1 rl S1)
theorem XE.objInit {k o idx : Nat} (hd : decode cc pc = .ok (.invokespecial idx, 3)) (h1 : Cond.methodLink own idx Lib.objectInit ∈ tbl) (h2 : Cond.instanceMethod Lib.objectInit ∈ tbl) (h3 : Cond.code Lib.objectInit ⟨#[0xb1]⟩ 1 none ∈ tbl) (ho : o ≠ 0) (hrest : st.length ≤ 8) (hdd : 1 ≤ d) (kk : XE own cc nL ret ini d (pc + 3) ls st w Q) : XE own cc nL ret ini d pc ls (.inr (k, o) :: st) w Q := by
  obtain ⟨r, w', q, hm, f⟩ := kk
  refine ⟨r, w', q, hm, ?_⟩
  intro p l e R s m args below meth c Q' D b0 c0 s0 w0 ad0 C K H locs cells slots ad rl S
  have f2 := f p l e R s m args below meth c Q' D b0 c0 s0 w0 ad0 C K H locs cells slots ad rl S.pop
  have hts := C.2.2.2.2.2.1
  show W _ _ _ _ _ _ _ _ _ _ _ _ _ _ _ (F0 m pc rl (rv ad (k, o) :: st.map (vv ad)))
  rw [rv_nz ho]
  have hf := C.2.2.2.2.2.2.2.2.2.1
  have hl := C.2.2.2.2.2.2.2.2.2.2.1
  refine W.objInit C.1 C.2.1 C.2.2.2.2.1 (hts _ h1) (hts _ h2) (hts _ h3) (g := F0 m pc rl (.ref (ad k o) :: st.map (vv ad))) rfl (by rw [C.2.2.2.1]; exact S.2.2.1.2.1) rfl hd (by omega) ?_ f2
  have := sum_cat ad st
  have h0 : (F0 m pc rl (.ref (ad k o) :: st.map (vv ad))).monitorRoom = 0 := rfl
  rw [h0]
  omega
end XC
end
section
/-! printed by gen01.py: the methods' judgements by name -/
theorem oi_1 : Cond.instanceMethod Lib.objectInit ∈ tbl := (mt 58 (by decide +kernel) rfl)
theorem oi_2 : Cond.code Lib.objectInit ⟨#[0xb1]⟩ 1 none ∈ tbl := (mt 59 (by decide +kernel) rfl)
abbrev X_SS_init (d pc : Nat) (ls : List (Option VV)) (st : List VV) (w : WW) (Q : Option VV → WW → Prop) : Prop := XE "ShareServer" c_SS_init 1 none true d pc ls st w Q
abbrev E_SS_init (d : Nat) (As : List VV) (w : WW) (Q : Option VV → WW → Prop) : Prop := CE y_SS_init c_SS_init 1 none d As w Q
theorem S_SS_init {d : Nat} {a0 : VV} {w : WW} {Q : Option VV → WW → Prop} (k : X_SS_init d 0 [some a0] [] w Q) : E_SS_init d [a0] w Q := CE.of (ini := true) (by decide +kernel) (fun _ => rfl) (Nat.le_of_ble_eq_true rfl) k
theorem co_SS_init : Cond.code y_SS_init c_SS_init 1 none ∈ tbl := mt 56 (by decide +kernel) rfl
abbrev X_Nd_init (d pc : Nat) (ls : List (Option VV)) (st : List VV) (w : WW) (Q : Option VV → WW → Prop) : Prop := XE "ShareServer$Node" c_Nd_init 5 none true d pc ls st w Q
abbrev E_Nd_init (d : Nat) (As : List VV) (w : WW) (Q : Option VV → WW → Prop) : Prop := CE y_Nd_init c_Nd_init 5 none d As w Q
theorem S_Nd_init {d : Nat} {a0 a1 a2 a3 a4 : VV} {w : WW} {Q : Option VV → WW → Prop} (k : X_Nd_init d 0 [some a0, some a1, some a2, some a3, some a4] [] w Q) : E_Nd_init d [a0, a1, a2, a3, a4] w Q := CE.of (ini := true) (by decide +kernel) (fun _ => rfl) (Nat.le_of_ble_eq_true rfl) k
theorem co_Nd_init : Cond.code y_Nd_init c_Nd_init 5 none ∈ tbl := mt 65 (by decide +kernel) rfl
abbrev X_Lg_init (d pc : Nat) (ls : List (Option VV)) (st : List VV) (w : WW) (Q : Option VV → WW → Prop) : Prop := XE "ShareServer$Log" c_Lg_init 1 none true d pc ls st w Q
abbrev E_Lg_init (d : Nat) (As : List VV) (w : WW) (Q : Option VV → WW → Prop) : Prop := CE y_Lg_init c_Lg_init 1 none d As w Q
theorem S_Lg_init {d : Nat} {a0 : VV} {w : WW} {Q : Option VV → WW → Prop} (k : X_Lg_init d 0 [some a0] [] w Q) : E_Lg_init d [a0] w Q := CE.of (ini := true) (by decide +kernel) (fun _ => rfl) (Nat.le_of_ble_eq_true rfl) k
theorem co_Lg_init : Cond.code y_Lg_init c_Lg_init 1 none ∈ tbl := mt 109 (by decide +kernel) rfl
abbrev X_SS_open (d pc : Nat) (ls : List (Option VV)) (st : List VV) (w : WW) (Q : Option VV → WW → Prop) : Prop := XE "ShareServer" c_SS_open 7 (some .int) false d pc ls st w Q
abbrev E_SS_open (d : Nat) (As : List VV) (w : WW) (Q : Option VV → WW → Prop) : Prop := CE y_SS_open c_SS_open 7 (some .int) d As w Q
theorem S_SS_open {d : Nat} {a0 a1 a2 a3 a4 a5 : VV} {w : WW} {Q : Option VV → WW → Prop} (k : X_SS_open d 0 [some a0, some a1, some a2, some a3, some a4, some a5, none] [] w Q) : E_SS_open d [a0, a1, a2, a3, a4, a5] w Q := CE.of (ini := false) (by decide +kernel) (fun h => by cases h) (Nat.le_of_ble_eq_true rfl) k
theorem co_SS_open : Cond.code y_SS_open c_SS_open 7 (some .int) ∈ tbl := mt 157 (by decide +kernel) rfl
abbrev X_SS_isBelow (d pc : Nat) (ls : List (Option VV)) (st : List VV) (w : WW) (Q : Option VV → WW → Prop) : Prop := XE "ShareServer" c_SS_isBelow 2 (some .boolean) false d pc ls st w Q
abbrev E_SS_isBelow (d : Nat) (As : List VV) (w : WW) (Q : Option VV → WW → Prop) : Prop := CE y_SS_isBelow c_SS_isBelow 2 (some .boolean) d As w Q
theorem S_SS_isBelow {d : Nat} {a0 a1 : VV} {w : WW} {Q : Option VV → WW → Prop} (k : X_SS_isBelow d 0 [some a0, some a1] [] w Q) : E_SS_isBelow d [a0, a1] w Q := CE.of (ini := false) (by decide +kernel) (fun h => by cases h) (Nat.le_of_ble_eq_true rfl) k
theorem co_SS_isBelow : Cond.code y_SS_isBelow c_SS_isBelow 2 (some .boolean) ∈ tbl := mt 160 (by decide +kernel) rfl
abbrev X_SS_isPlace (d pc : Nat) (ls : List (Option VV)) (st : List VV) (w : WW) (Q : Option VV → WW → Prop) : Prop := XE "ShareServer" c_SS_isPlace 2 (some .boolean) false d pc ls st w Q
abbrev E_SS_isPlace (d : Nat) (As : List VV) (w : WW) (Q : Option VV → WW → Prop) : Prop := CE y_SS_isPlace c_SS_isPlace 2 (some .boolean) d As w Q
theorem S_SS_isPlace {d : Nat} {a0 a1 : VV} {w : WW} {Q : Option VV → WW → Prop} (k : X_SS_isPlace d 0 [some a0, some a1] [] w Q) : E_SS_isPlace d [a0, a1] w Q := CE.of (ini := false) (by decide +kernel) (fun h => by cases h) (Nat.le_of_ble_eq_true rfl) k
theorem co_SS_isPlace : Cond.code y_SS_isPlace c_SS_isPlace 2 (some .boolean) ∈ tbl := mt 163 (by decide +kernel) rfl
abbrev X_SS_isMode (d pc : Nat) (ls : List (Option VV)) (st : List VV) (w : WW) (Q : Option VV → WW → Prop) : Prop := XE "ShareServer" c_SS_isMode 1 (some .boolean) false d pc ls st w Q
abbrev E_SS_isMode (d : Nat) (As : List VV) (w : WW) (Q : Option VV → WW → Prop) : Prop := CE y_SS_isMode c_SS_isMode 1 (some .boolean) d As w Q
theorem S_SS_isMode {d : Nat} {a0 : VV} {w : WW} {Q : Option VV → WW → Prop} (k : X_SS_isMode d 0 [some a0] [] w Q) : E_SS_isMode d [a0] w Q := CE.of (ini := false) (by decide +kernel) (fun h => by cases h) (Nat.le_of_ble_eq_true rfl) k
theorem co_SS_isMode : Cond.code y_SS_isMode c_SS_isMode 1 (some .boolean) ∈ tbl := mt 166 (by decide +kernel) rfl
abbrev X_Rq_init (d pc : Nat) (ls : List (Option VV)) (st : List VV) (w : WW) (Q : Option VV → WW → Prop) : Prop := XE "ShareServer$Request" c_Rq_init 6 none true d pc ls st w Q
abbrev E_Rq_init (d : Nat) (As : List VV) (w : WW) (Q : Option VV → WW → Prop) : Prop := CE y_Rq_init c_Rq_init 6 none d As w Q
theorem S_Rq_init {d : Nat} {a0 a1 a2 a3 a4 a5 : VV} {w : WW} {Q : Option VV → WW → Prop} (k : X_Rq_init d 0 [some a0, some a1, some a2, some a3, some a4, some a5] [] w Q) : E_Rq_init d [a0, a1, a2, a3, a4, a5] w Q := CE.of (ini := true) (by decide +kernel) (fun _ => rfl) (Nat.le_of_ble_eq_true rfl) k
theorem co_Rq_init : Cond.code y_Rq_init c_Rq_init 6 none ∈ tbl := mt 170 (by decide +kernel) rfl
abbrev X_SS_attempt (d pc : Nat) (ls : List (Option VV)) (st : List VV) (w : WW) (Q : Option VV → WW → Prop) : Prop := XE "ShareServer" c_SS_attempt 3 (some .int) false d pc ls st w Q
abbrev E_SS_attempt (d : Nat) (As : List VV) (w : WW) (Q : Option VV → WW → Prop) : Prop := CE y_SS_attempt c_SS_attempt 3 (some .int) d As w Q
theorem S_SS_attempt {d : Nat} {a0 a1 : VV} {w : WW} {Q : Option VV → WW → Prop} (k : X_SS_attempt d 0 [some a0, some a1, none] [] w Q) : E_SS_attempt d [a0, a1] w Q := CE.of (ini := false) (by decide +kernel) (fun h => by cases h) (Nat.le_of_ble_eq_true rfl) k
theorem co_SS_attempt : Cond.code y_SS_attempt c_SS_attempt 3 (some .int) ∈ tbl := mt 199 (by decide +kernel) rfl
abbrev X_SS_isFolderThere (d pc : Nat) (ls : List (Option VV)) (st : List VV) (w : WW) (Q : Option VV → WW → Prop) : Prop := XE "ShareServer" c_SS_isFolderThere 2 (some .boolean) false d pc ls st w Q
abbrev E_SS_isFolderThere (d : Nat) (As : List VV) (w : WW) (Q : Option VV → WW → Prop) : Prop := CE y_SS_isFolderThere c_SS_isFolderThere 2 (some .boolean) d As w Q
theorem S_SS_isFolderThere {d : Nat} {a0 a1 : VV} {w : WW} {Q : Option VV → WW → Prop} (k : X_SS_isFolderThere d 0 [some a0, some a1] [] w Q) : E_SS_isFolderThere d [a0, a1] w Q := CE.of (ini := false) (by decide +kernel) (fun h => by cases h) (Nat.le_of_ble_eq_true rfl) k
theorem co_SS_isFolderThere : Cond.code y_SS_isFolderThere c_SS_isFolderThere 2 (some .boolean) ∈ tbl := mt 203 (by decide +kernel) rfl
abbrev X_SS_nodeAt (d pc : Nat) (ls : List (Option VV)) (st : List VV) (w : WW) (Q : Option VV → WW → Prop) : Prop := XE "ShareServer" c_SS_nodeAt 5 (some (.object "ShareServer$Node")) false d pc ls st w Q
abbrev E_SS_nodeAt (d : Nat) (As : List VV) (w : WW) (Q : Option VV → WW → Prop) : Prop := CE y_SS_nodeAt c_SS_nodeAt 5 (some (.object "ShareServer$Node")) d As w Q
theorem S_SS_nodeAt {d : Nat} {a0 a1 a2 : VV} {w : WW} {Q : Option VV → WW → Prop} (k : X_SS_nodeAt d 0 [some a0, some a1, some a2, none, none] [] w Q) : E_SS_nodeAt d [a0, a1, a2] w Q := CE.of (ini := false) (by decide +kernel) (fun h => by cases h) (Nat.le_of_ble_eq_true rfl) k
theorem co_SS_nodeAt : Cond.code y_SS_nodeAt c_SS_nodeAt 5 (some (.object "ShareServer$Node")) ∈ tbl := mt 207 (by decide +kernel) rfl
abbrev X_SS_openNew (d pc : Nat) (ls : List (Option VV)) (st : List VV) (w : WW) (Q : Option VV → WW → Prop) : Prop := XE "ShareServer" c_SS_openNew 2 (some .int) false d pc ls st w Q
abbrev E_SS_openNew (d : Nat) (As : List VV) (w : WW) (Q : Option VV → WW → Prop) : Prop := CE y_SS_openNew c_SS_openNew 2 (some .int) d As w Q
theorem S_SS_openNew {d : Nat} {a0 a1 : VV} {w : WW} {Q : Option VV → WW → Prop} (k : X_SS_openNew d 0 [some a0, some a1] [] w Q) : E_SS_openNew d [a0, a1] w Q := CE.of (ini := false) (by decide +kernel) (fun h => by cases h) (Nat.le_of_ble_eq_true rfl) k
theorem co_SS_openNew : Cond.code y_SS_openNew c_SS_openNew 2 (some .int) ∈ tbl := mt 211 (by decide +kernel) rfl
abbrev X_Rq_has (d pc : Nat) (ls : List (Option VV)) (st : List VV) (w : WW) (Q : Option VV → WW → Prop) : Prop := XE "ShareServer$Request" c_Rq_has 2 (some .boolean) false d pc ls st w Q
abbrev E_Rq_has (d : Nat) (As : List VV) (w : WW) (Q : Option VV → WW → Prop) : Prop := CE y_Rq_has c_Rq_has 2 (some .boolean) d As w Q
theorem S_Rq_has {d : Nat} {a0 a1 : VV} {w : WW} {Q : Option VV → WW → Prop} (k : X_Rq_has d 0 [some a0, some a1] [] w Q) : E_Rq_has d [a0, a1] w Q := CE.of (ini := false) (by decide +kernel) (fun h => by cases h) (Nat.le_of_ble_eq_true rfl) k
theorem co_Rq_has : Cond.code y_Rq_has c_Rq_has 2 (some .boolean) ∈ tbl := mt 215 (by decide +kernel) rfl
abbrev X_SS_makeNode (d pc : Nat) (ls : List (Option VV)) (st : List VV) (w : WW) (Q : Option VV → WW → Prop) : Prop := XE "ShareServer" c_SS_makeNode 3 (some (.object "ShareServer$Node")) false d pc ls st w Q
abbrev E_SS_makeNode (d : Nat) (As : List VV) (w : WW) (Q : Option VV → WW → Prop) : Prop := CE y_SS_makeNode c_SS_makeNode 3 (some (.object "ShareServer$Node")) d As w Q
theorem S_SS_makeNode {d : Nat} {a0 a1 : VV} {w : WW} {Q : Option VV → WW → Prop} (k : X_SS_makeNode d 0 [some a0, some a1, none] [] w Q) : E_SS_makeNode d [a0, a1] w Q := CE.of (ini := false) (by decide +kernel) (fun h => by cases h) (Nat.le_of_ble_eq_true rfl) k
theorem co_SS_makeNode : Cond.code y_SS_makeNode c_SS_makeNode 3 (some (.object "ShareServer$Node")) ∈ tbl := mt 219 (by decide +kernel) rfl
abbrev X_Cg_init (d pc : Nat) (ls : List (Option VV)) (st : List VV) (w : WW) (Q : Option VV → WW → Prop) : Prop := XE "ShareServer$Change" c_Cg_init 5 none true d pc ls st w Q
abbrev E_Cg_init (d : Nat) (As : List VV) (w : WW) (Q : Option VV → WW → Prop) : Prop := CE y_Cg_init c_Cg_init 5 none d As w Q
theorem S_Cg_init {d : Nat} {a0 a1 a2 a3 a4 : VV} {w : WW} {Q : Option VV → WW → Prop} (k : X_Cg_init d 0 [some a0, some a1, some a2, some a3, some a4] [] w Q) : E_Cg_init d [a0, a1, a2, a3, a4] w Q := CE.of (ini := true) (by decide +kernel) (fun _ => rfl) (Nat.le_of_ble_eq_true rfl) k
theorem co_Cg_init : Cond.code y_Cg_init c_Cg_init 5 none ∈ tbl := mt 224 (by decide +kernel) rfl
abbrev X_Lg_add (d pc : Nat) (ls : List (Option VV)) (st : List VV) (w : WW) (Q : Option VV → WW → Prop) : Prop := XE "ShareServer$Log" c_Lg_add 2 none false d pc ls st w Q
abbrev E_Lg_add (d : Nat) (As : List VV) (w : WW) (Q : Option VV → WW → Prop) : Prop := CE y_Lg_add c_Lg_add 2 none d As w Q
theorem S_Lg_add {d : Nat} {a0 a1 : VV} {w : WW} {Q : Option VV → WW → Prop} (k : X_Lg_add d 0 [some a0, some a1] [] w Q) : E_Lg_add d [a0, a1] w Q := CE.of (ini := false) (by decide +kernel) (fun h => by cases h) (Nat.le_of_ble_eq_true rfl) k
theorem co_Lg_add : Cond.code y_Lg_add c_Lg_add 2 none ∈ tbl := mt 246 (by decide +kernel) rfl
abbrev X_Lg_makeAllDurable (d pc : Nat) (ls : List (Option VV)) (st : List VV) (w : WW) (Q : Option VV → WW → Prop) : Prop := XE "ShareServer$Log" c_Lg_makeAllDurable 1 none false d pc ls st w Q
abbrev E_Lg_makeAllDurable (d : Nat) (As : List VV) (w : WW) (Q : Option VV → WW → Prop) : Prop := CE y_Lg_makeAllDurable c_Lg_makeAllDurable 1 none d As w Q
theorem S_Lg_makeAllDurable {d : Nat} {a0 : VV} {w : WW} {Q : Option VV → WW → Prop} (k : X_Lg_makeAllDurable d 0 [some a0] [] w Q) : E_Lg_makeAllDurable d [a0] w Q := CE.of (ini := false) (by decide +kernel) (fun h => by cases h) (Nat.le_of_ble_eq_true rfl) k
theorem co_Lg_makeAllDurable : Cond.code y_Lg_makeAllDurable c_Lg_makeAllDurable 1 none ∈ tbl := mt 250 (by decide +kernel) rfl
abbrev X_SS_makeHandle (d pc : Nat) (ls : List (Option VV)) (st : List VV) (w : WW) (Q : Option VV → WW → Prop) : Prop := XE "ShareServer" c_SS_makeHandle 4 (some .int) false d pc ls st w Q
abbrev E_SS_makeHandle (d : Nat) (As : List VV) (w : WW) (Q : Option VV → WW → Prop) : Prop := CE y_SS_makeHandle c_SS_makeHandle 4 (some .int) d As w Q
theorem S_SS_makeHandle {d : Nat} {a0 a1 a2 : VV} {w : WW} {Q : Option VV → WW → Prop} (k : X_SS_makeHandle d 0 [some a0, some a1, some a2, none] [] w Q) : E_SS_makeHandle d [a0, a1, a2] w Q := CE.of (ini := false) (by decide +kernel) (fun h => by cases h) (Nat.le_of_ble_eq_true rfl) k
theorem co_SS_makeHandle : Cond.code y_SS_makeHandle c_SS_makeHandle 4 (some .int) ∈ tbl := mt 254 (by decide +kernel) rfl
abbrev X_SS_grantFor (d pc : Nat) (ls : List (Option VV)) (st : List VV) (w : WW) (Q : Option VV → WW → Prop) : Prop := XE "ShareServer" c_SS_grantFor 3 (some .int) false d pc ls st w Q
abbrev E_SS_grantFor (d : Nat) (As : List VV) (w : WW) (Q : Option VV → WW → Prop) : Prop := CE y_SS_grantFor c_SS_grantFor 3 (some .int) d As w Q
theorem S_SS_grantFor {d : Nat} {a0 a1 a2 : VV} {w : WW} {Q : Option VV → WW → Prop} (k : X_SS_grantFor d 0 [some a0, some a1, some a2] [] w Q) : E_SS_grantFor d [a0, a1, a2] w Q := CE.of (ini := false) (by decide +kernel) (fun h => by cases h) (Nat.le_of_ble_eq_true rfl) k
theorem co_SS_grantFor : Cond.code y_SS_grantFor c_SS_grantFor 3 (some .int) ∈ tbl := mt 258 (by decide +kernel) rfl
abbrev X_SS_opensOf (d pc : Nat) (ls : List (Option VV)) (st : List VV) (w : WW) (Q : Option VV → WW → Prop) : Prop := XE "ShareServer" c_SS_opensOf 4 (some .int) false d pc ls st w Q
abbrev E_SS_opensOf (d : Nat) (As : List VV) (w : WW) (Q : Option VV → WW → Prop) : Prop := CE y_SS_opensOf c_SS_opensOf 4 (some .int) d As w Q
theorem S_SS_opensOf {d : Nat} {a0 a1 : VV} {w : WW} {Q : Option VV → WW → Prop} (k : X_SS_opensOf d 0 [some a0, some a1, none, none] [] w Q) : E_SS_opensOf d [a0, a1] w Q := CE.of (ini := false) (by decide +kernel) (fun h => by cases h) (Nat.le_of_ble_eq_true rfl) k
theorem co_SS_opensOf : Cond.code y_SS_opensOf c_SS_opensOf 4 (some .int) ∈ tbl := mt 262 (by decide +kernel) rfl
abbrev X_Hd_init (d pc : Nat) (ls : List (Option VV)) (st : List VV) (w : WW) (Q : Option VV → WW → Prop) : Prop := XE "ShareServer$Handle" c_Hd_init 5 none true d pc ls st w Q
abbrev E_Hd_init (d : Nat) (As : List VV) (w : WW) (Q : Option VV → WW → Prop) : Prop := CE y_Hd_init c_Hd_init 5 none d As w Q
theorem S_Hd_init {d : Nat} {a0 a1 a2 a3 a4 : VV} {w : WW} {Q : Option VV → WW → Prop} (k : X_Hd_init d 0 [some a0, some a1, some a2, some a3, some a4] [] w Q) : E_Hd_init d [a0, a1, a2, a3, a4] w Q := CE.of (ini := true) (by decide +kernel) (fun _ => rfl) (Nat.le_of_ble_eq_true rfl) k
theorem co_Hd_init : Cond.code y_Hd_init c_Hd_init 5 none ∈ tbl := mt 266 (by decide +kernel) rfl
abbrev X_Rq_access (d pc : Nat) (ls : List (Option VV)) (st : List VV) (w : WW) (Q : Option VV → WW → Prop) : Prop := XE "ShareServer$Request" c_Rq_access 1 (some .int) false d pc ls st w Q
abbrev E_Rq_access (d : Nat) (As : List VV) (w : WW) (Q : Option VV → WW → Prop) : Prop := CE y_Rq_access c_Rq_access 1 (some .int) d As w Q
theorem S_Rq_access {d : Nat} {a0 : VV} {w : WW} {Q : Option VV → WW → Prop} (k : X_Rq_access d 0 [some a0] [] w Q) : E_Rq_access d [a0] w Q := CE.of (ini := false) (by decide +kernel) (fun h => by cases h) (Nat.le_of_ble_eq_true rfl) k
theorem co_Rq_access : Cond.code y_Rq_access c_Rq_access 1 (some .int) ∈ tbl := mt 271 (by decide +kernel) rfl
abbrev X_Rq_share (d pc : Nat) (ls : List (Option VV)) (st : List VV) (w : WW) (Q : Option VV → WW → Prop) : Prop := XE "ShareServer$Request" c_Rq_share 1 (some .int) false d pc ls st w Q
abbrev E_Rq_share (d : Nat) (As : List VV) (w : WW) (Q : Option VV → WW → Prop) : Prop := CE y_Rq_share c_Rq_share 1 (some .int) d As w Q
theorem S_Rq_share {d : Nat} {a0 : VV} {w : WW} {Q : Option VV → WW → Prop} (k : X_Rq_share d 0 [some a0] [] w Q) : E_Rq_share d [a0] w Q := CE.of (ini := false) (by decide +kernel) (fun h => by cases h) (Nat.le_of_ble_eq_true rfl) k
theorem co_Rq_share : Cond.code y_Rq_share c_Rq_share 1 (some .int) ∈ tbl := mt 275 (by decide +kernel) rfl
abbrev X_SS_openThere (d pc : Nat) (ls : List (Option VV)) (st : List VV) (w : WW) (Q : Option VV → WW → Prop) : Prop := XE "ShareServer" c_SS_openThere 3 (some .int) false d pc ls st w Q
abbrev E_SS_openThere (d : Nat) (As : List VV) (w : WW) (Q : Option VV → WW → Prop) : Prop := CE y_SS_openThere c_SS_openThere 3 (some .int) d As w Q
theorem S_SS_openThere {d : Nat} {a0 a1 a2 : VV} {w : WW} {Q : Option VV → WW → Prop} (k : X_SS_openThere d 0 [some a0, some a1, some a2] [] w Q) : E_SS_openThere d [a0, a1, a2] w Q := CE.of (ini := false) (by decide +kernel) (fun h => by cases h) (Nat.le_of_ble_eq_true rfl) k
theorem co_SS_openThere : Cond.code y_SS_openThere c_SS_openThere 3 (some .int) ∈ tbl := mt 309 (by decide +kernel) rfl
abbrev X_SS_breaksGrant (d pc : Nat) (ls : List (Option VV)) (st : List VV) (w : WW) (Q : Option VV → WW → Prop) : Prop := XE "ShareServer" c_SS_breaksGrant 4 (some .boolean) false d pc ls st w Q
abbrev E_SS_breaksGrant (d : Nat) (As : List VV) (w : WW) (Q : Option VV → WW → Prop) : Prop := CE y_SS_breaksGrant c_SS_breaksGrant 4 (some .boolean) d As w Q
theorem S_SS_breaksGrant {d : Nat} {a0 a1 : VV} {w : WW} {Q : Option VV → WW → Prop} (k : X_SS_breaksGrant d 0 [some a0, some a1, none, none] [] w Q) : E_SS_breaksGrant d [a0, a1] w Q := CE.of (ini := false) (by decide +kernel) (fun h => by cases h) (Nat.le_of_ble_eq_true rfl) k
theorem co_SS_breaksGrant : Cond.code y_SS_breaksGrant c_SS_breaksGrant 4 (some .boolean) ∈ tbl := mt 313 (by decide +kernel) rfl
abbrev X_SS_clashesWithOpens (d pc : Nat) (ls : List (Option VV)) (st : List VV) (w : WW) (Q : Option VV → WW → Prop) : Prop := XE "ShareServer" c_SS_clashesWithOpens 6 (some .boolean) false d pc ls st w Q
abbrev E_SS_clashesWithOpens (d : Nat) (As : List VV) (w : WW) (Q : Option VV → WW → Prop) : Prop := CE y_SS_clashesWithOpens c_SS_clashesWithOpens 6 (some .boolean) d As w Q
theorem S_SS_clashesWithOpens {d : Nat} {a0 a1 a2 : VV} {w : WW} {Q : Option VV → WW → Prop} (k : X_SS_clashesWithOpens d 0 [some a0, some a1, some a2, none, none, none] [] w Q) : E_SS_clashesWithOpens d [a0, a1, a2] w Q := CE.of (ini := false) (by decide +kernel) (fun h => by cases h) (Nat.le_of_ble_eq_true rfl) k
theorem co_SS_clashesWithOpens : Cond.code y_SS_clashesWithOpens c_SS_clashesWithOpens 6 (some .boolean) ∈ tbl := mt 317 (by decide +kernel) rfl
abbrev X_SS_outcome (d pc : Nat) (ls : List (Option VV)) (st : List VV) (w : WW) (Q : Option VV → WW → Prop) : Prop := XE "ShareServer" c_SS_outcome 3 (some .int) false d pc ls st w Q
abbrev E_SS_outcome (d : Nat) (As : List VV) (w : WW) (Q : Option VV → WW → Prop) : Prop := CE y_SS_outcome c_SS_outcome 3 (some .int) d As w Q
theorem S_SS_outcome {d : Nat} {a0 a1 : VV} {w : WW} {Q : Option VV → WW → Prop} (k : X_SS_outcome d 0 [some a0, some a1, none] [] w Q) : E_SS_outcome d [a0, a1] w Q := CE.of (ini := false) (by decide +kernel) (fun h => by cases h) (Nat.le_of_ble_eq_true rfl) k
theorem co_SS_outcome : Cond.code y_SS_outcome c_SS_outcome 3 (some .int) ∈ tbl := mt 323 (by decide +kernel) rfl
abbrev X_SS_requestNumbered (d pc : Nat) (ls : List (Option VV)) (st : List VV) (w : WW) (Q : Option VV → WW → Prop) : Prop := XE "ShareServer" c_SS_requestNumbered 2 (some (.object "ShareServer$Request")) false d pc ls st w Q
abbrev E_SS_requestNumbered (d : Nat) (As : List VV) (w : WW) (Q : Option VV → WW → Prop) : Prop := CE y_SS_requestNumbered c_SS_requestNumbered 2 (some (.object "ShareServer$Request")) d As w Q
theorem S_SS_requestNumbered {d : Nat} {a0 a1 : VV} {w : WW} {Q : Option VV → WW → Prop} (k : X_SS_requestNumbered d 0 [some a0, some a1] [] w Q) : E_SS_requestNumbered d [a0, a1] w Q := CE.of (ini := false) (by decide +kernel) (fun h => by cases h) (Nat.le_of_ble_eq_true rfl) k
theorem co_SS_requestNumbered : Cond.code y_SS_requestNumbered c_SS_requestNumbered 2 (some (.object "ShareServer$Request")) ∈ tbl := mt 327 (by decide +kernel) rfl
abbrev X_SS_cancel (d pc : Nat) (ls : List (Option VV)) (st : List VV) (w : WW) (Q : Option VV → WW → Prop) : Prop := XE "ShareServer" c_SS_cancel 3 (some .int) false d pc ls st w Q
abbrev E_SS_cancel (d : Nat) (As : List VV) (w : WW) (Q : Option VV → WW → Prop) : Prop := CE y_SS_cancel c_SS_cancel 3 (some .int) d As w Q
theorem S_SS_cancel {d : Nat} {a0 a1 : VV} {w : WW} {Q : Option VV → WW → Prop} (k : X_SS_cancel d 0 [some a0, some a1, none] [] w Q) : E_SS_cancel d [a0, a1] w Q := CE.of (ini := false) (by decide +kernel) (fun h => by cases h) (Nat.le_of_ble_eq_true rfl) k
theorem co_SS_cancel : Cond.code y_SS_cancel c_SS_cancel 3 (some .int) ∈ tbl := mt 331 (by decide +kernel) rfl
abbrev X_SS_giveUp (d pc : Nat) (ls : List (Option VV)) (st : List VV) (w : WW) (Q : Option VV → WW → Prop) : Prop := XE "ShareServer" c_SS_giveUp 4 (some .int) false d pc ls st w Q
abbrev E_SS_giveUp (d : Nat) (As : List VV) (w : WW) (Q : Option VV → WW → Prop) : Prop := CE y_SS_giveUp c_SS_giveUp 4 (some .int) d As w Q
theorem S_SS_giveUp {d : Nat} {a0 a1 : VV} {w : WW} {Q : Option VV → WW → Prop} (k : X_SS_giveUp d 0 [some a0, some a1, none, none] [] w Q) : E_SS_giveUp d [a0, a1] w Q := CE.of (ini := false) (by decide +kernel) (fun h => by cases h) (Nat.le_of_ble_eq_true rfl) k
theorem co_SS_giveUp : Cond.code y_SS_giveUp c_SS_giveUp 4 (some .int) ∈ tbl := mt 335 (by decide +kernel) rfl
abbrev X_SS_openHandle (d pc : Nat) (ls : List (Option VV)) (st : List VV) (w : WW) (Q : Option VV → WW → Prop) : Prop := XE "ShareServer" c_SS_openHandle 3 (some (.object "ShareServer$Handle")) false d pc ls st w Q
abbrev E_SS_openHandle (d : Nat) (As : List VV) (w : WW) (Q : Option VV → WW → Prop) : Prop := CE y_SS_openHandle c_SS_openHandle 3 (some (.object "ShareServer$Handle")) d As w Q
theorem S_SS_openHandle {d : Nat} {a0 a1 : VV} {w : WW} {Q : Option VV → WW → Prop} (k : X_SS_openHandle d 0 [some a0, some a1, none] [] w Q) : E_SS_openHandle d [a0, a1] w Q := CE.of (ini := false) (by decide +kernel) (fun h => by cases h) (Nat.le_of_ble_eq_true rfl) k
theorem co_SS_openHandle : Cond.code y_SS_openHandle c_SS_openHandle 3 (some (.object "ShareServer$Handle")) ∈ tbl := mt 339 (by decide +kernel) rfl
abbrev X_SS_tryWaitingAgain (d pc : Nat) (ls : List (Option VV)) (st : List VV) (w : WW) (Q : Option VV → WW → Prop) : Prop := XE "ShareServer" c_SS_tryWaitingAgain 2 none false d pc ls st w Q
abbrev E_SS_tryWaitingAgain (d : Nat) (As : List VV) (w : WW) (Q : Option VV → WW → Prop) : Prop := CE y_SS_tryWaitingAgain c_SS_tryWaitingAgain 2 none d As w Q
theorem S_SS_tryWaitingAgain {d : Nat} {a0 : VV} {w : WW} {Q : Option VV → WW → Prop} (k : X_SS_tryWaitingAgain d 0 [some a0, none] [] w Q) : E_SS_tryWaitingAgain d [a0] w Q := CE.of (ini := false) (by decide +kernel) (fun h => by cases h) (Nat.le_of_ble_eq_true rfl) k
theorem co_SS_tryWaitingAgain : Cond.code y_SS_tryWaitingAgain c_SS_tryWaitingAgain 2 none ∈ tbl := mt 343 (by decide +kernel) rfl
abbrev X_SS_close (d pc : Nat) (ls : List (Option VV)) (st : List VV) (w : WW) (Q : Option VV → WW → Prop) : Prop := XE "ShareServer" c_SS_close 3 (some .int) false d pc ls st w Q
abbrev E_SS_close (d : Nat) (As : List VV) (w : WW) (Q : Option VV → WW → Prop) : Prop := CE y_SS_close c_SS_close 3 (some .int) d As w Q
theorem S_SS_close {d : Nat} {a0 a1 : VV} {w : WW} {Q : Option VV → WW → Prop} (k : X_SS_close d 0 [some a0, some a1, none] [] w Q) : E_SS_close d [a0, a1] w Q := CE.of (ini := false) (by decide +kernel) (fun h => by cases h) (Nat.le_of_ble_eq_true rfl) k
theorem co_SS_close : Cond.code y_SS_close c_SS_close 3 (some .int) ∈ tbl := mt 347 (by decide +kernel) rfl
abbrev X_Nd_dropLocksOf (d pc : Nat) (ls : List (Option VV)) (st : List VV) (w : WW) (Q : Option VV → WW → Prop) : Prop := XE "ShareServer$Node" c_Nd_dropLocksOf 4 none false d pc ls st w Q
abbrev E_Nd_dropLocksOf (d : Nat) (As : List VV) (w : WW) (Q : Option VV → WW → Prop) : Prop := CE y_Nd_dropLocksOf c_Nd_dropLocksOf 4 none d As w Q
theorem S_Nd_dropLocksOf {d : Nat} {a0 a1 : VV} {w : WW} {Q : Option VV → WW → Prop} (k : X_Nd_dropLocksOf d 0 [some a0, some a1, none, none] [] w Q) : E_Nd_dropLocksOf d [a0, a1] w Q := CE.of (ini := false) (by decide +kernel) (fun h => by cases h) (Nat.le_of_ble_eq_true rfl) k
theorem co_Nd_dropLocksOf : Cond.code y_Nd_dropLocksOf c_Nd_dropLocksOf 4 none ∈ tbl := mt 351 (by decide +kernel) rfl
abbrev X_SS_dropFromOpens (d pc : Nat) (ls : List (Option VV)) (st : List VV) (w : WW) (Q : Option VV → WW → Prop) : Prop := XE "ShareServer" c_SS_dropFromOpens 4 none false d pc ls st w Q
abbrev E_SS_dropFromOpens (d : Nat) (As : List VV) (w : WW) (Q : Option VV → WW → Prop) : Prop := CE y_SS_dropFromOpens c_SS_dropFromOpens 4 none d As w Q
theorem S_SS_dropFromOpens {d : Nat} {a0 a1 : VV} {w : WW} {Q : Option VV → WW → Prop} (k : X_SS_dropFromOpens d 0 [some a0, some a1, none, none] [] w Q) : E_SS_dropFromOpens d [a0, a1] w Q := CE.of (ini := false) (by decide +kernel) (fun h => by cases h) (Nat.le_of_ble_eq_true rfl) k
theorem co_SS_dropFromOpens : Cond.code y_SS_dropFromOpens c_SS_dropFromOpens 4 none ∈ tbl := mt 355 (by decide +kernel) rfl
abbrev X_SS_doomIfItRemoves (d pc : Nat) (ls : List (Option VV)) (st : List VV) (w : WW) (Q : Option VV → WW → Prop) : Prop := XE "ShareServer" c_SS_doomIfItRemoves 2 none false d pc ls st w Q
abbrev E_SS_doomIfItRemoves (d : Nat) (As : List VV) (w : WW) (Q : Option VV → WW → Prop) : Prop := CE y_SS_doomIfItRemoves c_SS_doomIfItRemoves 2 none d As w Q
theorem S_SS_doomIfItRemoves {d : Nat} {a0 a1 : VV} {w : WW} {Q : Option VV → WW → Prop} (k : X_SS_doomIfItRemoves d 0 [some a0, some a1] [] w Q) : E_SS_doomIfItRemoves d [a0, a1] w Q := CE.of (ini := false) (by decide +kernel) (fun h => by cases h) (Nat.le_of_ble_eq_true rfl) k
theorem co_SS_doomIfItRemoves : Cond.code y_SS_doomIfItRemoves c_SS_doomIfItRemoves 2 none ∈ tbl := mt 359 (by decide +kernel) rfl
abbrev X_SS_isRemovable (d pc : Nat) (ls : List (Option VV)) (st : List VV) (w : WW) (Q : Option VV → WW → Prop) : Prop := XE "ShareServer" c_SS_isRemovable 2 (some .boolean) false d pc ls st w Q
abbrev E_SS_isRemovable (d : Nat) (As : List VV) (w : WW) (Q : Option VV → WW → Prop) : Prop := CE y_SS_isRemovable c_SS_isRemovable 2 (some .boolean) d As w Q
theorem S_SS_isRemovable {d : Nat} {a0 a1 : VV} {w : WW} {Q : Option VV → WW → Prop} (k : X_SS_isRemovable d 0 [some a0, some a1] [] w Q) : E_SS_isRemovable d [a0, a1] w Q := CE.of (ini := false) (by decide +kernel) (fun h => by cases h) (Nat.le_of_ble_eq_true rfl) k
theorem co_SS_isRemovable : Cond.code y_SS_isRemovable c_SS_isRemovable 2 (some .boolean) ∈ tbl := mt 363 (by decide +kernel) rfl
abbrev X_SS_nodesIn (d pc : Nat) (ls : List (Option VV)) (st : List VV) (w : WW) (Q : Option VV → WW → Prop) : Prop := XE "ShareServer" c_SS_nodesIn 4 (some .int) false d pc ls st w Q
abbrev E_SS_nodesIn (d : Nat) (As : List VV) (w : WW) (Q : Option VV → WW → Prop) : Prop := CE y_SS_nodesIn c_SS_nodesIn 4 (some .int) d As w Q
theorem S_SS_nodesIn {d : Nat} {a0 a1 : VV} {w : WW} {Q : Option VV → WW → Prop} (k : X_SS_nodesIn d 0 [some a0, some a1, none, none] [] w Q) : E_SS_nodesIn d [a0, a1] w Q := CE.of (ini := false) (by decide +kernel) (fun h => by cases h) (Nat.le_of_ble_eq_true rfl) k
theorem co_SS_nodesIn : Cond.code y_SS_nodesIn c_SS_nodesIn 4 (some .int) ∈ tbl := mt 367 (by decide +kernel) rfl
abbrev X_SS_settleDoom (d pc : Nat) (ls : List (Option VV)) (st : List VV) (w : WW) (Q : Option VV → WW → Prop) : Prop := XE "ShareServer" c_SS_settleDoom 2 none false d pc ls st w Q
abbrev E_SS_settleDoom (d : Nat) (As : List VV) (w : WW) (Q : Option VV → WW → Prop) : Prop := CE y_SS_settleDoom c_SS_settleDoom 2 none d As w Q
theorem S_SS_settleDoom {d : Nat} {a0 a1 : VV} {w : WW} {Q : Option VV → WW → Prop} (k : X_SS_settleDoom d 0 [some a0, some a1] [] w Q) : E_SS_settleDoom d [a0, a1] w Q := CE.of (ini := false) (by decide +kernel) (fun h => by cases h) (Nat.le_of_ble_eq_true rfl) k
theorem co_SS_settleDoom : Cond.code y_SS_settleDoom c_SS_settleDoom 2 none ∈ tbl := mt 371 (by decide +kernel) rfl
abbrev X_SS_doom (d pc : Nat) (ls : List (Option VV)) (st : List VV) (w : WW) (Q : Option VV → WW → Prop) : Prop := XE "ShareServer" c_SS_doom 4 (some .int) false d pc ls st w Q
abbrev E_SS_doom (d : Nat) (As : List VV) (w : WW) (Q : Option VV → WW → Prop) : Prop := CE y_SS_doom c_SS_doom 4 (some .int) d As w Q
theorem S_SS_doom {d : Nat} {a0 a1 a2 : VV} {w : WW} {Q : Option VV → WW → Prop} (k : X_SS_doom d 0 [some a0, some a1, some a2, none] [] w Q) : E_SS_doom d [a0, a1, a2] w Q := CE.of (ini := false) (by decide +kernel) (fun h => by cases h) (Nat.le_of_ble_eq_true rfl) k
theorem co_SS_doom : Cond.code y_SS_doom c_SS_doom 4 (some .int) ∈ tbl := mt 375 (by decide +kernel) rfl
abbrev X_Hd_may (d pc : Nat) (ls : List (Option VV)) (st : List VV) (w : WW) (Q : Option VV → WW → Prop) : Prop := XE "ShareServer$Handle" c_Hd_may 2 (some .boolean) false d pc ls st w Q
abbrev E_Hd_may (d : Nat) (As : List VV) (w : WW) (Q : Option VV → WW → Prop) : Prop := CE y_Hd_may c_Hd_may 2 (some .boolean) d As w Q
theorem S_Hd_may {d : Nat} {a0 a1 : VV} {w : WW} {Q : Option VV → WW → Prop} (k : X_Hd_may d 0 [some a0, some a1] [] w Q) : E_Hd_may d [a0, a1] w Q := CE.of (ini := false) (by decide +kernel) (fun h => by cases h) (Nat.le_of_ble_eq_true rfl) k
theorem co_Hd_may : Cond.code y_Hd_may c_Hd_may 2 (some .boolean) ∈ tbl := mt 379 (by decide +kernel) rfl
abbrev X_SS_move (d pc : Nat) (ls : List (Option VV)) (st : List VV) (w : WW) (Q : Option VV → WW → Prop) : Prop := XE "ShareServer" c_SS_move 5 (some .int) false d pc ls st w Q
abbrev E_SS_move (d : Nat) (As : List VV) (w : WW) (Q : Option VV → WW → Prop) : Prop := CE y_SS_move c_SS_move 5 (some .int) d As w Q
theorem S_SS_move {d : Nat} {a0 a1 a2 a3 : VV} {w : WW} {Q : Option VV → WW → Prop} (k : X_SS_move d 0 [some a0, some a1, some a2, some a3, none] [] w Q) : E_SS_move d [a0, a1, a2, a3] w Q := CE.of (ini := false) (by decide +kernel) (fun h => by cases h) (Nat.le_of_ble_eq_true rfl) k
theorem co_SS_move : Cond.code y_SS_move c_SS_move 5 (some .int) ∈ tbl := mt 383 (by decide +kernel) rfl
abbrev X_SS_isOrLiesInside (d pc : Nat) (ls : List (Option VV)) (st : List VV) (w : WW) (Q : Option VV → WW → Prop) : Prop := XE "ShareServer" c_SS_isOrLiesInside 5 (some .boolean) false d pc ls st w Q
abbrev E_SS_isOrLiesInside (d : Nat) (As : List VV) (w : WW) (Q : Option VV → WW → Prop) : Prop := CE y_SS_isOrLiesInside c_SS_isOrLiesInside 5 (some .boolean) d As w Q
theorem S_SS_isOrLiesInside {d : Nat} {a0 a1 a2 : VV} {w : WW} {Q : Option VV → WW → Prop} (k : X_SS_isOrLiesInside d 0 [some a0, some a1, some a2, none, none] [] w Q) : E_SS_isOrLiesInside d [a0, a1, a2] w Q := CE.of (ini := false) (by decide +kernel) (fun h => by cases h) (Nat.le_of_ble_eq_true rfl) k
theorem co_SS_isOrLiesInside : Cond.code y_SS_isOrLiesInside c_SS_isOrLiesInside 5 (some .boolean) ∈ tbl := mt 387 (by decide +kernel) rfl
abbrev X_SS_read (d pc : Nat) (ls : List (Option VV)) (st : List VV) (w : WW) (Q : Option VV → WW → Prop) : Prop := XE "ShareServer" c_SS_read 4 (some .int) false d pc ls st w Q
abbrev E_SS_read (d : Nat) (As : List VV) (w : WW) (Q : Option VV → WW → Prop) : Prop := CE y_SS_read c_SS_read 4 (some .int) d As w Q
theorem S_SS_read {d : Nat} {a0 a1 a2 : VV} {w : WW} {Q : Option VV → WW → Prop} (k : X_SS_read d 0 [some a0, some a1, some a2, none] [] w Q) : E_SS_read d [a0, a1, a2] w Q := CE.of (ini := false) (by decide +kernel) (fun h => by cases h) (Nat.le_of_ble_eq_true rfl) k
theorem co_SS_read : Cond.code y_SS_read c_SS_read 4 (some .int) ∈ tbl := mt 391 (by decide +kernel) rfl
abbrev X_Nd_barsReading (d pc : Nat) (ls : List (Option VV)) (st : List VV) (w : WW) (Q : Option VV → WW → Prop) : Prop := XE "ShareServer$Node" c_Nd_barsReading 4 (some .boolean) false d pc ls st w Q
abbrev E_Nd_barsReading (d : Nat) (As : List VV) (w : WW) (Q : Option VV → WW → Prop) : Prop := CE y_Nd_barsReading c_Nd_barsReading 4 (some .boolean) d As w Q
theorem S_Nd_barsReading {d : Nat} {a0 a1 a2 : VV} {w : WW} {Q : Option VV → WW → Prop} (k : X_Nd_barsReading d 0 [some a0, some a1, some a2, none] [] w Q) : E_Nd_barsReading d [a0, a1, a2] w Q := CE.of (ini := false) (by decide +kernel) (fun h => by cases h) (Nat.le_of_ble_eq_true rfl) k
theorem co_Nd_barsReading : Cond.code y_Nd_barsReading c_Nd_barsReading 4 (some .boolean) ∈ tbl := mt 395 (by decide +kernel) rfl
abbrev X_Lk_covers (d pc : Nat) (ls : List (Option VV)) (st : List VV) (w : WW) (Q : Option VV → WW → Prop) : Prop := XE "ShareServer$Lock" c_Lk_covers 2 (some .boolean) false d pc ls st w Q
abbrev E_Lk_covers (d : Nat) (As : List VV) (w : WW) (Q : Option VV → WW → Prop) : Prop := CE y_Lk_covers c_Lk_covers 2 (some .boolean) d As w Q
theorem S_Lk_covers {d : Nat} {a0 a1 : VV} {w : WW} {Q : Option VV → WW → Prop} (k : X_Lk_covers d 0 [some a0, some a1] [] w Q) : E_Lk_covers d [a0, a1] w Q := CE.of (ini := false) (by decide +kernel) (fun h => by cases h) (Nat.le_of_ble_eq_true rfl) k
theorem co_Lk_covers : Cond.code y_Lk_covers c_Lk_covers 2 (some .boolean) ∈ tbl := mt 399 (by decide +kernel) rfl
abbrev X_SS_value (d pc : Nat) (ls : List (Option VV)) (st : List VV) (w : WW) (Q : Option VV → WW → Prop) : Prop := XE "ShareServer" c_SS_value 1 (some .int) false d pc ls st w Q
abbrev E_SS_value (d : Nat) (As : List VV) (w : WW) (Q : Option VV → WW → Prop) : Prop := CE y_SS_value c_SS_value 1 (some .int) d As w Q
theorem S_SS_value {d : Nat} {a0 : VV} {w : WW} {Q : Option VV → WW → Prop} (k : X_SS_value d 0 [some a0] [] w Q) : E_SS_value d [a0] w Q := CE.of (ini := false) (by decide +kernel) (fun h => by cases h) (Nat.le_of_ble_eq_true rfl) k
theorem co_SS_value : Cond.code y_SS_value c_SS_value 1 (some .int) ∈ tbl := mt 403 (by decide +kernel) rfl
abbrev X_SS_write (d pc : Nat) (ls : List (Option VV)) (st : List VV) (w : WW) (Q : Option VV → WW → Prop) : Prop := XE "ShareServer" c_SS_write 5 (some .int) false d pc ls st w Q
abbrev E_SS_write (d : Nat) (As : List VV) (w : WW) (Q : Option VV → WW → Prop) : Prop := CE y_SS_write c_SS_write 5 (some .int) d As w Q
theorem S_SS_write {d : Nat} {a0 a1 a2 a3 : VV} {w : WW} {Q : Option VV → WW → Prop} (k : X_SS_write d 0 [some a0, some a1, some a2, some a3, none] [] w Q) : E_SS_write d [a0, a1, a2, a3] w Q := CE.of (ini := false) (by decide +kernel) (fun h => by cases h) (Nat.le_of_ble_eq_true rfl) k
theorem co_SS_write : Cond.code y_SS_write c_SS_write 5 (some .int) ∈ tbl := mt 407 (by decide +kernel) rfl
abbrev X_Nd_barsWriting (d pc : Nat) (ls : List (Option VV)) (st : List VV) (w : WW) (Q : Option VV → WW → Prop) : Prop := XE "ShareServer$Node" c_Nd_barsWriting 5 (some .boolean) false d pc ls st w Q
abbrev E_Nd_barsWriting (d : Nat) (As : List VV) (w : WW) (Q : Option VV → WW → Prop) : Prop := CE y_Nd_barsWriting c_Nd_barsWriting 5 (some .boolean) d As w Q
theorem S_Nd_barsWriting {d : Nat} {a0 a1 a2 : VV} {w : WW} {Q : Option VV → WW → Prop} (k : X_Nd_barsWriting d 0 [some a0, some a1, some a2, none, none] [] w Q) : E_Nd_barsWriting d [a0, a1, a2] w Q := CE.of (ini := false) (by decide +kernel) (fun h => by cases h) (Nat.le_of_ble_eq_true rfl) k
theorem co_Nd_barsWriting : Cond.code y_Nd_barsWriting c_Nd_barsWriting 5 (some .boolean) ∈ tbl := mt 411 (by decide +kernel) rfl
abbrev X_SS_endSharedGrantsBeside (d pc : Nat) (ls : List (Option VV)) (st : List VV) (w : WW) (Q : Option VV → WW → Prop) : Prop := XE "ShareServer" c_SS_endSharedGrantsBeside 4 none false d pc ls st w Q
abbrev E_SS_endSharedGrantsBeside (d : Nat) (As : List VV) (w : WW) (Q : Option VV → WW → Prop) : Prop := CE y_SS_endSharedGrantsBeside c_SS_endSharedGrantsBeside 4 none d As w Q
theorem S_SS_endSharedGrantsBeside {d : Nat} {a0 a1 : VV} {w : WW} {Q : Option VV → WW → Prop} (k : X_SS_endSharedGrantsBeside d 0 [some a0, some a1, none, none] [] w Q) : E_SS_endSharedGrantsBeside d [a0, a1] w Q := CE.of (ini := false) (by decide +kernel) (fun h => by cases h) (Nat.le_of_ble_eq_true rfl) k
theorem co_SS_endSharedGrantsBeside : Cond.code y_SS_endSharedGrantsBeside c_SS_endSharedGrantsBeside 4 none ∈ tbl := mt 415 (by decide +kernel) rfl
abbrev X_SS_lock (d pc : Nat) (ls : List (Option VV)) (st : List VV) (w : WW) (Q : Option VV → WW → Prop) : Prop := XE "ShareServer" c_SS_lock 7 (some .int) false d pc ls st w Q
abbrev E_SS_lock (d : Nat) (As : List VV) (w : WW) (Q : Option VV → WW → Prop) : Prop := CE y_SS_lock c_SS_lock 7 (some .int) d As w Q
theorem S_SS_lock {d : Nat} {a0 a1 a2 a3 a4 : VV} {w : WW} {Q : Option VV → WW → Prop} (k : X_SS_lock d 0 [some a0, some a1, some a2, some a3, some a4, none, none] [] w Q) : E_SS_lock d [a0, a1, a2, a3, a4] w Q := CE.of (ini := false) (by decide +kernel) (fun h => by cases h) (Nat.le_of_ble_eq_true rfl) k
theorem co_SS_lock : Cond.code y_SS_lock c_SS_lock 7 (some .int) ∈ tbl := mt 419 (by decide +kernel) rfl
abbrev X_SS_isRange (d pc : Nat) (ls : List (Option VV)) (st : List VV) (w : WW) (Q : Option VV → WW → Prop) : Prop := XE "ShareServer" c_SS_isRange 2 (some .boolean) false d pc ls st w Q
abbrev E_SS_isRange (d : Nat) (As : List VV) (w : WW) (Q : Option VV → WW → Prop) : Prop := CE y_SS_isRange c_SS_isRange 2 (some .boolean) d As w Q
theorem S_SS_isRange {d : Nat} {a0 a1 : VV} {w : WW} {Q : Option VV → WW → Prop} (k : X_SS_isRange d 0 [some a0, some a1] [] w Q) : E_SS_isRange d [a0, a1] w Q := CE.of (ini := false) (by decide +kernel) (fun h => by cases h) (Nat.le_of_ble_eq_true rfl) k
theorem co_SS_isRange : Cond.code y_SS_isRange c_SS_isRange 2 (some .boolean) ∈ tbl := mt 422 (by decide +kernel) rfl
abbrev X_Lk_init (d pc : Nat) (ls : List (Option VV)) (st : List VV) (w : WW) (Q : Option VV → WW → Prop) : Prop := XE "ShareServer$Lock" c_Lk_init 5 none true d pc ls st w Q
abbrev E_Lk_init (d : Nat) (As : List VV) (w : WW) (Q : Option VV → WW → Prop) : Prop := CE y_Lk_init c_Lk_init 5 none d As w Q
theorem S_Lk_init {d : Nat} {a0 a1 a2 a3 a4 : VV} {w : WW} {Q : Option VV → WW → Prop} (k : X_Lk_init d 0 [some a0, some a1, some a2, some a3, some a4] [] w Q) : E_Lk_init d [a0, a1, a2, a3, a4] w Q := CE.of (ini := true) (by decide +kernel) (fun _ => rfl) (Nat.le_of_ble_eq_true rfl) k
theorem co_Lk_init : Cond.code y_Lk_init c_Lk_init 5 none ∈ tbl := mt 427 (by decide +kernel) rfl
abbrev X_Nd_barsLocking (d pc : Nat) (ls : List (Option VV)) (st : List VV) (w : WW) (Q : Option VV → WW → Prop) : Prop := XE "ShareServer$Node" c_Nd_barsLocking 3 (some .boolean) false d pc ls st w Q
abbrev E_Nd_barsLocking (d : Nat) (As : List VV) (w : WW) (Q : Option VV → WW → Prop) : Prop := CE y_Nd_barsLocking c_Nd_barsLocking 3 (some .boolean) d As w Q
theorem S_Nd_barsLocking {d : Nat} {a0 a1 : VV} {w : WW} {Q : Option VV → WW → Prop} (k : X_Nd_barsLocking d 0 [some a0, some a1, none] [] w Q) : E_Nd_barsLocking d [a0, a1] w Q := CE.of (ini := false) (by decide +kernel) (fun h => by cases h) (Nat.le_of_ble_eq_true rfl) k
theorem co_Nd_barsLocking : Cond.code y_Nd_barsLocking c_Nd_barsLocking 3 (some .boolean) ∈ tbl := mt 449 (by decide +kernel) rfl
abbrev X_Lk_meets (d pc : Nat) (ls : List (Option VV)) (st : List VV) (w : WW) (Q : Option VV → WW → Prop) : Prop := XE "ShareServer$Lock" c_Lk_meets 2 (some .boolean) false d pc ls st w Q
abbrev E_Lk_meets (d : Nat) (As : List VV) (w : WW) (Q : Option VV → WW → Prop) : Prop := CE y_Lk_meets c_Lk_meets 2 (some .boolean) d As w Q
theorem S_Lk_meets {d : Nat} {a0 a1 : VV} {w : WW} {Q : Option VV → WW → Prop} (k : X_Lk_meets d 0 [some a0, some a1] [] w Q) : E_Lk_meets d [a0, a1] w Q := CE.of (ini := false) (by decide +kernel) (fun h => by cases h) (Nat.le_of_ble_eq_true rfl) k
theorem co_Lk_meets : Cond.code y_Lk_meets c_Lk_meets 2 (some .boolean) ∈ tbl := mt 453 (by decide +kernel) rfl
abbrev X_Nd_addLock (d pc : Nat) (ls : List (Option VV)) (st : List VV) (w : WW) (Q : Option VV → WW → Prop) : Prop := XE "ShareServer$Node" c_Nd_addLock 2 none false d pc ls st w Q
abbrev E_Nd_addLock (d : Nat) (As : List VV) (w : WW) (Q : Option VV → WW → Prop) : Prop := CE y_Nd_addLock c_Nd_addLock 2 none d As w Q
theorem S_Nd_addLock {d : Nat} {a0 a1 : VV} {w : WW} {Q : Option VV → WW → Prop} (k : X_Nd_addLock d 0 [some a0, some a1] [] w Q) : E_Nd_addLock d [a0, a1] w Q := CE.of (ini := false) (by decide +kernel) (fun h => by cases h) (Nat.le_of_ble_eq_true rfl) k
theorem co_Nd_addLock : Cond.code y_Nd_addLock c_Nd_addLock 2 none ∈ tbl := mt 458 (by decide +kernel) rfl
abbrev X_SS_unlock (d pc : Nat) (ls : List (Option VV)) (st : List VV) (w : WW) (Q : Option VV → WW → Prop) : Prop := XE "ShareServer" c_SS_unlock 6 (some .int) false d pc ls st w Q
abbrev E_SS_unlock (d : Nat) (As : List VV) (w : WW) (Q : Option VV → WW → Prop) : Prop := CE y_SS_unlock c_SS_unlock 6 (some .int) d As w Q
theorem S_SS_unlock {d : Nat} {a0 a1 a2 a3 : VV} {w : WW} {Q : Option VV → WW → Prop} (k : X_SS_unlock d 0 [some a0, some a1, some a2, some a3, none, none] [] w Q) : E_SS_unlock d [a0, a1, a2, a3] w Q := CE.of (ini := false) (by decide +kernel) (fun h => by cases h) (Nat.le_of_ble_eq_true rfl) k
theorem co_SS_unlock : Cond.code y_SS_unlock c_SS_unlock 6 (some .int) ∈ tbl := mt 462 (by decide +kernel) rfl
abbrev X_Nd_oldestLock (d pc : Nat) (ls : List (Option VV)) (st : List VV) (w : WW) (Q : Option VV → WW → Prop) : Prop := XE "ShareServer$Node" c_Nd_oldestLock 5 (some .int) false d pc ls st w Q
abbrev E_Nd_oldestLock (d : Nat) (As : List VV) (w : WW) (Q : Option VV → WW → Prop) : Prop := CE y_Nd_oldestLock c_Nd_oldestLock 5 (some .int) d As w Q
theorem S_Nd_oldestLock {d : Nat} {a0 a1 a2 a3 : VV} {w : WW} {Q : Option VV → WW → Prop} (k : X_Nd_oldestLock d 0 [some a0, some a1, some a2, some a3, none] [] w Q) : E_Nd_oldestLock d [a0, a1, a2, a3] w Q := CE.of (ini := false) (by decide +kernel) (fun h => by cases h) (Nat.le_of_ble_eq_true rfl) k
theorem co_Nd_oldestLock : Cond.code y_Nd_oldestLock c_Nd_oldestLock 5 (some .int) ∈ tbl := mt 466 (by decide +kernel) rfl
abbrev X_Nd_dropLock (d pc : Nat) (ls : List (Option VV)) (st : List VV) (w : WW) (Q : Option VV → WW → Prop) : Prop := XE "ShareServer$Node" c_Nd_dropLock 3 none false d pc ls st w Q
abbrev E_Nd_dropLock (d : Nat) (As : List VV) (w : WW) (Q : Option VV → WW → Prop) : Prop := CE y_Nd_dropLock c_Nd_dropLock 3 none d As w Q
theorem S_Nd_dropLock {d : Nat} {a0 a1 : VV} {w : WW} {Q : Option VV → WW → Prop} (k : X_Nd_dropLock d 0 [some a0, some a1, none] [] w Q) : E_Nd_dropLock d [a0, a1] w Q := CE.of (ini := false) (by decide +kernel) (fun h => by cases h) (Nat.le_of_ble_eq_true rfl) k
theorem co_Nd_dropLock : Cond.code y_Nd_dropLock c_Nd_dropLock 3 none ∈ tbl := mt 470 (by decide +kernel) rfl
abbrev X_SS_sync (d pc : Nat) (ls : List (Option VV)) (st : List VV) (w : WW) (Q : Option VV → WW → Prop) : Prop := XE "ShareServer" c_SS_sync 1 (some .int) false d pc ls st w Q
abbrev E_SS_sync (d : Nat) (As : List VV) (w : WW) (Q : Option VV → WW → Prop) : Prop := CE y_SS_sync c_SS_sync 1 (some .int) d As w Q
theorem S_SS_sync {d : Nat} {a0 : VV} {w : WW} {Q : Option VV → WW → Prop} (k : X_SS_sync d 0 [some a0] [] w Q) : E_SS_sync d [a0] w Q := CE.of (ini := false) (by decide +kernel) (fun h => by cases h) (Nat.le_of_ble_eq_true rfl) k
theorem co_SS_sync : Cond.code y_SS_sync c_SS_sync 1 (some .int) ∈ tbl := mt 474 (by decide +kernel) rfl
abbrev X_Lg_changes (d pc : Nat) (ls : List (Option VV)) (st : List VV) (w : WW) (Q : Option VV → WW → Prop) : Prop := XE "ShareServer$Log" c_Lg_changes 1 (some .int) false d pc ls st w Q
abbrev E_Lg_changes (d : Nat) (As : List VV) (w : WW) (Q : Option VV → WW → Prop) : Prop := CE y_Lg_changes c_Lg_changes 1 (some .int) d As w Q
theorem S_Lg_changes {d : Nat} {a0 : VV} {w : WW} {Q : Option VV → WW → Prop} (k : X_Lg_changes d 0 [some a0] [] w Q) : E_Lg_changes d [a0] w Q := CE.of (ini := false) (by decide +kernel) (fun h => by cases h) (Nat.le_of_ble_eq_true rfl) k
theorem co_Lg_changes : Cond.code y_Lg_changes c_Lg_changes 1 (some .int) ∈ tbl := mt 479 (by decide +kernel) rfl
abbrev X_SS_crash (d pc : Nat) (ls : List (Option VV)) (st : List VV) (w : WW) (Q : Option VV → WW → Prop) : Prop := XE "ShareServer" c_SS_crash 1 (some .int) false d pc ls st w Q
abbrev E_SS_crash (d : Nat) (As : List VV) (w : WW) (Q : Option VV → WW → Prop) : Prop := CE y_SS_crash c_SS_crash 1 (some .int) d As w Q
theorem S_SS_crash {d : Nat} {a0 : VV} {w : WW} {Q : Option VV → WW → Prop} (k : X_SS_crash d 0 [some a0] [] w Q) : E_SS_crash d [a0] w Q := CE.of (ini := false) (by decide +kernel) (fun h => by cases h) (Nat.le_of_ble_eq_true rfl) k
theorem co_SS_crash : Cond.code y_SS_crash c_SS_crash 1 (some .int) ∈ tbl := mt 483 (by decide +kernel) rfl
abbrev X_SS_undoUnsafeChanges (d pc : Nat) (ls : List (Option VV)) (st : List VV) (w : WW) (Q : Option VV → WW → Prop) : Prop := XE "ShareServer" c_SS_undoUnsafeChanges 2 none false d pc ls st w Q
abbrev E_SS_undoUnsafeChanges (d : Nat) (As : List VV) (w : WW) (Q : Option VV → WW → Prop) : Prop := CE y_SS_undoUnsafeChanges c_SS_undoUnsafeChanges 2 none d As w Q
theorem S_SS_undoUnsafeChanges {d : Nat} {a0 : VV} {w : WW} {Q : Option VV → WW → Prop} (k : X_SS_undoUnsafeChanges d 0 [some a0, none] [] w Q) : E_SS_undoUnsafeChanges d [a0] w Q := CE.of (ini := false) (by decide +kernel) (fun h => by cases h) (Nat.le_of_ble_eq_true rfl) k
theorem co_SS_undoUnsafeChanges : Cond.code y_SS_undoUnsafeChanges c_SS_undoUnsafeChanges 2 none ∈ tbl := mt 487 (by decide +kernel) rfl
abbrev X_SS_undo (d pc : Nat) (ls : List (Option VV)) (st : List VV) (w : WW) (Q : Option VV → WW → Prop) : Prop := XE "ShareServer" c_SS_undo 3 none false d pc ls st w Q
abbrev E_SS_undo (d : Nat) (As : List VV) (w : WW) (Q : Option VV → WW → Prop) : Prop := CE y_SS_undo c_SS_undo 3 none d As w Q
theorem S_SS_undo {d : Nat} {a0 a1 : VV} {w : WW} {Q : Option VV → WW → Prop} (k : X_SS_undo d 0 [some a0, some a1, none] [] w Q) : E_SS_undo d [a0, a1] w Q := CE.of (ini := false) (by decide +kernel) (fun h => by cases h) (Nat.le_of_ble_eq_true rfl) k
theorem co_SS_undo : Cond.code y_SS_undo c_SS_undo 3 none ∈ tbl := mt 491 (by decide +kernel) rfl
abbrev X_SS_calmNodes (d pc : Nat) (ls : List (Option VV)) (st : List VV) (w : WW) (Q : Option VV → WW → Prop) : Prop := XE "ShareServer" c_SS_calmNodes 2 none false d pc ls st w Q
abbrev E_SS_calmNodes (d : Nat) (As : List VV) (w : WW) (Q : Option VV → WW → Prop) : Prop := CE y_SS_calmNodes c_SS_calmNodes 2 none d As w Q
theorem S_SS_calmNodes {d : Nat} {a0 : VV} {w : WW} {Q : Option VV → WW → Prop} (k : X_SS_calmNodes d 0 [some a0, none] [] w Q) : E_SS_calmNodes d [a0] w Q := CE.of (ini := false) (by decide +kernel) (fun h => by cases h) (Nat.le_of_ble_eq_true rfl) k
theorem co_SS_calmNodes : Cond.code y_SS_calmNodes c_SS_calmNodes 2 none ∈ tbl := mt 495 (by decide +kernel) rfl
abbrev X_SS_loseWaiting (d pc : Nat) (ls : List (Option VV)) (st : List VV) (w : WW) (Q : Option VV → WW → Prop) : Prop := XE "ShareServer" c_SS_loseWaiting 2 none false d pc ls st w Q
abbrev E_SS_loseWaiting (d : Nat) (As : List VV) (w : WW) (Q : Option VV → WW → Prop) : Prop := CE y_SS_loseWaiting c_SS_loseWaiting 2 none d As w Q
theorem S_SS_loseWaiting {d : Nat} {a0 : VV} {w : WW} {Q : Option VV → WW → Prop} (k : X_SS_loseWaiting d 0 [some a0, none] [] w Q) : E_SS_loseWaiting d [a0] w Q := CE.of (ini := false) (by decide +kernel) (fun h => by cases h) (Nat.le_of_ble_eq_true rfl) k
theorem co_SS_loseWaiting : Cond.code y_SS_loseWaiting c_SS_loseWaiting 2 none ∈ tbl := mt 499 (by decide +kernel) rfl
abbrev X_SS_find (d pc : Nat) (ls : List (Option VV)) (st : List VV) (w : WW) (Q : Option VV → WW → Prop) : Prop := XE "ShareServer" c_SS_find 4 (some .int) false d pc ls st w Q
abbrev E_SS_find (d : Nat) (As : List VV) (w : WW) (Q : Option VV → WW → Prop) : Prop := CE y_SS_find c_SS_find 4 (some .int) d As w Q
theorem S_SS_find {d : Nat} {a0 a1 a2 : VV} {w : WW} {Q : Option VV → WW → Prop} (k : X_SS_find d 0 [some a0, some a1, some a2, none] [] w Q) : E_SS_find d [a0, a1, a2] w Q := CE.of (ini := false) (by decide +kernel) (fun h => by cases h) (Nat.le_of_ble_eq_true rfl) k
theorem co_SS_find : Cond.code y_SS_find c_SS_find 4 (some .int) ∈ tbl := mt 503 (by decide +kernel) rfl
abbrev X_SS_node (d pc : Nat) (ls : List (Option VV)) (st : List VV) (w : WW) (Q : Option VV → WW → Prop) : Prop := XE "ShareServer" c_SS_node 4 (some .int) false d pc ls st w Q
abbrev E_SS_node (d : Nat) (As : List VV) (w : WW) (Q : Option VV → WW → Prop) : Prop := CE y_SS_node c_SS_node 4 (some .int) d As w Q
theorem S_SS_node {d : Nat} {a0 a1 a2 : VV} {w : WW} {Q : Option VV → WW → Prop} (k : X_SS_node d 0 [some a0, some a1, some a2, none] [] w Q) : E_SS_node d [a0, a1, a2] w Q := CE.of (ini := false) (by decide +kernel) (fun h => by cases h) (Nat.le_of_ble_eq_true rfl) k
theorem co_SS_node : Cond.code y_SS_node c_SS_node 4 (some .int) ∈ tbl := mt 507 (by decide +kernel) rfl
abbrev X_SS_handle (d pc : Nat) (ls : List (Option VV)) (st : List VV) (w : WW) (Q : Option VV → WW → Prop) : Prop := XE "ShareServer" c_SS_handle 4 (some .int) false d pc ls st w Q
abbrev E_SS_handle (d : Nat) (As : List VV) (w : WW) (Q : Option VV → WW → Prop) : Prop := CE y_SS_handle c_SS_handle 4 (some .int) d As w Q
theorem S_SS_handle {d : Nat} {a0 a1 a2 : VV} {w : WW} {Q : Option VV → WW → Prop} (k : X_SS_handle d 0 [some a0, some a1, some a2, none] [] w Q) : E_SS_handle d [a0, a1, a2] w Q := CE.of (ini := false) (by decide +kernel) (fun h => by cases h) (Nat.le_of_ble_eq_true rfl) k
theorem co_SS_handle : Cond.code y_SS_handle c_SS_handle 4 (some .int) ∈ tbl := mt 511 (by decide +kernel) rfl
abbrev X_SS_count (d pc : Nat) (ls : List (Option VV)) (st : List VV) (w : WW) (Q : Option VV → WW → Prop) : Prop := XE "ShareServer" c_SS_count 2 (some .int) false d pc ls st w Q
abbrev E_SS_count (d : Nat) (As : List VV) (w : WW) (Q : Option VV → WW → Prop) : Prop := CE y_SS_count c_SS_count 2 (some .int) d As w Q
theorem S_SS_count {d : Nat} {a0 a1 : VV} {w : WW} {Q : Option VV → WW → Prop} (k : X_SS_count d 0 [some a0, some a1] [] w Q) : E_SS_count d [a0, a1] w Q := CE.of (ini := false) (by decide +kernel) (fun h => by cases h) (Nat.le_of_ble_eq_true rfl) k
theorem co_SS_count : Cond.code y_SS_count c_SS_count 2 (some .int) ∈ tbl := mt 515 (by decide +kernel) rfl
abbrev X_SS_waitingRequests (d pc : Nat) (ls : List (Option VV)) (st : List VV) (w : WW) (Q : Option VV → WW → Prop) : Prop := XE "ShareServer" c_SS_waitingRequests 3 (some .int) false d pc ls st w Q
abbrev E_SS_waitingRequests (d : Nat) (As : List VV) (w : WW) (Q : Option VV → WW → Prop) : Prop := CE y_SS_waitingRequests c_SS_waitingRequests 3 (some .int) d As w Q
theorem S_SS_waitingRequests {d : Nat} {a0 : VV} {w : WW} {Q : Option VV → WW → Prop} (k : X_SS_waitingRequests d 0 [some a0, none, none] [] w Q) : E_SS_waitingRequests d [a0] w Q := CE.of (ini := false) (by decide +kernel) (fun h => by cases h) (Nat.le_of_ble_eq_true rfl) k
theorem co_SS_waitingRequests : Cond.code y_SS_waitingRequests c_SS_waitingRequests 3 (some .int) ∈ tbl := mt 519 (by decide +kernel) rfl
abbrev X_Md_init (d pc : Nat) (ls : List (Option VV)) (st : List VV) (w : WW) (Q : Option VV → WW → Prop) : Prop := XE "ShareServerModel" c_Md_init 1 none true d pc ls st w Q
abbrev E_Md_init (d : Nat) (As : List VV) (w : WW) (Q : Option VV → WW → Prop) : Prop := CE y_Md_init c_Md_init 1 none d As w Q
theorem S_Md_init {d : Nat} {a0 : VV} {w : WW} {Q : Option VV → WW → Prop} (k : X_Md_init d 0 [some a0] [] w Q) : E_Md_init d [a0] w Q := CE.of (ini := true) (by decide +kernel) (fun _ => rfl) (Nat.le_of_ble_eq_true rfl) k
theorem co_Md_init : Cond.code y_Md_init c_Md_init 1 none ∈ tbl := mt 524 (by decide +kernel) rfl
abbrev X_Md_open (d pc : Nat) (ls : List (Option VV)) (st : List VV) (w : WW) (Q : Option VV → WW → Prop) : Prop := XE "ShareServerModel" c_Md_open 7 (some .int) false d pc ls st w Q
abbrev E_Md_open (d : Nat) (As : List VV) (w : WW) (Q : Option VV → WW → Prop) : Prop := CE y_Md_open c_Md_open 7 (some .int) d As w Q
theorem S_Md_open {d : Nat} {a0 a1 a2 a3 a4 a5 : VV} {w : WW} {Q : Option VV → WW → Prop} (k : X_Md_open d 0 [some a0, some a1, some a2, some a3, some a4, some a5, none] [] w Q) : E_Md_open d [a0, a1, a2, a3, a4, a5] w Q := CE.of (ini := false) (by decide +kernel) (fun h => by cases h) (Nat.le_of_ble_eq_true rfl) k
theorem co_Md_open : Cond.code y_Md_open c_Md_open 7 (some .int) ∈ tbl := mt 582 (by decide +kernel) rfl
abbrev X_Md_in (d pc : Nat) (ls : List (Option VV)) (st : List VV) (w : WW) (Q : Option VV → WW → Prop) : Prop := XE "ShareServerModel" c_Md_in 3 (some .boolean) false d pc ls st w Q
abbrev E_Md_in (d : Nat) (As : List VV) (w : WW) (Q : Option VV → WW → Prop) : Prop := CE y_Md_in c_Md_in 3 (some .boolean) d As w Q
theorem S_Md_in {d : Nat} {a0 a1 a2 : VV} {w : WW} {Q : Option VV → WW → Prop} (k : X_Md_in d 0 [some a0, some a1, some a2] [] w Q) : E_Md_in d [a0, a1, a2] w Q := CE.of (ini := false) (by decide +kernel) (fun h => by cases h) (Nat.le_of_ble_eq_true rfl) k
theorem co_Md_in : Cond.code y_Md_in c_Md_in 3 (some .boolean) ∈ tbl := mt 585 (by decide +kernel) rfl
abbrev X_Md_attempt (d pc : Nat) (ls : List (Option VV)) (st : List VV) (w : WW) (Q : Option VV → WW → Prop) : Prop := XE "ShareServerModel" c_Md_attempt 5 (some .int) false d pc ls st w Q
abbrev E_Md_attempt (d : Nat) (As : List VV) (w : WW) (Q : Option VV → WW → Prop) : Prop := CE y_Md_attempt c_Md_attempt 5 (some .int) d As w Q
theorem S_Md_attempt {d : Nat} {a0 a1 : VV} {w : WW} {Q : Option VV → WW → Prop} (k : X_Md_attempt d 0 [some a0, some a1, none, none, none] [] w Q) : E_Md_attempt d [a0, a1] w Q := CE.of (ini := false) (by decide +kernel) (fun h => by cases h) (Nat.le_of_ble_eq_true rfl) k
theorem co_Md_attempt : Cond.code y_Md_attempt c_Md_attempt 5 (some .int) ∈ tbl := mt 589 (by decide +kernel) rfl
abbrev X_Md_at (d pc : Nat) (ls : List (Option VV)) (st : List VV) (w : WW) (Q : Option VV → WW → Prop) : Prop := XE "ShareServerModel" c_Md_at 4 (some .int) false d pc ls st w Q
abbrev E_Md_at (d : Nat) (As : List VV) (w : WW) (Q : Option VV → WW → Prop) : Prop := CE y_Md_at c_Md_at 4 (some .int) d As w Q
theorem S_Md_at {d : Nat} {a0 a1 a2 : VV} {w : WW} {Q : Option VV → WW → Prop} (k : X_Md_at d 0 [some a0, some a1, some a2, none] [] w Q) : E_Md_at d [a0, a1, a2] w Q := CE.of (ini := false) (by decide +kernel) (fun h => by cases h) (Nat.le_of_ble_eq_true rfl) k
theorem co_Md_at : Cond.code y_Md_at c_Md_at 4 (some .int) ∈ tbl := mt 593 (by decide +kernel) rfl
abbrev X_Md_openOf (d pc : Nat) (ls : List (Option VV)) (st : List VV) (w : WW) (Q : Option VV → WW → Prop) : Prop := XE "ShareServerModel" c_Md_openOf 4 (some .int) false d pc ls st w Q
abbrev E_Md_openOf (d : Nat) (As : List VV) (w : WW) (Q : Option VV → WW → Prop) : Prop := CE y_Md_openOf c_Md_openOf 4 (some .int) d As w Q
theorem S_Md_openOf {d : Nat} {a0 a1 : VV} {w : WW} {Q : Option VV → WW → Prop} (k : X_Md_openOf d 0 [some a0, some a1, none, none] [] w Q) : E_Md_openOf d [a0, a1] w Q := CE.of (ini := false) (by decide +kernel) (fun h => by cases h) (Nat.le_of_ble_eq_true rfl) k
theorem co_Md_openOf : Cond.code y_Md_openOf c_Md_openOf 4 (some .int) ∈ tbl := mt 597 (by decide +kernel) rfl
abbrev X_Md_h (d pc : Nat) (ls : List (Option VV)) (st : List VV) (w : WW) (Q : Option VV → WW → Prop) : Prop := XE "ShareServerModel" c_Md_h 3 (some .int) false d pc ls st w Q
abbrev E_Md_h (d : Nat) (As : List VV) (w : WW) (Q : Option VV → WW → Prop) : Prop := CE y_Md_h c_Md_h 3 (some .int) d As w Q
theorem S_Md_h {d : Nat} {a0 a1 a2 : VV} {w : WW} {Q : Option VV → WW → Prop} (k : X_Md_h d 0 [some a0, some a1, some a2] [] w Q) : E_Md_h d [a0, a1, a2] w Q := CE.of (ini := false) (by decide +kernel) (fun h => by cases h) (Nat.le_of_ble_eq_true rfl) k
theorem co_Md_h : Cond.code y_Md_h c_Md_h 3 (some .int) ∈ tbl := mt 601 (by decide +kernel) rfl
abbrev X_Md_note (d pc : Nat) (ls : List (Option VV)) (st : List VV) (w : WW) (Q : Option VV → WW → Prop) : Prop := XE "ShareServerModel" c_Md_note 7 none false d pc ls st w Q
abbrev E_Md_note (d : Nat) (As : List VV) (w : WW) (Q : Option VV → WW → Prop) : Prop := CE y_Md_note c_Md_note 7 none d As w Q
theorem S_Md_note {d : Nat} {a0 a1 a2 a3 a4 a5 : VV} {w : WW} {Q : Option VV → WW → Prop} (k : X_Md_note d 0 [some a0, some a1, some a2, some a3, some a4, some a5, none] [] w Q) : E_Md_note d [a0, a1, a2, a3, a4, a5] w Q := CE.of (ini := false) (by decide +kernel) (fun h => by cases h) (Nat.le_of_ble_eq_true rfl) k
theorem co_Md_note : Cond.code y_Md_note c_Md_note 7 none ∈ tbl := mt 605 (by decide +kernel) rfl
abbrev X_Md_apply (d pc : Nat) (ls : List (Option VV)) (st : List VV) (w : WW) (Q : Option VV → WW → Prop) : Prop := XE "ShareServerModel" c_Md_apply 5 none false d pc ls st w Q
abbrev E_Md_apply (d : Nat) (As : List VV) (w : WW) (Q : Option VV → WW → Prop) : Prop := CE y_Md_apply c_Md_apply 5 none d As w Q
theorem S_Md_apply {d : Nat} {a0 a1 : VV} {w : WW} {Q : Option VV → WW → Prop} (k : X_Md_apply d 0 [some a0, some a1, none, none, none] [] w Q) : E_Md_apply d [a0, a1] w Q := CE.of (ini := false) (by decide +kernel) (fun h => by cases h) (Nat.le_of_ble_eq_true rfl) k
theorem co_Md_apply : Cond.code y_Md_apply c_Md_apply 5 none ∈ tbl := mt 609 (by decide +kernel) rfl
abbrev X_Md_grant (d pc : Nat) (ls : List (Option VV)) (st : List VV) (w : WW) (Q : Option VV → WW → Prop) : Prop := XE "ShareServerModel" c_Md_grant 7 (some .int) false d pc ls st w Q
abbrev E_Md_grant (d : Nat) (As : List VV) (w : WW) (Q : Option VV → WW → Prop) : Prop := CE y_Md_grant c_Md_grant 7 (some .int) d As w Q
theorem S_Md_grant {d : Nat} {a0 a1 a2 : VV} {w : WW} {Q : Option VV → WW → Prop} (k : X_Md_grant d 0 [some a0, some a1, some a2, none, none, none, none] [] w Q) : E_Md_grant d [a0, a1, a2] w Q := CE.of (ini := false) (by decide +kernel) (fun h => by cases h) (Nat.le_of_ble_eq_true rfl) k
theorem co_Md_grant : Cond.code y_Md_grant c_Md_grant 7 (some .int) ∈ tbl := mt 613 (by decide +kernel) rfl
abbrev X_Md_breaks (d pc : Nat) (ls : List (Option VV)) (st : List VV) (w : WW) (Q : Option VV → WW → Prop) : Prop := XE "ShareServerModel" c_Md_breaks 4 (some .boolean) false d pc ls st w Q
abbrev E_Md_breaks (d : Nat) (As : List VV) (w : WW) (Q : Option VV → WW → Prop) : Prop := CE y_Md_breaks c_Md_breaks 4 (some .boolean) d As w Q
theorem S_Md_breaks {d : Nat} {a0 a1 : VV} {w : WW} {Q : Option VV → WW → Prop} (k : X_Md_breaks d 0 [some a0, some a1, none, none] [] w Q) : E_Md_breaks d [a0, a1] w Q := CE.of (ini := false) (by decide +kernel) (fun h => by cases h) (Nat.le_of_ble_eq_true rfl) k
theorem co_Md_breaks : Cond.code y_Md_breaks c_Md_breaks 4 (some .boolean) ∈ tbl := mt 617 (by decide +kernel) rfl
abbrev X_Md_sharing (d pc : Nat) (ls : List (Option VV)) (st : List VV) (w : WW) (Q : Option VV → WW → Prop) : Prop := XE "ShareServerModel" c_Md_sharing 6 (some .boolean) false d pc ls st w Q
abbrev E_Md_sharing (d : Nat) (As : List VV) (w : WW) (Q : Option VV → WW → Prop) : Prop := CE y_Md_sharing c_Md_sharing 6 (some .boolean) d As w Q
theorem S_Md_sharing {d : Nat} {a0 a1 a2 : VV} {w : WW} {Q : Option VV → WW → Prop} (k : X_Md_sharing d 0 [some a0, some a1, some a2, none, none, none] [] w Q) : E_Md_sharing d [a0, a1, a2] w Q := CE.of (ini := false) (by decide +kernel) (fun h => by cases h) (Nat.le_of_ble_eq_true rfl) k
theorem co_Md_sharing : Cond.code y_Md_sharing c_Md_sharing 6 (some .boolean) ∈ tbl := mt 621 (by decide +kernel) rfl
abbrev X_Md_outcome (d pc : Nat) (ls : List (Option VV)) (st : List VV) (w : WW) (Q : Option VV → WW → Prop) : Prop := XE "ShareServerModel" c_Md_outcome 2 (some .int) false d pc ls st w Q
abbrev E_Md_outcome (d : Nat) (As : List VV) (w : WW) (Q : Option VV → WW → Prop) : Prop := CE y_Md_outcome c_Md_outcome 2 (some .int) d As w Q
theorem S_Md_outcome {d : Nat} {a0 a1 : VV} {w : WW} {Q : Option VV → WW → Prop} (k : X_Md_outcome d 0 [some a0, some a1] [] w Q) : E_Md_outcome d [a0, a1] w Q := CE.of (ini := false) (by decide +kernel) (fun h => by cases h) (Nat.le_of_ble_eq_true rfl) k
theorem co_Md_outcome : Cond.code y_Md_outcome c_Md_outcome 2 (some .int) ∈ tbl := mt 625 (by decide +kernel) rfl
abbrev X_Md_cancel (d pc : Nat) (ls : List (Option VV)) (st : List VV) (w : WW) (Q : Option VV → WW → Prop) : Prop := XE "ShareServerModel" c_Md_cancel 2 (some .int) false d pc ls st w Q
abbrev E_Md_cancel (d : Nat) (As : List VV) (w : WW) (Q : Option VV → WW → Prop) : Prop := CE y_Md_cancel c_Md_cancel 2 (some .int) d As w Q
theorem S_Md_cancel {d : Nat} {a0 a1 : VV} {w : WW} {Q : Option VV → WW → Prop} (k : X_Md_cancel d 0 [some a0, some a1] [] w Q) : E_Md_cancel d [a0, a1] w Q := CE.of (ini := false) (by decide +kernel) (fun h => by cases h) (Nat.le_of_ble_eq_true rfl) k
theorem co_Md_cancel : Cond.code y_Md_cancel c_Md_cancel 2 (some .int) ∈ tbl := mt 629 (by decide +kernel) rfl
abbrev X_Md_giveUp (d pc : Nat) (ls : List (Option VV)) (st : List VV) (w : WW) (Q : Option VV → WW → Prop) : Prop := XE "ShareServerModel" c_Md_giveUp 3 (some .int) false d pc ls st w Q
abbrev E_Md_giveUp (d : Nat) (As : List VV) (w : WW) (Q : Option VV → WW → Prop) : Prop := CE y_Md_giveUp c_Md_giveUp 3 (some .int) d As w Q
theorem S_Md_giveUp {d : Nat} {a0 a1 : VV} {w : WW} {Q : Option VV → WW → Prop} (k : X_Md_giveUp d 0 [some a0, some a1, none] [] w Q) : E_Md_giveUp d [a0, a1] w Q := CE.of (ini := false) (by decide +kernel) (fun h => by cases h) (Nat.le_of_ble_eq_true rfl) k
theorem co_Md_giveUp : Cond.code y_Md_giveUp c_Md_giveUp 3 (some .int) ∈ tbl := mt 633 (by decide +kernel) rfl
abbrev X_Md_shut (d pc : Nat) (ls : List (Option VV)) (st : List VV) (w : WW) (Q : Option VV → WW → Prop) : Prop := XE "ShareServerModel" c_Md_shut 2 (some .boolean) false d pc ls st w Q
abbrev E_Md_shut (d : Nat) (As : List VV) (w : WW) (Q : Option VV → WW → Prop) : Prop := CE y_Md_shut c_Md_shut 2 (some .boolean) d As w Q
theorem S_Md_shut {d : Nat} {a0 a1 : VV} {w : WW} {Q : Option VV → WW → Prop} (k : X_Md_shut d 0 [some a0, some a1] [] w Q) : E_Md_shut d [a0, a1] w Q := CE.of (ini := false) (by decide +kernel) (fun h => by cases h) (Nat.le_of_ble_eq_true rfl) k
theorem co_Md_shut : Cond.code y_Md_shut c_Md_shut 2 (some .boolean) ∈ tbl := mt 637 (by decide +kernel) rfl
abbrev X_Md_tryAgain (d pc : Nat) (ls : List (Option VV)) (st : List VV) (w : WW) (Q : Option VV → WW → Prop) : Prop := XE "ShareServerModel" c_Md_tryAgain 2 none false d pc ls st w Q
abbrev E_Md_tryAgain (d : Nat) (As : List VV) (w : WW) (Q : Option VV → WW → Prop) : Prop := CE y_Md_tryAgain c_Md_tryAgain 2 none d As w Q
theorem S_Md_tryAgain {d : Nat} {a0 : VV} {w : WW} {Q : Option VV → WW → Prop} (k : X_Md_tryAgain d 0 [some a0, none] [] w Q) : E_Md_tryAgain d [a0] w Q := CE.of (ini := false) (by decide +kernel) (fun h => by cases h) (Nat.le_of_ble_eq_true rfl) k
theorem co_Md_tryAgain : Cond.code y_Md_tryAgain c_Md_tryAgain 2 none ∈ tbl := mt 641 (by decide +kernel) rfl
abbrev X_Md_close (d pc : Nat) (ls : List (Option VV)) (st : List VV) (w : WW) (Q : Option VV → WW → Prop) : Prop := XE "ShareServerModel" c_Md_close 4 (some .int) false d pc ls st w Q
abbrev E_Md_close (d : Nat) (As : List VV) (w : WW) (Q : Option VV → WW → Prop) : Prop := CE y_Md_close c_Md_close 4 (some .int) d As w Q
theorem S_Md_close {d : Nat} {a0 a1 : VV} {w : WW} {Q : Option VV → WW → Prop} (k : X_Md_close d 0 [some a0, some a1, none, none] [] w Q) : E_Md_close d [a0, a1] w Q := CE.of (ini := false) (by decide +kernel) (fun h => by cases h) (Nat.le_of_ble_eq_true rfl) k
theorem co_Md_close : Cond.code y_Md_close c_Md_close 4 (some .int) ∈ tbl := mt 645 (by decide +kernel) rfl
abbrev X_Md_unlockAt (d pc : Nat) (ls : List (Option VV)) (st : List VV) (w : WW) (Q : Option VV → WW → Prop) : Prop := XE "ShareServerModel" c_Md_unlockAt 3 none false d pc ls st w Q
abbrev E_Md_unlockAt (d : Nat) (As : List VV) (w : WW) (Q : Option VV → WW → Prop) : Prop := CE y_Md_unlockAt c_Md_unlockAt 3 none d As w Q
theorem S_Md_unlockAt {d : Nat} {a0 a1 : VV} {w : WW} {Q : Option VV → WW → Prop} (k : X_Md_unlockAt d 0 [some a0, some a1, none] [] w Q) : E_Md_unlockAt d [a0, a1] w Q := CE.of (ini := false) (by decide +kernel) (fun h => by cases h) (Nat.le_of_ble_eq_true rfl) k
theorem co_Md_unlockAt : Cond.code y_Md_unlockAt c_Md_unlockAt 3 none ∈ tbl := mt 649 (by decide +kernel) rfl
abbrev X_Md_inside (d pc : Nat) (ls : List (Option VV)) (st : List VV) (w : WW) (Q : Option VV → WW → Prop) : Prop := XE "ShareServerModel" c_Md_inside 4 (some .int) false d pc ls st w Q
abbrev E_Md_inside (d : Nat) (As : List VV) (w : WW) (Q : Option VV → WW → Prop) : Prop := CE y_Md_inside c_Md_inside 4 (some .int) d As w Q
theorem S_Md_inside {d : Nat} {a0 a1 : VV} {w : WW} {Q : Option VV → WW → Prop} (k : X_Md_inside d 0 [some a0, some a1, none, none] [] w Q) : E_Md_inside d [a0, a1] w Q := CE.of (ini := false) (by decide +kernel) (fun h => by cases h) (Nat.le_of_ble_eq_true rfl) k
theorem co_Md_inside : Cond.code y_Md_inside c_Md_inside 4 (some .int) ∈ tbl := mt 653 (by decide +kernel) rfl
abbrev X_Md_doom (d pc : Nat) (ls : List (Option VV)) (st : List VV) (w : WW) (Q : Option VV → WW → Prop) : Prop := XE "ShareServerModel" c_Md_doom 4 (some .int) false d pc ls st w Q
abbrev E_Md_doom (d : Nat) (As : List VV) (w : WW) (Q : Option VV → WW → Prop) : Prop := CE y_Md_doom c_Md_doom 4 (some .int) d As w Q
theorem S_Md_doom {d : Nat} {a0 a1 a2 : VV} {w : WW} {Q : Option VV → WW → Prop} (k : X_Md_doom d 0 [some a0, some a1, some a2, none] [] w Q) : E_Md_doom d [a0, a1, a2] w Q := CE.of (ini := false) (by decide +kernel) (fun h => by cases h) (Nat.le_of_ble_eq_true rfl) k
theorem co_Md_doom : Cond.code y_Md_doom c_Md_doom 4 (some .int) ∈ tbl := mt 657 (by decide +kernel) rfl
abbrev X_Md_move (d pc : Nat) (ls : List (Option VV)) (st : List VV) (w : WW) (Q : Option VV → WW → Prop) : Prop := XE "ShareServerModel" c_Md_move 6 (some .int) false d pc ls st w Q
abbrev E_Md_move (d : Nat) (As : List VV) (w : WW) (Q : Option VV → WW → Prop) : Prop := CE y_Md_move c_Md_move 6 (some .int) d As w Q
theorem S_Md_move {d : Nat} {a0 a1 a2 a3 : VV} {w : WW} {Q : Option VV → WW → Prop} (k : X_Md_move d 0 [some a0, some a1, some a2, some a3, none, none] [] w Q) : E_Md_move d [a0, a1, a2, a3] w Q := CE.of (ini := false) (by decide +kernel) (fun h => by cases h) (Nat.le_of_ble_eq_true rfl) k
theorem co_Md_move : Cond.code y_Md_move c_Md_move 6 (some .int) ∈ tbl := mt 661 (by decide +kernel) rfl
abbrev X_Md_read (d pc : Nat) (ls : List (Option VV)) (st : List VV) (w : WW) (Q : Option VV → WW → Prop) : Prop := XE "ShareServerModel" c_Md_read 3 (some .int) false d pc ls st w Q
abbrev E_Md_read (d : Nat) (As : List VV) (w : WW) (Q : Option VV → WW → Prop) : Prop := CE y_Md_read c_Md_read 3 (some .int) d As w Q
theorem S_Md_read {d : Nat} {a0 a1 a2 : VV} {w : WW} {Q : Option VV → WW → Prop} (k : X_Md_read d 0 [some a0, some a1, some a2] [] w Q) : E_Md_read d [a0, a1, a2] w Q := CE.of (ini := false) (by decide +kernel) (fun h => by cases h) (Nat.le_of_ble_eq_true rfl) k
theorem co_Md_read : Cond.code y_Md_read c_Md_read 3 (some .int) ∈ tbl := mt 665 (by decide +kernel) rfl
abbrev X_Md_may (d pc : Nat) (ls : List (Option VV)) (st : List VV) (w : WW) (Q : Option VV → WW → Prop) : Prop := XE "ShareServerModel" c_Md_may 4 (some .boolean) false d pc ls st w Q
abbrev E_Md_may (d : Nat) (As : List VV) (w : WW) (Q : Option VV → WW → Prop) : Prop := CE y_Md_may c_Md_may 4 (some .boolean) d As w Q
theorem S_Md_may {d : Nat} {a0 a1 a2 a3 : VV} {w : WW} {Q : Option VV → WW → Prop} (k : X_Md_may d 0 [some a0, some a1, some a2, some a3] [] w Q) : E_Md_may d [a0, a1, a2, a3] w Q := CE.of (ini := false) (by decide +kernel) (fun h => by cases h) (Nat.le_of_ble_eq_true rfl) k
theorem co_Md_may : Cond.code y_Md_may c_Md_may 4 (some .boolean) ∈ tbl := mt 669 (by decide +kernel) rfl
abbrev X_Md_met (d pc : Nat) (ls : List (Option VV)) (st : List VV) (w : WW) (Q : Option VV → WW → Prop) : Prop := XE "ShareServerModel" c_Md_met 10 (some .boolean) false d pc ls st w Q
abbrev E_Md_met (d : Nat) (As : List VV) (w : WW) (Q : Option VV → WW → Prop) : Prop := CE y_Md_met c_Md_met 10 (some .boolean) d As w Q
theorem S_Md_met {d : Nat} {a0 a1 a2 a3 a4 a5 : VV} {w : WW} {Q : Option VV → WW → Prop} (k : X_Md_met d 0 [some a0, some a1, some a2, some a3, some a4, some a5, none, none, none, none] [] w Q) : E_Md_met d [a0, a1, a2, a3, a4, a5] w Q := CE.of (ini := false) (by decide +kernel) (fun h => by cases h) (Nat.le_of_ble_eq_true rfl) k
theorem co_Md_met : Cond.code y_Md_met c_Md_met 10 (some .boolean) ∈ tbl := mt 673 (by decide +kernel) rfl
abbrev X_Md_value (d pc : Nat) (ls : List (Option VV)) (st : List VV) (w : WW) (Q : Option VV → WW → Prop) : Prop := XE "ShareServerModel" c_Md_value 1 (some .int) false d pc ls st w Q
abbrev E_Md_value (d : Nat) (As : List VV) (w : WW) (Q : Option VV → WW → Prop) : Prop := CE y_Md_value c_Md_value 1 (some .int) d As w Q
theorem S_Md_value {d : Nat} {a0 : VV} {w : WW} {Q : Option VV → WW → Prop} (k : X_Md_value d 0 [some a0] [] w Q) : E_Md_value d [a0] w Q := CE.of (ini := false) (by decide +kernel) (fun h => by cases h) (Nat.le_of_ble_eq_true rfl) k
theorem co_Md_value : Cond.code y_Md_value c_Md_value 1 (some .int) ∈ tbl := mt 677 (by decide +kernel) rfl
abbrev X_Md_write (d pc : Nat) (ls : List (Option VV)) (st : List VV) (w : WW) (Q : Option VV → WW → Prop) : Prop := XE "ShareServerModel" c_Md_write 6 (some .int) false d pc ls st w Q
abbrev E_Md_write (d : Nat) (As : List VV) (w : WW) (Q : Option VV → WW → Prop) : Prop := CE y_Md_write c_Md_write 6 (some .int) d As w Q
theorem S_Md_write {d : Nat} {a0 a1 a2 a3 : VV} {w : WW} {Q : Option VV → WW → Prop} (k : X_Md_write d 0 [some a0, some a1, some a2, some a3, none, none] [] w Q) : E_Md_write d [a0, a1, a2, a3] w Q := CE.of (ini := false) (by decide +kernel) (fun h => by cases h) (Nat.le_of_ble_eq_true rfl) k
theorem co_Md_write : Cond.code y_Md_write c_Md_write 6 (some .int) ∈ tbl := mt 681 (by decide +kernel) rfl
abbrev X_Md_lock (d pc : Nat) (ls : List (Option VV)) (st : List VV) (w : WW) (Q : Option VV → WW → Prop) : Prop := XE "ShareServerModel" c_Md_lock 6 (some .int) false d pc ls st w Q
abbrev E_Md_lock (d : Nat) (As : List VV) (w : WW) (Q : Option VV → WW → Prop) : Prop := CE y_Md_lock c_Md_lock 6 (some .int) d As w Q
theorem S_Md_lock {d : Nat} {a0 a1 a2 a3 a4 : VV} {w : WW} {Q : Option VV → WW → Prop} (k : X_Md_lock d 0 [some a0, some a1, some a2, some a3, some a4, none] [] w Q) : E_Md_lock d [a0, a1, a2, a3, a4] w Q := CE.of (ini := false) (by decide +kernel) (fun h => by cases h) (Nat.le_of_ble_eq_true rfl) k
theorem co_Md_lock : Cond.code y_Md_lock c_Md_lock 6 (some .int) ∈ tbl := mt 685 (by decide +kernel) rfl
abbrev X_Md_badRange (d pc : Nat) (ls : List (Option VV)) (st : List VV) (w : WW) (Q : Option VV → WW → Prop) : Prop := XE "ShareServerModel" c_Md_badRange 4 (some .boolean) false d pc ls st w Q
abbrev E_Md_badRange (d : Nat) (As : List VV) (w : WW) (Q : Option VV → WW → Prop) : Prop := CE y_Md_badRange c_Md_badRange 4 (some .boolean) d As w Q
theorem S_Md_badRange {d : Nat} {a0 a1 a2 a3 : VV} {w : WW} {Q : Option VV → WW → Prop} (k : X_Md_badRange d 0 [some a0, some a1, some a2, some a3] [] w Q) : E_Md_badRange d [a0, a1, a2, a3] w Q := CE.of (ini := false) (by decide +kernel) (fun h => by cases h) (Nat.le_of_ble_eq_true rfl) k
theorem co_Md_badRange : Cond.code y_Md_badRange c_Md_badRange 4 (some .boolean) ∈ tbl := mt 689 (by decide +kernel) rfl
abbrev X_Md_locksOf (d pc : Nat) (ls : List (Option VV)) (st : List VV) (w : WW) (Q : Option VV → WW → Prop) : Prop := XE "ShareServerModel" c_Md_locksOf 4 (some .int) false d pc ls st w Q
abbrev E_Md_locksOf (d : Nat) (As : List VV) (w : WW) (Q : Option VV → WW → Prop) : Prop := CE y_Md_locksOf c_Md_locksOf 4 (some .int) d As w Q
theorem S_Md_locksOf {d : Nat} {a0 a1 : VV} {w : WW} {Q : Option VV → WW → Prop} (k : X_Md_locksOf d 0 [some a0, some a1, none, none] [] w Q) : E_Md_locksOf d [a0, a1] w Q := CE.of (ini := false) (by decide +kernel) (fun h => by cases h) (Nat.le_of_ble_eq_true rfl) k
theorem co_Md_locksOf : Cond.code y_Md_locksOf c_Md_locksOf 4 (some .int) ∈ tbl := mt 693 (by decide +kernel) rfl
abbrev X_Md_unlock (d pc : Nat) (ls : List (Option VV)) (st : List VV) (w : WW) (Q : Option VV → WW → Prop) : Prop := XE "ShareServerModel" c_Md_unlock 5 (some .int) false d pc ls st w Q
abbrev E_Md_unlock (d : Nat) (As : List VV) (w : WW) (Q : Option VV → WW → Prop) : Prop := CE y_Md_unlock c_Md_unlock 5 (some .int) d As w Q
theorem S_Md_unlock {d : Nat} {a0 a1 a2 a3 : VV} {w : WW} {Q : Option VV → WW → Prop} (k : X_Md_unlock d 0 [some a0, some a1, some a2, some a3, none] [] w Q) : E_Md_unlock d [a0, a1, a2, a3] w Q := CE.of (ini := false) (by decide +kernel) (fun h => by cases h) (Nat.le_of_ble_eq_true rfl) k
theorem co_Md_unlock : Cond.code y_Md_unlock c_Md_unlock 5 (some .int) ∈ tbl := mt 697 (by decide +kernel) rfl
abbrev X_Md_sync (d pc : Nat) (ls : List (Option VV)) (st : List VV) (w : WW) (Q : Option VV → WW → Prop) : Prop := XE "ShareServerModel" c_Md_sync 1 (some .int) false d pc ls st w Q
abbrev E_Md_sync (d : Nat) (As : List VV) (w : WW) (Q : Option VV → WW → Prop) : Prop := CE y_Md_sync c_Md_sync 1 (some .int) d As w Q
theorem S_Md_sync {d : Nat} {a0 : VV} {w : WW} {Q : Option VV → WW → Prop} (k : X_Md_sync d 0 [some a0] [] w Q) : E_Md_sync d [a0] w Q := CE.of (ini := false) (by decide +kernel) (fun h => by cases h) (Nat.le_of_ble_eq_true rfl) k
theorem co_Md_sync : Cond.code y_Md_sync c_Md_sync 1 (some .int) ∈ tbl := mt 701 (by decide +kernel) rfl
abbrev X_Md_crash (d pc : Nat) (ls : List (Option VV)) (st : List VV) (w : WW) (Q : Option VV → WW → Prop) : Prop := XE "ShareServerModel" c_Md_crash 2 (some .int) false d pc ls st w Q
abbrev E_Md_crash (d : Nat) (As : List VV) (w : WW) (Q : Option VV → WW → Prop) : Prop := CE y_Md_crash c_Md_crash 2 (some .int) d As w Q
theorem S_Md_crash {d : Nat} {a0 : VV} {w : WW} {Q : Option VV → WW → Prop} (k : X_Md_crash d 0 [some a0, none] [] w Q) : E_Md_crash d [a0] w Q := CE.of (ini := false) (by decide +kernel) (fun h => by cases h) (Nat.le_of_ble_eq_true rfl) k
theorem co_Md_crash : Cond.code y_Md_crash c_Md_crash 2 (some .int) ∈ tbl := mt 705 (by decide +kernel) rfl
abbrev X_Md_find (d pc : Nat) (ls : List (Option VV)) (st : List VV) (w : WW) (Q : Option VV → WW → Prop) : Prop := XE "ShareServerModel" c_Md_find 3 (some .int) false d pc ls st w Q
abbrev E_Md_find (d : Nat) (As : List VV) (w : WW) (Q : Option VV → WW → Prop) : Prop := CE y_Md_find c_Md_find 3 (some .int) d As w Q
theorem S_Md_find {d : Nat} {a0 a1 a2 : VV} {w : WW} {Q : Option VV → WW → Prop} (k : X_Md_find d 0 [some a0, some a1, some a2] [] w Q) : E_Md_find d [a0, a1, a2] w Q := CE.of (ini := false) (by decide +kernel) (fun h => by cases h) (Nat.le_of_ble_eq_true rfl) k
theorem co_Md_find : Cond.code y_Md_find c_Md_find 3 (some .int) ∈ tbl := mt 709 (by decide +kernel) rfl
abbrev X_Md_node (d pc : Nat) (ls : List (Option VV)) (st : List VV) (w : WW) (Q : Option VV → WW → Prop) : Prop := XE "ShareServerModel" c_Md_node 3 (some .int) false d pc ls st w Q
abbrev E_Md_node (d : Nat) (As : List VV) (w : WW) (Q : Option VV → WW → Prop) : Prop := CE y_Md_node c_Md_node 3 (some .int) d As w Q
theorem S_Md_node {d : Nat} {a0 a1 a2 : VV} {w : WW} {Q : Option VV → WW → Prop} (k : X_Md_node d 0 [some a0, some a1, some a2] [] w Q) : E_Md_node d [a0, a1, a2] w Q := CE.of (ini := false) (by decide +kernel) (fun h => by cases h) (Nat.le_of_ble_eq_true rfl) k
theorem co_Md_node : Cond.code y_Md_node c_Md_node 3 (some .int) ∈ tbl := mt 713 (by decide +kernel) rfl
abbrev X_Md_handle (d pc : Nat) (ls : List (Option VV)) (st : List VV) (w : WW) (Q : Option VV → WW → Prop) : Prop := XE "ShareServerModel" c_Md_handle 3 (some .int) false d pc ls st w Q
abbrev E_Md_handle (d : Nat) (As : List VV) (w : WW) (Q : Option VV → WW → Prop) : Prop := CE y_Md_handle c_Md_handle 3 (some .int) d As w Q
theorem S_Md_handle {d : Nat} {a0 a1 a2 : VV} {w : WW} {Q : Option VV → WW → Prop} (k : X_Md_handle d 0 [some a0, some a1, some a2] [] w Q) : E_Md_handle d [a0, a1, a2] w Q := CE.of (ini := false) (by decide +kernel) (fun h => by cases h) (Nat.le_of_ble_eq_true rfl) k
theorem co_Md_handle : Cond.code y_Md_handle c_Md_handle 3 (some .int) ∈ tbl := mt 717 (by decide +kernel) rfl
abbrev X_Md_count (d pc : Nat) (ls : List (Option VV)) (st : List VV) (w : WW) (Q : Option VV → WW → Prop) : Prop := XE "ShareServerModel" c_Md_count 4 (some .int) false d pc ls st w Q
abbrev E_Md_count (d : Nat) (As : List VV) (w : WW) (Q : Option VV → WW → Prop) : Prop := CE y_Md_count c_Md_count 4 (some .int) d As w Q
theorem S_Md_count {d : Nat} {a0 a1 : VV} {w : WW} {Q : Option VV → WW → Prop} (k : X_Md_count d 0 [some a0, some a1, none, none] [] w Q) : E_Md_count d [a0, a1] w Q := CE.of (ini := false) (by decide +kernel) (fun h => by cases h) (Nat.le_of_ble_eq_true rfl) k
theorem co_Md_count : Cond.code y_Md_count c_Md_count 4 (some .int) ∈ tbl := mt 721 (by decide +kernel) rfl
abbrev X_Lw_law (d pc : Nat) (ls : List (Option VV)) (st : List VV) (w : WW) (Q : Option VV → WW → Prop) : Prop := XE "ShareServerLaw" c_Lw_law 4 ret false d pc ls st w Q
/-! printed by gen01.py: a rule a field, a making and a call, with their words; a rule that starts a method -/
theorem na_SS_9 {cc : ByteArray} {nL : Nat} {ret : Option FieldType} {d pc : Nat} {ls : List (Option VV)} {st : List VV} {w : WW} {Q : Option VV → WW → Prop} {ini : Bool} {n : Nat} {x : Int32} (k : Nat) (hk : 100 ≤ k) (hk2 : k < 120) (ha : aelem k = 3) (hd : decode cc pc = .ok (.anewarray 9, 3)) (hx0 : ¬ x < 0) (hx : x.toNatClampNeg = n) (hn : n ≤ ksz k) (kk : XE "ShareServer" cc nL ret ini d (pc + 3) ls (.inr (k, wC w k + 1) :: st) (nA w k n) Q) : XE "ShareServer" cc nL ret ini d pc ls (.inl x :: st) w Q := XE.anew hd hk hk2 ⟨1, ha, (mt 60 (by decide +kernel) rfl), by decide +kernel⟩ hx0 hx hn kk
theorem na_SS_18 {cc : ByteArray} {nL : Nat} {ret : Option FieldType} {d pc : Nat} {ls : List (Option VV)} {st : List VV} {w : WW} {Q : Option VV → WW → Prop} {ini : Bool} {n : Nat} {x : Int32} (k : Nat) (hk : 100 ≤ k) (hk2 : k < 120) (ha : aelem k = 4) (hd : decode cc pc = .ok (.anewarray 18, 3)) (hx0 : ¬ x < 0) (hx : x.toNatClampNeg = n) (hn : n ≤ ksz k) (kk : XE "ShareServer" cc nL ret ini d (pc + 3) ls (.inr (k, wC w k + 1) :: st) (nA w k n) Q) : XE "ShareServer" cc nL ret ini d pc ls (.inl x :: st) w Q := XE.anew hd hk hk2 ⟨2, ha, (mt 101 (by decide +kernel) rfl), by decide +kernel⟩ hx0 hx hn kk
theorem na_SS_24 {cc : ByteArray} {nL : Nat} {ret : Option FieldType} {d pc : Nat} {ls : List (Option VV)} {st : List VV} {w : WW} {Q : Option VV → WW → Prop} {ini : Bool} {n : Nat} {x : Int32} (k : Nat) (hk : 100 ≤ k) (hk2 : k < 120) (ha : aelem k = 5) (hd : decode cc pc = .ok (.anewarray 24, 3)) (hx0 : ¬ x < 0) (hx : x.toNatClampNeg = n) (hn : n ≤ ksz k) (kk : XE "ShareServer" cc nL ret ini d (pc + 3) ls (.inr (k, wC w k + 1) :: st) (nA w k n) Q) : XE "ShareServer" cc nL ret ini d pc ls (.inl x :: st) w Q := XE.anew hd hk hk2 ⟨3, ha, (mt 103 (by decide +kernel) rfl), by decide +kernel⟩ hx0 hx hn kk
theorem fl_SS_11 : FLD "ShareServer" 11 0 0 := ⟨_, _, _, rfl, by decide, (mt 126 (by decide +kernel) rfl)⟩
theorem g_SS_11 {cc : ByteArray} {nL : Nat} {ret : Option FieldType} {d pc : Nat} {ls : List (Option VV)} {st : List VV} {w : WW} {Q : Option VV → WW → Prop} {ini : Bool} {o x : Nat} (hd : decode cc pc = .ok (.getfield 11, 3)) (ho : o ≠ 0) (hx : wR w 0 o 0 = x) (kk : XE "ShareServer" cc nL ret ini d (pc + 3) ls (.inr (100, x) :: st) w Q) : XE "ShareServer" cc nL ret ini d pc ls (.inr (0, o) :: st) w Q := XE.getR hd fl_SS_11 rfl ho hx kk
theorem fl_SS_20 : FLD "ShareServer" 20 0 2 := ⟨_, _, _, rfl, by decide, (mt 128 (by decide +kernel) rfl)⟩
theorem g_SS_20 {cc : ByteArray} {nL : Nat} {ret : Option FieldType} {d pc : Nat} {ls : List (Option VV)} {st : List VV} {w : WW} {Q : Option VV → WW → Prop} {ini : Bool} {o x : Nat} (hd : decode cc pc = .ok (.getfield 20, 3)) (ho : o ≠ 0) (hx : wR w 0 o 2 = x) (kk : XE "ShareServer" cc nL ret ini d (pc + 3) ls (.inr (101, x) :: st) w Q) : XE "ShareServer" cc nL ret ini d pc ls (.inr (0, o) :: st) w Q := XE.getR hd fl_SS_20 rfl ho hx kk
theorem fl_SS_26 : FLD "ShareServer" 26 0 5 := ⟨_, _, _, rfl, by decide, (mt 131 (by decide +kernel) rfl)⟩
theorem g_SS_26 {cc : ByteArray} {nL : Nat} {ret : Option FieldType} {d pc : Nat} {ls : List (Option VV)} {st : List VV} {w : WW} {Q : Option VV → WW → Prop} {ini : Bool} {o x : Nat} (hd : decode cc pc = .ok (.getfield 26, 3)) (ho : o ≠ 0) (hx : wR w 0 o 5 = x) (kk : XE "ShareServer" cc nL ret ini d (pc + 3) ls (.inr (102, x) :: st) w Q) : XE "ShareServer" cc nL ret ini d pc ls (.inr (0, o) :: st) w Q := XE.getR hd fl_SS_26 rfl ho hx kk
theorem fl_SS_33 : FLD "ShareServer" 33 0 7 := ⟨_, _, _, rfl, by decide, (mt 133 (by decide +kernel) rfl)⟩
theorem g_SS_33 {cc : ByteArray} {nL : Nat} {ret : Option FieldType} {d pc : Nat} {ls : List (Option VV)} {st : List VV} {w : WW} {Q : Option VV → WW → Prop} {ini : Bool} {o x : Nat} (hd : decode cc pc = .ok (.getfield 33, 3)) (ho : o ≠ 0) (hx : wR w 0 o 7 = x) (kk : XE "ShareServer" cc nL ret ini d (pc + 3) ls (.inr (6, x) :: st) w Q) : XE "ShareServer" cc nL ret ini d pc ls (.inr (0, o) :: st) w Q := XE.getR hd fl_SS_33 rfl ho hx kk
theorem fl_SS_48 : FLD "ShareServer" 48 0 6 := ⟨_, _, _, rfl, by decide, (mt 132 (by decide +kernel) rfl)⟩
theorem g_SS_48 {cc : ByteArray} {nL : Nat} {ret : Option FieldType} {d pc : Nat} {ls : List (Option VV)} {st : List VV} {w : WW} {Q : Option VV → WW → Prop} {ini : Bool} {o : Nat} {x : Int32} (hd : decode cc pc = .ok (.getfield 48, 3)) (ho : o ≠ 0) (hx : wI w 0 o 6 = x) (kk : XE "ShareServer" cc nL ret ini d (pc + 3) ls (.inl x :: st) w Q) : XE "ShareServer" cc nL ret ini d pc ls (.inr (0, o) :: st) w Q := XE.getI hd fl_SS_48 (by decide) ho hx kk
theorem fl_SS_59 : FLD "ShareServer" 59 3 5 := ⟨_, _, _, rfl, by decide, (mt 182 (by decide +kernel) rfl)⟩
theorem g_SS_59 {cc : ByteArray} {nL : Nat} {ret : Option FieldType} {d pc : Nat} {ls : List (Option VV)} {st : List VV} {w : WW} {Q : Option VV → WW → Prop} {ini : Bool} {o : Nat} {x : Int32} (hd : decode cc pc = .ok (.getfield 59, 3)) (ho : o ≠ 0) (hx : wI w 3 o 5 = x) (kk : XE "ShareServer" cc nL ret ini d (pc + 3) ls (.inl x :: st) w Q) : XE "ShareServer" cc nL ret ini d pc ls (.inr (3, o) :: st) w Q := XE.getI hd fl_SS_59 (by decide) ho hx kk
theorem fl_SS_70 : FLD "ShareServer" 70 2 6 := ⟨_, _, _, rfl, by decide, (mt 290 (by decide +kernel) rfl)⟩
theorem g_SS_70 {cc : ByteArray} {nL : Nat} {ret : Option FieldType} {d pc : Nat} {ls : List (Option VV)} {st : List VV} {w : WW} {Q : Option VV → WW → Prop} {ini : Bool} {o : Nat} {x : Int32} (hd : decode cc pc = .ok (.getfield 70, 3)) (ho : o ≠ 0) (hx : wI w 2 o 6 = x) (kk : XE "ShareServer" cc nL ret ini d (pc + 3) ls (.inl x :: st) w Q) : XE "ShareServer" cc nL ret ini d pc ls (.inr (2, o) :: st) w Q := XE.getI hd fl_SS_70 (by decide) ho hx kk
theorem fl_SS_76 : FLD "ShareServer" 76 2 1 := ⟨_, _, _, rfl, by decide, (mt 280 (by decide +kernel) rfl)⟩
theorem g_SS_76 {cc : ByteArray} {nL : Nat} {ret : Option FieldType} {d pc : Nat} {ls : List (Option VV)} {st : List VV} {w : WW} {Q : Option VV → WW → Prop} {ini : Bool} {o x : Nat} (hd : decode cc pc = .ok (.getfield 76, 3)) (ho : o ≠ 0) (hx : wR w 2 o 1 = x) (kk : XE "ShareServer" cc nL ret ini d (pc + 3) ls (.inr (1, x) :: st) w Q) : XE "ShareServer" cc nL ret ini d pc ls (.inr (2, o) :: st) w Q := XE.getR hd fl_SS_76 rfl ho hx kk
theorem fl_SS_94 : FLD "ShareServer" 94 0 3 := ⟨_, _, _, rfl, by decide, (mt 129 (by decide +kernel) rfl)⟩
theorem g_SS_94 {cc : ByteArray} {nL : Nat} {ret : Option FieldType} {d pc : Nat} {ls : List (Option VV)} {st : List VV} {w : WW} {Q : Option VV → WW → Prop} {ini : Bool} {o : Nat} {x : Int32} (hd : decode cc pc = .ok (.getfield 94, 3)) (ho : o ≠ 0) (hx : wI w 0 o 3 = x) (kk : XE "ShareServer" cc nL ret ini d (pc + 3) ls (.inl x :: st) w Q) : XE "ShareServer" cc nL ret ini d pc ls (.inr (0, o) :: st) w Q := XE.getI hd fl_SS_94 (by decide) ho hx kk
theorem fl_SS_104 : FLD "ShareServer" 104 1 4 := ⟨_, _, _, rfl, by decide, (mt 77 (by decide +kernel) rfl)⟩
theorem g_SS_104 {cc : ByteArray} {nL : Nat} {ret : Option FieldType} {d pc : Nat} {ls : List (Option VV)} {st : List VV} {w : WW} {Q : Option VV → WW → Prop} {ini : Bool} {o : Nat} {x : Int32} (hd : decode cc pc = .ok (.getfield 104, 3)) (ho : o ≠ 0) (hx : wI w 1 o 4 = x) (kk : XE "ShareServer" cc nL ret ini d (pc + 3) ls (.inl x :: st) w Q) : XE "ShareServer" cc nL ret ini d pc ls (.inr (1, o) :: st) w Q := XE.getI hd fl_SS_104 (by decide) ho hx kk
theorem fl_SS_108 : FLD "ShareServer" 108 1 0 := ⟨_, _, _, rfl, by decide, (mt 70 (by decide +kernel) rfl)⟩
theorem g_SS_108 {cc : ByteArray} {nL : Nat} {ret : Option FieldType} {d pc : Nat} {ls : List (Option VV)} {st : List VV} {w : WW} {Q : Option VV → WW → Prop} {ini : Bool} {o : Nat} {x : Int32} (hd : decode cc pc = .ok (.getfield 108, 3)) (ho : o ≠ 0) (hx : wI w 1 o 0 = x) (kk : XE "ShareServer" cc nL ret ini d (pc + 3) ls (.inl x :: st) w Q) : XE "ShareServer" cc nL ret ini d pc ls (.inr (1, o) :: st) w Q := XE.getI hd fl_SS_108 (by decide) ho hx kk
theorem fl_SS_123 : FLD "ShareServer" 123 1 2 := ⟨_, _, _, rfl, by decide, (mt 74 (by decide +kernel) rfl)⟩
theorem g_SS_123 {cc : ByteArray} {nL : Nat} {ret : Option FieldType} {d pc : Nat} {ls : List (Option VV)} {st : List VV} {w : WW} {Q : Option VV → WW → Prop} {ini : Bool} {o : Nat} {x : Int32} (hd : decode cc pc = .ok (.getfield 123, 3)) (ho : o ≠ 0) (hx : wI w 1 o 2 = x) (kk : XE "ShareServer" cc nL ret ini d (pc + 3) ls (.inl x :: st) w Q) : XE "ShareServer" cc nL ret ini d pc ls (.inr (1, o) :: st) w Q := XE.getI hd fl_SS_123 (by decide) ho hx kk
theorem fl_SS_126 : FLD "ShareServer" 126 1 3 := ⟨_, _, _, rfl, by decide, (mt 76 (by decide +kernel) rfl)⟩
theorem g_SS_126 {cc : ByteArray} {nL : Nat} {ret : Option FieldType} {d pc : Nat} {ls : List (Option VV)} {st : List VV} {w : WW} {Q : Option VV → WW → Prop} {ini : Bool} {o : Nat} {x : Int32} (hd : decode cc pc = .ok (.getfield 126, 3)) (ho : o ≠ 0) (hx : wI w 1 o 3 = x) (kk : XE "ShareServer" cc nL ret ini d (pc + 3) ls (.inl x :: st) w Q) : XE "ShareServer" cc nL ret ini d pc ls (.inr (1, o) :: st) w Q := XE.getI hd fl_SS_126 (by decide) ho hx kk
theorem fl_SS_136 : FLD "ShareServer" 136 1 1 := ⟨_, _, _, rfl, by decide, (mt 72 (by decide +kernel) rfl)⟩
theorem g_SS_136 {cc : ByteArray} {nL : Nat} {ret : Option FieldType} {d pc : Nat} {ls : List (Option VV)} {st : List VV} {w : WW} {Q : Option VV → WW → Prop} {ini : Bool} {o : Nat} {x : Int32} (hd : decode cc pc = .ok (.getfield 136, 3)) (ho : o ≠ 0) (hx : wI w 1 o 1 = x) (kk : XE "ShareServer" cc nL ret ini d (pc + 3) ls (.inl x :: st) w Q) : XE "ShareServer" cc nL ret ini d pc ls (.inr (1, o) :: st) w Q := XE.getI hd fl_SS_136 (by decide) ho hx kk
theorem fl_SS_143 : FLD "ShareServer" 143 1 5 := ⟨_, _, _, rfl, by decide, (mt 79 (by decide +kernel) rfl)⟩
theorem g_SS_143 {cc : ByteArray} {nL : Nat} {ret : Option FieldType} {d pc : Nat} {ls : List (Option VV)} {st : List VV} {w : WW} {Q : Option VV → WW → Prop} {ini : Bool} {o x : Nat} (hd : decode cc pc = .ok (.getfield 143, 3)) (ho : o ≠ 0) (hx : wR w 1 o 5 = x) (kk : XE "ShareServer" cc nL ret ini d (pc + 3) ls (.inr (103, x) :: st) w Q) : XE "ShareServer" cc nL ret ini d pc ls (.inr (1, o) :: st) w Q := XE.getR hd fl_SS_143 rfl ho hx kk
theorem fl_SS_147 : FLD "ShareServer" 147 0 8 := ⟨_, _, _, rfl, by decide, (mt 134 (by decide +kernel) rfl)⟩
theorem g_SS_147 {cc : ByteArray} {nL : Nat} {ret : Option FieldType} {d pc : Nat} {ls : List (Option VV)} {st : List VV} {w : WW} {Q : Option VV → WW → Prop} {ini : Bool} {o : Nat} {x : Int32} (hd : decode cc pc = .ok (.getfield 147, 3)) (ho : o ≠ 0) (hx : wI w 0 o 8 = x) (kk : XE "ShareServer" cc nL ret ini d (pc + 3) ls (.inl x :: st) w Q) : XE "ShareServer" cc nL ret ini d pc ls (.inr (0, o) :: st) w Q := XE.getI hd fl_SS_147 (by decide) ho hx kk
theorem fl_SS_168 : FLD "ShareServer" 168 1 7 := ⟨_, _, _, rfl, by decide, (mt 82 (by decide +kernel) rfl)⟩
theorem g_SS_168 {cc : ByteArray} {nL : Nat} {ret : Option FieldType} {d pc : Nat} {ls : List (Option VV)} {st : List VV} {w : WW} {Q : Option VV → WW → Prop} {ini : Bool} {o : Nat} {x : Int32} (hd : decode cc pc = .ok (.getfield 168, 3)) (ho : o ≠ 0) (hx : wI w 1 o 7 = x) (kk : XE "ShareServer" cc nL ret ini d (pc + 3) ls (.inl x :: st) w Q) : XE "ShareServer" cc nL ret ini d pc ls (.inr (1, o) :: st) w Q := XE.getI hd fl_SS_168 (by decide) ho hx kk
theorem fl_SS_206 : FLD "ShareServer" 206 2 3 := ⟨_, _, _, rfl, by decide, (mt 284 (by decide +kernel) rfl)⟩
theorem g_SS_206 {cc : ByteArray} {nL : Nat} {ret : Option FieldType} {d pc : Nat} {ls : List (Option VV)} {st : List VV} {w : WW} {Q : Option VV → WW → Prop} {ini : Bool} {o : Nat} {x : Int32} (hd : decode cc pc = .ok (.getfield 206, 3)) (ho : o ≠ 0) (hx : wI w 2 o 3 = x) (kk : XE "ShareServer" cc nL ret ini d (pc + 3) ls (.inl x :: st) w Q) : XE "ShareServer" cc nL ret ini d pc ls (.inr (2, o) :: st) w Q := XE.getI hd fl_SS_206 (by decide) ho hx kk
theorem fl_SS_209 : FLD "ShareServer" 209 2 4 := ⟨_, _, _, rfl, by decide, (mt 286 (by decide +kernel) rfl)⟩
theorem g_SS_209 {cc : ByteArray} {nL : Nat} {ret : Option FieldType} {d pc : Nat} {ls : List (Option VV)} {st : List VV} {w : WW} {Q : Option VV → WW → Prop} {ini : Bool} {o : Nat} {x : Int32} (hd : decode cc pc = .ok (.getfield 209, 3)) (ho : o ≠ 0) (hx : wI w 2 o 4 = x) (kk : XE "ShareServer" cc nL ret ini d (pc + 3) ls (.inl x :: st) w Q) : XE "ShareServer" cc nL ret ini d pc ls (.inr (2, o) :: st) w Q := XE.getI hd fl_SS_209 (by decide) ho hx kk
theorem fl_SS_212 : FLD "ShareServer" 212 2 2 := ⟨_, _, _, rfl, by decide, (mt 282 (by decide +kernel) rfl)⟩
theorem g_SS_212 {cc : ByteArray} {nL : Nat} {ret : Option FieldType} {d pc : Nat} {ls : List (Option VV)} {st : List VV} {w : WW} {Q : Option VV → WW → Prop} {ini : Bool} {o : Nat} {x : Int32} (hd : decode cc pc = .ok (.getfield 212, 3)) (ho : o ≠ 0) (hx : wI w 2 o 2 = x) (kk : XE "ShareServer" cc nL ret ini d (pc + 3) ls (.inl x :: st) w Q) : XE "ShareServer" cc nL ret ini d pc ls (.inr (2, o) :: st) w Q := XE.getI hd fl_SS_212 (by decide) ho hx kk
theorem fl_SS_215 : FLD "ShareServer" 215 0 1 := ⟨_, _, _, rfl, by decide, (mt 127 (by decide +kernel) rfl)⟩
theorem g_SS_215 {cc : ByteArray} {nL : Nat} {ret : Option FieldType} {d pc : Nat} {ls : List (Option VV)} {st : List VV} {w : WW} {Q : Option VV → WW → Prop} {ini : Bool} {o : Nat} {x : Int32} (hd : decode cc pc = .ok (.getfield 215, 3)) (ho : o ≠ 0) (hx : wI w 0 o 1 = x) (kk : XE "ShareServer" cc nL ret ini d (pc + 3) ls (.inl x :: st) w Q) : XE "ShareServer" cc nL ret ini d pc ls (.inr (0, o) :: st) w Q := XE.getI hd fl_SS_215 (by decide) ho hx kk
theorem fl_SS_221 : FLD "ShareServer" 221 6 2 := ⟨_, _, _, rfl, by decide, (mt 118 (by decide +kernel) rfl)⟩
theorem g_SS_221 {cc : ByteArray} {nL : Nat} {ret : Option FieldType} {d pc : Nat} {ls : List (Option VV)} {st : List VV} {w : WW} {Q : Option VV → WW → Prop} {ini : Bool} {o : Nat} {x : Int32} (hd : decode cc pc = .ok (.getfield 221, 3)) (ho : o ≠ 0) (hx : wI w 6 o 2 = x) (kk : XE "ShareServer" cc nL ret ini d (pc + 3) ls (.inl x :: st) w Q) : XE "ShareServer" cc nL ret ini d pc ls (.inr (6, o) :: st) w Q := XE.getI hd fl_SS_221 (by decide) ho hx kk
theorem fl_SS_224 : FLD "ShareServer" 224 0 4 := ⟨_, _, _, rfl, by decide, (mt 130 (by decide +kernel) rfl)⟩
theorem g_SS_224 {cc : ByteArray} {nL : Nat} {ret : Option FieldType} {d pc : Nat} {ls : List (Option VV)} {st : List VV} {w : WW} {Q : Option VV → WW → Prop} {ini : Bool} {o : Nat} {x : Int32} (hd : decode cc pc = .ok (.getfield 224, 3)) (ho : o ≠ 0) (hx : wI w 0 o 4 = x) (kk : XE "ShareServer" cc nL ret ini d (pc + 3) ls (.inl x :: st) w Q) : XE "ShareServer" cc nL ret ini d pc ls (.inr (0, o) :: st) w Q := XE.getI hd fl_SS_224 (by decide) ho hx kk
theorem fl_SS_227 : FLD "ShareServer" 227 3 1 := ⟨_, _, _, rfl, by decide, (mt 175 (by decide +kernel) rfl)⟩
theorem g_SS_227 {cc : ByteArray} {nL : Nat} {ret : Option FieldType} {d pc : Nat} {ls : List (Option VV)} {st : List VV} {w : WW} {Q : Option VV → WW → Prop} {ini : Bool} {o : Nat} {x : Int32} (hd : decode cc pc = .ok (.getfield 227, 3)) (ho : o ≠ 0) (hx : wI w 3 o 1 = x) (kk : XE "ShareServer" cc nL ret ini d (pc + 3) ls (.inl x :: st) w Q) : XE "ShareServer" cc nL ret ini d pc ls (.inr (3, o) :: st) w Q := XE.getI hd fl_SS_227 (by decide) ho hx kk
theorem fl_SS_228 : FLD "ShareServer" 228 3 2 := ⟨_, _, _, rfl, by decide, (mt 177 (by decide +kernel) rfl)⟩
theorem g_SS_228 {cc : ByteArray} {nL : Nat} {ret : Option FieldType} {d pc : Nat} {ls : List (Option VV)} {st : List VV} {w : WW} {Q : Option VV → WW → Prop} {ini : Bool} {o : Nat} {x : Int32} (hd : decode cc pc = .ok (.getfield 228, 3)) (ho : o ≠ 0) (hx : wI w 3 o 2 = x) (kk : XE "ShareServer" cc nL ret ini d (pc + 3) ls (.inl x :: st) w Q) : XE "ShareServer" cc nL ret ini d pc ls (.inr (3, o) :: st) w Q := XE.getI hd fl_SS_228 (by decide) ho hx kk
theorem fl_SS_259 : FLD "ShareServer" 259 3 4 := ⟨_, _, _, rfl, by decide, (mt 180 (by decide +kernel) rfl)⟩
theorem g_SS_259 {cc : ByteArray} {nL : Nat} {ret : Option FieldType} {d pc : Nat} {ls : List (Option VV)} {st : List VV} {w : WW} {Q : Option VV → WW → Prop} {ini : Bool} {o : Nat} {x : Int32} (hd : decode cc pc = .ok (.getfield 259, 3)) (ho : o ≠ 0) (hx : wI w 3 o 4 = x) (kk : XE "ShareServer" cc nL ret ini d (pc + 3) ls (.inl x :: st) w Q) : XE "ShareServer" cc nL ret ini d pc ls (.inr (3, o) :: st) w Q := XE.getI hd fl_SS_259 (by decide) ho hx kk
theorem fl_SS_266 : FLD "ShareServer" 266 2 0 := ⟨_, _, _, rfl, by decide, (mt 278 (by decide +kernel) rfl)⟩
theorem g_SS_266 {cc : ByteArray} {nL : Nat} {ret : Option FieldType} {d pc : Nat} {ls : List (Option VV)} {st : List VV} {w : WW} {Q : Option VV → WW → Prop} {ini : Bool} {o : Nat} {x : Int32} (hd : decode cc pc = .ok (.getfield 266, 3)) (ho : o ≠ 0) (hx : wI w 2 o 0 = x) (kk : XE "ShareServer" cc nL ret ini d (pc + 3) ls (.inl x :: st) w Q) : XE "ShareServer" cc nL ret ini d pc ls (.inr (2, o) :: st) w Q := XE.getI hd fl_SS_266 (by decide) ho hx kk
theorem fl_SS_267 : FLD "ShareServer" 267 2 5 := ⟨_, _, _, rfl, by decide, (mt 288 (by decide +kernel) rfl)⟩
theorem g_SS_267 {cc : ByteArray} {nL : Nat} {ret : Option FieldType} {d pc : Nat} {ls : List (Option VV)} {st : List VV} {w : WW} {Q : Option VV → WW → Prop} {ini : Bool} {o : Nat} {x : Int32} (hd : decode cc pc = .ok (.getfield 267, 3)) (ho : o ≠ 0) (hx : wI w 2 o 5 = x) (kk : XE "ShareServer" cc nL ret ini d (pc + 3) ls (.inl x :: st) w Q) : XE "ShareServer" cc nL ret ini d pc ls (.inr (2, o) :: st) w Q := XE.getI hd fl_SS_267 (by decide) ho hx kk
theorem fl_SS_270 : FLD "ShareServer" 270 6 1 := ⟨_, _, _, rfl, by decide, (mt 116 (by decide +kernel) rfl)⟩
theorem g_SS_270 {cc : ByteArray} {nL : Nat} {ret : Option FieldType} {d pc : Nat} {ls : List (Option VV)} {st : List VV} {w : WW} {Q : Option VV → WW → Prop} {ini : Bool} {o : Nat} {x : Int32} (hd : decode cc pc = .ok (.getfield 270, 3)) (ho : o ≠ 0) (hx : wI w 6 o 1 = x) (kk : XE "ShareServer" cc nL ret ini d (pc + 3) ls (.inl x :: st) w Q) : XE "ShareServer" cc nL ret ini d pc ls (.inr (6, o) :: st) w Q := XE.getI hd fl_SS_270 (by decide) ho hx kk
theorem fl_SS_273 : FLD "ShareServer" 273 6 0 := ⟨_, _, _, rfl, by decide, (mt 114 (by decide +kernel) rfl)⟩
theorem g_SS_273 {cc : ByteArray} {nL : Nat} {ret : Option FieldType} {d pc : Nat} {ls : List (Option VV)} {st : List VV} {w : WW} {Q : Option VV → WW → Prop} {ini : Bool} {o x : Nat} (hd : decode cc pc = .ok (.getfield 273, 3)) (ho : o ≠ 0) (hx : wR w 6 o 0 = x) (kk : XE "ShareServer" cc nL ret ini d (pc + 3) ls (.inr (105, x) :: st) w Q) : XE "ShareServer" cc nL ret ini d pc ls (.inr (6, o) :: st) w Q := XE.getR hd fl_SS_273 rfl ho hx kk
theorem fl_SS_280 : FLD "ShareServer" 280 5 1 := ⟨_, _, _, rfl, by decide, (mt 229 (by decide +kernel) rfl)⟩
theorem g_SS_280 {cc : ByteArray} {nL : Nat} {ret : Option FieldType} {d pc : Nat} {ls : List (Option VV)} {st : List VV} {w : WW} {Q : Option VV → WW → Prop} {ini : Bool} {o x : Nat} (hd : decode cc pc = .ok (.getfield 280, 3)) (ho : o ≠ 0) (hx : wR w 5 o 1 = x) (kk : XE "ShareServer" cc nL ret ini d (pc + 3) ls (.inr (1, x) :: st) w Q) : XE "ShareServer" cc nL ret ini d pc ls (.inr (5, o) :: st) w Q := XE.getR hd fl_SS_280 rfl ho hx kk
theorem fl_SS_281 : FLD "ShareServer" 281 5 0 := ⟨_, _, _, rfl, by decide, (mt 227 (by decide +kernel) rfl)⟩
theorem g_SS_281 {cc : ByteArray} {nL : Nat} {ret : Option FieldType} {d pc : Nat} {ls : List (Option VV)} {st : List VV} {w : WW} {Q : Option VV → WW → Prop} {ini : Bool} {o : Nat} {x : Int32} (hd : decode cc pc = .ok (.getfield 281, 3)) (ho : o ≠ 0) (hx : wI w 5 o 0 = x) (kk : XE "ShareServer" cc nL ret ini d (pc + 3) ls (.inl x :: st) w Q) : XE "ShareServer" cc nL ret ini d pc ls (.inr (5, o) :: st) w Q := XE.getI hd fl_SS_281 (by decide) ho hx kk
theorem fl_SS_284 : FLD "ShareServer" 284 5 2 := ⟨_, _, _, rfl, by decide, (mt 231 (by decide +kernel) rfl)⟩
theorem g_SS_284 {cc : ByteArray} {nL : Nat} {ret : Option FieldType} {d pc : Nat} {ls : List (Option VV)} {st : List VV} {w : WW} {Q : Option VV → WW → Prop} {ini : Bool} {o : Nat} {x : Int32} (hd : decode cc pc = .ok (.getfield 284, 3)) (ho : o ≠ 0) (hx : wI w 5 o 2 = x) (kk : XE "ShareServer" cc nL ret ini d (pc + 3) ls (.inl x :: st) w Q) : XE "ShareServer" cc nL ret ini d pc ls (.inr (5, o) :: st) w Q := XE.getI hd fl_SS_284 (by decide) ho hx kk
theorem fl_SS_287 : FLD "ShareServer" 287 5 3 := ⟨_, _, _, rfl, by decide, (mt 233 (by decide +kernel) rfl)⟩
theorem g_SS_287 {cc : ByteArray} {nL : Nat} {ret : Option FieldType} {d pc : Nat} {ls : List (Option VV)} {st : List VV} {w : WW} {Q : Option VV → WW → Prop} {ini : Bool} {o : Nat} {x : Int32} (hd : decode cc pc = .ok (.getfield 287, 3)) (ho : o ≠ 0) (hx : wI w 5 o 3 = x) (kk : XE "ShareServer" cc nL ret ini d (pc + 3) ls (.inl x :: st) w Q) : XE "ShareServer" cc nL ret ini d pc ls (.inr (5, o) :: st) w Q := XE.getI hd fl_SS_287 (by decide) ho hx kk
theorem k_SS_3 {cc : ByteArray} {nL : Nat} {ret : Option FieldType} {d pc : Nat} {ls : List (Option VV)} {st : List VV} {w : WW} {Q : Option VV → WW → Prop} {ini : Bool} {k o : Nat} (hd : decode cc pc = .ok (.invokespecial 3, 3)) (ho : o ≠ 0) (hrest : st.length ≤ 8) (hdd : 1 ≤ d) (kk : XE "ShareServer" cc nL ret ini d (pc + 3) ls st w Q) : XE "ShareServer" cc nL ret ini d pc ls (.inr (k, o) :: st) w Q := XE.objInit hd (mt 57 (by decide +kernel) rfl) oi_1 oi_2 ho hrest hdd kk
theorem k_SS_15 {cc : ByteArray} {nL : Nat} {ret : Option FieldType} {d pc : Nat} {ls : List (Option VV)} {rest : List VV} {w : WW} {Q : Option VV → WW → Prop} {ini : Bool} {o : Nat} {a1 a2 a3 a4 : VV} {Qc : Option VV → WW → Prop} (d' : Nat) (hd : decode cc pc = .ok (.invokespecial 15, 3)) (hdd : d' + 1 ≤ d) (hrest : rest.length ≤ 8) (ho : o ≠ 0) (hC : E_Nd_init d' [.inr (1, o), a1, a2, a3, a4] w Qc) (kk : ∀ r1 w1, MON w w1 → Qc r1 w1 → XE "ShareServer" cc nL ret ini d (pc + 3) ls (r1.toList ++ rest) w1 Q) : XE "ShareServer" cc nL ret ini d pc ls (a4 :: a3 :: a2 :: a1 :: .inr (1, o) :: rest) w Q := XE.callI (n := 4) (As := [a1, a2, a3, a4]) hd ⟨(mt 63 (by decide +kernel) rfl), co_Nd_init, (mt 45 (by decide +kernel) rfl), by decide, by decide +kernel, by decide +kernel, by decide +kernel⟩ rfl (mt 64 (by decide +kernel) rfl) ho rfl hrest hdd rfl hC kk
theorem k_SS_32 {cc : ByteArray} {nL : Nat} {ret : Option FieldType} {d pc : Nat} {ls : List (Option VV)} {rest : List VV} {w : WW} {Q : Option VV → WW → Prop} {ini : Bool} {o : Nat} {Qc : Option VV → WW → Prop} (d' : Nat) (hd : decode cc pc = .ok (.invokespecial 32, 3)) (hdd : d' + 1 ≤ d) (hrest : rest.length ≤ 8) (ho : o ≠ 0) (hC : E_Lg_init d' [.inr (6, o)] w Qc) (kk : ∀ r1 w1, MON w w1 → Qc r1 w1 → XE "ShareServer" cc nL ret ini d (pc + 3) ls (r1.toList ++ rest) w1 Q) : XE "ShareServer" cc nL ret ini d pc ls (.inr (6, o) :: rest) w Q := XE.callI (n := 0) (As := []) hd ⟨(mt 107 (by decide +kernel) rfl), co_Lg_init, (mt 46 (by decide +kernel) rfl), by decide, by decide +kernel, by decide +kernel, by decide +kernel⟩ rfl (mt 108 (by decide +kernel) rfl) ho rfl hrest hdd rfl hC kk
theorem k_SS_52 {cc : ByteArray} {nL : Nat} {ret : Option FieldType} {d pc : Nat} {ls : List (Option VV)} {rest : List VV} {w : WW} {Q : Option VV → WW → Prop} {ini : Bool} {o : Nat} {a1 a2 a3 a4 a5 : VV} {Qc : Option VV → WW → Prop} (d' : Nat) (hd : decode cc pc = .ok (.invokespecial 52, 3)) (hdd : d' + 1 ≤ d) (hrest : rest.length ≤ 8) (ho : o ≠ 0) (hC : E_Rq_init d' [.inr (3, o), a1, a2, a3, a4, a5] w Qc) (kk : ∀ r1 w1, MON w w1 → Qc r1 w1 → XE "ShareServer" cc nL ret ini d (pc + 3) ls (r1.toList ++ rest) w1 Q) : XE "ShareServer" cc nL ret ini d pc ls (a5 :: a4 :: a3 :: a2 :: a1 :: .inr (3, o) :: rest) w Q := XE.callI (n := 5) (As := [a1, a2, a3, a4, a5]) hd ⟨(mt 168 (by decide +kernel) rfl), co_Rq_init, (mt 48 (by decide +kernel) rfl), by decide, by decide +kernel, by decide +kernel, by decide +kernel⟩ rfl (mt 169 (by decide +kernel) rfl) ho rfl hrest hdd rfl hC kk
theorem k_SS_129 {cc : ByteArray} {nL : Nat} {ret : Option FieldType} {d pc : Nat} {ls : List (Option VV)} {rest : List VV} {w : WW} {Q : Option VV → WW → Prop} {ini : Bool} {o : Nat} {a1 a2 a3 a4 : VV} {Qc : Option VV → WW → Prop} (d' : Nat) (hd : decode cc pc = .ok (.invokespecial 129, 3)) (hdd : d' + 1 ≤ d) (hrest : rest.length ≤ 8) (ho : o ≠ 0) (hC : E_Cg_init d' [.inr (5, o), a1, a2, a3, a4] w Qc) (kk : ∀ r1 w1, MON w w1 → Qc r1 w1 → XE "ShareServer" cc nL ret ini d (pc + 3) ls (r1.toList ++ rest) w1 Q) : XE "ShareServer" cc nL ret ini d pc ls (a4 :: a3 :: a2 :: a1 :: .inr (5, o) :: rest) w Q := XE.callI (n := 4) (As := [a1, a2, a3, a4]) hd ⟨(mt 222 (by decide +kernel) rfl), co_Cg_init, (mt 49 (by decide +kernel) rfl), by decide, by decide +kernel, by decide +kernel, by decide +kernel⟩ rfl (mt 223 (by decide +kernel) rfl) ho rfl hrest hdd rfl hC kk
theorem k_SS_161 {cc : ByteArray} {nL : Nat} {ret : Option FieldType} {d pc : Nat} {ls : List (Option VV)} {rest : List VV} {w : WW} {Q : Option VV → WW → Prop} {ini : Bool} {o : Nat} {a1 a2 a3 a4 : VV} {Qc : Option VV → WW → Prop} (d' : Nat) (hd : decode cc pc = .ok (.invokespecial 161, 3)) (hdd : d' + 1 ≤ d) (hrest : rest.length ≤ 8) (ho : o ≠ 0) (hC : E_Lk_init d' [.inr (4, o), a1, a2, a3, a4] w Qc) (kk : ∀ r1 w1, MON w w1 → Qc r1 w1 → XE "ShareServer" cc nL ret ini d (pc + 3) ls (r1.toList ++ rest) w1 Q) : XE "ShareServer" cc nL ret ini d pc ls (a4 :: a3 :: a2 :: a1 :: .inr (4, o) :: rest) w Q := XE.callI (n := 4) (As := [a1, a2, a3, a4]) hd ⟨(mt 425 (by decide +kernel) rfl), co_Lk_init, (mt 51 (by decide +kernel) rfl), by decide, by decide +kernel, by decide +kernel, by decide +kernel⟩ rfl (mt 426 (by decide +kernel) rfl) ho rfl hrest hdd rfl hC kk
theorem k_SS_256 {cc : ByteArray} {nL : Nat} {ret : Option FieldType} {d pc : Nat} {ls : List (Option VV)} {rest : List VV} {w : WW} {Q : Option VV → WW → Prop} {ini : Bool} {o : Nat} {a1 a2 a3 a4 : VV} {Qc : Option VV → WW → Prop} (d' : Nat) (hd : decode cc pc = .ok (.invokespecial 256, 3)) (hdd : d' + 1 ≤ d) (hrest : rest.length ≤ 8) (ho : o ≠ 0) (hC : E_Hd_init d' [.inr (2, o), a1, a2, a3, a4] w Qc) (kk : ∀ r1 w1, MON w w1 → Qc r1 w1 → XE "ShareServer" cc nL ret ini d (pc + 3) ls (r1.toList ++ rest) w1 Q) : XE "ShareServer" cc nL ret ini d pc ls (a4 :: a3 :: a2 :: a1 :: .inr (2, o) :: rest) w Q := XE.callI (n := 4) (As := [a1, a2, a3, a4]) hd ⟨(mt 264 (by decide +kernel) rfl), co_Hd_init, (mt 50 (by decide +kernel) rfl), by decide, by decide +kernel, by decide +kernel, by decide +kernel⟩ rfl (mt 265 (by decide +kernel) rfl) ho rfl hrest hdd rfl hC kk
theorem k_SS_37 {cc : ByteArray} {nL : Nat} {ret : Option FieldType} {d pc : Nat} {ls : List (Option VV)} {rest : List VV} {w : WW} {Q : Option VV → WW → Prop} {ini : Bool} {a1 a2 : VV} {Qc : Option VV → WW → Prop} (d' : Nat) (hd : decode cc pc = .ok (.invokestatic 37, 3)) (hdd : d' + 1 ≤ d) (hrest : rest.length ≤ 8) (hC : E_SS_isBelow d' [a1, a2] w Qc) (kk : ∀ r1 w1, MON w w1 → Qc r1 w1 → XE "ShareServer" cc nL ret ini d (pc + 3) ls (r1.toList ++ rest) w1 Q) : XE "ShareServer" cc nL ret ini d pc ls (a2 :: a1 :: rest) w Q := XE.callS (n := 2) (As := [a1, a2]) hd ⟨(mt 158 (by decide +kernel) rfl), co_SS_isBelow, (mt 44 (by decide +kernel) rfl), by decide, by decide +kernel, by decide +kernel, by decide +kernel⟩ (mt 159 (by decide +kernel) rfl) rfl hrest hdd rfl hC kk
theorem k_SS_41 {cc : ByteArray} {nL : Nat} {ret : Option FieldType} {d pc : Nat} {ls : List (Option VV)} {rest : List VV} {w : WW} {Q : Option VV → WW → Prop} {ini : Bool} {a1 a2 : VV} {Qc : Option VV → WW → Prop} (d' : Nat) (hd : decode cc pc = .ok (.invokestatic 41, 3)) (hdd : d' + 1 ≤ d) (hrest : rest.length ≤ 8) (hC : E_SS_isPlace d' [a1, a2] w Qc) (kk : ∀ r1 w1, MON w w1 → Qc r1 w1 → XE "ShareServer" cc nL ret ini d (pc + 3) ls (r1.toList ++ rest) w1 Q) : XE "ShareServer" cc nL ret ini d pc ls (a2 :: a1 :: rest) w Q := XE.callS (n := 2) (As := [a1, a2]) hd ⟨(mt 161 (by decide +kernel) rfl), co_SS_isPlace, (mt 44 (by decide +kernel) rfl), by decide, by decide +kernel, by decide +kernel, by decide +kernel⟩ (mt 162 (by decide +kernel) rfl) rfl hrest hdd rfl hC kk
theorem k_SS_44 {cc : ByteArray} {nL : Nat} {ret : Option FieldType} {d pc : Nat} {ls : List (Option VV)} {rest : List VV} {w : WW} {Q : Option VV → WW → Prop} {ini : Bool} {a1 : VV} {Qc : Option VV → WW → Prop} (d' : Nat) (hd : decode cc pc = .ok (.invokestatic 44, 3)) (hdd : d' + 1 ≤ d) (hrest : rest.length ≤ 8) (hC : E_SS_isMode d' [a1] w Qc) (kk : ∀ r1 w1, MON w w1 → Qc r1 w1 → XE "ShareServer" cc nL ret ini d (pc + 3) ls (r1.toList ++ rest) w1 Q) : XE "ShareServer" cc nL ret ini d pc ls (a1 :: rest) w Q := XE.callS (n := 1) (As := [a1]) hd ⟨(mt 164 (by decide +kernel) rfl), co_SS_isMode, (mt 44 (by decide +kernel) rfl), by decide, by decide +kernel, by decide +kernel, by decide +kernel⟩ (mt 165 (by decide +kernel) rfl) rfl hrest hdd rfl hC kk
theorem k_SS_156 {cc : ByteArray} {nL : Nat} {ret : Option FieldType} {d pc : Nat} {ls : List (Option VV)} {rest : List VV} {w : WW} {Q : Option VV → WW → Prop} {ini : Bool} {a1 a2 : VV} {Qc : Option VV → WW → Prop} (d' : Nat) (hd : decode cc pc = .ok (.invokestatic 156, 3)) (hdd : d' + 1 ≤ d) (hrest : rest.length ≤ 8) (hC : E_SS_isRange d' [a1, a2] w Qc) (kk : ∀ r1 w1, MON w w1 → Qc r1 w1 → XE "ShareServer" cc nL ret ini d (pc + 3) ls (r1.toList ++ rest) w1 Q) : XE "ShareServer" cc nL ret ini d pc ls (a2 :: a1 :: rest) w Q := XE.callS (n := 2) (As := [a1, a2]) hd ⟨(mt 420 (by decide +kernel) rfl), co_SS_isRange, (mt 44 (by decide +kernel) rfl), by decide, by decide +kernel, by decide +kernel, by decide +kernel⟩ (mt 421 (by decide +kernel) rfl) rfl hrest hdd rfl hC kk
theorem k_SS_55 {cc : ByteArray} {nL : Nat} {ret : Option FieldType} {d pc : Nat} {ls : List (Option VV)} {rest : List VV} {w : WW} {Q : Option VV → WW → Prop} {ini : Bool} {o : Nat} {a1 : VV} {Qc : Option VV → WW → Prop} (d' : Nat) (hd : decode cc pc = .ok (.invokevirtual 55, 3)) (hdd : d' + 1 ≤ d) (hrest : rest.length ≤ 8) (ho : o ≠ 0) (hC : E_SS_attempt d' [.inr (0, o), a1] w Qc) (kk : ∀ r1 w1, MON w w1 → Qc r1 w1 → XE "ShareServer" cc nL ret ini d (pc + 3) ls (r1.toList ++ rest) w1 Q) : XE "ShareServer" cc nL ret ini d pc ls (a1 :: .inr (0, o) :: rest) w Q := XE.callV (n := 1) (As := [a1]) hd ⟨(mt 196 (by decide +kernel) rfl), co_SS_attempt, (mt 44 (by decide +kernel) rfl), by decide, by decide +kernel, by decide +kernel, by decide +kernel⟩ rfl rfl (mt 198 (by decide +kernel) rfl) (mt 0 (by decide +kernel) rfl) ho rfl hrest hdd rfl hC kk
theorem k_SS_62 {cc : ByteArray} {nL : Nat} {ret : Option FieldType} {d pc : Nat} {ls : List (Option VV)} {rest : List VV} {w : WW} {Q : Option VV → WW → Prop} {ini : Bool} {o : Nat} {a1 : VV} {Qc : Option VV → WW → Prop} (d' : Nat) (hd : decode cc pc = .ok (.invokevirtual 62, 3)) (hdd : d' + 1 ≤ d) (hrest : rest.length ≤ 8) (ho : o ≠ 0) (hC : E_SS_requestNumbered d' [.inr (0, o), a1] w Qc) (kk : ∀ r1 w1, MON w w1 → Qc r1 w1 → XE "ShareServer" cc nL ret ini d (pc + 3) ls (r1.toList ++ rest) w1 Q) : XE "ShareServer" cc nL ret ini d pc ls (a1 :: .inr (0, o) :: rest) w Q := XE.callV (n := 1) (As := [a1]) hd ⟨(mt 324 (by decide +kernel) rfl), co_SS_requestNumbered, (mt 44 (by decide +kernel) rfl), by decide, by decide +kernel, by decide +kernel, by decide +kernel⟩ rfl rfl (mt 326 (by decide +kernel) rfl) (mt 11 (by decide +kernel) rfl) ho rfl hrest hdd rfl hC kk
theorem k_SS_66 {cc : ByteArray} {nL : Nat} {ret : Option FieldType} {d pc : Nat} {ls : List (Option VV)} {rest : List VV} {w : WW} {Q : Option VV → WW → Prop} {ini : Bool} {o : Nat} {a1 : VV} {Qc : Option VV → WW → Prop} (d' : Nat) (hd : decode cc pc = .ok (.invokevirtual 66, 3)) (hdd : d' + 1 ≤ d) (hrest : rest.length ≤ 8) (ho : o ≠ 0) (hC : E_SS_openHandle d' [.inr (0, o), a1] w Qc) (kk : ∀ r1 w1, MON w w1 → Qc r1 w1 → XE "ShareServer" cc nL ret ini d (pc + 3) ls (r1.toList ++ rest) w1 Q) : XE "ShareServer" cc nL ret ini d pc ls (a1 :: .inr (0, o) :: rest) w Q := XE.callV (n := 1) (As := [a1]) hd ⟨(mt 336 (by decide +kernel) rfl), co_SS_openHandle, (mt 44 (by decide +kernel) rfl), by decide, by decide +kernel, by decide +kernel, by decide +kernel⟩ rfl rfl (mt 338 (by decide +kernel) rfl) (mt 12 (by decide +kernel) rfl) ho rfl hrest hdd rfl hC kk
theorem k_SS_73 {cc : ByteArray} {nL : Nat} {ret : Option FieldType} {d pc : Nat} {ls : List (Option VV)} {rest : List VV} {w : WW} {Q : Option VV → WW → Prop} {ini : Bool} {o : Nat} {Qc : Option VV → WW → Prop} (d' : Nat) (hd : decode cc pc = .ok (.invokevirtual 73, 3)) (hdd : d' + 1 ≤ d) (hrest : rest.length ≤ 8) (ho : o ≠ 0) (hC : E_SS_tryWaitingAgain d' [.inr (0, o)] w Qc) (kk : ∀ r1 w1, MON w w1 → Qc r1 w1 → XE "ShareServer" cc nL ret ini d (pc + 3) ls (r1.toList ++ rest) w1 Q) : XE "ShareServer" cc nL ret ini d pc ls (.inr (0, o) :: rest) w Q := XE.callV (n := 0) (As := []) hd ⟨(mt 340 (by decide +kernel) rfl), co_SS_tryWaitingAgain, (mt 44 (by decide +kernel) rfl), by decide, by decide +kernel, by decide +kernel, by decide +kernel⟩ rfl rfl (mt 342 (by decide +kernel) rfl) (mt 13 (by decide +kernel) rfl) ho rfl hrest hdd rfl hC kk
theorem k_SS_80 {cc : ByteArray} {nL : Nat} {ret : Option FieldType} {d pc : Nat} {ls : List (Option VV)} {rest : List VV} {w : WW} {Q : Option VV → WW → Prop} {ini : Bool} {o : Nat} {a1 : VV} {Qc : Option VV → WW → Prop} (d' : Nat) (hd : decode cc pc = .ok (.invokevirtual 80, 3)) (hdd : d' + 1 ≤ d) (hrest : rest.length ≤ 8) (ho : o ≠ 0) (hC : E_Nd_dropLocksOf d' [.inr (1, o), a1] w Qc) (kk : ∀ r1 w1, MON w w1 → Qc r1 w1 → XE "ShareServer" cc nL ret ini d (pc + 3) ls (r1.toList ++ rest) w1 Q) : XE "ShareServer" cc nL ret ini d pc ls (a1 :: .inr (1, o) :: rest) w Q := XE.callV (n := 1) (As := [a1]) hd ⟨(mt 348 (by decide +kernel) rfl), co_Nd_dropLocksOf, (mt 45 (by decide +kernel) rfl), by decide, by decide +kernel, by decide +kernel, by decide +kernel⟩ rfl rfl (mt 349 (by decide +kernel) rfl) (mt 350 (by decide +kernel) rfl) ho rfl hrest hdd rfl hC kk
theorem k_SS_84 {cc : ByteArray} {nL : Nat} {ret : Option FieldType} {d pc : Nat} {ls : List (Option VV)} {rest : List VV} {w : WW} {Q : Option VV → WW → Prop} {ini : Bool} {o : Nat} {a1 : VV} {Qc : Option VV → WW → Prop} (d' : Nat) (hd : decode cc pc = .ok (.invokevirtual 84, 3)) (hdd : d' + 1 ≤ d) (hrest : rest.length ≤ 8) (ho : o ≠ 0) (hC : E_SS_dropFromOpens d' [.inr (0, o), a1] w Qc) (kk : ∀ r1 w1, MON w w1 → Qc r1 w1 → XE "ShareServer" cc nL ret ini d (pc + 3) ls (r1.toList ++ rest) w1 Q) : XE "ShareServer" cc nL ret ini d pc ls (a1 :: .inr (0, o) :: rest) w Q := XE.callV (n := 1) (As := [a1]) hd ⟨(mt 352 (by decide +kernel) rfl), co_SS_dropFromOpens, (mt 44 (by decide +kernel) rfl), by decide, by decide +kernel, by decide +kernel, by decide +kernel⟩ rfl rfl (mt 354 (by decide +kernel) rfl) (mt 14 (by decide +kernel) rfl) ho rfl hrest hdd rfl hC kk
theorem k_SS_87 {cc : ByteArray} {nL : Nat} {ret : Option FieldType} {d pc : Nat} {ls : List (Option VV)} {rest : List VV} {w : WW} {Q : Option VV → WW → Prop} {ini : Bool} {o : Nat} {a1 : VV} {Qc : Option VV → WW → Prop} (d' : Nat) (hd : decode cc pc = .ok (.invokevirtual 87, 3)) (hdd : d' + 1 ≤ d) (hrest : rest.length ≤ 8) (ho : o ≠ 0) (hC : E_SS_doomIfItRemoves d' [.inr (0, o), a1] w Qc) (kk : ∀ r1 w1, MON w w1 → Qc r1 w1 → XE "ShareServer" cc nL ret ini d (pc + 3) ls (r1.toList ++ rest) w1 Q) : XE "ShareServer" cc nL ret ini d pc ls (a1 :: .inr (0, o) :: rest) w Q := XE.callV (n := 1) (As := [a1]) hd ⟨(mt 356 (by decide +kernel) rfl), co_SS_doomIfItRemoves, (mt 44 (by decide +kernel) rfl), by decide, by decide +kernel, by decide +kernel, by decide +kernel⟩ rfl rfl (mt 358 (by decide +kernel) rfl) (mt 15 (by decide +kernel) rfl) ho rfl hrest hdd rfl hC kk
theorem k_SS_90 {cc : ByteArray} {nL : Nat} {ret : Option FieldType} {d pc : Nat} {ls : List (Option VV)} {rest : List VV} {w : WW} {Q : Option VV → WW → Prop} {ini : Bool} {o : Nat} {a1 : VV} {Qc : Option VV → WW → Prop} (d' : Nat) (hd : decode cc pc = .ok (.invokevirtual 90, 3)) (hdd : d' + 1 ≤ d) (hrest : rest.length ≤ 8) (ho : o ≠ 0) (hC : E_SS_settleDoom d' [.inr (0, o), a1] w Qc) (kk : ∀ r1 w1, MON w w1 → Qc r1 w1 → XE "ShareServer" cc nL ret ini d (pc + 3) ls (r1.toList ++ rest) w1 Q) : XE "ShareServer" cc nL ret ini d pc ls (a1 :: .inr (0, o) :: rest) w Q := XE.callV (n := 1) (As := [a1]) hd ⟨(mt 368 (by decide +kernel) rfl), co_SS_settleDoom, (mt 44 (by decide +kernel) rfl), by decide, by decide +kernel, by decide +kernel, by decide +kernel⟩ rfl rfl (mt 370 (by decide +kernel) rfl) (mt 18 (by decide +kernel) rfl) ho rfl hrest hdd rfl hC kk
theorem k_SS_97 {cc : ByteArray} {nL : Nat} {ret : Option FieldType} {d pc : Nat} {ls : List (Option VV)} {rest : List VV} {w : WW} {Q : Option VV → WW → Prop} {ini : Bool} {o : Nat} {a1 : VV} {Qc : Option VV → WW → Prop} (d' : Nat) (hd : decode cc pc = .ok (.invokevirtual 97, 3)) (hdd : d' + 1 ≤ d) (hrest : rest.length ≤ 8) (ho : o ≠ 0) (hC : E_Hd_may d' [.inr (2, o), a1] w Qc) (kk : ∀ r1 w1, MON w w1 → Qc r1 w1 → XE "ShareServer" cc nL ret ini d (pc + 3) ls (r1.toList ++ rest) w1 Q) : XE "ShareServer" cc nL ret ini d pc ls (a1 :: .inr (2, o) :: rest) w Q := XE.callV (n := 1) (As := [a1]) hd ⟨(mt 376 (by decide +kernel) rfl), co_Hd_may, (mt 50 (by decide +kernel) rfl), by decide, by decide +kernel, by decide +kernel, by decide +kernel⟩ rfl rfl (mt 377 (by decide +kernel) rfl) (mt 378 (by decide +kernel) rfl) ho rfl hrest hdd rfl hC kk
theorem k_SS_100 {cc : ByteArray} {nL : Nat} {ret : Option FieldType} {d pc : Nat} {ls : List (Option VV)} {rest : List VV} {w : WW} {Q : Option VV → WW → Prop} {ini : Bool} {o : Nat} {a1 : VV} {Qc : Option VV → WW → Prop} (d' : Nat) (hd : decode cc pc = .ok (.invokevirtual 100, 3)) (hdd : d' + 1 ≤ d) (hrest : rest.length ≤ 8) (ho : o ≠ 0) (hC : E_SS_isRemovable d' [.inr (0, o), a1] w Qc) (kk : ∀ r1 w1, MON w w1 → Qc r1 w1 → XE "ShareServer" cc nL ret ini d (pc + 3) ls (r1.toList ++ rest) w1 Q) : XE "ShareServer" cc nL ret ini d pc ls (a1 :: .inr (0, o) :: rest) w Q := XE.callV (n := 1) (As := [a1]) hd ⟨(mt 360 (by decide +kernel) rfl), co_SS_isRemovable, (mt 44 (by decide +kernel) rfl), by decide, by decide +kernel, by decide +kernel, by decide +kernel⟩ rfl rfl (mt 362 (by decide +kernel) rfl) (mt 16 (by decide +kernel) rfl) ho rfl hrest hdd rfl hC kk
theorem k_SS_111 {cc : ByteArray} {nL : Nat} {ret : Option FieldType} {d pc : Nat} {ls : List (Option VV)} {rest : List VV} {w : WW} {Q : Option VV → WW → Prop} {ini : Bool} {o : Nat} {a1 : VV} {Qc : Option VV → WW → Prop} (d' : Nat) (hd : decode cc pc = .ok (.invokevirtual 111, 3)) (hdd : d' + 1 ≤ d) (hrest : rest.length ≤ 8) (ho : o ≠ 0) (hC : E_SS_isFolderThere d' [.inr (0, o), a1] w Qc) (kk : ∀ r1 w1, MON w w1 → Qc r1 w1 → XE "ShareServer" cc nL ret ini d (pc + 3) ls (r1.toList ++ rest) w1 Q) : XE "ShareServer" cc nL ret ini d pc ls (a1 :: .inr (0, o) :: rest) w Q := XE.callV (n := 1) (As := [a1]) hd ⟨(mt 200 (by decide +kernel) rfl), co_SS_isFolderThere, (mt 44 (by decide +kernel) rfl), by decide, by decide +kernel, by decide +kernel, by decide +kernel⟩ rfl rfl (mt 202 (by decide +kernel) rfl) (mt 1 (by decide +kernel) rfl) ho rfl hrest hdd rfl hC kk
theorem k_SS_114 {cc : ByteArray} {nL : Nat} {ret : Option FieldType} {d pc : Nat} {ls : List (Option VV)} {rest : List VV} {w : WW} {Q : Option VV → WW → Prop} {ini : Bool} {o : Nat} {a1 a2 : VV} {Qc : Option VV → WW → Prop} (d' : Nat) (hd : decode cc pc = .ok (.invokevirtual 114, 3)) (hdd : d' + 1 ≤ d) (hrest : rest.length ≤ 8) (ho : o ≠ 0) (hC : E_SS_isOrLiesInside d' [.inr (0, o), a1, a2] w Qc) (kk : ∀ r1 w1, MON w w1 → Qc r1 w1 → XE "ShareServer" cc nL ret ini d (pc + 3) ls (r1.toList ++ rest) w1 Q) : XE "ShareServer" cc nL ret ini d pc ls (a2 :: a1 :: .inr (0, o) :: rest) w Q := XE.callV (n := 2) (As := [a1, a2]) hd ⟨(mt 384 (by decide +kernel) rfl), co_SS_isOrLiesInside, (mt 44 (by decide +kernel) rfl), by decide, by decide +kernel, by decide +kernel, by decide +kernel⟩ rfl rfl (mt 386 (by decide +kernel) rfl) (mt 19 (by decide +kernel) rfl) ho rfl hrest hdd rfl hC kk
theorem k_SS_117 {cc : ByteArray} {nL : Nat} {ret : Option FieldType} {d pc : Nat} {ls : List (Option VV)} {rest : List VV} {w : WW} {Q : Option VV → WW → Prop} {ini : Bool} {o : Nat} {a1 a2 : VV} {Qc : Option VV → WW → Prop} (d' : Nat) (hd : decode cc pc = .ok (.invokevirtual 117, 3)) (hdd : d' + 1 ≤ d) (hrest : rest.length ≤ 8) (ho : o ≠ 0) (hC : E_SS_nodeAt d' [.inr (0, o), a1, a2] w Qc) (kk : ∀ r1 w1, MON w w1 → Qc r1 w1 → XE "ShareServer" cc nL ret ini d (pc + 3) ls (r1.toList ++ rest) w1 Q) : XE "ShareServer" cc nL ret ini d pc ls (a2 :: a1 :: .inr (0, o) :: rest) w Q := XE.callV (n := 2) (As := [a1, a2]) hd ⟨(mt 204 (by decide +kernel) rfl), co_SS_nodeAt, (mt 44 (by decide +kernel) rfl), by decide, by decide +kernel, by decide +kernel, by decide +kernel⟩ rfl rfl (mt 206 (by decide +kernel) rfl) (mt 2 (by decide +kernel) rfl) ho rfl hrest hdd rfl hC kk
theorem k_SS_132 {cc : ByteArray} {nL : Nat} {ret : Option FieldType} {d pc : Nat} {ls : List (Option VV)} {rest : List VV} {w : WW} {Q : Option VV → WW → Prop} {ini : Bool} {o : Nat} {a1 : VV} {Qc : Option VV → WW → Prop} (d' : Nat) (hd : decode cc pc = .ok (.invokevirtual 132, 3)) (hdd : d' + 1 ≤ d) (hrest : rest.length ≤ 8) (ho : o ≠ 0) (hC : E_Lg_add d' [.inr (6, o), a1] w Qc) (kk : ∀ r1 w1, MON w w1 → Qc r1 w1 → XE "ShareServer" cc nL ret ini d (pc + 3) ls (r1.toList ++ rest) w1 Q) : XE "ShareServer" cc nL ret ini d pc ls (a1 :: .inr (6, o) :: rest) w Q := XE.callV (n := 1) (As := [a1]) hd ⟨(mt 243 (by decide +kernel) rfl), co_Lg_add, (mt 46 (by decide +kernel) rfl), by decide, by decide +kernel, by decide +kernel, by decide +kernel⟩ rfl rfl (mt 244 (by decide +kernel) rfl) (mt 245 (by decide +kernel) rfl) ho rfl hrest hdd rfl hC kk
theorem k_SS_139 {cc : ByteArray} {nL : Nat} {ret : Option FieldType} {d pc : Nat} {ls : List (Option VV)} {rest : List VV} {w : WW} {Q : Option VV → WW → Prop} {ini : Bool} {o : Nat} {a1 a2 : VV} {Qc : Option VV → WW → Prop} (d' : Nat) (hd : decode cc pc = .ok (.invokevirtual 139, 3)) (hdd : d' + 1 ≤ d) (hrest : rest.length ≤ 8) (ho : o ≠ 0) (hC : E_Nd_barsReading d' [.inr (1, o), a1, a2] w Qc) (kk : ∀ r1 w1, MON w w1 → Qc r1 w1 → XE "ShareServer" cc nL ret ini d (pc + 3) ls (r1.toList ++ rest) w1 Q) : XE "ShareServer" cc nL ret ini d pc ls (a2 :: a1 :: .inr (1, o) :: rest) w Q := XE.callV (n := 2) (As := [a1, a2]) hd ⟨(mt 392 (by decide +kernel) rfl), co_Nd_barsReading, (mt 45 (by decide +kernel) rfl), by decide, by decide +kernel, by decide +kernel, by decide +kernel⟩ rfl rfl (mt 393 (by decide +kernel) rfl) (mt 394 (by decide +kernel) rfl) ho rfl hrest hdd rfl hC kk
theorem k_SS_150 {cc : ByteArray} {nL : Nat} {ret : Option FieldType} {d pc : Nat} {ls : List (Option VV)} {rest : List VV} {w : WW} {Q : Option VV → WW → Prop} {ini : Bool} {o : Nat} {a1 a2 : VV} {Qc : Option VV → WW → Prop} (d' : Nat) (hd : decode cc pc = .ok (.invokevirtual 150, 3)) (hdd : d' + 1 ≤ d) (hrest : rest.length ≤ 8) (ho : o ≠ 0) (hC : E_Nd_barsWriting d' [.inr (1, o), a1, a2] w Qc) (kk : ∀ r1 w1, MON w w1 → Qc r1 w1 → XE "ShareServer" cc nL ret ini d (pc + 3) ls (r1.toList ++ rest) w1 Q) : XE "ShareServer" cc nL ret ini d pc ls (a2 :: a1 :: .inr (1, o) :: rest) w Q := XE.callV (n := 2) (As := [a1, a2]) hd ⟨(mt 408 (by decide +kernel) rfl), co_Nd_barsWriting, (mt 45 (by decide +kernel) rfl), by decide, by decide +kernel, by decide +kernel, by decide +kernel⟩ rfl rfl (mt 409 (by decide +kernel) rfl) (mt 410 (by decide +kernel) rfl) ho rfl hrest hdd rfl hC kk
theorem k_SS_153 {cc : ByteArray} {nL : Nat} {ret : Option FieldType} {d pc : Nat} {ls : List (Option VV)} {rest : List VV} {w : WW} {Q : Option VV → WW → Prop} {ini : Bool} {o : Nat} {a1 : VV} {Qc : Option VV → WW → Prop} (d' : Nat) (hd : decode cc pc = .ok (.invokevirtual 153, 3)) (hdd : d' + 1 ≤ d) (hrest : rest.length ≤ 8) (ho : o ≠ 0) (hC : E_SS_endSharedGrantsBeside d' [.inr (0, o), a1] w Qc) (kk : ∀ r1 w1, MON w w1 → Qc r1 w1 → XE "ShareServer" cc nL ret ini d (pc + 3) ls (r1.toList ++ rest) w1 Q) : XE "ShareServer" cc nL ret ini d pc ls (a1 :: .inr (0, o) :: rest) w Q := XE.callV (n := 1) (As := [a1]) hd ⟨(mt 412 (by decide +kernel) rfl), co_SS_endSharedGrantsBeside, (mt 44 (by decide +kernel) rfl), by decide, by decide +kernel, by decide +kernel, by decide +kernel⟩ rfl rfl (mt 414 (by decide +kernel) rfl) (mt 20 (by decide +kernel) rfl) ho rfl hrest hdd rfl hC kk
theorem k_SS_164 {cc : ByteArray} {nL : Nat} {ret : Option FieldType} {d pc : Nat} {ls : List (Option VV)} {rest : List VV} {w : WW} {Q : Option VV → WW → Prop} {ini : Bool} {o : Nat} {a1 : VV} {Qc : Option VV → WW → Prop} (d' : Nat) (hd : decode cc pc = .ok (.invokevirtual 164, 3)) (hdd : d' + 1 ≤ d) (hrest : rest.length ≤ 8) (ho : o ≠ 0) (hC : E_Nd_barsLocking d' [.inr (1, o), a1] w Qc) (kk : ∀ r1 w1, MON w w1 → Qc r1 w1 → XE "ShareServer" cc nL ret ini d (pc + 3) ls (r1.toList ++ rest) w1 Q) : XE "ShareServer" cc nL ret ini d pc ls (a1 :: .inr (1, o) :: rest) w Q := XE.callV (n := 1) (As := [a1]) hd ⟨(mt 446 (by decide +kernel) rfl), co_Nd_barsLocking, (mt 45 (by decide +kernel) rfl), by decide, by decide +kernel, by decide +kernel, by decide +kernel⟩ rfl rfl (mt 447 (by decide +kernel) rfl) (mt 448 (by decide +kernel) rfl) ho rfl hrest hdd rfl hC kk
theorem k_SS_171 {cc : ByteArray} {nL : Nat} {ret : Option FieldType} {d pc : Nat} {ls : List (Option VV)} {rest : List VV} {w : WW} {Q : Option VV → WW → Prop} {ini : Bool} {o : Nat} {a1 : VV} {Qc : Option VV → WW → Prop} (d' : Nat) (hd : decode cc pc = .ok (.invokevirtual 171, 3)) (hdd : d' + 1 ≤ d) (hrest : rest.length ≤ 8) (ho : o ≠ 0) (hC : E_Nd_addLock d' [.inr (1, o), a1] w Qc) (kk : ∀ r1 w1, MON w w1 → Qc r1 w1 → XE "ShareServer" cc nL ret ini d (pc + 3) ls (r1.toList ++ rest) w1 Q) : XE "ShareServer" cc nL ret ini d pc ls (a1 :: .inr (1, o) :: rest) w Q := XE.callV (n := 1) (As := [a1]) hd ⟨(mt 455 (by decide +kernel) rfl), co_Nd_addLock, (mt 45 (by decide +kernel) rfl), by decide, by decide +kernel, by decide +kernel, by decide +kernel⟩ rfl rfl (mt 456 (by decide +kernel) rfl) (mt 457 (by decide +kernel) rfl) ho rfl hrest hdd rfl hC kk
theorem k_SS_175 {cc : ByteArray} {nL : Nat} {ret : Option FieldType} {d pc : Nat} {ls : List (Option VV)} {rest : List VV} {w : WW} {Q : Option VV → WW → Prop} {ini : Bool} {o : Nat} {a1 a2 a3 : VV} {Qc : Option VV → WW → Prop} (d' : Nat) (hd : decode cc pc = .ok (.invokevirtual 175, 3)) (hdd : d' + 1 ≤ d) (hrest : rest.length ≤ 8) (ho : o ≠ 0) (hC : E_Nd_oldestLock d' [.inr (1, o), a1, a2, a3] w Qc) (kk : ∀ r1 w1, MON w w1 → Qc r1 w1 → XE "ShareServer" cc nL ret ini d (pc + 3) ls (r1.toList ++ rest) w1 Q) : XE "ShareServer" cc nL ret ini d pc ls (a3 :: a2 :: a1 :: .inr (1, o) :: rest) w Q := XE.callV (n := 3) (As := [a1, a2, a3]) hd ⟨(mt 463 (by decide +kernel) rfl), co_Nd_oldestLock, (mt 45 (by decide +kernel) rfl), by decide, by decide +kernel, by decide +kernel, by decide +kernel⟩ rfl rfl (mt 464 (by decide +kernel) rfl) (mt 465 (by decide +kernel) rfl) ho rfl hrest hdd rfl hC kk
theorem k_SS_179 {cc : ByteArray} {nL : Nat} {ret : Option FieldType} {d pc : Nat} {ls : List (Option VV)} {rest : List VV} {w : WW} {Q : Option VV → WW → Prop} {ini : Bool} {o : Nat} {a1 : VV} {Qc : Option VV → WW → Prop} (d' : Nat) (hd : decode cc pc = .ok (.invokevirtual 179, 3)) (hdd : d' + 1 ≤ d) (hrest : rest.length ≤ 8) (ho : o ≠ 0) (hC : E_Nd_dropLock d' [.inr (1, o), a1] w Qc) (kk : ∀ r1 w1, MON w w1 → Qc r1 w1 → XE "ShareServer" cc nL ret ini d (pc + 3) ls (r1.toList ++ rest) w1 Q) : XE "ShareServer" cc nL ret ini d pc ls (a1 :: .inr (1, o) :: rest) w Q := XE.callV (n := 1) (As := [a1]) hd ⟨(mt 467 (by decide +kernel) rfl), co_Nd_dropLock, (mt 45 (by decide +kernel) rfl), by decide, by decide +kernel, by decide +kernel, by decide +kernel⟩ rfl rfl (mt 468 (by decide +kernel) rfl) (mt 469 (by decide +kernel) rfl) ho rfl hrest hdd rfl hC kk
theorem k_SS_183 {cc : ByteArray} {nL : Nat} {ret : Option FieldType} {d pc : Nat} {ls : List (Option VV)} {rest : List VV} {w : WW} {Q : Option VV → WW → Prop} {ini : Bool} {o : Nat} {Qc : Option VV → WW → Prop} (d' : Nat) (hd : decode cc pc = .ok (.invokevirtual 183, 3)) (hdd : d' + 1 ≤ d) (hrest : rest.length ≤ 8) (ho : o ≠ 0) (hC : E_Lg_makeAllDurable d' [.inr (6, o)] w Qc) (kk : ∀ r1 w1, MON w w1 → Qc r1 w1 → XE "ShareServer" cc nL ret ini d (pc + 3) ls (r1.toList ++ rest) w1 Q) : XE "ShareServer" cc nL ret ini d pc ls (.inr (6, o) :: rest) w Q := XE.callV (n := 0) (As := []) hd ⟨(mt 475 (by decide +kernel) rfl), co_Lg_makeAllDurable, (mt 46 (by decide +kernel) rfl), by decide, by decide +kernel, by decide +kernel, by decide +kernel⟩ rfl rfl (mt 248 (by decide +kernel) rfl) (mt 249 (by decide +kernel) rfl) ho rfl hrest hdd rfl hC kk
theorem k_SS_186 {cc : ByteArray} {nL : Nat} {ret : Option FieldType} {d pc : Nat} {ls : List (Option VV)} {rest : List VV} {w : WW} {Q : Option VV → WW → Prop} {ini : Bool} {o : Nat} {Qc : Option VV → WW → Prop} (d' : Nat) (hd : decode cc pc = .ok (.invokevirtual 186, 3)) (hdd : d' + 1 ≤ d) (hrest : rest.length ≤ 8) (ho : o ≠ 0) (hC : E_Lg_changes d' [.inr (6, o)] w Qc) (kk : ∀ r1 w1, MON w w1 → Qc r1 w1 → XE "ShareServer" cc nL ret ini d (pc + 3) ls (r1.toList ++ rest) w1 Q) : XE "ShareServer" cc nL ret ini d pc ls (.inr (6, o) :: rest) w Q := XE.callV (n := 0) (As := []) hd ⟨(mt 476 (by decide +kernel) rfl), co_Lg_changes, (mt 46 (by decide +kernel) rfl), by decide, by decide +kernel, by decide +kernel, by decide +kernel⟩ rfl rfl (mt 477 (by decide +kernel) rfl) (mt 478 (by decide +kernel) rfl) ho rfl hrest hdd rfl hC kk
theorem k_SS_190 {cc : ByteArray} {nL : Nat} {ret : Option FieldType} {d pc : Nat} {ls : List (Option VV)} {rest : List VV} {w : WW} {Q : Option VV → WW → Prop} {ini : Bool} {o : Nat} {Qc : Option VV → WW → Prop} (d' : Nat) (hd : decode cc pc = .ok (.invokevirtual 190, 3)) (hdd : d' + 1 ≤ d) (hrest : rest.length ≤ 8) (ho : o ≠ 0) (hC : E_SS_undoUnsafeChanges d' [.inr (0, o)] w Qc) (kk : ∀ r1 w1, MON w w1 → Qc r1 w1 → XE "ShareServer" cc nL ret ini d (pc + 3) ls (r1.toList ++ rest) w1 Q) : XE "ShareServer" cc nL ret ini d pc ls (.inr (0, o) :: rest) w Q := XE.callV (n := 0) (As := []) hd ⟨(mt 484 (by decide +kernel) rfl), co_SS_undoUnsafeChanges, (mt 44 (by decide +kernel) rfl), by decide, by decide +kernel, by decide +kernel, by decide +kernel⟩ rfl rfl (mt 486 (by decide +kernel) rfl) (mt 21 (by decide +kernel) rfl) ho rfl hrest hdd rfl hC kk
theorem k_SS_193 {cc : ByteArray} {nL : Nat} {ret : Option FieldType} {d pc : Nat} {ls : List (Option VV)} {rest : List VV} {w : WW} {Q : Option VV → WW → Prop} {ini : Bool} {o : Nat} {Qc : Option VV → WW → Prop} (d' : Nat) (hd : decode cc pc = .ok (.invokevirtual 193, 3)) (hdd : d' + 1 ≤ d) (hrest : rest.length ≤ 8) (ho : o ≠ 0) (hC : E_SS_calmNodes d' [.inr (0, o)] w Qc) (kk : ∀ r1 w1, MON w w1 → Qc r1 w1 → XE "ShareServer" cc nL ret ini d (pc + 3) ls (r1.toList ++ rest) w1 Q) : XE "ShareServer" cc nL ret ini d pc ls (.inr (0, o) :: rest) w Q := XE.callV (n := 0) (As := []) hd ⟨(mt 492 (by decide +kernel) rfl), co_SS_calmNodes, (mt 44 (by decide +kernel) rfl), by decide, by decide +kernel, by decide +kernel, by decide +kernel⟩ rfl rfl (mt 494 (by decide +kernel) rfl) (mt 23 (by decide +kernel) rfl) ho rfl hrest hdd rfl hC kk
theorem k_SS_196 {cc : ByteArray} {nL : Nat} {ret : Option FieldType} {d pc : Nat} {ls : List (Option VV)} {rest : List VV} {w : WW} {Q : Option VV → WW → Prop} {ini : Bool} {o : Nat} {Qc : Option VV → WW → Prop} (d' : Nat) (hd : decode cc pc = .ok (.invokevirtual 196, 3)) (hdd : d' + 1 ≤ d) (hrest : rest.length ≤ 8) (ho : o ≠ 0) (hC : E_SS_loseWaiting d' [.inr (0, o)] w Qc) (kk : ∀ r1 w1, MON w w1 → Qc r1 w1 → XE "ShareServer" cc nL ret ini d (pc + 3) ls (r1.toList ++ rest) w1 Q) : XE "ShareServer" cc nL ret ini d pc ls (.inr (0, o) :: rest) w Q := XE.callV (n := 0) (As := []) hd ⟨(mt 496 (by decide +kernel) rfl), co_SS_loseWaiting, (mt 44 (by decide +kernel) rfl), by decide, by decide +kernel, by decide +kernel, by decide +kernel⟩ rfl rfl (mt 498 (by decide +kernel) rfl) (mt 24 (by decide +kernel) rfl) ho rfl hrest hdd rfl hC kk
theorem k_SS_199 {cc : ByteArray} {nL : Nat} {ret : Option FieldType} {d pc : Nat} {ls : List (Option VV)} {rest : List VV} {w : WW} {Q : Option VV → WW → Prop} {ini : Bool} {o : Nat} {a1 : VV} {Qc : Option VV → WW → Prop} (d' : Nat) (hd : decode cc pc = .ok (.invokevirtual 199, 3)) (hdd : d' + 1 ≤ d) (hrest : rest.length ≤ 8) (ho : o ≠ 0) (hC : E_SS_opensOf d' [.inr (0, o), a1] w Qc) (kk : ∀ r1 w1, MON w w1 → Qc r1 w1 → XE "ShareServer" cc nL ret ini d (pc + 3) ls (r1.toList ++ rest) w1 Q) : XE "ShareServer" cc nL ret ini d pc ls (a1 :: .inr (0, o) :: rest) w Q := XE.callV (n := 1) (As := [a1]) hd ⟨(mt 259 (by decide +kernel) rfl), co_SS_opensOf, (mt 44 (by decide +kernel) rfl), by decide, by decide +kernel, by decide +kernel, by decide +kernel⟩ rfl rfl (mt 261 (by decide +kernel) rfl) (mt 7 (by decide +kernel) rfl) ho rfl hrest hdd rfl hC kk
theorem k_SS_203 {cc : ByteArray} {nL : Nat} {ret : Option FieldType} {d pc : Nat} {ls : List (Option VV)} {rest : List VV} {w : WW} {Q : Option VV → WW → Prop} {ini : Bool} {o : Nat} {a1 : VV} {Qc : Option VV → WW → Prop} (d' : Nat) (hd : decode cc pc = .ok (.invokevirtual 203, 3)) (hdd : d' + 1 ≤ d) (hrest : rest.length ≤ 8) (ho : o ≠ 0) (hC : E_SS_nodesIn d' [.inr (0, o), a1] w Qc) (kk : ∀ r1 w1, MON w w1 → Qc r1 w1 → XE "ShareServer" cc nL ret ini d (pc + 3) ls (r1.toList ++ rest) w1 Q) : XE "ShareServer" cc nL ret ini d pc ls (a1 :: .inr (0, o) :: rest) w Q := XE.callV (n := 1) (As := [a1]) hd ⟨(mt 364 (by decide +kernel) rfl), co_SS_nodesIn, (mt 44 (by decide +kernel) rfl), by decide, by decide +kernel, by decide +kernel, by decide +kernel⟩ rfl rfl (mt 366 (by decide +kernel) rfl) (mt 17 (by decide +kernel) rfl) ho rfl hrest hdd rfl hC kk
theorem k_SS_218 {cc : ByteArray} {nL : Nat} {ret : Option FieldType} {d pc : Nat} {ls : List (Option VV)} {rest : List VV} {w : WW} {Q : Option VV → WW → Prop} {ini : Bool} {o : Nat} {Qc : Option VV → WW → Prop} (d' : Nat) (hd : decode cc pc = .ok (.invokevirtual 218, 3)) (hdd : d' + 1 ≤ d) (hrest : rest.length ≤ 8) (ho : o ≠ 0) (hC : E_SS_waitingRequests d' [.inr (0, o)] w Qc) (kk : ∀ r1 w1, MON w w1 → Qc r1 w1 → XE "ShareServer" cc nL ret ini d (pc + 3) ls (r1.toList ++ rest) w1 Q) : XE "ShareServer" cc nL ret ini d pc ls (.inr (0, o) :: rest) w Q := XE.callV (n := 0) (As := []) hd ⟨(mt 516 (by decide +kernel) rfl), co_SS_waitingRequests, (mt 44 (by decide +kernel) rfl), by decide, by decide +kernel, by decide +kernel, by decide +kernel⟩ rfl rfl (mt 518 (by decide +kernel) rfl) (mt 25 (by decide +kernel) rfl) ho rfl hrest hdd rfl hC kk
theorem k_SS_229 {cc : ByteArray} {nL : Nat} {ret : Option FieldType} {d pc : Nat} {ls : List (Option VV)} {rest : List VV} {w : WW} {Q : Option VV → WW → Prop} {ini : Bool} {o : Nat} {a1 : VV} {Qc : Option VV → WW → Prop} (d' : Nat) (hd : decode cc pc = .ok (.invokevirtual 229, 3)) (hdd : d' + 1 ≤ d) (hrest : rest.length ≤ 8) (ho : o ≠ 0) (hC : E_SS_openNew d' [.inr (0, o), a1] w Qc) (kk : ∀ r1 w1, MON w w1 → Qc r1 w1 → XE "ShareServer" cc nL ret ini d (pc + 3) ls (r1.toList ++ rest) w1 Q) : XE "ShareServer" cc nL ret ini d pc ls (a1 :: .inr (0, o) :: rest) w Q := XE.callV (n := 1) (As := [a1]) hd ⟨(mt 208 (by decide +kernel) rfl), co_SS_openNew, (mt 44 (by decide +kernel) rfl), by decide, by decide +kernel, by decide +kernel, by decide +kernel⟩ rfl rfl (mt 210 (by decide +kernel) rfl) (mt 3 (by decide +kernel) rfl) ho rfl hrest hdd rfl hC kk
theorem k_SS_232 {cc : ByteArray} {nL : Nat} {ret : Option FieldType} {d pc : Nat} {ls : List (Option VV)} {rest : List VV} {w : WW} {Q : Option VV → WW → Prop} {ini : Bool} {o : Nat} {a1 a2 : VV} {Qc : Option VV → WW → Prop} (d' : Nat) (hd : decode cc pc = .ok (.invokevirtual 232, 3)) (hdd : d' + 1 ≤ d) (hrest : rest.length ≤ 8) (ho : o ≠ 0) (hC : E_SS_openThere d' [.inr (0, o), a1, a2] w Qc) (kk : ∀ r1 w1, MON w w1 → Qc r1 w1 → XE "ShareServer" cc nL ret ini d (pc + 3) ls (r1.toList ++ rest) w1 Q) : XE "ShareServer" cc nL ret ini d pc ls (a2 :: a1 :: .inr (0, o) :: rest) w Q := XE.callV (n := 2) (As := [a1, a2]) hd ⟨(mt 306 (by decide +kernel) rfl), co_SS_openThere, (mt 44 (by decide +kernel) rfl), by decide, by decide +kernel, by decide +kernel, by decide +kernel⟩ rfl rfl (mt 308 (by decide +kernel) rfl) (mt 8 (by decide +kernel) rfl) ho rfl hrest hdd rfl hC kk
theorem k_SS_236 {cc : ByteArray} {nL : Nat} {ret : Option FieldType} {d pc : Nat} {ls : List (Option VV)} {rest : List VV} {w : WW} {Q : Option VV → WW → Prop} {ini : Bool} {o : Nat} {a1 : VV} {Qc : Option VV → WW → Prop} (d' : Nat) (hd : decode cc pc = .ok (.invokevirtual 236, 3)) (hdd : d' + 1 ≤ d) (hrest : rest.length ≤ 8) (ho : o ≠ 0) (hC : E_Rq_has d' [.inr (3, o), a1] w Qc) (kk : ∀ r1 w1, MON w w1 → Qc r1 w1 → XE "ShareServer" cc nL ret ini d (pc + 3) ls (r1.toList ++ rest) w1 Q) : XE "ShareServer" cc nL ret ini d pc ls (a1 :: .inr (3, o) :: rest) w Q := XE.callV (n := 1) (As := [a1]) hd ⟨(mt 212 (by decide +kernel) rfl), co_Rq_has, (mt 48 (by decide +kernel) rfl), by decide, by decide +kernel, by decide +kernel, by decide +kernel⟩ rfl rfl (mt 213 (by decide +kernel) rfl) (mt 214 (by decide +kernel) rfl) ho rfl hrest hdd rfl hC kk
theorem k_SS_239 {cc : ByteArray} {nL : Nat} {ret : Option FieldType} {d pc : Nat} {ls : List (Option VV)} {rest : List VV} {w : WW} {Q : Option VV → WW → Prop} {ini : Bool} {o : Nat} {a1 : VV} {Qc : Option VV → WW → Prop} (d' : Nat) (hd : decode cc pc = .ok (.invokevirtual 239, 3)) (hdd : d' + 1 ≤ d) (hrest : rest.length ≤ 8) (ho : o ≠ 0) (hC : E_SS_makeNode d' [.inr (0, o), a1] w Qc) (kk : ∀ r1 w1, MON w w1 → Qc r1 w1 → XE "ShareServer" cc nL ret ini d (pc + 3) ls (r1.toList ++ rest) w1 Q) : XE "ShareServer" cc nL ret ini d pc ls (a1 :: .inr (0, o) :: rest) w Q := XE.callV (n := 1) (As := [a1]) hd ⟨(mt 216 (by decide +kernel) rfl), co_SS_makeNode, (mt 44 (by decide +kernel) rfl), by decide, by decide +kernel, by decide +kernel, by decide +kernel⟩ rfl rfl (mt 218 (by decide +kernel) rfl) (mt 4 (by decide +kernel) rfl) ho rfl hrest hdd rfl hC kk
theorem k_SS_243 {cc : ByteArray} {nL : Nat} {ret : Option FieldType} {d pc : Nat} {ls : List (Option VV)} {rest : List VV} {w : WW} {Q : Option VV → WW → Prop} {ini : Bool} {o : Nat} {a1 a2 : VV} {Qc : Option VV → WW → Prop} (d' : Nat) (hd : decode cc pc = .ok (.invokevirtual 243, 3)) (hdd : d' + 1 ≤ d) (hrest : rest.length ≤ 8) (ho : o ≠ 0) (hC : E_SS_makeHandle d' [.inr (0, o), a1, a2] w Qc) (kk : ∀ r1 w1, MON w w1 → Qc r1 w1 → XE "ShareServer" cc nL ret ini d (pc + 3) ls (r1.toList ++ rest) w1 Q) : XE "ShareServer" cc nL ret ini d pc ls (a2 :: a1 :: .inr (0, o) :: rest) w Q := XE.callV (n := 2) (As := [a1, a2]) hd ⟨(mt 251 (by decide +kernel) rfl), co_SS_makeHandle, (mt 44 (by decide +kernel) rfl), by decide, by decide +kernel, by decide +kernel, by decide +kernel⟩ rfl rfl (mt 253 (by decide +kernel) rfl) (mt 5 (by decide +kernel) rfl) ho rfl hrest hdd rfl hC kk
theorem k_SS_246 {cc : ByteArray} {nL : Nat} {ret : Option FieldType} {d pc : Nat} {ls : List (Option VV)} {rest : List VV} {w : WW} {Q : Option VV → WW → Prop} {ini : Bool} {o : Nat} {a1 : VV} {Qc : Option VV → WW → Prop} (d' : Nat) (hd : decode cc pc = .ok (.invokevirtual 246, 3)) (hdd : d' + 1 ≤ d) (hrest : rest.length ≤ 8) (ho : o ≠ 0) (hC : E_SS_breaksGrant d' [.inr (0, o), a1] w Qc) (kk : ∀ r1 w1, MON w w1 → Qc r1 w1 → XE "ShareServer" cc nL ret ini d (pc + 3) ls (r1.toList ++ rest) w1 Q) : XE "ShareServer" cc nL ret ini d pc ls (a1 :: .inr (0, o) :: rest) w Q := XE.callV (n := 1) (As := [a1]) hd ⟨(mt 310 (by decide +kernel) rfl), co_SS_breaksGrant, (mt 44 (by decide +kernel) rfl), by decide, by decide +kernel, by decide +kernel, by decide +kernel⟩ rfl rfl (mt 312 (by decide +kernel) rfl) (mt 9 (by decide +kernel) rfl) ho rfl hrest hdd rfl hC kk
theorem k_SS_249 {cc : ByteArray} {nL : Nat} {ret : Option FieldType} {d pc : Nat} {ls : List (Option VV)} {rest : List VV} {w : WW} {Q : Option VV → WW → Prop} {ini : Bool} {o : Nat} {a1 a2 : VV} {Qc : Option VV → WW → Prop} (d' : Nat) (hd : decode cc pc = .ok (.invokevirtual 249, 3)) (hdd : d' + 1 ≤ d) (hrest : rest.length ≤ 8) (ho : o ≠ 0) (hC : E_SS_clashesWithOpens d' [.inr (0, o), a1, a2] w Qc) (kk : ∀ r1 w1, MON w w1 → Qc r1 w1 → XE "ShareServer" cc nL ret ini d (pc + 3) ls (r1.toList ++ rest) w1 Q) : XE "ShareServer" cc nL ret ini d pc ls (a2 :: a1 :: .inr (0, o) :: rest) w Q := XE.callV (n := 2) (As := [a1, a2]) hd ⟨(mt 314 (by decide +kernel) rfl), co_SS_clashesWithOpens, (mt 44 (by decide +kernel) rfl), by decide, by decide +kernel, by decide +kernel, by decide +kernel⟩ rfl rfl (mt 316 (by decide +kernel) rfl) (mt 10 (by decide +kernel) rfl) ho rfl hrest hdd rfl hC kk
theorem k_SS_253 {cc : ByteArray} {nL : Nat} {ret : Option FieldType} {d pc : Nat} {ls : List (Option VV)} {rest : List VV} {w : WW} {Q : Option VV → WW → Prop} {ini : Bool} {o : Nat} {a1 a2 : VV} {Qc : Option VV → WW → Prop} (d' : Nat) (hd : decode cc pc = .ok (.invokevirtual 253, 3)) (hdd : d' + 1 ≤ d) (hrest : rest.length ≤ 8) (ho : o ≠ 0) (hC : E_SS_grantFor d' [.inr (0, o), a1, a2] w Qc) (kk : ∀ r1 w1, MON w w1 → Qc r1 w1 → XE "ShareServer" cc nL ret ini d (pc + 3) ls (r1.toList ++ rest) w1 Q) : XE "ShareServer" cc nL ret ini d pc ls (a2 :: a1 :: .inr (0, o) :: rest) w Q := XE.callV (n := 2) (As := [a1, a2]) hd ⟨(mt 255 (by decide +kernel) rfl), co_SS_grantFor, (mt 44 (by decide +kernel) rfl), by decide, by decide +kernel, by decide +kernel, by decide +kernel⟩ rfl rfl (mt 257 (by decide +kernel) rfl) (mt 6 (by decide +kernel) rfl) ho rfl hrest hdd rfl hC kk
theorem k_SS_262 {cc : ByteArray} {nL : Nat} {ret : Option FieldType} {d pc : Nat} {ls : List (Option VV)} {rest : List VV} {w : WW} {Q : Option VV → WW → Prop} {ini : Bool} {o : Nat} {Qc : Option VV → WW → Prop} (d' : Nat) (hd : decode cc pc = .ok (.invokevirtual 262, 3)) (hdd : d' + 1 ≤ d) (hrest : rest.length ≤ 8) (ho : o ≠ 0) (hC : E_Rq_access d' [.inr (3, o)] w Qc) (kk : ∀ r1 w1, MON w w1 → Qc r1 w1 → XE "ShareServer" cc nL ret ini d (pc + 3) ls (r1.toList ++ rest) w1 Q) : XE "ShareServer" cc nL ret ini d pc ls (.inr (3, o) :: rest) w Q := XE.callV (n := 0) (As := []) hd ⟨(mt 318 (by decide +kernel) rfl), co_Rq_access, (mt 48 (by decide +kernel) rfl), by decide, by decide +kernel, by decide +kernel, by decide +kernel⟩ rfl rfl (mt 269 (by decide +kernel) rfl) (mt 270 (by decide +kernel) rfl) ho rfl hrest hdd rfl hC kk
theorem k_SS_264 {cc : ByteArray} {nL : Nat} {ret : Option FieldType} {d pc : Nat} {ls : List (Option VV)} {rest : List VV} {w : WW} {Q : Option VV → WW → Prop} {ini : Bool} {o : Nat} {Qc : Option VV → WW → Prop} (d' : Nat) (hd : decode cc pc = .ok (.invokevirtual 264, 3)) (hdd : d' + 1 ≤ d) (hrest : rest.length ≤ 8) (ho : o ≠ 0) (hC : E_Rq_share d' [.inr (3, o)] w Qc) (kk : ∀ r1 w1, MON w w1 → Qc r1 w1 → XE "ShareServer" cc nL ret ini d (pc + 3) ls (r1.toList ++ rest) w1 Q) : XE "ShareServer" cc nL ret ini d pc ls (.inr (3, o) :: rest) w Q := XE.callV (n := 0) (As := []) hd ⟨(mt 319 (by decide +kernel) rfl), co_Rq_share, (mt 48 (by decide +kernel) rfl), by decide, by decide +kernel, by decide +kernel, by decide +kernel⟩ rfl rfl (mt 273 (by decide +kernel) rfl) (mt 274 (by decide +kernel) rfl) ho rfl hrest hdd rfl hC kk
theorem k_SS_277 {cc : ByteArray} {nL : Nat} {ret : Option FieldType} {d pc : Nat} {ls : List (Option VV)} {rest : List VV} {w : WW} {Q : Option VV → WW → Prop} {ini : Bool} {o : Nat} {a1 : VV} {Qc : Option VV → WW → Prop} (d' : Nat) (hd : decode cc pc = .ok (.invokevirtual 277, 3)) (hdd : d' + 1 ≤ d) (hrest : rest.length ≤ 8) (ho : o ≠ 0) (hC : E_SS_undo d' [.inr (0, o), a1] w Qc) (kk : ∀ r1 w1, MON w w1 → Qc r1 w1 → XE "ShareServer" cc nL ret ini d (pc + 3) ls (r1.toList ++ rest) w1 Q) : XE "ShareServer" cc nL ret ini d pc ls (a1 :: .inr (0, o) :: rest) w Q := XE.callV (n := 1) (As := [a1]) hd ⟨(mt 488 (by decide +kernel) rfl), co_SS_undo, (mt 44 (by decide +kernel) rfl), by decide, by decide +kernel, by decide +kernel, by decide +kernel⟩ rfl rfl (mt 490 (by decide +kernel) rfl) (mt 22 (by decide +kernel) rfl) ho rfl hrest hdd rfl hC kk
theorem n_SS_9 {cc : ByteArray} {nL : Nat} {ret : Option FieldType} {d pc : Nat} {ls : List (Option VV)} {st : List VV} {w : WW} {Q : Option VV → WW → Prop} {ini : Bool} (hd : decode cc pc = .ok (.new 9, 3)) (kk : XE "ShareServer" cc nL ret ini d (pc + 3) ls (.inr (1, wC w 1 + 1) :: st) (nO w 1 8) Q) : XE "ShareServer" cc nL ret ini d pc ls st w Q := XE.new hd ⟨_, _, rfl, (mt 60 (by decide +kernel) rfl), ins_Nd, (mt 45 (by decide +kernel) rfl)⟩ kk
theorem n_SS_18 {cc : ByteArray} {nL : Nat} {ret : Option FieldType} {d pc : Nat} {ls : List (Option VV)} {st : List VV} {w : WW} {Q : Option VV → WW → Prop} {ini : Bool} (hd : decode cc pc = .ok (.new 18, 3)) (kk : XE "ShareServer" cc nL ret ini d (pc + 3) ls (.inr (2, wC w 2 + 1) :: st) (nO w 2 7) Q) : XE "ShareServer" cc nL ret ini d pc ls st w Q := XE.new hd ⟨_, _, rfl, (mt 101 (by decide +kernel) rfl), ins_Hd, (mt 50 (by decide +kernel) rfl)⟩ kk
theorem n_SS_24 {cc : ByteArray} {nL : Nat} {ret : Option FieldType} {d pc : Nat} {ls : List (Option VV)} {st : List VV} {w : WW} {Q : Option VV → WW → Prop} {ini : Bool} (hd : decode cc pc = .ok (.new 24, 3)) (kk : XE "ShareServer" cc nL ret ini d (pc + 3) ls (.inr (3, wC w 3 + 1) :: st) (nO w 3 6) Q) : XE "ShareServer" cc nL ret ini d pc ls st w Q := XE.new hd ⟨_, _, rfl, (mt 103 (by decide +kernel) rfl), ins_Rq, (mt 48 (by decide +kernel) rfl)⟩ kk
theorem n_SS_30 {cc : ByteArray} {nL : Nat} {ret : Option FieldType} {d pc : Nat} {ls : List (Option VV)} {st : List VV} {w : WW} {Q : Option VV → WW → Prop} {ini : Bool} (hd : decode cc pc = .ok (.new 30, 3)) (kk : XE "ShareServer" cc nL ret ini d (pc + 3) ls (.inr (6, wC w 6 + 1) :: st) (nO w 6 3) Q) : XE "ShareServer" cc nL ret ini d pc ls st w Q := XE.new hd ⟨_, _, rfl, (mt 105 (by decide +kernel) rfl), ins_Lg, (mt 46 (by decide +kernel) rfl)⟩ kk
theorem n_SS_121 {cc : ByteArray} {nL : Nat} {ret : Option FieldType} {d pc : Nat} {ls : List (Option VV)} {st : List VV} {w : WW} {Q : Option VV → WW → Prop} {ini : Bool} (hd : decode cc pc = .ok (.new 121, 3)) (kk : XE "ShareServer" cc nL ret ini d (pc + 3) ls (.inr (5, wC w 5 + 1) :: st) (nO w 5 4) Q) : XE "ShareServer" cc nL ret ini d pc ls st w Q := XE.new hd ⟨_, _, rfl, (mt 220 (by decide +kernel) rfl), ins_Cg, (mt 49 (by decide +kernel) rfl)⟩ kk
theorem n_SS_159 {cc : ByteArray} {nL : Nat} {ret : Option FieldType} {d pc : Nat} {ls : List (Option VV)} {st : List VV} {w : WW} {Q : Option VV → WW → Prop} {ini : Bool} (hd : decode cc pc = .ok (.new 159, 3)) (kk : XE "ShareServer" cc nL ret ini d (pc + 3) ls (.inr (4, wC w 4 + 1) :: st) (nO w 4 4) Q) : XE "ShareServer" cc nL ret ini d pc ls st w Q := XE.new hd ⟨_, _, rfl, (mt 423 (by decide +kernel) rfl), ins_Lk, (mt 51 (by decide +kernel) rfl)⟩ kk
theorem pl_SS_11 : PLD "ShareServer" 11 true 0 0 := ⟨_, _, _, rfl, by decide, (mt 126 (by decide +kernel) rfl), Or.inr ⟨rfl, rfl, rfl⟩⟩
theorem p_SS_11 {cc : ByteArray} {nL : Nat} {ret : Option FieldType} {d pc : Nat} {ls : List (Option VV)} {st : List VV} {w : WW} {Q : Option VV → WW → Prop} {o x k2 : Nat} (hd : decode cc pc = .ok (.putfield 11, 3)) (ho : o ≠ 0) (hk : k2 = 100 ∨ x = 0) (kk : XE "ShareServer" cc nL ret true d (pc + 3) ls st (sR w 0 o 0 x) Q) : XE "ShareServer" cc nL ret true d pc ls (.inr (k2, x) :: .inr (0, o) :: st) w Q := XE.putR hd pl_SS_11 rfl hk ho kk
theorem pl_SS_20 : PLD "ShareServer" 20 true 0 2 := ⟨_, _, _, rfl, by decide, (mt 128 (by decide +kernel) rfl), Or.inr ⟨rfl, rfl, rfl⟩⟩
theorem p_SS_20 {cc : ByteArray} {nL : Nat} {ret : Option FieldType} {d pc : Nat} {ls : List (Option VV)} {st : List VV} {w : WW} {Q : Option VV → WW → Prop} {o x k2 : Nat} (hd : decode cc pc = .ok (.putfield 20, 3)) (ho : o ≠ 0) (hk : k2 = 101 ∨ x = 0) (kk : XE "ShareServer" cc nL ret true d (pc + 3) ls st (sR w 0 o 2 x) Q) : XE "ShareServer" cc nL ret true d pc ls (.inr (k2, x) :: .inr (0, o) :: st) w Q := XE.putR hd pl_SS_20 rfl hk ho kk
theorem pl_SS_26 : PLD "ShareServer" 26 true 0 5 := ⟨_, _, _, rfl, by decide, (mt 131 (by decide +kernel) rfl), Or.inr ⟨rfl, rfl, rfl⟩⟩
theorem p_SS_26 {cc : ByteArray} {nL : Nat} {ret : Option FieldType} {d pc : Nat} {ls : List (Option VV)} {st : List VV} {w : WW} {Q : Option VV → WW → Prop} {o x k2 : Nat} (hd : decode cc pc = .ok (.putfield 26, 3)) (ho : o ≠ 0) (hk : k2 = 102 ∨ x = 0) (kk : XE "ShareServer" cc nL ret true d (pc + 3) ls st (sR w 0 o 5 x) Q) : XE "ShareServer" cc nL ret true d pc ls (.inr (k2, x) :: .inr (0, o) :: st) w Q := XE.putR hd pl_SS_26 rfl hk ho kk
theorem pl_SS_33 : PLD "ShareServer" 33 true 0 7 := ⟨_, _, _, rfl, by decide, (mt 133 (by decide +kernel) rfl), Or.inr ⟨rfl, rfl, rfl⟩⟩
theorem p_SS_33 {cc : ByteArray} {nL : Nat} {ret : Option FieldType} {d pc : Nat} {ls : List (Option VV)} {st : List VV} {w : WW} {Q : Option VV → WW → Prop} {o x k2 : Nat} (hd : decode cc pc = .ok (.putfield 33, 3)) (ho : o ≠ 0) (hk : k2 = 6 ∨ x = 0) (kk : XE "ShareServer" cc nL ret true d (pc + 3) ls st (sR w 0 o 7 x) Q) : XE "ShareServer" cc nL ret true d pc ls (.inr (k2, x) :: .inr (0, o) :: st) w Q := XE.putR hd pl_SS_33 rfl hk ho kk
theorem pl_SS_48 {ini : Bool} : PLD "ShareServer" 48 ini 0 6 := ⟨_, _, _, rfl, by decide, (mt 132 (by decide +kernel) rfl), Or.inl rfl⟩
theorem p_SS_48 {cc : ByteArray} {nL : Nat} {ret : Option FieldType} {d pc : Nat} {ls : List (Option VV)} {st : List VV} {w : WW} {Q : Option VV → WW → Prop} {ini : Bool} {o : Nat} {x : Int32} (hd : decode cc pc = .ok (.putfield 48, 3)) (ho : o ≠ 0) (kk : XE "ShareServer" cc nL ret ini d (pc + 3) ls st (sI w 0 o 6 x) Q) : XE "ShareServer" cc nL ret ini d pc ls (.inl x :: .inr (0, o) :: st) w Q := XE.putI hd pl_SS_48 (Or.inl rfl) ho kk
theorem pl_SS_59 {ini : Bool} : PLD "ShareServer" 59 ini 3 5 := ⟨_, _, _, rfl, by decide, (mt 182 (by decide +kernel) rfl), Or.inl rfl⟩
theorem p_SS_59 {cc : ByteArray} {nL : Nat} {ret : Option FieldType} {d pc : Nat} {ls : List (Option VV)} {st : List VV} {w : WW} {Q : Option VV → WW → Prop} {ini : Bool} {o : Nat} {x : Int32} (hd : decode cc pc = .ok (.putfield 59, 3)) (ho : o ≠ 0) (kk : XE "ShareServer" cc nL ret ini d (pc + 3) ls st (sI w 3 o 5 x) Q) : XE "ShareServer" cc nL ret ini d pc ls (.inl x :: .inr (3, o) :: st) w Q := XE.putI hd pl_SS_59 (Or.inl rfl) ho kk
theorem pl_SS_70 {ini : Bool} : PLD "ShareServer" 70 ini 2 6 := ⟨_, _, _, rfl, by decide, (mt 290 (by decide +kernel) rfl), Or.inl rfl⟩
theorem p_SS_70 {cc : ByteArray} {nL : Nat} {ret : Option FieldType} {d pc : Nat} {ls : List (Option VV)} {st : List VV} {w : WW} {Q : Option VV → WW → Prop} {ini : Bool} {o : Nat} {x : Int32} (hd : decode cc pc = .ok (.putfield 70, 3)) (ho : o ≠ 0) (kk : XE "ShareServer" cc nL ret ini d (pc + 3) ls st (sI w 2 o 6 x) Q) : XE "ShareServer" cc nL ret ini d pc ls (.inl x :: .inr (2, o) :: st) w Q := XE.putI hd pl_SS_70 (Or.inl rfl) ho kk
theorem pl_SS_94 {ini : Bool} : PLD "ShareServer" 94 ini 0 3 := ⟨_, _, _, rfl, by decide, (mt 129 (by decide +kernel) rfl), Or.inl rfl⟩
theorem p_SS_94 {cc : ByteArray} {nL : Nat} {ret : Option FieldType} {d pc : Nat} {ls : List (Option VV)} {st : List VV} {w : WW} {Q : Option VV → WW → Prop} {ini : Bool} {o : Nat} {x : Int32} (hd : decode cc pc = .ok (.putfield 94, 3)) (ho : o ≠ 0) (kk : XE "ShareServer" cc nL ret ini d (pc + 3) ls st (sI w 0 o 3 x) Q) : XE "ShareServer" cc nL ret ini d pc ls (.inl x :: .inr (0, o) :: st) w Q := XE.putI hd pl_SS_94 (Or.inl rfl) ho kk
theorem pl_SS_104 {ini : Bool} : PLD "ShareServer" 104 ini 1 4 := ⟨_, _, _, rfl, by decide, (mt 77 (by decide +kernel) rfl), Or.inl rfl⟩
theorem p_SS_104 {cc : ByteArray} {nL : Nat} {ret : Option FieldType} {d pc : Nat} {ls : List (Option VV)} {st : List VV} {w : WW} {Q : Option VV → WW → Prop} {ini : Bool} {o : Nat} {x : Int32} (hd : decode cc pc = .ok (.putfield 104, 3)) (ho : o ≠ 0) (hb : x = 0 ∨ x = 1) (kk : XE "ShareServer" cc nL ret ini d (pc + 3) ls st (sI w 1 o 4 x) Q) : XE "ShareServer" cc nL ret ini d pc ls (.inl x :: .inr (1, o) :: st) w Q := XE.putI hd pl_SS_104 (Or.inr ⟨rfl, hb⟩) ho kk
theorem pl_SS_123 {ini : Bool} : PLD "ShareServer" 123 ini 1 2 := ⟨_, _, _, rfl, by decide, (mt 74 (by decide +kernel) rfl), Or.inl rfl⟩
theorem p_SS_123 {cc : ByteArray} {nL : Nat} {ret : Option FieldType} {d pc : Nat} {ls : List (Option VV)} {st : List VV} {w : WW} {Q : Option VV → WW → Prop} {ini : Bool} {o : Nat} {x : Int32} (hd : decode cc pc = .ok (.putfield 123, 3)) (ho : o ≠ 0) (kk : XE "ShareServer" cc nL ret ini d (pc + 3) ls st (sI w 1 o 2 x) Q) : XE "ShareServer" cc nL ret ini d pc ls (.inl x :: .inr (1, o) :: st) w Q := XE.putI hd pl_SS_123 (Or.inl rfl) ho kk
theorem pl_SS_126 {ini : Bool} : PLD "ShareServer" 126 ini 1 3 := ⟨_, _, _, rfl, by decide, (mt 76 (by decide +kernel) rfl), Or.inl rfl⟩
theorem p_SS_126 {cc : ByteArray} {nL : Nat} {ret : Option FieldType} {d pc : Nat} {ls : List (Option VV)} {st : List VV} {w : WW} {Q : Option VV → WW → Prop} {ini : Bool} {o : Nat} {x : Int32} (hd : decode cc pc = .ok (.putfield 126, 3)) (ho : o ≠ 0) (kk : XE "ShareServer" cc nL ret ini d (pc + 3) ls st (sI w 1 o 3 x) Q) : XE "ShareServer" cc nL ret ini d pc ls (.inl x :: .inr (1, o) :: st) w Q := XE.putI hd pl_SS_126 (Or.inl rfl) ho kk
theorem pl_SS_147 {ini : Bool} : PLD "ShareServer" 147 ini 0 8 := ⟨_, _, _, rfl, by decide, (mt 134 (by decide +kernel) rfl), Or.inl rfl⟩
theorem p_SS_147 {cc : ByteArray} {nL : Nat} {ret : Option FieldType} {d pc : Nat} {ls : List (Option VV)} {st : List VV} {w : WW} {Q : Option VV → WW → Prop} {ini : Bool} {o : Nat} {x : Int32} (hd : decode cc pc = .ok (.putfield 147, 3)) (ho : o ≠ 0) (kk : XE "ShareServer" cc nL ret ini d (pc + 3) ls st (sI w 0 o 8 x) Q) : XE "ShareServer" cc nL ret ini d pc ls (.inl x :: .inr (0, o) :: st) w Q := XE.putI hd pl_SS_147 (Or.inl rfl) ho kk
theorem pl_SS_168 {ini : Bool} : PLD "ShareServer" 168 ini 1 7 := ⟨_, _, _, rfl, by decide, (mt 82 (by decide +kernel) rfl), Or.inl rfl⟩
theorem p_SS_168 {cc : ByteArray} {nL : Nat} {ret : Option FieldType} {d pc : Nat} {ls : List (Option VV)} {st : List VV} {w : WW} {Q : Option VV → WW → Prop} {ini : Bool} {o : Nat} {x : Int32} (hd : decode cc pc = .ok (.putfield 168, 3)) (ho : o ≠ 0) (kk : XE "ShareServer" cc nL ret ini d (pc + 3) ls st (sI w 1 o 7 x) Q) : XE "ShareServer" cc nL ret ini d pc ls (.inl x :: .inr (1, o) :: st) w Q := XE.putI hd pl_SS_168 (Or.inl rfl) ho kk
theorem pl_SS_215 {ini : Bool} : PLD "ShareServer" 215 ini 0 1 := ⟨_, _, _, rfl, by decide, (mt 127 (by decide +kernel) rfl), Or.inl rfl⟩
theorem p_SS_215 {cc : ByteArray} {nL : Nat} {ret : Option FieldType} {d pc : Nat} {ls : List (Option VV)} {st : List VV} {w : WW} {Q : Option VV → WW → Prop} {ini : Bool} {o : Nat} {x : Int32} (hd : decode cc pc = .ok (.putfield 215, 3)) (ho : o ≠ 0) (kk : XE "ShareServer" cc nL ret ini d (pc + 3) ls st (sI w 0 o 1 x) Q) : XE "ShareServer" cc nL ret ini d pc ls (.inl x :: .inr (0, o) :: st) w Q := XE.putI hd pl_SS_215 (Or.inl rfl) ho kk
theorem pl_SS_224 {ini : Bool} : PLD "ShareServer" 224 ini 0 4 := ⟨_, _, _, rfl, by decide, (mt 130 (by decide +kernel) rfl), Or.inl rfl⟩
theorem p_SS_224 {cc : ByteArray} {nL : Nat} {ret : Option FieldType} {d pc : Nat} {ls : List (Option VV)} {st : List VV} {w : WW} {Q : Option VV → WW → Prop} {ini : Bool} {o : Nat} {x : Int32} (hd : decode cc pc = .ok (.putfield 224, 3)) (ho : o ≠ 0) (kk : XE "ShareServer" cc nL ret ini d (pc + 3) ls st (sI w 0 o 4 x) Q) : XE "ShareServer" cc nL ret ini d pc ls (.inl x :: .inr (0, o) :: st) w Q := XE.putI hd pl_SS_224 (Or.inl rfl) ho kk
theorem pl_SS_270 {ini : Bool} : PLD "ShareServer" 270 ini 6 1 := ⟨_, _, _, rfl, by decide, (mt 116 (by decide +kernel) rfl), Or.inl rfl⟩
theorem p_SS_270 {cc : ByteArray} {nL : Nat} {ret : Option FieldType} {d pc : Nat} {ls : List (Option VV)} {st : List VV} {w : WW} {Q : Option VV → WW → Prop} {ini : Bool} {o : Nat} {x : Int32} (hd : decode cc pc = .ok (.putfield 270, 3)) (ho : o ≠ 0) (kk : XE "ShareServer" cc nL ret ini d (pc + 3) ls st (sI w 6 o 1 x) Q) : XE "ShareServer" cc nL ret ini d pc ls (.inl x :: .inr (6, o) :: st) w Q := XE.putI hd pl_SS_270 (Or.inl rfl) ho kk
theorem k_Cg_1 {cc : ByteArray} {nL : Nat} {ret : Option FieldType} {d pc : Nat} {ls : List (Option VV)} {st : List VV} {w : WW} {Q : Option VV → WW → Prop} {ini : Bool} {k o : Nat} (hd : decode cc pc = .ok (.invokespecial 1, 3)) (ho : o ≠ 0) (hrest : st.length ≤ 8) (hdd : 1 ≤ d) (kk : XE "ShareServer$Change" cc nL ret ini d (pc + 3) ls st w Q) : XE "ShareServer$Change" cc nL ret ini d pc ls (.inr (k, o) :: st) w Q := XE.objInit hd (mt 225 (by decide +kernel) rfl) oi_1 oi_2 ho hrest hdd kk
theorem pl_Cg_7 : PLD "ShareServer$Change" 7 true 5 0 := ⟨_, _, _, rfl, by decide, (mt 226 (by decide +kernel) rfl), Or.inr ⟨rfl, rfl, rfl⟩⟩
theorem p_Cg_7 {cc : ByteArray} {nL : Nat} {ret : Option FieldType} {d pc : Nat} {ls : List (Option VV)} {st : List VV} {w : WW} {Q : Option VV → WW → Prop} {o : Nat} {x : Int32} (hd : decode cc pc = .ok (.putfield 7, 3)) (ho : o ≠ 0) (kk : XE "ShareServer$Change" cc nL ret true d (pc + 3) ls st (sI w 5 o 0 x) Q) : XE "ShareServer$Change" cc nL ret true d pc ls (.inl x :: .inr (5, o) :: st) w Q := XE.putI hd pl_Cg_7 (Or.inl rfl) ho kk
theorem pl_Cg_13 : PLD "ShareServer$Change" 13 true 5 1 := ⟨_, _, _, rfl, by decide, (mt 228 (by decide +kernel) rfl), Or.inr ⟨rfl, rfl, rfl⟩⟩
theorem p_Cg_13 {cc : ByteArray} {nL : Nat} {ret : Option FieldType} {d pc : Nat} {ls : List (Option VV)} {st : List VV} {w : WW} {Q : Option VV → WW → Prop} {o x k2 : Nat} (hd : decode cc pc = .ok (.putfield 13, 3)) (ho : o ≠ 0) (hk : k2 = 1 ∨ x = 0) (kk : XE "ShareServer$Change" cc nL ret true d (pc + 3) ls st (sR w 5 o 1 x) Q) : XE "ShareServer$Change" cc nL ret true d pc ls (.inr (k2, x) :: .inr (5, o) :: st) w Q := XE.putR hd pl_Cg_13 rfl hk ho kk
theorem pl_Cg_17 : PLD "ShareServer$Change" 17 true 5 2 := ⟨_, _, _, rfl, by decide, (mt 230 (by decide +kernel) rfl), Or.inr ⟨rfl, rfl, rfl⟩⟩
theorem p_Cg_17 {cc : ByteArray} {nL : Nat} {ret : Option FieldType} {d pc : Nat} {ls : List (Option VV)} {st : List VV} {w : WW} {Q : Option VV → WW → Prop} {o : Nat} {x : Int32} (hd : decode cc pc = .ok (.putfield 17, 3)) (ho : o ≠ 0) (kk : XE "ShareServer$Change" cc nL ret true d (pc + 3) ls st (sI w 5 o 2 x) Q) : XE "ShareServer$Change" cc nL ret true d pc ls (.inl x :: .inr (5, o) :: st) w Q := XE.putI hd pl_Cg_17 (Or.inl rfl) ho kk
theorem pl_Cg_20 : PLD "ShareServer$Change" 20 true 5 3 := ⟨_, _, _, rfl, by decide, (mt 232 (by decide +kernel) rfl), Or.inr ⟨rfl, rfl, rfl⟩⟩
theorem p_Cg_20 {cc : ByteArray} {nL : Nat} {ret : Option FieldType} {d pc : Nat} {ls : List (Option VV)} {st : List VV} {w : WW} {Q : Option VV → WW → Prop} {o : Nat} {x : Int32} (hd : decode cc pc = .ok (.putfield 20, 3)) (ho : o ≠ 0) (kk : XE "ShareServer$Change" cc nL ret true d (pc + 3) ls st (sI w 5 o 3 x) Q) : XE "ShareServer$Change" cc nL ret true d pc ls (.inl x :: .inr (5, o) :: st) w Q := XE.putI hd pl_Cg_20 (Or.inl rfl) ho kk
theorem fl_Hd_19 : FLD "ShareServer$Handle" 19 3 0 := ⟨_, _, _, rfl, by decide, (mt 173 (by decide +kernel) rfl)⟩
theorem g_Hd_19 {cc : ByteArray} {nL : Nat} {ret : Option FieldType} {d pc : Nat} {ls : List (Option VV)} {st : List VV} {w : WW} {Q : Option VV → WW → Prop} {ini : Bool} {o : Nat} {x : Int32} (hd : decode cc pc = .ok (.getfield 19, 3)) (ho : o ≠ 0) (hx : wI w 3 o 0 = x) (kk : XE "ShareServer$Handle" cc nL ret ini d (pc + 3) ls (.inl x :: st) w Q) : XE "ShareServer$Handle" cc nL ret ini d pc ls (.inr (3, o) :: st) w Q := XE.getI hd fl_Hd_19 (by decide) ho hx kk
theorem fl_Hd_29 : FLD "ShareServer$Handle" 29 2 3 := ⟨_, _, _, rfl, by decide, (mt 283 (by decide +kernel) rfl)⟩
theorem g_Hd_29 {cc : ByteArray} {nL : Nat} {ret : Option FieldType} {d pc : Nat} {ls : List (Option VV)} {st : List VV} {w : WW} {Q : Option VV → WW → Prop} {ini : Bool} {o : Nat} {x : Int32} (hd : decode cc pc = .ok (.getfield 29, 3)) (ho : o ≠ 0) (hx : wI w 2 o 3 = x) (kk : XE "ShareServer$Handle" cc nL ret ini d (pc + 3) ls (.inl x :: st) w Q) : XE "ShareServer$Handle" cc nL ret ini d pc ls (.inr (2, o) :: st) w Q := XE.getI hd fl_Hd_29 (by decide) ho hx kk
theorem k_Hd_3 {cc : ByteArray} {nL : Nat} {ret : Option FieldType} {d pc : Nat} {ls : List (Option VV)} {st : List VV} {w : WW} {Q : Option VV → WW → Prop} {ini : Bool} {k o : Nat} (hd : decode cc pc = .ok (.invokespecial 3, 3)) (ho : o ≠ 0) (hrest : st.length ≤ 8) (hdd : 1 ≤ d) (kk : XE "ShareServer$Handle" cc nL ret ini d (pc + 3) ls st w Q) : XE "ShareServer$Handle" cc nL ret ini d pc ls (.inr (k, o) :: st) w Q := XE.objInit hd (mt 267 (by decide +kernel) rfl) oi_1 oi_2 ho hrest hdd kk
theorem k_Hd_25 {cc : ByteArray} {nL : Nat} {ret : Option FieldType} {d pc : Nat} {ls : List (Option VV)} {rest : List VV} {w : WW} {Q : Option VV → WW → Prop} {ini : Bool} {o : Nat} {Qc : Option VV → WW → Prop} (d' : Nat) (hd : decode cc pc = .ok (.invokevirtual 25, 3)) (hdd : d' + 1 ≤ d) (hrest : rest.length ≤ 8) (ho : o ≠ 0) (hC : E_Rq_access d' [.inr (3, o)] w Qc) (kk : ∀ r1 w1, MON w w1 → Qc r1 w1 → XE "ShareServer$Handle" cc nL ret ini d (pc + 3) ls (r1.toList ++ rest) w1 Q) : XE "ShareServer$Handle" cc nL ret ini d pc ls (.inr (3, o) :: rest) w Q := XE.callV (n := 0) (As := []) hd ⟨(mt 268 (by decide +kernel) rfl), co_Rq_access, (mt 48 (by decide +kernel) rfl), by decide, by decide +kernel, by decide +kernel, by decide +kernel⟩ rfl rfl (mt 269 (by decide +kernel) rfl) (mt 270 (by decide +kernel) rfl) ho rfl hrest hdd rfl hC kk
theorem k_Hd_31 {cc : ByteArray} {nL : Nat} {ret : Option FieldType} {d pc : Nat} {ls : List (Option VV)} {rest : List VV} {w : WW} {Q : Option VV → WW → Prop} {ini : Bool} {o : Nat} {Qc : Option VV → WW → Prop} (d' : Nat) (hd : decode cc pc = .ok (.invokevirtual 31, 3)) (hdd : d' + 1 ≤ d) (hrest : rest.length ≤ 8) (ho : o ≠ 0) (hC : E_Rq_share d' [.inr (3, o)] w Qc) (kk : ∀ r1 w1, MON w w1 → Qc r1 w1 → XE "ShareServer$Handle" cc nL ret ini d (pc + 3) ls (r1.toList ++ rest) w1 Q) : XE "ShareServer$Handle" cc nL ret ini d pc ls (.inr (3, o) :: rest) w Q := XE.callV (n := 0) (As := []) hd ⟨(mt 272 (by decide +kernel) rfl), co_Rq_share, (mt 48 (by decide +kernel) rfl), by decide, by decide +kernel, by decide +kernel, by decide +kernel⟩ rfl rfl (mt 273 (by decide +kernel) rfl) (mt 274 (by decide +kernel) rfl) ho rfl hrest hdd rfl hC kk
theorem k_Hd_36 {cc : ByteArray} {nL : Nat} {ret : Option FieldType} {d pc : Nat} {ls : List (Option VV)} {rest : List VV} {w : WW} {Q : Option VV → WW → Prop} {ini : Bool} {o : Nat} {a1 : VV} {Qc : Option VV → WW → Prop} (d' : Nat) (hd : decode cc pc = .ok (.invokevirtual 36, 3)) (hdd : d' + 1 ≤ d) (hrest : rest.length ≤ 8) (ho : o ≠ 0) (hC : E_Rq_has d' [.inr (3, o), a1] w Qc) (kk : ∀ r1 w1, MON w w1 → Qc r1 w1 → XE "ShareServer$Handle" cc nL ret ini d (pc + 3) ls (r1.toList ++ rest) w1 Q) : XE "ShareServer$Handle" cc nL ret ini d pc ls (a1 :: .inr (3, o) :: rest) w Q := XE.callV (n := 1) (As := [a1]) hd ⟨(mt 276 (by decide +kernel) rfl), co_Rq_has, (mt 48 (by decide +kernel) rfl), by decide, by decide +kernel, by decide +kernel, by decide +kernel⟩ rfl rfl (mt 213 (by decide +kernel) rfl) (mt 214 (by decide +kernel) rfl) ho rfl hrest hdd rfl hC kk
theorem pl_Hd_9 : PLD "ShareServer$Handle" 9 true 2 0 := ⟨_, _, _, rfl, by decide, (mt 277 (by decide +kernel) rfl), Or.inr ⟨rfl, rfl, rfl⟩⟩
theorem p_Hd_9 {cc : ByteArray} {nL : Nat} {ret : Option FieldType} {d pc : Nat} {ls : List (Option VV)} {st : List VV} {w : WW} {Q : Option VV → WW → Prop} {o : Nat} {x : Int32} (hd : decode cc pc = .ok (.putfield 9, 3)) (ho : o ≠ 0) (kk : XE "ShareServer$Handle" cc nL ret true d (pc + 3) ls st (sI w 2 o 0 x) Q) : XE "ShareServer$Handle" cc nL ret true d pc ls (.inl x :: .inr (2, o) :: st) w Q := XE.putI hd pl_Hd_9 (Or.inl rfl) ho kk
theorem pl_Hd_15 : PLD "ShareServer$Handle" 15 true 2 1 := ⟨_, _, _, rfl, by decide, (mt 279 (by decide +kernel) rfl), Or.inr ⟨rfl, rfl, rfl⟩⟩
theorem p_Hd_15 {cc : ByteArray} {nL : Nat} {ret : Option FieldType} {d pc : Nat} {ls : List (Option VV)} {st : List VV} {w : WW} {Q : Option VV → WW → Prop} {o x k2 : Nat} (hd : decode cc pc = .ok (.putfield 15, 3)) (ho : o ≠ 0) (hk : k2 = 1 ∨ x = 0) (kk : XE "ShareServer$Handle" cc nL ret true d (pc + 3) ls st (sR w 2 o 1 x) Q) : XE "ShareServer$Handle" cc nL ret true d pc ls (.inr (k2, x) :: .inr (2, o) :: st) w Q := XE.putR hd pl_Hd_15 rfl hk ho kk
theorem pl_Hd_24 : PLD "ShareServer$Handle" 24 true 2 2 := ⟨_, _, _, rfl, by decide, (mt 281 (by decide +kernel) rfl), Or.inr ⟨rfl, rfl, rfl⟩⟩
theorem p_Hd_24 {cc : ByteArray} {nL : Nat} {ret : Option FieldType} {d pc : Nat} {ls : List (Option VV)} {st : List VV} {w : WW} {Q : Option VV → WW → Prop} {o : Nat} {x : Int32} (hd : decode cc pc = .ok (.putfield 24, 3)) (ho : o ≠ 0) (kk : XE "ShareServer$Handle" cc nL ret true d (pc + 3) ls st (sI w 2 o 2 x) Q) : XE "ShareServer$Handle" cc nL ret true d pc ls (.inl x :: .inr (2, o) :: st) w Q := XE.putI hd pl_Hd_24 (Or.inl rfl) ho kk
theorem pl_Hd_29 : PLD "ShareServer$Handle" 29 true 2 3 := ⟨_, _, _, rfl, by decide, (mt 283 (by decide +kernel) rfl), Or.inr ⟨rfl, rfl, rfl⟩⟩
theorem p_Hd_29 {cc : ByteArray} {nL : Nat} {ret : Option FieldType} {d pc : Nat} {ls : List (Option VV)} {st : List VV} {w : WW} {Q : Option VV → WW → Prop} {o : Nat} {x : Int32} (hd : decode cc pc = .ok (.putfield 29, 3)) (ho : o ≠ 0) (kk : XE "ShareServer$Handle" cc nL ret true d (pc + 3) ls st (sI w 2 o 3 x) Q) : XE "ShareServer$Handle" cc nL ret true d pc ls (.inl x :: .inr (2, o) :: st) w Q := XE.putI hd pl_Hd_29 (Or.inl rfl) ho kk
theorem pl_Hd_34 : PLD "ShareServer$Handle" 34 true 2 4 := ⟨_, _, _, rfl, by decide, (mt 285 (by decide +kernel) rfl), Or.inr ⟨rfl, rfl, rfl⟩⟩
theorem p_Hd_34 {cc : ByteArray} {nL : Nat} {ret : Option FieldType} {d pc : Nat} {ls : List (Option VV)} {st : List VV} {w : WW} {Q : Option VV → WW → Prop} {o : Nat} {x : Int32} (hd : decode cc pc = .ok (.putfield 34, 3)) (ho : o ≠ 0) (kk : XE "ShareServer$Handle" cc nL ret true d (pc + 3) ls st (sI w 2 o 4 x) Q) : XE "ShareServer$Handle" cc nL ret true d pc ls (.inl x :: .inr (2, o) :: st) w Q := XE.putI hd pl_Hd_34 (Or.inl rfl) ho kk
theorem pl_Hd_40 : PLD "ShareServer$Handle" 40 true 2 5 := ⟨_, _, _, rfl, by decide, (mt 287 (by decide +kernel) rfl), Or.inr ⟨rfl, rfl, rfl⟩⟩
theorem p_Hd_40 {cc : ByteArray} {nL : Nat} {ret : Option FieldType} {d pc : Nat} {ls : List (Option VV)} {st : List VV} {w : WW} {Q : Option VV → WW → Prop} {o : Nat} {x : Int32} (hd : decode cc pc = .ok (.putfield 40, 3)) (ho : o ≠ 0) (hb : x = 0 ∨ x = 1) (kk : XE "ShareServer$Handle" cc nL ret true d (pc + 3) ls st (sI w 2 o 5 x) Q) : XE "ShareServer$Handle" cc nL ret true d pc ls (.inl x :: .inr (2, o) :: st) w Q := XE.putI hd pl_Hd_40 (Or.inr ⟨rfl, hb⟩) ho kk
theorem pl_Hd_44 {ini : Bool} : PLD "ShareServer$Handle" 44 ini 2 6 := ⟨_, _, _, rfl, by decide, (mt 289 (by decide +kernel) rfl), Or.inl rfl⟩
theorem p_Hd_44 {cc : ByteArray} {nL : Nat} {ret : Option FieldType} {d pc : Nat} {ls : List (Option VV)} {st : List VV} {w : WW} {Q : Option VV → WW → Prop} {ini : Bool} {o : Nat} {x : Int32} (hd : decode cc pc = .ok (.putfield 44, 3)) (ho : o ≠ 0) (kk : XE "ShareServer$Handle" cc nL ret ini d (pc + 3) ls st (sI w 2 o 6 x) Q) : XE "ShareServer$Handle" cc nL ret ini d pc ls (.inl x :: .inr (2, o) :: st) w Q := XE.putI hd pl_Hd_44 (Or.inl rfl) ho kk
theorem fl_Lk_13 : FLD "ShareServer$Lock" 13 4 1 := ⟨_, _, _, rfl, by decide, (mt 431 (by decide +kernel) rfl)⟩
theorem g_Lk_13 {cc : ByteArray} {nL : Nat} {ret : Option FieldType} {d pc : Nat} {ls : List (Option VV)} {st : List VV} {w : WW} {Q : Option VV → WW → Prop} {ini : Bool} {o : Nat} {x : Int32} (hd : decode cc pc = .ok (.getfield 13, 3)) (ho : o ≠ 0) (hx : wI w 4 o 1 = x) (kk : XE "ShareServer$Lock" cc nL ret ini d (pc + 3) ls (.inl x :: st) w Q) : XE "ShareServer$Lock" cc nL ret ini d pc ls (.inr (4, o) :: st) w Q := XE.getI hd fl_Lk_13 (by decide) ho hx kk
theorem fl_Lk_17 : FLD "ShareServer$Lock" 17 4 2 := ⟨_, _, _, rfl, by decide, (mt 433 (by decide +kernel) rfl)⟩
theorem g_Lk_17 {cc : ByteArray} {nL : Nat} {ret : Option FieldType} {d pc : Nat} {ls : List (Option VV)} {st : List VV} {w : WW} {Q : Option VV → WW → Prop} {ini : Bool} {o : Nat} {x : Int32} (hd : decode cc pc = .ok (.getfield 17, 3)) (ho : o ≠ 0) (hx : wI w 4 o 2 = x) (kk : XE "ShareServer$Lock" cc nL ret ini d (pc + 3) ls (.inl x :: st) w Q) : XE "ShareServer$Lock" cc nL ret ini d pc ls (.inr (4, o) :: st) w Q := XE.getI hd fl_Lk_17 (by decide) ho hx kk
theorem k_Lk_1 {cc : ByteArray} {nL : Nat} {ret : Option FieldType} {d pc : Nat} {ls : List (Option VV)} {st : List VV} {w : WW} {Q : Option VV → WW → Prop} {ini : Bool} {k o : Nat} (hd : decode cc pc = .ok (.invokespecial 1, 3)) (ho : o ≠ 0) (hrest : st.length ≤ 8) (hdd : 1 ≤ d) (kk : XE "ShareServer$Lock" cc nL ret ini d (pc + 3) ls st w Q) : XE "ShareServer$Lock" cc nL ret ini d pc ls (.inr (k, o) :: st) w Q := XE.objInit hd (mt 428 (by decide +kernel) rfl) oi_1 oi_2 ho hrest hdd kk
theorem k_Lk_24 {cc : ByteArray} {nL : Nat} {ret : Option FieldType} {d pc : Nat} {ls : List (Option VV)} {rest : List VV} {w : WW} {Q : Option VV → WW → Prop} {ini : Bool} {o : Nat} {a1 : VV} {Qc : Option VV → WW → Prop} (d' : Nat) (hd : decode cc pc = .ok (.invokevirtual 24, 3)) (hdd : d' + 1 ≤ d) (hrest : rest.length ≤ 8) (ho : o ≠ 0) (hC : E_Lk_covers d' [.inr (4, o), a1] w Qc) (kk : ∀ r1 w1, MON w w1 → Qc r1 w1 → XE "ShareServer$Lock" cc nL ret ini d (pc + 3) ls (r1.toList ++ rest) w1 Q) : XE "ShareServer$Lock" cc nL ret ini d pc ls (a1 :: .inr (4, o) :: rest) w Q := XE.callV (n := 1) (As := [a1]) hd ⟨(mt 454 (by decide +kernel) rfl), co_Lk_covers, (mt 51 (by decide +kernel) rfl), by decide, by decide +kernel, by decide +kernel, by decide +kernel⟩ rfl rfl (mt 397 (by decide +kernel) rfl) (mt 398 (by decide +kernel) rfl) ho rfl hrest hdd rfl hC kk
theorem pl_Lk_7 : PLD "ShareServer$Lock" 7 true 4 0 := ⟨_, _, _, rfl, by decide, (mt 429 (by decide +kernel) rfl), Or.inr ⟨rfl, rfl, rfl⟩⟩
theorem p_Lk_7 {cc : ByteArray} {nL : Nat} {ret : Option FieldType} {d pc : Nat} {ls : List (Option VV)} {st : List VV} {w : WW} {Q : Option VV → WW → Prop} {o x k2 : Nat} (hd : decode cc pc = .ok (.putfield 7, 3)) (ho : o ≠ 0) (hk : k2 = 2 ∨ x = 0) (kk : XE "ShareServer$Lock" cc nL ret true d (pc + 3) ls st (sR w 4 o 0 x) Q) : XE "ShareServer$Lock" cc nL ret true d pc ls (.inr (k2, x) :: .inr (4, o) :: st) w Q := XE.putR hd pl_Lk_7 rfl hk ho kk
theorem pl_Lk_13 : PLD "ShareServer$Lock" 13 true 4 1 := ⟨_, _, _, rfl, by decide, (mt 431 (by decide +kernel) rfl), Or.inr ⟨rfl, rfl, rfl⟩⟩
theorem p_Lk_13 {cc : ByteArray} {nL : Nat} {ret : Option FieldType} {d pc : Nat} {ls : List (Option VV)} {st : List VV} {w : WW} {Q : Option VV → WW → Prop} {o : Nat} {x : Int32} (hd : decode cc pc = .ok (.putfield 13, 3)) (ho : o ≠ 0) (kk : XE "ShareServer$Lock" cc nL ret true d (pc + 3) ls st (sI w 4 o 1 x) Q) : XE "ShareServer$Lock" cc nL ret true d pc ls (.inl x :: .inr (4, o) :: st) w Q := XE.putI hd pl_Lk_13 (Or.inl rfl) ho kk
theorem pl_Lk_17 : PLD "ShareServer$Lock" 17 true 4 2 := ⟨_, _, _, rfl, by decide, (mt 433 (by decide +kernel) rfl), Or.inr ⟨rfl, rfl, rfl⟩⟩
theorem p_Lk_17 {cc : ByteArray} {nL : Nat} {ret : Option FieldType} {d pc : Nat} {ls : List (Option VV)} {st : List VV} {w : WW} {Q : Option VV → WW → Prop} {o : Nat} {x : Int32} (hd : decode cc pc = .ok (.putfield 17, 3)) (ho : o ≠ 0) (kk : XE "ShareServer$Lock" cc nL ret true d (pc + 3) ls st (sI w 4 o 2 x) Q) : XE "ShareServer$Lock" cc nL ret true d pc ls (.inl x :: .inr (4, o) :: st) w Q := XE.putI hd pl_Lk_17 (Or.inl rfl) ho kk
theorem pl_Lk_20 : PLD "ShareServer$Lock" 20 true 4 3 := ⟨_, _, _, rfl, by decide, (mt 435 (by decide +kernel) rfl), Or.inr ⟨rfl, rfl, rfl⟩⟩
theorem p_Lk_20 {cc : ByteArray} {nL : Nat} {ret : Option FieldType} {d pc : Nat} {ls : List (Option VV)} {st : List VV} {w : WW} {Q : Option VV → WW → Prop} {o : Nat} {x : Int32} (hd : decode cc pc = .ok (.putfield 20, 3)) (ho : o ≠ 0) (hb : x = 0 ∨ x = 1) (kk : XE "ShareServer$Lock" cc nL ret true d (pc + 3) ls st (sI w 4 o 3 x) Q) : XE "ShareServer$Lock" cc nL ret true d pc ls (.inl x :: .inr (4, o) :: st) w Q := XE.putI hd pl_Lk_20 (Or.inr ⟨rfl, hb⟩) ho kk
theorem na_Lg_9 {cc : ByteArray} {nL : Nat} {ret : Option FieldType} {d pc : Nat} {ls : List (Option VV)} {st : List VV} {w : WW} {Q : Option VV → WW → Prop} {ini : Bool} {n : Nat} {x : Int32} (k : Nat) (hk : 100 ≤ k) (hk2 : k < 120) (ha : aelem k = 7) (hd : decode cc pc = .ok (.anewarray 9, 3)) (hx0 : ¬ x < 0) (hx : x.toNatClampNeg = n) (hn : n ≤ ksz k) (kk : XE "ShareServer$Log" cc nL ret ini d (pc + 3) ls (.inr (k, wC w k + 1) :: st) (nA w k n) Q) : XE "ShareServer$Log" cc nL ret ini d pc ls (.inl x :: st) w Q := XE.anew hd hk hk2 ⟨5, ha, (mt 111 (by decide +kernel) rfl), by decide +kernel⟩ hx0 hx hn kk
theorem fl_Lg_11 : FLD "ShareServer$Log" 11 6 0 := ⟨_, _, _, rfl, by decide, (mt 113 (by decide +kernel) rfl)⟩
theorem g_Lg_11 {cc : ByteArray} {nL : Nat} {ret : Option FieldType} {d pc : Nat} {ls : List (Option VV)} {st : List VV} {w : WW} {Q : Option VV → WW → Prop} {ini : Bool} {o x : Nat} (hd : decode cc pc = .ok (.getfield 11, 3)) (ho : o ≠ 0) (hx : wR w 6 o 0 = x) (kk : XE "ShareServer$Log" cc nL ret ini d (pc + 3) ls (.inr (105, x) :: st) w Q) : XE "ShareServer$Log" cc nL ret ini d pc ls (.inr (6, o) :: st) w Q := XE.getR hd fl_Lg_11 rfl ho hx kk
theorem fl_Lg_17 : FLD "ShareServer$Log" 17 6 1 := ⟨_, _, _, rfl, by decide, (mt 115 (by decide +kernel) rfl)⟩
theorem g_Lg_17 {cc : ByteArray} {nL : Nat} {ret : Option FieldType} {d pc : Nat} {ls : List (Option VV)} {st : List VV} {w : WW} {Q : Option VV → WW → Prop} {ini : Bool} {o : Nat} {x : Int32} (hd : decode cc pc = .ok (.getfield 17, 3)) (ho : o ≠ 0) (hx : wI w 6 o 1 = x) (kk : XE "ShareServer$Log" cc nL ret ini d (pc + 3) ls (.inl x :: st) w Q) : XE "ShareServer$Log" cc nL ret ini d pc ls (.inr (6, o) :: st) w Q := XE.getI hd fl_Lg_17 (by decide) ho hx kk
theorem fl_Lg_24 : FLD "ShareServer$Log" 24 6 2 := ⟨_, _, _, rfl, by decide, (mt 117 (by decide +kernel) rfl)⟩
theorem g_Lg_24 {cc : ByteArray} {nL : Nat} {ret : Option FieldType} {d pc : Nat} {ls : List (Option VV)} {st : List VV} {w : WW} {Q : Option VV → WW → Prop} {ini : Bool} {o : Nat} {x : Int32} (hd : decode cc pc = .ok (.getfield 24, 3)) (ho : o ≠ 0) (hx : wI w 6 o 2 = x) (kk : XE "ShareServer$Log" cc nL ret ini d (pc + 3) ls (.inl x :: st) w Q) : XE "ShareServer$Log" cc nL ret ini d pc ls (.inr (6, o) :: st) w Q := XE.getI hd fl_Lg_24 (by decide) ho hx kk
theorem k_Lg_3 {cc : ByteArray} {nL : Nat} {ret : Option FieldType} {d pc : Nat} {ls : List (Option VV)} {st : List VV} {w : WW} {Q : Option VV → WW → Prop} {ini : Bool} {k o : Nat} (hd : decode cc pc = .ok (.invokespecial 3, 3)) (ho : o ≠ 0) (hrest : st.length ≤ 8) (hdd : 1 ≤ d) (kk : XE "ShareServer$Log" cc nL ret ini d (pc + 3) ls st w Q) : XE "ShareServer$Log" cc nL ret ini d pc ls (.inr (k, o) :: st) w Q := XE.objInit hd (mt 110 (by decide +kernel) rfl) oi_1 oi_2 ho hrest hdd kk
theorem k_Lg_21 {cc : ByteArray} {nL : Nat} {ret : Option FieldType} {d pc : Nat} {ls : List (Option VV)} {rest : List VV} {w : WW} {Q : Option VV → WW → Prop} {ini : Bool} {o : Nat} {Qc : Option VV → WW → Prop} (d' : Nat) (hd : decode cc pc = .ok (.invokevirtual 21, 3)) (hdd : d' + 1 ≤ d) (hrest : rest.length ≤ 8) (ho : o ≠ 0) (hC : E_Lg_makeAllDurable d' [.inr (6, o)] w Qc) (kk : ∀ r1 w1, MON w w1 → Qc r1 w1 → XE "ShareServer$Log" cc nL ret ini d (pc + 3) ls (r1.toList ++ rest) w1 Q) : XE "ShareServer$Log" cc nL ret ini d pc ls (.inr (6, o) :: rest) w Q := XE.callV (n := 0) (As := []) hd ⟨(mt 247 (by decide +kernel) rfl), co_Lg_makeAllDurable, (mt 46 (by decide +kernel) rfl), by decide, by decide +kernel, by decide +kernel, by decide +kernel⟩ rfl rfl (mt 248 (by decide +kernel) rfl) (mt 249 (by decide +kernel) rfl) ho rfl hrest hdd rfl hC kk
theorem pl_Lg_11 : PLD "ShareServer$Log" 11 true 6 0 := ⟨_, _, _, rfl, by decide, (mt 113 (by decide +kernel) rfl), Or.inr ⟨rfl, rfl, rfl⟩⟩
theorem p_Lg_11 {cc : ByteArray} {nL : Nat} {ret : Option FieldType} {d pc : Nat} {ls : List (Option VV)} {st : List VV} {w : WW} {Q : Option VV → WW → Prop} {o x k2 : Nat} (hd : decode cc pc = .ok (.putfield 11, 3)) (ho : o ≠ 0) (hk : k2 = 105 ∨ x = 0) (kk : XE "ShareServer$Log" cc nL ret true d (pc + 3) ls st (sR w 6 o 0 x) Q) : XE "ShareServer$Log" cc nL ret true d pc ls (.inr (k2, x) :: .inr (6, o) :: st) w Q := XE.putR hd pl_Lg_11 rfl hk ho kk
theorem pl_Lg_17 {ini : Bool} : PLD "ShareServer$Log" 17 ini 6 1 := ⟨_, _, _, rfl, by decide, (mt 115 (by decide +kernel) rfl), Or.inl rfl⟩
theorem p_Lg_17 {cc : ByteArray} {nL : Nat} {ret : Option FieldType} {d pc : Nat} {ls : List (Option VV)} {st : List VV} {w : WW} {Q : Option VV → WW → Prop} {ini : Bool} {o : Nat} {x : Int32} (hd : decode cc pc = .ok (.putfield 17, 3)) (ho : o ≠ 0) (kk : XE "ShareServer$Log" cc nL ret ini d (pc + 3) ls st (sI w 6 o 1 x) Q) : XE "ShareServer$Log" cc nL ret ini d pc ls (.inl x :: .inr (6, o) :: st) w Q := XE.putI hd pl_Lg_17 (Or.inl rfl) ho kk
theorem pl_Lg_24 {ini : Bool} : PLD "ShareServer$Log" 24 ini 6 2 := ⟨_, _, _, rfl, by decide, (mt 117 (by decide +kernel) rfl), Or.inl rfl⟩
theorem p_Lg_24 {cc : ByteArray} {nL : Nat} {ret : Option FieldType} {d pc : Nat} {ls : List (Option VV)} {st : List VV} {w : WW} {Q : Option VV → WW → Prop} {ini : Bool} {o : Nat} {x : Int32} (hd : decode cc pc = .ok (.putfield 24, 3)) (ho : o ≠ 0) (kk : XE "ShareServer$Log" cc nL ret ini d (pc + 3) ls st (sI w 6 o 2 x) Q) : XE "ShareServer$Log" cc nL ret ini d pc ls (.inl x :: .inr (6, o) :: st) w Q := XE.putI hd pl_Lg_24 (Or.inl rfl) ho kk
theorem na_Nd_29 {cc : ByteArray} {nL : Nat} {ret : Option FieldType} {d pc : Nat} {ls : List (Option VV)} {st : List VV} {w : WW} {Q : Option VV → WW → Prop} {ini : Bool} {n : Nat} {x : Int32} (k : Nat) (hk : 100 ≤ k) (hk2 : k < 120) (ha : aelem k = 6) (hd : decode cc pc = .ok (.anewarray 29, 3)) (hx0 : ¬ x < 0) (hx : x.toNatClampNeg = n) (hn : n ≤ ksz k) (kk : XE "ShareServer$Node" cc nL ret ini d (pc + 3) ls (.inr (k, wC w k + 1) :: st) (nA w k n) Q) : XE "ShareServer$Node" cc nL ret ini d pc ls (.inl x :: st) w Q := XE.anew hd hk hk2 ⟨4, ha, (mt 67 (by decide +kernel) rfl), by decide +kernel⟩ hx0 hx hn kk
theorem fl_Nd_31 : FLD "ShareServer$Node" 31 1 6 := ⟨_, _, _, rfl, by decide, (mt 80 (by decide +kernel) rfl)⟩
theorem g_Nd_31 {cc : ByteArray} {nL : Nat} {ret : Option FieldType} {d pc : Nat} {ls : List (Option VV)} {st : List VV} {w : WW} {Q : Option VV → WW → Prop} {ini : Bool} {o x : Nat} (hd : decode cc pc = .ok (.getfield 31, 3)) (ho : o ≠ 0) (hx : wR w 1 o 6 = x) (kk : XE "ShareServer$Node" cc nL ret ini d (pc + 3) ls (.inr (104, x) :: st) w Q) : XE "ShareServer$Node" cc nL ret ini d pc ls (.inr (1, o) :: st) w Q := XE.getR hd fl_Nd_31 rfl ho hx kk
theorem fl_Nd_35 : FLD "ShareServer$Node" 35 1 7 := ⟨_, _, _, rfl, by decide, (mt 81 (by decide +kernel) rfl)⟩
theorem g_Nd_35 {cc : ByteArray} {nL : Nat} {ret : Option FieldType} {d pc : Nat} {ls : List (Option VV)} {st : List VV} {w : WW} {Q : Option VV → WW → Prop} {ini : Bool} {o : Nat} {x : Int32} (hd : decode cc pc = .ok (.getfield 35, 3)) (ho : o ≠ 0) (hx : wI w 1 o 7 = x) (kk : XE "ShareServer$Node" cc nL ret ini d (pc + 3) ls (.inl x :: st) w Q) : XE "ShareServer$Node" cc nL ret ini d pc ls (.inr (1, o) :: st) w Q := XE.getI hd fl_Nd_35 (by decide) ho hx kk
theorem fl_Nd_42 : FLD "ShareServer$Node" 42 4 3 := ⟨_, _, _, rfl, by decide, (mt 436 (by decide +kernel) rfl)⟩
theorem g_Nd_42 {cc : ByteArray} {nL : Nat} {ret : Option FieldType} {d pc : Nat} {ls : List (Option VV)} {st : List VV} {w : WW} {Q : Option VV → WW → Prop} {ini : Bool} {o : Nat} {x : Int32} (hd : decode cc pc = .ok (.getfield 42, 3)) (ho : o ≠ 0) (hx : wI w 4 o 3 = x) (kk : XE "ShareServer$Node" cc nL ret ini d (pc + 3) ls (.inl x :: st) w Q) : XE "ShareServer$Node" cc nL ret ini d pc ls (.inr (4, o) :: st) w Q := XE.getI hd fl_Nd_42 (by decide) ho hx kk
theorem fl_Nd_45 : FLD "ShareServer$Node" 45 4 0 := ⟨_, _, _, rfl, by decide, (mt 430 (by decide +kernel) rfl)⟩
theorem g_Nd_45 {cc : ByteArray} {nL : Nat} {ret : Option FieldType} {d pc : Nat} {ls : List (Option VV)} {st : List VV} {w : WW} {Q : Option VV → WW → Prop} {ini : Bool} {o x : Nat} (hd : decode cc pc = .ok (.getfield 45, 3)) (ho : o ≠ 0) (hx : wR w 4 o 0 = x) (kk : XE "ShareServer$Node" cc nL ret ini d (pc + 3) ls (.inr (2, x) :: st) w Q) : XE "ShareServer$Node" cc nL ret ini d pc ls (.inr (4, o) :: st) w Q := XE.getR hd fl_Nd_45 rfl ho hx kk
theorem fl_Nd_53 : FLD "ShareServer$Node" 53 4 1 := ⟨_, _, _, rfl, by decide, (mt 432 (by decide +kernel) rfl)⟩
theorem g_Nd_53 {cc : ByteArray} {nL : Nat} {ret : Option FieldType} {d pc : Nat} {ls : List (Option VV)} {st : List VV} {w : WW} {Q : Option VV → WW → Prop} {ini : Bool} {o : Nat} {x : Int32} (hd : decode cc pc = .ok (.getfield 53, 3)) (ho : o ≠ 0) (hx : wI w 4 o 1 = x) (kk : XE "ShareServer$Node" cc nL ret ini d (pc + 3) ls (.inl x :: st) w Q) : XE "ShareServer$Node" cc nL ret ini d pc ls (.inr (4, o) :: st) w Q := XE.getI hd fl_Nd_53 (by decide) ho hx kk
theorem fl_Nd_56 : FLD "ShareServer$Node" 56 4 2 := ⟨_, _, _, rfl, by decide, (mt 434 (by decide +kernel) rfl)⟩
theorem g_Nd_56 {cc : ByteArray} {nL : Nat} {ret : Option FieldType} {d pc : Nat} {ls : List (Option VV)} {st : List VV} {w : WW} {Q : Option VV → WW → Prop} {ini : Bool} {o : Nat} {x : Int32} (hd : decode cc pc = .ok (.getfield 56, 3)) (ho : o ≠ 0) (hx : wI w 4 o 2 = x) (kk : XE "ShareServer$Node" cc nL ret ini d (pc + 3) ls (.inl x :: st) w Q) : XE "ShareServer$Node" cc nL ret ini d pc ls (.inr (4, o) :: st) w Q := XE.getI hd fl_Nd_56 (by decide) ho hx kk
theorem k_Nd_3 {cc : ByteArray} {nL : Nat} {ret : Option FieldType} {d pc : Nat} {ls : List (Option VV)} {st : List VV} {w : WW} {Q : Option VV → WW → Prop} {ini : Bool} {k o : Nat} (hd : decode cc pc = .ok (.invokespecial 3, 3)) (ho : o ≠ 0) (hrest : st.length ≤ 8) (hdd : 1 ≤ d) (kk : XE "ShareServer$Node" cc nL ret ini d (pc + 3) ls st w Q) : XE "ShareServer$Node" cc nL ret ini d pc ls (.inr (k, o) :: st) w Q := XE.objInit hd (mt 66 (by decide +kernel) rfl) oi_1 oi_2 ho hrest hdd kk
theorem k_Nd_38 {cc : ByteArray} {nL : Nat} {ret : Option FieldType} {d pc : Nat} {ls : List (Option VV)} {rest : List VV} {w : WW} {Q : Option VV → WW → Prop} {ini : Bool} {o : Nat} {a1 : VV} {Qc : Option VV → WW → Prop} (d' : Nat) (hd : decode cc pc = .ok (.invokevirtual 38, 3)) (hdd : d' + 1 ≤ d) (hrest : rest.length ≤ 8) (ho : o ≠ 0) (hC : E_Lk_covers d' [.inr (4, o), a1] w Qc) (kk : ∀ r1 w1, MON w w1 → Qc r1 w1 → XE "ShareServer$Node" cc nL ret ini d (pc + 3) ls (r1.toList ++ rest) w1 Q) : XE "ShareServer$Node" cc nL ret ini d pc ls (a1 :: .inr (4, o) :: rest) w Q := XE.callV (n := 1) (As := [a1]) hd ⟨(mt 396 (by decide +kernel) rfl), co_Lk_covers, (mt 51 (by decide +kernel) rfl), by decide, by decide +kernel, by decide +kernel, by decide +kernel⟩ rfl rfl (mt 397 (by decide +kernel) rfl) (mt 398 (by decide +kernel) rfl) ho rfl hrest hdd rfl hC kk
theorem k_Nd_49 {cc : ByteArray} {nL : Nat} {ret : Option FieldType} {d pc : Nat} {ls : List (Option VV)} {rest : List VV} {w : WW} {Q : Option VV → WW → Prop} {ini : Bool} {o : Nat} {a1 : VV} {Qc : Option VV → WW → Prop} (d' : Nat) (hd : decode cc pc = .ok (.invokevirtual 49, 3)) (hdd : d' + 1 ≤ d) (hrest : rest.length ≤ 8) (ho : o ≠ 0) (hC : E_Lk_meets d' [.inr (4, o), a1] w Qc) (kk : ∀ r1 w1, MON w w1 → Qc r1 w1 → XE "ShareServer$Node" cc nL ret ini d (pc + 3) ls (r1.toList ++ rest) w1 Q) : XE "ShareServer$Node" cc nL ret ini d pc ls (a1 :: .inr (4, o) :: rest) w Q := XE.callV (n := 1) (As := [a1]) hd ⟨(mt 450 (by decide +kernel) rfl), co_Lk_meets, (mt 51 (by decide +kernel) rfl), by decide, by decide +kernel, by decide +kernel, by decide +kernel⟩ rfl rfl (mt 451 (by decide +kernel) rfl) (mt 452 (by decide +kernel) rfl) ho rfl hrest hdd rfl hC kk
theorem pl_Nd_9 : PLD "ShareServer$Node" 9 true 1 0 := ⟨_, _, _, rfl, by decide, (mt 69 (by decide +kernel) rfl), Or.inr ⟨rfl, rfl, rfl⟩⟩
theorem p_Nd_9 {cc : ByteArray} {nL : Nat} {ret : Option FieldType} {d pc : Nat} {ls : List (Option VV)} {st : List VV} {w : WW} {Q : Option VV → WW → Prop} {o : Nat} {x : Int32} (hd : decode cc pc = .ok (.putfield 9, 3)) (ho : o ≠ 0) (kk : XE "ShareServer$Node" cc nL ret true d (pc + 3) ls st (sI w 1 o 0 x) Q) : XE "ShareServer$Node" cc nL ret true d pc ls (.inl x :: .inr (1, o) :: st) w Q := XE.putI hd pl_Nd_9 (Or.inl rfl) ho kk
theorem pl_Nd_15 {ini : Bool} : PLD "ShareServer$Node" 15 ini 1 2 := ⟨_, _, _, rfl, by decide, (mt 73 (by decide +kernel) rfl), Or.inl rfl⟩
theorem p_Nd_15 {cc : ByteArray} {nL : Nat} {ret : Option FieldType} {d pc : Nat} {ls : List (Option VV)} {st : List VV} {w : WW} {Q : Option VV → WW → Prop} {ini : Bool} {o : Nat} {x : Int32} (hd : decode cc pc = .ok (.putfield 15, 3)) (ho : o ≠ 0) (kk : XE "ShareServer$Node" cc nL ret ini d (pc + 3) ls st (sI w 1 o 2 x) Q) : XE "ShareServer$Node" cc nL ret ini d pc ls (.inl x :: .inr (1, o) :: st) w Q := XE.putI hd pl_Nd_15 (Or.inl rfl) ho kk
theorem pl_Nd_18 {ini : Bool} : PLD "ShareServer$Node" 18 ini 1 3 := ⟨_, _, _, rfl, by decide, (mt 75 (by decide +kernel) rfl), Or.inl rfl⟩
theorem p_Nd_18 {cc : ByteArray} {nL : Nat} {ret : Option FieldType} {d pc : Nat} {ls : List (Option VV)} {st : List VV} {w : WW} {Q : Option VV → WW → Prop} {ini : Bool} {o : Nat} {x : Int32} (hd : decode cc pc = .ok (.putfield 18, 3)) (ho : o ≠ 0) (kk : XE "ShareServer$Node" cc nL ret ini d (pc + 3) ls st (sI w 1 o 3 x) Q) : XE "ShareServer$Node" cc nL ret ini d pc ls (.inl x :: .inr (1, o) :: st) w Q := XE.putI hd pl_Nd_18 (Or.inl rfl) ho kk
theorem pl_Nd_21 : PLD "ShareServer$Node" 21 true 1 1 := ⟨_, _, _, rfl, by decide, (mt 71 (by decide +kernel) rfl), Or.inr ⟨rfl, rfl, rfl⟩⟩
theorem p_Nd_21 {cc : ByteArray} {nL : Nat} {ret : Option FieldType} {d pc : Nat} {ls : List (Option VV)} {st : List VV} {w : WW} {Q : Option VV → WW → Prop} {o : Nat} {x : Int32} (hd : decode cc pc = .ok (.putfield 21, 3)) (ho : o ≠ 0) (hb : x = 0 ∨ x = 1) (kk : XE "ShareServer$Node" cc nL ret true d (pc + 3) ls st (sI w 1 o 1 x) Q) : XE "ShareServer$Node" cc nL ret true d pc ls (.inl x :: .inr (1, o) :: st) w Q := XE.putI hd pl_Nd_21 (Or.inr ⟨rfl, hb⟩) ho kk
theorem pl_Nd_25 : PLD "ShareServer$Node" 25 true 1 5 := ⟨_, _, _, rfl, by decide, (mt 78 (by decide +kernel) rfl), Or.inr ⟨rfl, rfl, rfl⟩⟩
theorem p_Nd_25 {cc : ByteArray} {nL : Nat} {ret : Option FieldType} {d pc : Nat} {ls : List (Option VV)} {st : List VV} {w : WW} {Q : Option VV → WW → Prop} {o x k2 : Nat} (hd : decode cc pc = .ok (.putfield 25, 3)) (ho : o ≠ 0) (hk : k2 = 103 ∨ x = 0) (kk : XE "ShareServer$Node" cc nL ret true d (pc + 3) ls st (sR w 1 o 5 x) Q) : XE "ShareServer$Node" cc nL ret true d pc ls (.inr (k2, x) :: .inr (1, o) :: st) w Q := XE.putR hd pl_Nd_25 rfl hk ho kk
theorem pl_Nd_31 : PLD "ShareServer$Node" 31 true 1 6 := ⟨_, _, _, rfl, by decide, (mt 80 (by decide +kernel) rfl), Or.inr ⟨rfl, rfl, rfl⟩⟩
theorem p_Nd_31 {cc : ByteArray} {nL : Nat} {ret : Option FieldType} {d pc : Nat} {ls : List (Option VV)} {st : List VV} {w : WW} {Q : Option VV → WW → Prop} {o x k2 : Nat} (hd : decode cc pc = .ok (.putfield 31, 3)) (ho : o ≠ 0) (hk : k2 = 104 ∨ x = 0) (kk : XE "ShareServer$Node" cc nL ret true d (pc + 3) ls st (sR w 1 o 6 x) Q) : XE "ShareServer$Node" cc nL ret true d pc ls (.inr (k2, x) :: .inr (1, o) :: st) w Q := XE.putR hd pl_Nd_31 rfl hk ho kk
theorem pl_Nd_35 {ini : Bool} : PLD "ShareServer$Node" 35 ini 1 7 := ⟨_, _, _, rfl, by decide, (mt 81 (by decide +kernel) rfl), Or.inl rfl⟩
theorem p_Nd_35 {cc : ByteArray} {nL : Nat} {ret : Option FieldType} {d pc : Nat} {ls : List (Option VV)} {st : List VV} {w : WW} {Q : Option VV → WW → Prop} {ini : Bool} {o : Nat} {x : Int32} (hd : decode cc pc = .ok (.putfield 35, 3)) (ho : o ≠ 0) (kk : XE "ShareServer$Node" cc nL ret ini d (pc + 3) ls st (sI w 1 o 7 x) Q) : XE "ShareServer$Node" cc nL ret ini d pc ls (.inl x :: .inr (1, o) :: st) w Q := XE.putI hd pl_Nd_35 (Or.inl rfl) ho kk
theorem fl_Rq_21 : FLD "ShareServer$Request" 21 3 3 := ⟨_, _, _, rfl, by decide, (mt 178 (by decide +kernel) rfl)⟩
theorem g_Rq_21 {cc : ByteArray} {nL : Nat} {ret : Option FieldType} {d pc : Nat} {ls : List (Option VV)} {st : List VV} {w : WW} {Q : Option VV → WW → Prop} {ini : Bool} {o : Nat} {x : Int32} (hd : decode cc pc = .ok (.getfield 21, 3)) (ho : o ≠ 0) (hx : wI w 3 o 3 = x) (kk : XE "ShareServer$Request" cc nL ret ini d (pc + 3) ls (.inl x :: st) w Q) : XE "ShareServer$Request" cc nL ret ini d pc ls (.inr (3, o) :: st) w Q := XE.getI hd fl_Rq_21 (by decide) ho hx kk
theorem k_Rq_3 {cc : ByteArray} {nL : Nat} {ret : Option FieldType} {d pc : Nat} {ls : List (Option VV)} {st : List VV} {w : WW} {Q : Option VV → WW → Prop} {ini : Bool} {k o : Nat} (hd : decode cc pc = .ok (.invokespecial 3, 3)) (ho : o ≠ 0) (hrest : st.length ≤ 8) (hdd : 1 ≤ d) (kk : XE "ShareServer$Request" cc nL ret ini d (pc + 3) ls st w Q) : XE "ShareServer$Request" cc nL ret ini d pc ls (.inr (k, o) :: st) w Q := XE.objInit hd (mt 171 (by decide +kernel) rfl) oi_1 oi_2 ho hrest hdd kk
theorem pl_Rq_9 : PLD "ShareServer$Request" 9 true 3 0 := ⟨_, _, _, rfl, by decide, (mt 172 (by decide +kernel) rfl), Or.inr ⟨rfl, rfl, rfl⟩⟩
theorem p_Rq_9 {cc : ByteArray} {nL : Nat} {ret : Option FieldType} {d pc : Nat} {ls : List (Option VV)} {st : List VV} {w : WW} {Q : Option VV → WW → Prop} {o : Nat} {x : Int32} (hd : decode cc pc = .ok (.putfield 9, 3)) (ho : o ≠ 0) (kk : XE "ShareServer$Request" cc nL ret true d (pc + 3) ls st (sI w 3 o 0 x) Q) : XE "ShareServer$Request" cc nL ret true d pc ls (.inl x :: .inr (3, o) :: st) w Q := XE.putI hd pl_Rq_9 (Or.inl rfl) ho kk
theorem pl_Rq_15 : PLD "ShareServer$Request" 15 true 3 1 := ⟨_, _, _, rfl, by decide, (mt 174 (by decide +kernel) rfl), Or.inr ⟨rfl, rfl, rfl⟩⟩
theorem p_Rq_15 {cc : ByteArray} {nL : Nat} {ret : Option FieldType} {d pc : Nat} {ls : List (Option VV)} {st : List VV} {w : WW} {Q : Option VV → WW → Prop} {o : Nat} {x : Int32} (hd : decode cc pc = .ok (.putfield 15, 3)) (ho : o ≠ 0) (kk : XE "ShareServer$Request" cc nL ret true d (pc + 3) ls st (sI w 3 o 1 x) Q) : XE "ShareServer$Request" cc nL ret true d pc ls (.inl x :: .inr (3, o) :: st) w Q := XE.putI hd pl_Rq_15 (Or.inl rfl) ho kk
theorem pl_Rq_18 : PLD "ShareServer$Request" 18 true 3 2 := ⟨_, _, _, rfl, by decide, (mt 176 (by decide +kernel) rfl), Or.inr ⟨rfl, rfl, rfl⟩⟩
theorem p_Rq_18 {cc : ByteArray} {nL : Nat} {ret : Option FieldType} {d pc : Nat} {ls : List (Option VV)} {st : List VV} {w : WW} {Q : Option VV → WW → Prop} {o : Nat} {x : Int32} (hd : decode cc pc = .ok (.putfield 18, 3)) (ho : o ≠ 0) (kk : XE "ShareServer$Request" cc nL ret true d (pc + 3) ls st (sI w 3 o 2 x) Q) : XE "ShareServer$Request" cc nL ret true d pc ls (.inl x :: .inr (3, o) :: st) w Q := XE.putI hd pl_Rq_18 (Or.inl rfl) ho kk
theorem pl_Rq_21 : PLD "ShareServer$Request" 21 true 3 3 := ⟨_, _, _, rfl, by decide, (mt 178 (by decide +kernel) rfl), Or.inr ⟨rfl, rfl, rfl⟩⟩
theorem p_Rq_21 {cc : ByteArray} {nL : Nat} {ret : Option FieldType} {d pc : Nat} {ls : List (Option VV)} {st : List VV} {w : WW} {Q : Option VV → WW → Prop} {o : Nat} {x : Int32} (hd : decode cc pc = .ok (.putfield 21, 3)) (ho : o ≠ 0) (kk : XE "ShareServer$Request" cc nL ret true d (pc + 3) ls st (sI w 3 o 3 x) Q) : XE "ShareServer$Request" cc nL ret true d pc ls (.inl x :: .inr (3, o) :: st) w Q := XE.putI hd pl_Rq_21 (Or.inl rfl) ho kk
theorem pl_Rq_24 : PLD "ShareServer$Request" 24 true 3 4 := ⟨_, _, _, rfl, by decide, (mt 179 (by decide +kernel) rfl), Or.inr ⟨rfl, rfl, rfl⟩⟩
theorem p_Rq_24 {cc : ByteArray} {nL : Nat} {ret : Option FieldType} {d pc : Nat} {ls : List (Option VV)} {st : List VV} {w : WW} {Q : Option VV → WW → Prop} {o : Nat} {x : Int32} (hd : decode cc pc = .ok (.putfield 24, 3)) (ho : o ≠ 0) (kk : XE "ShareServer$Request" cc nL ret true d (pc + 3) ls st (sI w 3 o 4 x) Q) : XE "ShareServer$Request" cc nL ret true d pc ls (.inl x :: .inr (3, o) :: st) w Q := XE.putI hd pl_Rq_24 (Or.inl rfl) ho kk
theorem pl_Rq_27 {ini : Bool} : PLD "ShareServer$Request" 27 ini 3 5 := ⟨_, _, _, rfl, by decide, (mt 181 (by decide +kernel) rfl), Or.inl rfl⟩
theorem p_Rq_27 {cc : ByteArray} {nL : Nat} {ret : Option FieldType} {d pc : Nat} {ls : List (Option VV)} {st : List VV} {w : WW} {Q : Option VV → WW → Prop} {ini : Bool} {o : Nat} {x : Int32} (hd : decode cc pc = .ok (.putfield 27, 3)) (ho : o ≠ 0) (kk : XE "ShareServer$Request" cc nL ret ini d (pc + 3) ls st (sI w 3 o 5 x) Q) : XE "ShareServer$Request" cc nL ret ini d pc ls (.inl x :: .inr (3, o) :: st) w Q := XE.putI hd pl_Rq_27 (Or.inl rfl) ho kk
theorem k_Lw_9 {cc : ByteArray} {nL : Nat} {ret : Option FieldType} {d pc : Nat} {ls : List (Option VV)} {rest : List VV} {w : WW} {Q : Option VV → WW → Prop} {ini : Bool} {o : Nat} {Qc : Option VV → WW → Prop} (d' : Nat) (hd : decode cc pc = .ok (.invokespecial 9, 3)) (hdd : d' + 1 ≤ d) (hrest : rest.length ≤ 8) (ho : o ≠ 0) (hC : E_SS_init d' [.inr (0, o)] w Qc) (kk : ∀ r1 w1, MON w w1 → Qc r1 w1 → XE "ShareServerLaw" cc nL ret ini d (pc + 3) ls (r1.toList ++ rest) w1 Q) : XE "ShareServerLaw" cc nL ret ini d pc ls (.inr (0, o) :: rest) w Q := XE.callI (n := 0) (As := []) hd ⟨(mt 54 (by decide +kernel) rfl), co_SS_init, (mt 44 (by decide +kernel) rfl), by decide, by decide +kernel, by decide +kernel, by decide +kernel⟩ rfl (mt 55 (by decide +kernel) rfl) ho rfl hrest hdd rfl hC kk
theorem k_Lw_12 {cc : ByteArray} {nL : Nat} {ret : Option FieldType} {d pc : Nat} {ls : List (Option VV)} {rest : List VV} {w : WW} {Q : Option VV → WW → Prop} {ini : Bool} {o : Nat} {Qc : Option VV → WW → Prop} (d' : Nat) (hd : decode cc pc = .ok (.invokespecial 12, 3)) (hdd : d' + 1 ≤ d) (hrest : rest.length ≤ 8) (ho : o ≠ 0) (hC : E_Md_init d' [.inr (7, o)] w Qc) (kk : ∀ r1 w1, MON w w1 → Qc r1 w1 → XE "ShareServerLaw" cc nL ret ini d (pc + 3) ls (r1.toList ++ rest) w1 Q) : XE "ShareServerLaw" cc nL ret ini d pc ls (.inr (7, o) :: rest) w Q := XE.callI (n := 0) (As := []) hd ⟨(mt 522 (by decide +kernel) rfl), co_Md_init, (mt 47 (by decide +kernel) rfl), by decide, by decide +kernel, by decide +kernel, by decide +kernel⟩ rfl (mt 523 (by decide +kernel) rfl) ho rfl hrest hdd rfl hC kk
theorem k_Lw_13 {cc : ByteArray} {nL : Nat} {ret : Option FieldType} {d pc : Nat} {ls : List (Option VV)} {rest : List VV} {w : WW} {Q : Option VV → WW → Prop} {ini : Bool} {o : Nat} {a1 a2 a3 a4 a5 : VV} {Qc : Option VV → WW → Prop} (d' : Nat) (hd : decode cc pc = .ok (.invokevirtual 13, 3)) (hdd : d' + 1 ≤ d) (hrest : rest.length ≤ 8) (ho : o ≠ 0) (hC : E_SS_open d' [.inr (0, o), a1, a2, a3, a4, a5] w Qc) (kk : ∀ r1 w1, MON w w1 → Qc r1 w1 → XE "ShareServerLaw" cc nL ret ini d (pc + 3) ls (r1.toList ++ rest) w1 Q) : XE "ShareServerLaw" cc nL ret ini d pc ls (a5 :: a4 :: a3 :: a2 :: a1 :: .inr (0, o) :: rest) w Q := XE.callV (n := 5) (As := [a1, a2, a3, a4, a5]) hd ⟨(mt 154 (by decide +kernel) rfl), co_SS_open, (mt 44 (by decide +kernel) rfl), by decide, by decide +kernel, by decide +kernel, by decide +kernel⟩ rfl rfl (mt 155 (by decide +kernel) rfl) (mt 156 (by decide +kernel) rfl) ho rfl hrest hdd rfl hC kk
theorem k_Lw_17 {cc : ByteArray} {nL : Nat} {ret : Option FieldType} {d pc : Nat} {ls : List (Option VV)} {rest : List VV} {w : WW} {Q : Option VV → WW → Prop} {ini : Bool} {o : Nat} {a1 a2 a3 a4 a5 : VV} {Qc : Option VV → WW → Prop} (d' : Nat) (hd : decode cc pc = .ok (.invokevirtual 17, 3)) (hdd : d' + 1 ≤ d) (hrest : rest.length ≤ 8) (ho : o ≠ 0) (hC : E_Md_open d' [.inr (7, o), a1, a2, a3, a4, a5] w Qc) (kk : ∀ r1 w1, MON w w1 → Qc r1 w1 → XE "ShareServerLaw" cc nL ret ini d (pc + 3) ls (r1.toList ++ rest) w1 Q) : XE "ShareServerLaw" cc nL ret ini d pc ls (a5 :: a4 :: a3 :: a2 :: a1 :: .inr (7, o) :: rest) w Q := XE.callV (n := 5) (As := [a1, a2, a3, a4, a5]) hd ⟨(mt 579 (by decide +kernel) rfl), co_Md_open, (mt 47 (by decide +kernel) rfl), by decide, by decide +kernel, by decide +kernel, by decide +kernel⟩ rfl rfl (mt 580 (by decide +kernel) rfl) (mt 581 (by decide +kernel) rfl) ho rfl hrest hdd rfl hC kk
theorem k_Lw_18 {cc : ByteArray} {nL : Nat} {ret : Option FieldType} {d pc : Nat} {ls : List (Option VV)} {rest : List VV} {w : WW} {Q : Option VV → WW → Prop} {ini : Bool} {o : Nat} {a1 : VV} {Qc : Option VV → WW → Prop} (d' : Nat) (hd : decode cc pc = .ok (.invokevirtual 18, 3)) (hdd : d' + 1 ≤ d) (hrest : rest.length ≤ 8) (ho : o ≠ 0) (hC : E_SS_outcome d' [.inr (0, o), a1] w Qc) (kk : ∀ r1 w1, MON w w1 → Qc r1 w1 → XE "ShareServerLaw" cc nL ret ini d (pc + 3) ls (r1.toList ++ rest) w1 Q) : XE "ShareServerLaw" cc nL ret ini d pc ls (a1 :: .inr (0, o) :: rest) w Q := XE.callV (n := 1) (As := [a1]) hd ⟨(mt 320 (by decide +kernel) rfl), co_SS_outcome, (mt 44 (by decide +kernel) rfl), by decide, by decide +kernel, by decide +kernel, by decide +kernel⟩ rfl rfl (mt 321 (by decide +kernel) rfl) (mt 322 (by decide +kernel) rfl) ho rfl hrest hdd rfl hC kk
theorem k_Lw_22 {cc : ByteArray} {nL : Nat} {ret : Option FieldType} {d pc : Nat} {ls : List (Option VV)} {rest : List VV} {w : WW} {Q : Option VV → WW → Prop} {ini : Bool} {o : Nat} {a1 : VV} {Qc : Option VV → WW → Prop} (d' : Nat) (hd : decode cc pc = .ok (.invokevirtual 22, 3)) (hdd : d' + 1 ≤ d) (hrest : rest.length ≤ 8) (ho : o ≠ 0) (hC : E_Md_outcome d' [.inr (7, o), a1] w Qc) (kk : ∀ r1 w1, MON w w1 → Qc r1 w1 → XE "ShareServerLaw" cc nL ret ini d (pc + 3) ls (r1.toList ++ rest) w1 Q) : XE "ShareServerLaw" cc nL ret ini d pc ls (a1 :: .inr (7, o) :: rest) w Q := XE.callV (n := 1) (As := [a1]) hd ⟨(mt 622 (by decide +kernel) rfl), co_Md_outcome, (mt 47 (by decide +kernel) rfl), by decide, by decide +kernel, by decide +kernel, by decide +kernel⟩ rfl rfl (mt 623 (by decide +kernel) rfl) (mt 624 (by decide +kernel) rfl) ho rfl hrest hdd rfl hC kk
theorem k_Lw_23 {cc : ByteArray} {nL : Nat} {ret : Option FieldType} {d pc : Nat} {ls : List (Option VV)} {rest : List VV} {w : WW} {Q : Option VV → WW → Prop} {ini : Bool} {o : Nat} {a1 : VV} {Qc : Option VV → WW → Prop} (d' : Nat) (hd : decode cc pc = .ok (.invokevirtual 23, 3)) (hdd : d' + 1 ≤ d) (hrest : rest.length ≤ 8) (ho : o ≠ 0) (hC : E_SS_cancel d' [.inr (0, o), a1] w Qc) (kk : ∀ r1 w1, MON w w1 → Qc r1 w1 → XE "ShareServerLaw" cc nL ret ini d (pc + 3) ls (r1.toList ++ rest) w1 Q) : XE "ShareServerLaw" cc nL ret ini d pc ls (a1 :: .inr (0, o) :: rest) w Q := XE.callV (n := 1) (As := [a1]) hd ⟨(mt 328 (by decide +kernel) rfl), co_SS_cancel, (mt 44 (by decide +kernel) rfl), by decide, by decide +kernel, by decide +kernel, by decide +kernel⟩ rfl rfl (mt 329 (by decide +kernel) rfl) (mt 330 (by decide +kernel) rfl) ho rfl hrest hdd rfl hC kk
theorem k_Lw_26 {cc : ByteArray} {nL : Nat} {ret : Option FieldType} {d pc : Nat} {ls : List (Option VV)} {rest : List VV} {w : WW} {Q : Option VV → WW → Prop} {ini : Bool} {o : Nat} {a1 : VV} {Qc : Option VV → WW → Prop} (d' : Nat) (hd : decode cc pc = .ok (.invokevirtual 26, 3)) (hdd : d' + 1 ≤ d) (hrest : rest.length ≤ 8) (ho : o ≠ 0) (hC : E_Md_cancel d' [.inr (7, o), a1] w Qc) (kk : ∀ r1 w1, MON w w1 → Qc r1 w1 → XE "ShareServerLaw" cc nL ret ini d (pc + 3) ls (r1.toList ++ rest) w1 Q) : XE "ShareServerLaw" cc nL ret ini d pc ls (a1 :: .inr (7, o) :: rest) w Q := XE.callV (n := 1) (As := [a1]) hd ⟨(mt 626 (by decide +kernel) rfl), co_Md_cancel, (mt 47 (by decide +kernel) rfl), by decide, by decide +kernel, by decide +kernel, by decide +kernel⟩ rfl rfl (mt 627 (by decide +kernel) rfl) (mt 628 (by decide +kernel) rfl) ho rfl hrest hdd rfl hC kk
theorem k_Lw_27 {cc : ByteArray} {nL : Nat} {ret : Option FieldType} {d pc : Nat} {ls : List (Option VV)} {rest : List VV} {w : WW} {Q : Option VV → WW → Prop} {ini : Bool} {o : Nat} {a1 : VV} {Qc : Option VV → WW → Prop} (d' : Nat) (hd : decode cc pc = .ok (.invokevirtual 27, 3)) (hdd : d' + 1 ≤ d) (hrest : rest.length ≤ 8) (ho : o ≠ 0) (hC : E_SS_giveUp d' [.inr (0, o), a1] w Qc) (kk : ∀ r1 w1, MON w w1 → Qc r1 w1 → XE "ShareServerLaw" cc nL ret ini d (pc + 3) ls (r1.toList ++ rest) w1 Q) : XE "ShareServerLaw" cc nL ret ini d pc ls (a1 :: .inr (0, o) :: rest) w Q := XE.callV (n := 1) (As := [a1]) hd ⟨(mt 332 (by decide +kernel) rfl), co_SS_giveUp, (mt 44 (by decide +kernel) rfl), by decide, by decide +kernel, by decide +kernel, by decide +kernel⟩ rfl rfl (mt 333 (by decide +kernel) rfl) (mt 334 (by decide +kernel) rfl) ho rfl hrest hdd rfl hC kk
theorem k_Lw_30 {cc : ByteArray} {nL : Nat} {ret : Option FieldType} {d pc : Nat} {ls : List (Option VV)} {rest : List VV} {w : WW} {Q : Option VV → WW → Prop} {ini : Bool} {o : Nat} {a1 : VV} {Qc : Option VV → WW → Prop} (d' : Nat) (hd : decode cc pc = .ok (.invokevirtual 30, 3)) (hdd : d' + 1 ≤ d) (hrest : rest.length ≤ 8) (ho : o ≠ 0) (hC : E_Md_giveUp d' [.inr (7, o), a1] w Qc) (kk : ∀ r1 w1, MON w w1 → Qc r1 w1 → XE "ShareServerLaw" cc nL ret ini d (pc + 3) ls (r1.toList ++ rest) w1 Q) : XE "ShareServerLaw" cc nL ret ini d pc ls (a1 :: .inr (7, o) :: rest) w Q := XE.callV (n := 1) (As := [a1]) hd ⟨(mt 630 (by decide +kernel) rfl), co_Md_giveUp, (mt 47 (by decide +kernel) rfl), by decide, by decide +kernel, by decide +kernel, by decide +kernel⟩ rfl rfl (mt 631 (by decide +kernel) rfl) (mt 632 (by decide +kernel) rfl) ho rfl hrest hdd rfl hC kk
theorem k_Lw_31 {cc : ByteArray} {nL : Nat} {ret : Option FieldType} {d pc : Nat} {ls : List (Option VV)} {rest : List VV} {w : WW} {Q : Option VV → WW → Prop} {ini : Bool} {o : Nat} {a1 : VV} {Qc : Option VV → WW → Prop} (d' : Nat) (hd : decode cc pc = .ok (.invokevirtual 31, 3)) (hdd : d' + 1 ≤ d) (hrest : rest.length ≤ 8) (ho : o ≠ 0) (hC : E_SS_close d' [.inr (0, o), a1] w Qc) (kk : ∀ r1 w1, MON w w1 → Qc r1 w1 → XE "ShareServerLaw" cc nL ret ini d (pc + 3) ls (r1.toList ++ rest) w1 Q) : XE "ShareServerLaw" cc nL ret ini d pc ls (a1 :: .inr (0, o) :: rest) w Q := XE.callV (n := 1) (As := [a1]) hd ⟨(mt 344 (by decide +kernel) rfl), co_SS_close, (mt 44 (by decide +kernel) rfl), by decide, by decide +kernel, by decide +kernel, by decide +kernel⟩ rfl rfl (mt 345 (by decide +kernel) rfl) (mt 346 (by decide +kernel) rfl) ho rfl hrest hdd rfl hC kk
theorem k_Lw_34 {cc : ByteArray} {nL : Nat} {ret : Option FieldType} {d pc : Nat} {ls : List (Option VV)} {rest : List VV} {w : WW} {Q : Option VV → WW → Prop} {ini : Bool} {o : Nat} {a1 : VV} {Qc : Option VV → WW → Prop} (d' : Nat) (hd : decode cc pc = .ok (.invokevirtual 34, 3)) (hdd : d' + 1 ≤ d) (hrest : rest.length ≤ 8) (ho : o ≠ 0) (hC : E_Md_close d' [.inr (7, o), a1] w Qc) (kk : ∀ r1 w1, MON w w1 → Qc r1 w1 → XE "ShareServerLaw" cc nL ret ini d (pc + 3) ls (r1.toList ++ rest) w1 Q) : XE "ShareServerLaw" cc nL ret ini d pc ls (a1 :: .inr (7, o) :: rest) w Q := XE.callV (n := 1) (As := [a1]) hd ⟨(mt 642 (by decide +kernel) rfl), co_Md_close, (mt 47 (by decide +kernel) rfl), by decide, by decide +kernel, by decide +kernel, by decide +kernel⟩ rfl rfl (mt 643 (by decide +kernel) rfl) (mt 644 (by decide +kernel) rfl) ho rfl hrest hdd rfl hC kk
theorem k_Lw_35 {cc : ByteArray} {nL : Nat} {ret : Option FieldType} {d pc : Nat} {ls : List (Option VV)} {rest : List VV} {w : WW} {Q : Option VV → WW → Prop} {ini : Bool} {o : Nat} {a1 a2 : VV} {Qc : Option VV → WW → Prop} (d' : Nat) (hd : decode cc pc = .ok (.invokevirtual 35, 3)) (hdd : d' + 1 ≤ d) (hrest : rest.length ≤ 8) (ho : o ≠ 0) (hC : E_SS_doom d' [.inr (0, o), a1, a2] w Qc) (kk : ∀ r1 w1, MON w w1 → Qc r1 w1 → XE "ShareServerLaw" cc nL ret ini d (pc + 3) ls (r1.toList ++ rest) w1 Q) : XE "ShareServerLaw" cc nL ret ini d pc ls (a2 :: a1 :: .inr (0, o) :: rest) w Q := XE.callV (n := 2) (As := [a1, a2]) hd ⟨(mt 372 (by decide +kernel) rfl), co_SS_doom, (mt 44 (by decide +kernel) rfl), by decide, by decide +kernel, by decide +kernel, by decide +kernel⟩ rfl rfl (mt 373 (by decide +kernel) rfl) (mt 374 (by decide +kernel) rfl) ho rfl hrest hdd rfl hC kk
theorem k_Lw_39 {cc : ByteArray} {nL : Nat} {ret : Option FieldType} {d pc : Nat} {ls : List (Option VV)} {rest : List VV} {w : WW} {Q : Option VV → WW → Prop} {ini : Bool} {o : Nat} {a1 a2 : VV} {Qc : Option VV → WW → Prop} (d' : Nat) (hd : decode cc pc = .ok (.invokevirtual 39, 3)) (hdd : d' + 1 ≤ d) (hrest : rest.length ≤ 8) (ho : o ≠ 0) (hC : E_Md_doom d' [.inr (7, o), a1, a2] w Qc) (kk : ∀ r1 w1, MON w w1 → Qc r1 w1 → XE "ShareServerLaw" cc nL ret ini d (pc + 3) ls (r1.toList ++ rest) w1 Q) : XE "ShareServerLaw" cc nL ret ini d pc ls (a2 :: a1 :: .inr (7, o) :: rest) w Q := XE.callV (n := 2) (As := [a1, a2]) hd ⟨(mt 654 (by decide +kernel) rfl), co_Md_doom, (mt 47 (by decide +kernel) rfl), by decide, by decide +kernel, by decide +kernel, by decide +kernel⟩ rfl rfl (mt 655 (by decide +kernel) rfl) (mt 656 (by decide +kernel) rfl) ho rfl hrest hdd rfl hC kk
theorem k_Lw_40 {cc : ByteArray} {nL : Nat} {ret : Option FieldType} {d pc : Nat} {ls : List (Option VV)} {rest : List VV} {w : WW} {Q : Option VV → WW → Prop} {ini : Bool} {o : Nat} {a1 a2 a3 : VV} {Qc : Option VV → WW → Prop} (d' : Nat) (hd : decode cc pc = .ok (.invokevirtual 40, 3)) (hdd : d' + 1 ≤ d) (hrest : rest.length ≤ 8) (ho : o ≠ 0) (hC : E_SS_move d' [.inr (0, o), a1, a2, a3] w Qc) (kk : ∀ r1 w1, MON w w1 → Qc r1 w1 → XE "ShareServerLaw" cc nL ret ini d (pc + 3) ls (r1.toList ++ rest) w1 Q) : XE "ShareServerLaw" cc nL ret ini d pc ls (a3 :: a2 :: a1 :: .inr (0, o) :: rest) w Q := XE.callV (n := 3) (As := [a1, a2, a3]) hd ⟨(mt 380 (by decide +kernel) rfl), co_SS_move, (mt 44 (by decide +kernel) rfl), by decide, by decide +kernel, by decide +kernel, by decide +kernel⟩ rfl rfl (mt 381 (by decide +kernel) rfl) (mt 382 (by decide +kernel) rfl) ho rfl hrest hdd rfl hC kk
theorem k_Lw_44 {cc : ByteArray} {nL : Nat} {ret : Option FieldType} {d pc : Nat} {ls : List (Option VV)} {rest : List VV} {w : WW} {Q : Option VV → WW → Prop} {ini : Bool} {o : Nat} {a1 a2 a3 : VV} {Qc : Option VV → WW → Prop} (d' : Nat) (hd : decode cc pc = .ok (.invokevirtual 44, 3)) (hdd : d' + 1 ≤ d) (hrest : rest.length ≤ 8) (ho : o ≠ 0) (hC : E_Md_move d' [.inr (7, o), a1, a2, a3] w Qc) (kk : ∀ r1 w1, MON w w1 → Qc r1 w1 → XE "ShareServerLaw" cc nL ret ini d (pc + 3) ls (r1.toList ++ rest) w1 Q) : XE "ShareServerLaw" cc nL ret ini d pc ls (a3 :: a2 :: a1 :: .inr (7, o) :: rest) w Q := XE.callV (n := 3) (As := [a1, a2, a3]) hd ⟨(mt 658 (by decide +kernel) rfl), co_Md_move, (mt 47 (by decide +kernel) rfl), by decide, by decide +kernel, by decide +kernel, by decide +kernel⟩ rfl rfl (mt 659 (by decide +kernel) rfl) (mt 660 (by decide +kernel) rfl) ho rfl hrest hdd rfl hC kk
theorem k_Lw_45 {cc : ByteArray} {nL : Nat} {ret : Option FieldType} {d pc : Nat} {ls : List (Option VV)} {rest : List VV} {w : WW} {Q : Option VV → WW → Prop} {ini : Bool} {o : Nat} {a1 a2 : VV} {Qc : Option VV → WW → Prop} (d' : Nat) (hd : decode cc pc = .ok (.invokevirtual 45, 3)) (hdd : d' + 1 ≤ d) (hrest : rest.length ≤ 8) (ho : o ≠ 0) (hC : E_SS_read d' [.inr (0, o), a1, a2] w Qc) (kk : ∀ r1 w1, MON w w1 → Qc r1 w1 → XE "ShareServerLaw" cc nL ret ini d (pc + 3) ls (r1.toList ++ rest) w1 Q) : XE "ShareServerLaw" cc nL ret ini d pc ls (a2 :: a1 :: .inr (0, o) :: rest) w Q := XE.callV (n := 2) (As := [a1, a2]) hd ⟨(mt 388 (by decide +kernel) rfl), co_SS_read, (mt 44 (by decide +kernel) rfl), by decide, by decide +kernel, by decide +kernel, by decide +kernel⟩ rfl rfl (mt 389 (by decide +kernel) rfl) (mt 390 (by decide +kernel) rfl) ho rfl hrest hdd rfl hC kk
theorem k_Lw_49 {cc : ByteArray} {nL : Nat} {ret : Option FieldType} {d pc : Nat} {ls : List (Option VV)} {rest : List VV} {w : WW} {Q : Option VV → WW → Prop} {ini : Bool} {o : Nat} {a1 a2 : VV} {Qc : Option VV → WW → Prop} (d' : Nat) (hd : decode cc pc = .ok (.invokevirtual 49, 3)) (hdd : d' + 1 ≤ d) (hrest : rest.length ≤ 8) (ho : o ≠ 0) (hC : E_Md_read d' [.inr (7, o), a1, a2] w Qc) (kk : ∀ r1 w1, MON w w1 → Qc r1 w1 → XE "ShareServerLaw" cc nL ret ini d (pc + 3) ls (r1.toList ++ rest) w1 Q) : XE "ShareServerLaw" cc nL ret ini d pc ls (a2 :: a1 :: .inr (7, o) :: rest) w Q := XE.callV (n := 2) (As := [a1, a2]) hd ⟨(mt 662 (by decide +kernel) rfl), co_Md_read, (mt 47 (by decide +kernel) rfl), by decide, by decide +kernel, by decide +kernel, by decide +kernel⟩ rfl rfl (mt 663 (by decide +kernel) rfl) (mt 664 (by decide +kernel) rfl) ho rfl hrest hdd rfl hC kk
theorem k_Lw_50 {cc : ByteArray} {nL : Nat} {ret : Option FieldType} {d pc : Nat} {ls : List (Option VV)} {rest : List VV} {w : WW} {Q : Option VV → WW → Prop} {ini : Bool} {o : Nat} {Qc : Option VV → WW → Prop} (d' : Nat) (hd : decode cc pc = .ok (.invokevirtual 50, 3)) (hdd : d' + 1 ≤ d) (hrest : rest.length ≤ 8) (ho : o ≠ 0) (hC : E_SS_value d' [.inr (0, o)] w Qc) (kk : ∀ r1 w1, MON w w1 → Qc r1 w1 → XE "ShareServerLaw" cc nL ret ini d (pc + 3) ls (r1.toList ++ rest) w1 Q) : XE "ShareServerLaw" cc nL ret ini d pc ls (.inr (0, o) :: rest) w Q := XE.callV (n := 0) (As := []) hd ⟨(mt 400 (by decide +kernel) rfl), co_SS_value, (mt 44 (by decide +kernel) rfl), by decide, by decide +kernel, by decide +kernel, by decide +kernel⟩ rfl rfl (mt 401 (by decide +kernel) rfl) (mt 402 (by decide +kernel) rfl) ho rfl hrest hdd rfl hC kk
theorem k_Lw_54 {cc : ByteArray} {nL : Nat} {ret : Option FieldType} {d pc : Nat} {ls : List (Option VV)} {rest : List VV} {w : WW} {Q : Option VV → WW → Prop} {ini : Bool} {o : Nat} {Qc : Option VV → WW → Prop} (d' : Nat) (hd : decode cc pc = .ok (.invokevirtual 54, 3)) (hdd : d' + 1 ≤ d) (hrest : rest.length ≤ 8) (ho : o ≠ 0) (hC : E_Md_value d' [.inr (7, o)] w Qc) (kk : ∀ r1 w1, MON w w1 → Qc r1 w1 → XE "ShareServerLaw" cc nL ret ini d (pc + 3) ls (r1.toList ++ rest) w1 Q) : XE "ShareServerLaw" cc nL ret ini d pc ls (.inr (7, o) :: rest) w Q := XE.callV (n := 0) (As := []) hd ⟨(mt 674 (by decide +kernel) rfl), co_Md_value, (mt 47 (by decide +kernel) rfl), by decide, by decide +kernel, by decide +kernel, by decide +kernel⟩ rfl rfl (mt 675 (by decide +kernel) rfl) (mt 676 (by decide +kernel) rfl) ho rfl hrest hdd rfl hC kk
theorem k_Lw_55 {cc : ByteArray} {nL : Nat} {ret : Option FieldType} {d pc : Nat} {ls : List (Option VV)} {rest : List VV} {w : WW} {Q : Option VV → WW → Prop} {ini : Bool} {o : Nat} {a1 a2 a3 : VV} {Qc : Option VV → WW → Prop} (d' : Nat) (hd : decode cc pc = .ok (.invokevirtual 55, 3)) (hdd : d' + 1 ≤ d) (hrest : rest.length ≤ 8) (ho : o ≠ 0) (hC : E_SS_write d' [.inr (0, o), a1, a2, a3] w Qc) (kk : ∀ r1 w1, MON w w1 → Qc r1 w1 → XE "ShareServerLaw" cc nL ret ini d (pc + 3) ls (r1.toList ++ rest) w1 Q) : XE "ShareServerLaw" cc nL ret ini d pc ls (a3 :: a2 :: a1 :: .inr (0, o) :: rest) w Q := XE.callV (n := 3) (As := [a1, a2, a3]) hd ⟨(mt 404 (by decide +kernel) rfl), co_SS_write, (mt 44 (by decide +kernel) rfl), by decide, by decide +kernel, by decide +kernel, by decide +kernel⟩ rfl rfl (mt 405 (by decide +kernel) rfl) (mt 406 (by decide +kernel) rfl) ho rfl hrest hdd rfl hC kk
theorem k_Lw_58 {cc : ByteArray} {nL : Nat} {ret : Option FieldType} {d pc : Nat} {ls : List (Option VV)} {rest : List VV} {w : WW} {Q : Option VV → WW → Prop} {ini : Bool} {o : Nat} {a1 a2 a3 : VV} {Qc : Option VV → WW → Prop} (d' : Nat) (hd : decode cc pc = .ok (.invokevirtual 58, 3)) (hdd : d' + 1 ≤ d) (hrest : rest.length ≤ 8) (ho : o ≠ 0) (hC : E_Md_write d' [.inr (7, o), a1, a2, a3] w Qc) (kk : ∀ r1 w1, MON w w1 → Qc r1 w1 → XE "ShareServerLaw" cc nL ret ini d (pc + 3) ls (r1.toList ++ rest) w1 Q) : XE "ShareServerLaw" cc nL ret ini d pc ls (a3 :: a2 :: a1 :: .inr (7, o) :: rest) w Q := XE.callV (n := 3) (As := [a1, a2, a3]) hd ⟨(mt 678 (by decide +kernel) rfl), co_Md_write, (mt 47 (by decide +kernel) rfl), by decide, by decide +kernel, by decide +kernel, by decide +kernel⟩ rfl rfl (mt 679 (by decide +kernel) rfl) (mt 680 (by decide +kernel) rfl) ho rfl hrest hdd rfl hC kk
theorem k_Lw_59 {cc : ByteArray} {nL : Nat} {ret : Option FieldType} {d pc : Nat} {ls : List (Option VV)} {rest : List VV} {w : WW} {Q : Option VV → WW → Prop} {ini : Bool} {o : Nat} {a1 a2 a3 a4 : VV} {Qc : Option VV → WW → Prop} (d' : Nat) (hd : decode cc pc = .ok (.invokevirtual 59, 3)) (hdd : d' + 1 ≤ d) (hrest : rest.length ≤ 8) (ho : o ≠ 0) (hC : E_SS_lock d' [.inr (0, o), a1, a2, a3, a4] w Qc) (kk : ∀ r1 w1, MON w w1 → Qc r1 w1 → XE "ShareServerLaw" cc nL ret ini d (pc + 3) ls (r1.toList ++ rest) w1 Q) : XE "ShareServerLaw" cc nL ret ini d pc ls (a4 :: a3 :: a2 :: a1 :: .inr (0, o) :: rest) w Q := XE.callV (n := 4) (As := [a1, a2, a3, a4]) hd ⟨(mt 416 (by decide +kernel) rfl), co_SS_lock, (mt 44 (by decide +kernel) rfl), by decide, by decide +kernel, by decide +kernel, by decide +kernel⟩ rfl rfl (mt 417 (by decide +kernel) rfl) (mt 418 (by decide +kernel) rfl) ho rfl hrest hdd rfl hC kk
theorem k_Lw_63 {cc : ByteArray} {nL : Nat} {ret : Option FieldType} {d pc : Nat} {ls : List (Option VV)} {rest : List VV} {w : WW} {Q : Option VV → WW → Prop} {ini : Bool} {o : Nat} {a1 a2 a3 a4 : VV} {Qc : Option VV → WW → Prop} (d' : Nat) (hd : decode cc pc = .ok (.invokevirtual 63, 3)) (hdd : d' + 1 ≤ d) (hrest : rest.length ≤ 8) (ho : o ≠ 0) (hC : E_Md_lock d' [.inr (7, o), a1, a2, a3, a4] w Qc) (kk : ∀ r1 w1, MON w w1 → Qc r1 w1 → XE "ShareServerLaw" cc nL ret ini d (pc + 3) ls (r1.toList ++ rest) w1 Q) : XE "ShareServerLaw" cc nL ret ini d pc ls (a4 :: a3 :: a2 :: a1 :: .inr (7, o) :: rest) w Q := XE.callV (n := 4) (As := [a1, a2, a3, a4]) hd ⟨(mt 682 (by decide +kernel) rfl), co_Md_lock, (mt 47 (by decide +kernel) rfl), by decide, by decide +kernel, by decide +kernel, by decide +kernel⟩ rfl rfl (mt 683 (by decide +kernel) rfl) (mt 684 (by decide +kernel) rfl) ho rfl hrest hdd rfl hC kk
theorem k_Lw_64 {cc : ByteArray} {nL : Nat} {ret : Option FieldType} {d pc : Nat} {ls : List (Option VV)} {rest : List VV} {w : WW} {Q : Option VV → WW → Prop} {ini : Bool} {o : Nat} {a1 a2 a3 : VV} {Qc : Option VV → WW → Prop} (d' : Nat) (hd : decode cc pc = .ok (.invokevirtual 64, 3)) (hdd : d' + 1 ≤ d) (hrest : rest.length ≤ 8) (ho : o ≠ 0) (hC : E_SS_unlock d' [.inr (0, o), a1, a2, a3] w Qc) (kk : ∀ r1 w1, MON w w1 → Qc r1 w1 → XE "ShareServerLaw" cc nL ret ini d (pc + 3) ls (r1.toList ++ rest) w1 Q) : XE "ShareServerLaw" cc nL ret ini d pc ls (a3 :: a2 :: a1 :: .inr (0, o) :: rest) w Q := XE.callV (n := 3) (As := [a1, a2, a3]) hd ⟨(mt 459 (by decide +kernel) rfl), co_SS_unlock, (mt 44 (by decide +kernel) rfl), by decide, by decide +kernel, by decide +kernel, by decide +kernel⟩ rfl rfl (mt 460 (by decide +kernel) rfl) (mt 461 (by decide +kernel) rfl) ho rfl hrest hdd rfl hC kk
theorem k_Lw_67 {cc : ByteArray} {nL : Nat} {ret : Option FieldType} {d pc : Nat} {ls : List (Option VV)} {rest : List VV} {w : WW} {Q : Option VV → WW → Prop} {ini : Bool} {o : Nat} {a1 a2 a3 : VV} {Qc : Option VV → WW → Prop} (d' : Nat) (hd : decode cc pc = .ok (.invokevirtual 67, 3)) (hdd : d' + 1 ≤ d) (hrest : rest.length ≤ 8) (ho : o ≠ 0) (hC : E_Md_unlock d' [.inr (7, o), a1, a2, a3] w Qc) (kk : ∀ r1 w1, MON w w1 → Qc r1 w1 → XE "ShareServerLaw" cc nL ret ini d (pc + 3) ls (r1.toList ++ rest) w1 Q) : XE "ShareServerLaw" cc nL ret ini d pc ls (a3 :: a2 :: a1 :: .inr (7, o) :: rest) w Q := XE.callV (n := 3) (As := [a1, a2, a3]) hd ⟨(mt 694 (by decide +kernel) rfl), co_Md_unlock, (mt 47 (by decide +kernel) rfl), by decide, by decide +kernel, by decide +kernel, by decide +kernel⟩ rfl rfl (mt 695 (by decide +kernel) rfl) (mt 696 (by decide +kernel) rfl) ho rfl hrest hdd rfl hC kk
theorem k_Lw_68 {cc : ByteArray} {nL : Nat} {ret : Option FieldType} {d pc : Nat} {ls : List (Option VV)} {rest : List VV} {w : WW} {Q : Option VV → WW → Prop} {ini : Bool} {o : Nat} {Qc : Option VV → WW → Prop} (d' : Nat) (hd : decode cc pc = .ok (.invokevirtual 68, 3)) (hdd : d' + 1 ≤ d) (hrest : rest.length ≤ 8) (ho : o ≠ 0) (hC : E_SS_sync d' [.inr (0, o)] w Qc) (kk : ∀ r1 w1, MON w w1 → Qc r1 w1 → XE "ShareServerLaw" cc nL ret ini d (pc + 3) ls (r1.toList ++ rest) w1 Q) : XE "ShareServerLaw" cc nL ret ini d pc ls (.inr (0, o) :: rest) w Q := XE.callV (n := 0) (As := []) hd ⟨(mt 471 (by decide +kernel) rfl), co_SS_sync, (mt 44 (by decide +kernel) rfl), by decide, by decide +kernel, by decide +kernel, by decide +kernel⟩ rfl rfl (mt 472 (by decide +kernel) rfl) (mt 473 (by decide +kernel) rfl) ho rfl hrest hdd rfl hC kk
theorem k_Lw_71 {cc : ByteArray} {nL : Nat} {ret : Option FieldType} {d pc : Nat} {ls : List (Option VV)} {rest : List VV} {w : WW} {Q : Option VV → WW → Prop} {ini : Bool} {o : Nat} {Qc : Option VV → WW → Prop} (d' : Nat) (hd : decode cc pc = .ok (.invokevirtual 71, 3)) (hdd : d' + 1 ≤ d) (hrest : rest.length ≤ 8) (ho : o ≠ 0) (hC : E_Md_sync d' [.inr (7, o)] w Qc) (kk : ∀ r1 w1, MON w w1 → Qc r1 w1 → XE "ShareServerLaw" cc nL ret ini d (pc + 3) ls (r1.toList ++ rest) w1 Q) : XE "ShareServerLaw" cc nL ret ini d pc ls (.inr (7, o) :: rest) w Q := XE.callV (n := 0) (As := []) hd ⟨(mt 698 (by decide +kernel) rfl), co_Md_sync, (mt 47 (by decide +kernel) rfl), by decide, by decide +kernel, by decide +kernel, by decide +kernel⟩ rfl rfl (mt 699 (by decide +kernel) rfl) (mt 700 (by decide +kernel) rfl) ho rfl hrest hdd rfl hC kk
theorem k_Lw_72 {cc : ByteArray} {nL : Nat} {ret : Option FieldType} {d pc : Nat} {ls : List (Option VV)} {rest : List VV} {w : WW} {Q : Option VV → WW → Prop} {ini : Bool} {o : Nat} {Qc : Option VV → WW → Prop} (d' : Nat) (hd : decode cc pc = .ok (.invokevirtual 72, 3)) (hdd : d' + 1 ≤ d) (hrest : rest.length ≤ 8) (ho : o ≠ 0) (hC : E_SS_crash d' [.inr (0, o)] w Qc) (kk : ∀ r1 w1, MON w w1 → Qc r1 w1 → XE "ShareServerLaw" cc nL ret ini d (pc + 3) ls (r1.toList ++ rest) w1 Q) : XE "ShareServerLaw" cc nL ret ini d pc ls (.inr (0, o) :: rest) w Q := XE.callV (n := 0) (As := []) hd ⟨(mt 480 (by decide +kernel) rfl), co_SS_crash, (mt 44 (by decide +kernel) rfl), by decide, by decide +kernel, by decide +kernel, by decide +kernel⟩ rfl rfl (mt 481 (by decide +kernel) rfl) (mt 482 (by decide +kernel) rfl) ho rfl hrest hdd rfl hC kk
theorem k_Lw_75 {cc : ByteArray} {nL : Nat} {ret : Option FieldType} {d pc : Nat} {ls : List (Option VV)} {rest : List VV} {w : WW} {Q : Option VV → WW → Prop} {ini : Bool} {o : Nat} {Qc : Option VV → WW → Prop} (d' : Nat) (hd : decode cc pc = .ok (.invokevirtual 75, 3)) (hdd : d' + 1 ≤ d) (hrest : rest.length ≤ 8) (ho : o ≠ 0) (hC : E_Md_crash d' [.inr (7, o)] w Qc) (kk : ∀ r1 w1, MON w w1 → Qc r1 w1 → XE "ShareServerLaw" cc nL ret ini d (pc + 3) ls (r1.toList ++ rest) w1 Q) : XE "ShareServerLaw" cc nL ret ini d pc ls (.inr (7, o) :: rest) w Q := XE.callV (n := 0) (As := []) hd ⟨(mt 702 (by decide +kernel) rfl), co_Md_crash, (mt 47 (by decide +kernel) rfl), by decide, by decide +kernel, by decide +kernel, by decide +kernel⟩ rfl rfl (mt 703 (by decide +kernel) rfl) (mt 704 (by decide +kernel) rfl) ho rfl hrest hdd rfl hC kk
theorem k_Lw_76 {cc : ByteArray} {nL : Nat} {ret : Option FieldType} {d pc : Nat} {ls : List (Option VV)} {rest : List VV} {w : WW} {Q : Option VV → WW → Prop} {ini : Bool} {o : Nat} {a1 a2 : VV} {Qc : Option VV → WW → Prop} (d' : Nat) (hd : decode cc pc = .ok (.invokevirtual 76, 3)) (hdd : d' + 1 ≤ d) (hrest : rest.length ≤ 8) (ho : o ≠ 0) (hC : E_SS_find d' [.inr (0, o), a1, a2] w Qc) (kk : ∀ r1 w1, MON w w1 → Qc r1 w1 → XE "ShareServerLaw" cc nL ret ini d (pc + 3) ls (r1.toList ++ rest) w1 Q) : XE "ShareServerLaw" cc nL ret ini d pc ls (a2 :: a1 :: .inr (0, o) :: rest) w Q := XE.callV (n := 2) (As := [a1, a2]) hd ⟨(mt 500 (by decide +kernel) rfl), co_SS_find, (mt 44 (by decide +kernel) rfl), by decide, by decide +kernel, by decide +kernel, by decide +kernel⟩ rfl rfl (mt 501 (by decide +kernel) rfl) (mt 502 (by decide +kernel) rfl) ho rfl hrest hdd rfl hC kk
theorem k_Lw_79 {cc : ByteArray} {nL : Nat} {ret : Option FieldType} {d pc : Nat} {ls : List (Option VV)} {rest : List VV} {w : WW} {Q : Option VV → WW → Prop} {ini : Bool} {o : Nat} {a1 a2 : VV} {Qc : Option VV → WW → Prop} (d' : Nat) (hd : decode cc pc = .ok (.invokevirtual 79, 3)) (hdd : d' + 1 ≤ d) (hrest : rest.length ≤ 8) (ho : o ≠ 0) (hC : E_Md_find d' [.inr (7, o), a1, a2] w Qc) (kk : ∀ r1 w1, MON w w1 → Qc r1 w1 → XE "ShareServerLaw" cc nL ret ini d (pc + 3) ls (r1.toList ++ rest) w1 Q) : XE "ShareServerLaw" cc nL ret ini d pc ls (a2 :: a1 :: .inr (7, o) :: rest) w Q := XE.callV (n := 2) (As := [a1, a2]) hd ⟨(mt 706 (by decide +kernel) rfl), co_Md_find, (mt 47 (by decide +kernel) rfl), by decide, by decide +kernel, by decide +kernel, by decide +kernel⟩ rfl rfl (mt 707 (by decide +kernel) rfl) (mt 708 (by decide +kernel) rfl) ho rfl hrest hdd rfl hC kk
theorem k_Lw_80 {cc : ByteArray} {nL : Nat} {ret : Option FieldType} {d pc : Nat} {ls : List (Option VV)} {rest : List VV} {w : WW} {Q : Option VV → WW → Prop} {ini : Bool} {o : Nat} {a1 a2 : VV} {Qc : Option VV → WW → Prop} (d' : Nat) (hd : decode cc pc = .ok (.invokevirtual 80, 3)) (hdd : d' + 1 ≤ d) (hrest : rest.length ≤ 8) (ho : o ≠ 0) (hC : E_SS_node d' [.inr (0, o), a1, a2] w Qc) (kk : ∀ r1 w1, MON w w1 → Qc r1 w1 → XE "ShareServerLaw" cc nL ret ini d (pc + 3) ls (r1.toList ++ rest) w1 Q) : XE "ShareServerLaw" cc nL ret ini d pc ls (a2 :: a1 :: .inr (0, o) :: rest) w Q := XE.callV (n := 2) (As := [a1, a2]) hd ⟨(mt 504 (by decide +kernel) rfl), co_SS_node, (mt 44 (by decide +kernel) rfl), by decide, by decide +kernel, by decide +kernel, by decide +kernel⟩ rfl rfl (mt 505 (by decide +kernel) rfl) (mt 506 (by decide +kernel) rfl) ho rfl hrest hdd rfl hC kk
theorem k_Lw_83 {cc : ByteArray} {nL : Nat} {ret : Option FieldType} {d pc : Nat} {ls : List (Option VV)} {rest : List VV} {w : WW} {Q : Option VV → WW → Prop} {ini : Bool} {o : Nat} {a1 a2 : VV} {Qc : Option VV → WW → Prop} (d' : Nat) (hd : decode cc pc = .ok (.invokevirtual 83, 3)) (hdd : d' + 1 ≤ d) (hrest : rest.length ≤ 8) (ho : o ≠ 0) (hC : E_Md_node d' [.inr (7, o), a1, a2] w Qc) (kk : ∀ r1 w1, MON w w1 → Qc r1 w1 → XE "ShareServerLaw" cc nL ret ini d (pc + 3) ls (r1.toList ++ rest) w1 Q) : XE "ShareServerLaw" cc nL ret ini d pc ls (a2 :: a1 :: .inr (7, o) :: rest) w Q := XE.callV (n := 2) (As := [a1, a2]) hd ⟨(mt 710 (by decide +kernel) rfl), co_Md_node, (mt 47 (by decide +kernel) rfl), by decide, by decide +kernel, by decide +kernel, by decide +kernel⟩ rfl rfl (mt 711 (by decide +kernel) rfl) (mt 712 (by decide +kernel) rfl) ho rfl hrest hdd rfl hC kk
theorem k_Lw_84 {cc : ByteArray} {nL : Nat} {ret : Option FieldType} {d pc : Nat} {ls : List (Option VV)} {rest : List VV} {w : WW} {Q : Option VV → WW → Prop} {ini : Bool} {o : Nat} {a1 a2 : VV} {Qc : Option VV → WW → Prop} (d' : Nat) (hd : decode cc pc = .ok (.invokevirtual 84, 3)) (hdd : d' + 1 ≤ d) (hrest : rest.length ≤ 8) (ho : o ≠ 0) (hC : E_SS_handle d' [.inr (0, o), a1, a2] w Qc) (kk : ∀ r1 w1, MON w w1 → Qc r1 w1 → XE "ShareServerLaw" cc nL ret ini d (pc + 3) ls (r1.toList ++ rest) w1 Q) : XE "ShareServerLaw" cc nL ret ini d pc ls (a2 :: a1 :: .inr (0, o) :: rest) w Q := XE.callV (n := 2) (As := [a1, a2]) hd ⟨(mt 508 (by decide +kernel) rfl), co_SS_handle, (mt 44 (by decide +kernel) rfl), by decide, by decide +kernel, by decide +kernel, by decide +kernel⟩ rfl rfl (mt 509 (by decide +kernel) rfl) (mt 510 (by decide +kernel) rfl) ho rfl hrest hdd rfl hC kk
theorem k_Lw_87 {cc : ByteArray} {nL : Nat} {ret : Option FieldType} {d pc : Nat} {ls : List (Option VV)} {rest : List VV} {w : WW} {Q : Option VV → WW → Prop} {ini : Bool} {o : Nat} {a1 a2 : VV} {Qc : Option VV → WW → Prop} (d' : Nat) (hd : decode cc pc = .ok (.invokevirtual 87, 3)) (hdd : d' + 1 ≤ d) (hrest : rest.length ≤ 8) (ho : o ≠ 0) (hC : E_Md_handle d' [.inr (7, o), a1, a2] w Qc) (kk : ∀ r1 w1, MON w w1 → Qc r1 w1 → XE "ShareServerLaw" cc nL ret ini d (pc + 3) ls (r1.toList ++ rest) w1 Q) : XE "ShareServerLaw" cc nL ret ini d pc ls (a2 :: a1 :: .inr (7, o) :: rest) w Q := XE.callV (n := 2) (As := [a1, a2]) hd ⟨(mt 714 (by decide +kernel) rfl), co_Md_handle, (mt 47 (by decide +kernel) rfl), by decide, by decide +kernel, by decide +kernel, by decide +kernel⟩ rfl rfl (mt 715 (by decide +kernel) rfl) (mt 716 (by decide +kernel) rfl) ho rfl hrest hdd rfl hC kk
theorem k_Lw_88 {cc : ByteArray} {nL : Nat} {ret : Option FieldType} {d pc : Nat} {ls : List (Option VV)} {rest : List VV} {w : WW} {Q : Option VV → WW → Prop} {ini : Bool} {o : Nat} {a1 : VV} {Qc : Option VV → WW → Prop} (d' : Nat) (hd : decode cc pc = .ok (.invokevirtual 88, 3)) (hdd : d' + 1 ≤ d) (hrest : rest.length ≤ 8) (ho : o ≠ 0) (hC : E_SS_count d' [.inr (0, o), a1] w Qc) (kk : ∀ r1 w1, MON w w1 → Qc r1 w1 → XE "ShareServerLaw" cc nL ret ini d (pc + 3) ls (r1.toList ++ rest) w1 Q) : XE "ShareServerLaw" cc nL ret ini d pc ls (a1 :: .inr (0, o) :: rest) w Q := XE.callV (n := 1) (As := [a1]) hd ⟨(mt 512 (by decide +kernel) rfl), co_SS_count, (mt 44 (by decide +kernel) rfl), by decide, by decide +kernel, by decide +kernel, by decide +kernel⟩ rfl rfl (mt 513 (by decide +kernel) rfl) (mt 514 (by decide +kernel) rfl) ho rfl hrest hdd rfl hC kk
theorem k_Lw_91 {cc : ByteArray} {nL : Nat} {ret : Option FieldType} {d pc : Nat} {ls : List (Option VV)} {rest : List VV} {w : WW} {Q : Option VV → WW → Prop} {ini : Bool} {o : Nat} {a1 : VV} {Qc : Option VV → WW → Prop} (d' : Nat) (hd : decode cc pc = .ok (.invokevirtual 91, 3)) (hdd : d' + 1 ≤ d) (hrest : rest.length ≤ 8) (ho : o ≠ 0) (hC : E_Md_count d' [.inr (7, o), a1] w Qc) (kk : ∀ r1 w1, MON w w1 → Qc r1 w1 → XE "ShareServerLaw" cc nL ret ini d (pc + 3) ls (r1.toList ++ rest) w1 Q) : XE "ShareServerLaw" cc nL ret ini d pc ls (a1 :: .inr (7, o) :: rest) w Q := XE.callV (n := 1) (As := [a1]) hd ⟨(mt 718 (by decide +kernel) rfl), co_Md_count, (mt 47 (by decide +kernel) rfl), by decide, by decide +kernel, by decide +kernel, by decide +kernel⟩ rfl rfl (mt 719 (by decide +kernel) rfl) (mt 720 (by decide +kernel) rfl) ho rfl hrest hdd rfl hC kk
theorem n_Lw_7 {cc : ByteArray} {nL : Nat} {ret : Option FieldType} {d pc : Nat} {ls : List (Option VV)} {st : List VV} {w : WW} {Q : Option VV → WW → Prop} {ini : Bool} (hd : decode cc pc = .ok (.new 7, 3)) (kk : XE "ShareServerLaw" cc nL ret ini d (pc + 3) ls (.inr (0, wC w 0 + 1) :: st) (nO w 0 9) Q) : XE "ShareServerLaw" cc nL ret ini d pc ls st w Q := XE.new hd ⟨_, _, rfl, (mt 52 (by decide +kernel) rfl), ins_SS, (mt 44 (by decide +kernel) rfl)⟩ kk
theorem n_Lw_10 {cc : ByteArray} {nL : Nat} {ret : Option FieldType} {d pc : Nat} {ls : List (Option VV)} {st : List VV} {w : WW} {Q : Option VV → WW → Prop} {ini : Bool} (hd : decode cc pc = .ok (.new 10, 3)) (kk : XE "ShareServerLaw" cc nL ret ini d (pc + 3) ls (.inr (7, wC w 7 + 1) :: st) (nO w 7 17) Q) : XE "ShareServerLaw" cc nL ret ini d pc ls st w Q := XE.new hd ⟨_, _, rfl, (mt 520 (by decide +kernel) rfl), ins_Md, (mt 47 (by decide +kernel) rfl)⟩ kk
theorem fl_Md_7 : FLD "ShareServerModel" 7 7 2 := ⟨_, _, _, rfl, by decide, (mt 528 (by decide +kernel) rfl)⟩
theorem g_Md_7 {cc : ByteArray} {nL : Nat} {ret : Option FieldType} {d pc : Nat} {ls : List (Option VV)} {st : List VV} {w : WW} {Q : Option VV → WW → Prop} {ini : Bool} {o x : Nat} (hd : decode cc pc = .ok (.getfield 7, 3)) (ho : o ≠ 0) (hx : wR w 7 o 2 = x) (kk : XE "ShareServerModel" cc nL ret ini d (pc + 3) ls (.inr (110, x) :: st) w Q) : XE "ShareServerModel" cc nL ret ini d pc ls (.inr (7, o) :: st) w Q := XE.getR hd fl_Md_7 rfl ho hx kk
theorem fl_Md_13 : FLD "ShareServerModel" 13 7 4 := ⟨_, _, _, rfl, by decide, (mt 530 (by decide +kernel) rfl)⟩
theorem g_Md_13 {cc : ByteArray} {nL : Nat} {ret : Option FieldType} {d pc : Nat} {ls : List (Option VV)} {st : List VV} {w : WW} {Q : Option VV → WW → Prop} {ini : Bool} {o x : Nat} (hd : decode cc pc = .ok (.getfield 13, 3)) (ho : o ≠ 0) (hx : wR w 7 o 4 = x) (kk : XE "ShareServerModel" cc nL ret ini d (pc + 3) ls (.inr (111, x) :: st) w Q) : XE "ShareServerModel" cc nL ret ini d pc ls (.inr (7, o) :: st) w Q := XE.getR hd fl_Md_13 rfl ho hx kk
theorem fl_Md_17 : FLD "ShareServerModel" 17 7 5 := ⟨_, _, _, rfl, by decide, (mt 531 (by decide +kernel) rfl)⟩
theorem g_Md_17 {cc : ByteArray} {nL : Nat} {ret : Option FieldType} {d pc : Nat} {ls : List (Option VV)} {st : List VV} {w : WW} {Q : Option VV → WW → Prop} {ini : Bool} {o x : Nat} (hd : decode cc pc = .ok (.getfield 17, 3)) (ho : o ≠ 0) (hx : wR w 7 o 5 = x) (kk : XE "ShareServerModel" cc nL ret ini d (pc + 3) ls (.inr (112, x) :: st) w Q) : XE "ShareServerModel" cc nL ret ini d pc ls (.inr (7, o) :: st) w Q := XE.getR hd fl_Md_17 rfl ho hx kk
theorem fl_Md_20 : FLD "ShareServerModel" 20 7 6 := ⟨_, _, _, rfl, by decide, (mt 532 (by decide +kernel) rfl)⟩
theorem g_Md_20 {cc : ByteArray} {nL : Nat} {ret : Option FieldType} {d pc : Nat} {ls : List (Option VV)} {st : List VV} {w : WW} {Q : Option VV → WW → Prop} {ini : Bool} {o x : Nat} (hd : decode cc pc = .ok (.getfield 20, 3)) (ho : o ≠ 0) (hx : wR w 7 o 6 = x) (kk : XE "ShareServerModel" cc nL ret ini d (pc + 3) ls (.inr (113, x) :: st) w Q) : XE "ShareServerModel" cc nL ret ini d pc ls (.inr (7, o) :: st) w Q := XE.getR hd fl_Md_20 rfl ho hx kk
theorem fl_Md_23 : FLD "ShareServerModel" 23 7 7 := ⟨_, _, _, rfl, by decide, (mt 533 (by decide +kernel) rfl)⟩
theorem g_Md_23 {cc : ByteArray} {nL : Nat} {ret : Option FieldType} {d pc : Nat} {ls : List (Option VV)} {st : List VV} {w : WW} {Q : Option VV → WW → Prop} {ini : Bool} {o x : Nat} (hd : decode cc pc = .ok (.getfield 23, 3)) (ho : o ≠ 0) (hx : wR w 7 o 7 = x) (kk : XE "ShareServerModel" cc nL ret ini d (pc + 3) ls (.inr (114, x) :: st) w Q) : XE "ShareServerModel" cc nL ret ini d pc ls (.inr (7, o) :: st) w Q := XE.getR hd fl_Md_23 rfl ho hx kk
theorem fl_Md_26 : FLD "ShareServerModel" 26 7 8 := ⟨_, _, _, rfl, by decide, (mt 534 (by decide +kernel) rfl)⟩
theorem g_Md_26 {cc : ByteArray} {nL : Nat} {ret : Option FieldType} {d pc : Nat} {ls : List (Option VV)} {st : List VV} {w : WW} {Q : Option VV → WW → Prop} {ini : Bool} {o x : Nat} (hd : decode cc pc = .ok (.getfield 26, 3)) (ho : o ≠ 0) (hx : wR w 7 o 8 = x) (kk : XE "ShareServerModel" cc nL ret ini d (pc + 3) ls (.inr (115, x) :: st) w Q) : XE "ShareServerModel" cc nL ret ini d pc ls (.inr (7, o) :: st) w Q := XE.getR hd fl_Md_26 rfl ho hx kk
theorem fl_Md_29 : FLD "ShareServerModel" 29 7 9 := ⟨_, _, _, rfl, by decide, (mt 535 (by decide +kernel) rfl)⟩
theorem g_Md_29 {cc : ByteArray} {nL : Nat} {ret : Option FieldType} {d pc : Nat} {ls : List (Option VV)} {st : List VV} {w : WW} {Q : Option VV → WW → Prop} {ini : Bool} {o x : Nat} (hd : decode cc pc = .ok (.getfield 29, 3)) (ho : o ≠ 0) (hx : wR w 7 o 9 = x) (kk : XE "ShareServerModel" cc nL ret ini d (pc + 3) ls (.inr (116, x) :: st) w Q) : XE "ShareServerModel" cc nL ret ini d pc ls (.inr (7, o) :: st) w Q := XE.getR hd fl_Md_29 rfl ho hx kk
theorem fl_Md_32 : FLD "ShareServerModel" 32 7 11 := ⟨_, _, _, rfl, by decide, (mt 537 (by decide +kernel) rfl)⟩
theorem g_Md_32 {cc : ByteArray} {nL : Nat} {ret : Option FieldType} {d pc : Nat} {ls : List (Option VV)} {st : List VV} {w : WW} {Q : Option VV → WW → Prop} {ini : Bool} {o x : Nat} (hd : decode cc pc = .ok (.getfield 32, 3)) (ho : o ≠ 0) (hx : wR w 7 o 11 = x) (kk : XE "ShareServerModel" cc nL ret ini d (pc + 3) ls (.inr (117, x) :: st) w Q) : XE "ShareServerModel" cc nL ret ini d pc ls (.inr (7, o) :: st) w Q := XE.getR hd fl_Md_32 rfl ho hx kk
theorem fl_Md_35 : FLD "ShareServerModel" 35 7 13 := ⟨_, _, _, rfl, by decide, (mt 539 (by decide +kernel) rfl)⟩
theorem g_Md_35 {cc : ByteArray} {nL : Nat} {ret : Option FieldType} {d pc : Nat} {ls : List (Option VV)} {st : List VV} {w : WW} {Q : Option VV → WW → Prop} {ini : Bool} {o x : Nat} (hd : decode cc pc = .ok (.getfield 35, 3)) (ho : o ≠ 0) (hx : wR w 7 o 13 = x) (kk : XE "ShareServerModel" cc nL ret ini d (pc + 3) ls (.inr (118, x) :: st) w Q) : XE "ShareServerModel" cc nL ret ini d pc ls (.inr (7, o) :: st) w Q := XE.getR hd fl_Md_35 rfl ho hx kk
theorem fl_Md_38 : FLD "ShareServerModel" 38 7 15 := ⟨_, _, _, rfl, by decide, (mt 541 (by decide +kernel) rfl)⟩
theorem g_Md_38 {cc : ByteArray} {nL : Nat} {ret : Option FieldType} {d pc : Nat} {ls : List (Option VV)} {st : List VV} {w : WW} {Q : Option VV → WW → Prop} {ini : Bool} {o x : Nat} (hd : decode cc pc = .ok (.getfield 38, 3)) (ho : o ≠ 0) (hx : wR w 7 o 15 = x) (kk : XE "ShareServerModel" cc nL ret ini d (pc + 3) ls (.inr (119, x) :: st) w Q) : XE "ShareServerModel" cc nL ret ini d pc ls (.inr (7, o) :: st) w Q := XE.getR hd fl_Md_38 rfl ho hx kk
theorem fl_Md_41 : FLD "ShareServerModel" 41 7 10 := ⟨_, _, _, rfl, by decide, (mt 536 (by decide +kernel) rfl)⟩
theorem g_Md_41 {cc : ByteArray} {nL : Nat} {ret : Option FieldType} {d pc : Nat} {ls : List (Option VV)} {st : List VV} {w : WW} {Q : Option VV → WW → Prop} {ini : Bool} {o : Nat} {x : Int32} (hd : decode cc pc = .ok (.getfield 41, 3)) (ho : o ≠ 0) (hx : wI w 7 o 10 = x) (kk : XE "ShareServerModel" cc nL ret ini d (pc + 3) ls (.inl x :: st) w Q) : XE "ShareServerModel" cc nL ret ini d pc ls (.inr (7, o) :: st) w Q := XE.getI hd fl_Md_41 (by decide) ho hx kk
theorem fl_Md_53 : FLD "ShareServerModel" 53 7 3 := ⟨_, _, _, rfl, by decide, (mt 529 (by decide +kernel) rfl)⟩
theorem g_Md_53 {cc : ByteArray} {nL : Nat} {ret : Option FieldType} {d pc : Nat} {ls : List (Option VV)} {st : List VV} {w : WW} {Q : Option VV → WW → Prop} {ini : Bool} {o : Nat} {x : Int32} (hd : decode cc pc = .ok (.getfield 53, 3)) (ho : o ≠ 0) (hx : wI w 7 o 3 = x) (kk : XE "ShareServerModel" cc nL ret ini d (pc + 3) ls (.inl x :: st) w Q) : XE "ShareServerModel" cc nL ret ini d pc ls (.inr (7, o) :: st) w Q := XE.getI hd fl_Md_53 (by decide) ho hx kk
theorem fl_Md_56 : FLD "ShareServerModel" 56 7 0 := ⟨_, _, _, rfl, by decide, (mt 526 (by decide +kernel) rfl)⟩
theorem g_Md_56 {cc : ByteArray} {nL : Nat} {ret : Option FieldType} {d pc : Nat} {ls : List (Option VV)} {st : List VV} {w : WW} {Q : Option VV → WW → Prop} {ini : Bool} {o : Nat} {x : Int32} (hd : decode cc pc = .ok (.getfield 56, 3)) (ho : o ≠ 0) (hx : wI w 7 o 0 = x) (kk : XE "ShareServerModel" cc nL ret ini d (pc + 3) ls (.inl x :: st) w Q) : XE "ShareServerModel" cc nL ret ini d pc ls (.inr (7, o) :: st) w Q := XE.getI hd fl_Md_56 (by decide) ho hx kk
theorem fl_Md_63 : FLD "ShareServerModel" 63 7 1 := ⟨_, _, _, rfl, by decide, (mt 527 (by decide +kernel) rfl)⟩
theorem g_Md_63 {cc : ByteArray} {nL : Nat} {ret : Option FieldType} {d pc : Nat} {ls : List (Option VV)} {st : List VV} {w : WW} {Q : Option VV → WW → Prop} {ini : Bool} {o : Nat} {x : Int32} (hd : decode cc pc = .ok (.getfield 63, 3)) (ho : o ≠ 0) (hx : wI w 7 o 1 = x) (kk : XE "ShareServerModel" cc nL ret ini d (pc + 3) ls (.inl x :: st) w Q) : XE "ShareServerModel" cc nL ret ini d pc ls (.inr (7, o) :: st) w Q := XE.getI hd fl_Md_63 (by decide) ho hx kk
theorem fl_Md_88 : FLD "ShareServerModel" 88 7 12 := ⟨_, _, _, rfl, by decide, (mt 538 (by decide +kernel) rfl)⟩
theorem g_Md_88 {cc : ByteArray} {nL : Nat} {ret : Option FieldType} {d pc : Nat} {ls : List (Option VV)} {st : List VV} {w : WW} {Q : Option VV → WW → Prop} {ini : Bool} {o : Nat} {x : Int32} (hd : decode cc pc = .ok (.getfield 88, 3)) (ho : o ≠ 0) (hx : wI w 7 o 12 = x) (kk : XE "ShareServerModel" cc nL ret ini d (pc + 3) ls (.inl x :: st) w Q) : XE "ShareServerModel" cc nL ret ini d pc ls (.inr (7, o) :: st) w Q := XE.getI hd fl_Md_88 (by decide) ho hx kk
theorem fl_Md_100 : FLD "ShareServerModel" 100 7 14 := ⟨_, _, _, rfl, by decide, (mt 540 (by decide +kernel) rfl)⟩
theorem g_Md_100 {cc : ByteArray} {nL : Nat} {ret : Option FieldType} {d pc : Nat} {ls : List (Option VV)} {st : List VV} {w : WW} {Q : Option VV → WW → Prop} {ini : Bool} {o : Nat} {x : Int32} (hd : decode cc pc = .ok (.getfield 100, 3)) (ho : o ≠ 0) (hx : wI w 7 o 14 = x) (kk : XE "ShareServerModel" cc nL ret ini d (pc + 3) ls (.inl x :: st) w Q) : XE "ShareServerModel" cc nL ret ini d pc ls (.inr (7, o) :: st) w Q := XE.getI hd fl_Md_100 (by decide) ho hx kk
theorem fl_Md_116 : FLD "ShareServerModel" 116 7 16 := ⟨_, _, _, rfl, by decide, (mt 542 (by decide +kernel) rfl)⟩
theorem g_Md_116 {cc : ByteArray} {nL : Nat} {ret : Option FieldType} {d pc : Nat} {ls : List (Option VV)} {st : List VV} {w : WW} {Q : Option VV → WW → Prop} {ini : Bool} {o : Nat} {x : Int32} (hd : decode cc pc = .ok (.getfield 116, 3)) (ho : o ≠ 0) (hx : wI w 7 o 16 = x) (kk : XE "ShareServerModel" cc nL ret ini d (pc + 3) ls (.inl x :: st) w Q) : XE "ShareServerModel" cc nL ret ini d pc ls (.inr (7, o) :: st) w Q := XE.getI hd fl_Md_116 (by decide) ho hx kk
theorem k_Md_1 {cc : ByteArray} {nL : Nat} {ret : Option FieldType} {d pc : Nat} {ls : List (Option VV)} {st : List VV} {w : WW} {Q : Option VV → WW → Prop} {ini : Bool} {k o : Nat} (hd : decode cc pc = .ok (.invokespecial 1, 3)) (ho : o ≠ 0) (hrest : st.length ≤ 8) (hdd : 1 ≤ d) (kk : XE "ShareServerModel" cc nL ret ini d (pc + 3) ls st w Q) : XE "ShareServerModel" cc nL ret ini d pc ls (.inr (k, o) :: st) w Q := XE.objInit hd (mt 525 (by decide +kernel) rfl) oi_1 oi_2 ho hrest hdd kk
theorem k_Md_45 {cc : ByteArray} {nL : Nat} {ret : Option FieldType} {d pc : Nat} {ls : List (Option VV)} {rest : List VV} {w : WW} {Q : Option VV → WW → Prop} {ini : Bool} {a1 a2 a3 : VV} {Qc : Option VV → WW → Prop} (d' : Nat) (hd : decode cc pc = .ok (.invokestatic 45, 3)) (hdd : d' + 1 ≤ d) (hrest : rest.length ≤ 8) (hC : E_Md_in d' [a1, a2, a3] w Qc) (kk : ∀ r1 w1, MON w w1 → Qc r1 w1 → XE "ShareServerModel" cc nL ret ini d (pc + 3) ls (r1.toList ++ rest) w1 Q) : XE "ShareServerModel" cc nL ret ini d pc ls (a3 :: a2 :: a1 :: rest) w Q := XE.callS (n := 3) (As := [a1, a2, a3]) hd ⟨(mt 583 (by decide +kernel) rfl), co_Md_in, (mt 47 (by decide +kernel) rfl), by decide, by decide +kernel, by decide +kernel, by decide +kernel⟩ (mt 584 (by decide +kernel) rfl) rfl hrest hdd rfl hC kk
theorem k_Md_49 {cc : ByteArray} {nL : Nat} {ret : Option FieldType} {d pc : Nat} {ls : List (Option VV)} {rest : List VV} {w : WW} {Q : Option VV → WW → Prop} {ini : Bool} {o : Nat} {a1 a2 : VV} {Qc : Option VV → WW → Prop} (d' : Nat) (hd : decode cc pc = .ok (.invokevirtual 49, 3)) (hdd : d' + 1 ≤ d) (hrest : rest.length ≤ 8) (ho : o ≠ 0) (hC : E_Md_h d' [.inr (7, o), a1, a2] w Qc) (kk : ∀ r1 w1, MON w w1 → Qc r1 w1 → XE "ShareServerModel" cc nL ret ini d (pc + 3) ls (r1.toList ++ rest) w1 Q) : XE "ShareServerModel" cc nL ret ini d pc ls (a2 :: a1 :: .inr (7, o) :: rest) w Q := XE.callV (n := 2) (As := [a1, a2]) hd ⟨(mt 598 (by decide +kernel) rfl), co_Md_h, (mt 47 (by decide +kernel) rfl), by decide, by decide +kernel, by decide +kernel, by decide +kernel⟩ rfl rfl (mt 600 (by decide +kernel) rfl) (mt 29 (by decide +kernel) rfl) ho rfl hrest hdd rfl hC kk
theorem k_Md_59 {cc : ByteArray} {nL : Nat} {ret : Option FieldType} {d pc : Nat} {ls : List (Option VV)} {rest : List VV} {w : WW} {Q : Option VV → WW → Prop} {ini : Bool} {o : Nat} {a1 : VV} {Qc : Option VV → WW → Prop} (d' : Nat) (hd : decode cc pc = .ok (.invokevirtual 59, 3)) (hdd : d' + 1 ≤ d) (hrest : rest.length ≤ 8) (ho : o ≠ 0) (hC : E_Md_apply d' [.inr (7, o), a1] w Qc) (kk : ∀ r1 w1, MON w w1 → Qc r1 w1 → XE "ShareServerModel" cc nL ret ini d (pc + 3) ls (r1.toList ++ rest) w1 Q) : XE "ShareServerModel" cc nL ret ini d pc ls (a1 :: .inr (7, o) :: rest) w Q := XE.callV (n := 1) (As := [a1]) hd ⟨(mt 606 (by decide +kernel) rfl), co_Md_apply, (mt 47 (by decide +kernel) rfl), by decide, by decide +kernel, by decide +kernel, by decide +kernel⟩ rfl rfl (mt 608 (by decide +kernel) rfl) (mt 31 (by decide +kernel) rfl) ho rfl hrest hdd rfl hC kk
theorem k_Md_66 {cc : ByteArray} {nL : Nat} {ret : Option FieldType} {d pc : Nat} {ls : List (Option VV)} {rest : List VV} {w : WW} {Q : Option VV → WW → Prop} {ini : Bool} {o : Nat} {a1 : VV} {Qc : Option VV → WW → Prop} (d' : Nat) (hd : decode cc pc = .ok (.invokevirtual 66, 3)) (hdd : d' + 1 ≤ d) (hrest : rest.length ≤ 8) (ho : o ≠ 0) (hC : E_Md_openOf d' [.inr (7, o), a1] w Qc) (kk : ∀ r1 w1, MON w w1 → Qc r1 w1 → XE "ShareServerModel" cc nL ret ini d (pc + 3) ls (r1.toList ++ rest) w1 Q) : XE "ShareServerModel" cc nL ret ini d pc ls (a1 :: .inr (7, o) :: rest) w Q := XE.callV (n := 1) (As := [a1]) hd ⟨(mt 594 (by decide +kernel) rfl), co_Md_openOf, (mt 47 (by decide +kernel) rfl), by decide, by decide +kernel, by decide +kernel, by decide +kernel⟩ rfl rfl (mt 596 (by decide +kernel) rfl) (mt 28 (by decide +kernel) rfl) ho rfl hrest hdd rfl hC kk
theorem k_Md_70 {cc : ByteArray} {nL : Nat} {ret : Option FieldType} {d pc : Nat} {ls : List (Option VV)} {rest : List VV} {w : WW} {Q : Option VV → WW → Prop} {ini : Bool} {o : Nat} {a1 a2 : VV} {Qc : Option VV → WW → Prop} (d' : Nat) (hd : decode cc pc = .ok (.invokevirtual 70, 3)) (hdd : d' + 1 ≤ d) (hrest : rest.length ≤ 8) (ho : o ≠ 0) (hC : E_Md_at d' [.inr (7, o), a1, a2] w Qc) (kk : ∀ r1 w1, MON w w1 → Qc r1 w1 → XE "ShareServerModel" cc nL ret ini d (pc + 3) ls (r1.toList ++ rest) w1 Q) : XE "ShareServerModel" cc nL ret ini d pc ls (a2 :: a1 :: .inr (7, o) :: rest) w Q := XE.callV (n := 2) (As := [a1, a2]) hd ⟨(mt 590 (by decide +kernel) rfl), co_Md_at, (mt 47 (by decide +kernel) rfl), by decide, by decide +kernel, by decide +kernel, by decide +kernel⟩ rfl rfl (mt 592 (by decide +kernel) rfl) (mt 27 (by decide +kernel) rfl) ho rfl hrest hdd rfl hC kk
theorem k_Md_73 {cc : ByteArray} {nL : Nat} {ret : Option FieldType} {d pc : Nat} {ls : List (Option VV)} {rest : List VV} {w : WW} {Q : Option VV → WW → Prop} {ini : Bool} {o : Nat} {a1 a2 a3 a4 a5 : VV} {Qc : Option VV → WW → Prop} (d' : Nat) (hd : decode cc pc = .ok (.invokevirtual 73, 3)) (hdd : d' + 1 ≤ d) (hrest : rest.length ≤ 8) (ho : o ≠ 0) (hC : E_Md_note d' [.inr (7, o), a1, a2, a3, a4, a5] w Qc) (kk : ∀ r1 w1, MON w w1 → Qc r1 w1 → XE "ShareServerModel" cc nL ret ini d (pc + 3) ls (r1.toList ++ rest) w1 Q) : XE "ShareServerModel" cc nL ret ini d pc ls (a5 :: a4 :: a3 :: a2 :: a1 :: .inr (7, o) :: rest) w Q := XE.callV (n := 5) (As := [a1, a2, a3, a4, a5]) hd ⟨(mt 602 (by decide +kernel) rfl), co_Md_note, (mt 47 (by decide +kernel) rfl), by decide, by decide +kernel, by decide +kernel, by decide +kernel⟩ rfl rfl (mt 604 (by decide +kernel) rfl) (mt 30 (by decide +kernel) rfl) ho rfl hrest hdd rfl hC kk
theorem k_Md_77 {cc : ByteArray} {nL : Nat} {ret : Option FieldType} {d pc : Nat} {ls : List (Option VV)} {rest : List VV} {w : WW} {Q : Option VV → WW → Prop} {ini : Bool} {o : Nat} {a1 a2 : VV} {Qc : Option VV → WW → Prop} (d' : Nat) (hd : decode cc pc = .ok (.invokevirtual 77, 3)) (hdd : d' + 1 ≤ d) (hrest : rest.length ≤ 8) (ho : o ≠ 0) (hC : E_Md_grant d' [.inr (7, o), a1, a2] w Qc) (kk : ∀ r1 w1, MON w w1 → Qc r1 w1 → XE "ShareServerModel" cc nL ret ini d (pc + 3) ls (r1.toList ++ rest) w1 Q) : XE "ShareServerModel" cc nL ret ini d pc ls (a2 :: a1 :: .inr (7, o) :: rest) w Q := XE.callV (n := 2) (As := [a1, a2]) hd ⟨(mt 610 (by decide +kernel) rfl), co_Md_grant, (mt 47 (by decide +kernel) rfl), by decide, by decide +kernel, by decide +kernel, by decide +kernel⟩ rfl rfl (mt 612 (by decide +kernel) rfl) (mt 32 (by decide +kernel) rfl) ho rfl hrest hdd rfl hC kk
theorem k_Md_80 {cc : ByteArray} {nL : Nat} {ret : Option FieldType} {d pc : Nat} {ls : List (Option VV)} {rest : List VV} {w : WW} {Q : Option VV → WW → Prop} {ini : Bool} {o : Nat} {a1 : VV} {Qc : Option VV → WW → Prop} (d' : Nat) (hd : decode cc pc = .ok (.invokevirtual 80, 3)) (hdd : d' + 1 ≤ d) (hrest : rest.length ≤ 8) (ho : o ≠ 0) (hC : E_Md_breaks d' [.inr (7, o), a1] w Qc) (kk : ∀ r1 w1, MON w w1 → Qc r1 w1 → XE "ShareServerModel" cc nL ret ini d (pc + 3) ls (r1.toList ++ rest) w1 Q) : XE "ShareServerModel" cc nL ret ini d pc ls (a1 :: .inr (7, o) :: rest) w Q := XE.callV (n := 1) (As := [a1]) hd ⟨(mt 614 (by decide +kernel) rfl), co_Md_breaks, (mt 47 (by decide +kernel) rfl), by decide, by decide +kernel, by decide +kernel, by decide +kernel⟩ rfl rfl (mt 616 (by decide +kernel) rfl) (mt 33 (by decide +kernel) rfl) ho rfl hrest hdd rfl hC kk
theorem k_Md_84 {cc : ByteArray} {nL : Nat} {ret : Option FieldType} {d pc : Nat} {ls : List (Option VV)} {rest : List VV} {w : WW} {Q : Option VV → WW → Prop} {ini : Bool} {o : Nat} {a1 a2 : VV} {Qc : Option VV → WW → Prop} (d' : Nat) (hd : decode cc pc = .ok (.invokevirtual 84, 3)) (hdd : d' + 1 ≤ d) (hrest : rest.length ≤ 8) (ho : o ≠ 0) (hC : E_Md_sharing d' [.inr (7, o), a1, a2] w Qc) (kk : ∀ r1 w1, MON w w1 → Qc r1 w1 → XE "ShareServerModel" cc nL ret ini d (pc + 3) ls (r1.toList ++ rest) w1 Q) : XE "ShareServerModel" cc nL ret ini d pc ls (a2 :: a1 :: .inr (7, o) :: rest) w Q := XE.callV (n := 2) (As := [a1, a2]) hd ⟨(mt 618 (by decide +kernel) rfl), co_Md_sharing, (mt 47 (by decide +kernel) rfl), by decide, by decide +kernel, by decide +kernel, by decide +kernel⟩ rfl rfl (mt 620 (by decide +kernel) rfl) (mt 34 (by decide +kernel) rfl) ho rfl hrest hdd rfl hC kk
theorem k_Md_91 {cc : ByteArray} {nL : Nat} {ret : Option FieldType} {d pc : Nat} {ls : List (Option VV)} {rest : List VV} {w : WW} {Q : Option VV → WW → Prop} {ini : Bool} {o : Nat} {a1 : VV} {Qc : Option VV → WW → Prop} (d' : Nat) (hd : decode cc pc = .ok (.invokevirtual 91, 3)) (hdd : d' + 1 ≤ d) (hrest : rest.length ≤ 8) (ho : o ≠ 0) (hC : E_Md_attempt d' [.inr (7, o), a1] w Qc) (kk : ∀ r1 w1, MON w w1 → Qc r1 w1 → XE "ShareServerModel" cc nL ret ini d (pc + 3) ls (r1.toList ++ rest) w1 Q) : XE "ShareServerModel" cc nL ret ini d pc ls (a1 :: .inr (7, o) :: rest) w Q := XE.callV (n := 1) (As := [a1]) hd ⟨(mt 586 (by decide +kernel) rfl), co_Md_attempt, (mt 47 (by decide +kernel) rfl), by decide, by decide +kernel, by decide +kernel, by decide +kernel⟩ rfl rfl (mt 588 (by decide +kernel) rfl) (mt 26 (by decide +kernel) rfl) ho rfl hrest hdd rfl hC kk
theorem k_Md_94 {cc : ByteArray} {nL : Nat} {ret : Option FieldType} {d pc : Nat} {ls : List (Option VV)} {rest : List VV} {w : WW} {Q : Option VV → WW → Prop} {ini : Bool} {o : Nat} {a1 : VV} {Qc : Option VV → WW → Prop} (d' : Nat) (hd : decode cc pc = .ok (.invokevirtual 94, 3)) (hdd : d' + 1 ≤ d) (hrest : rest.length ≤ 8) (ho : o ≠ 0) (hC : E_Md_shut d' [.inr (7, o), a1] w Qc) (kk : ∀ r1 w1, MON w w1 → Qc r1 w1 → XE "ShareServerModel" cc nL ret ini d (pc + 3) ls (r1.toList ++ rest) w1 Q) : XE "ShareServerModel" cc nL ret ini d pc ls (a1 :: .inr (7, o) :: rest) w Q := XE.callV (n := 1) (As := [a1]) hd ⟨(mt 634 (by decide +kernel) rfl), co_Md_shut, (mt 47 (by decide +kernel) rfl), by decide, by decide +kernel, by decide +kernel, by decide +kernel⟩ rfl rfl (mt 636 (by decide +kernel) rfl) (mt 35 (by decide +kernel) rfl) ho rfl hrest hdd rfl hC kk
theorem k_Md_97 {cc : ByteArray} {nL : Nat} {ret : Option FieldType} {d pc : Nat} {ls : List (Option VV)} {rest : List VV} {w : WW} {Q : Option VV → WW → Prop} {ini : Bool} {o : Nat} {Qc : Option VV → WW → Prop} (d' : Nat) (hd : decode cc pc = .ok (.invokevirtual 97, 3)) (hdd : d' + 1 ≤ d) (hrest : rest.length ≤ 8) (ho : o ≠ 0) (hC : E_Md_tryAgain d' [.inr (7, o)] w Qc) (kk : ∀ r1 w1, MON w w1 → Qc r1 w1 → XE "ShareServerModel" cc nL ret ini d (pc + 3) ls (r1.toList ++ rest) w1 Q) : XE "ShareServerModel" cc nL ret ini d pc ls (.inr (7, o) :: rest) w Q := XE.callV (n := 0) (As := []) hd ⟨(mt 638 (by decide +kernel) rfl), co_Md_tryAgain, (mt 47 (by decide +kernel) rfl), by decide, by decide +kernel, by decide +kernel, by decide +kernel⟩ rfl rfl (mt 640 (by decide +kernel) rfl) (mt 36 (by decide +kernel) rfl) ho rfl hrest hdd rfl hC kk
theorem k_Md_103 {cc : ByteArray} {nL : Nat} {ret : Option FieldType} {d pc : Nat} {ls : List (Option VV)} {rest : List VV} {w : WW} {Q : Option VV → WW → Prop} {ini : Bool} {o : Nat} {a1 : VV} {Qc : Option VV → WW → Prop} (d' : Nat) (hd : decode cc pc = .ok (.invokevirtual 103, 3)) (hdd : d' + 1 ≤ d) (hrest : rest.length ≤ 8) (ho : o ≠ 0) (hC : E_Md_unlockAt d' [.inr (7, o), a1] w Qc) (kk : ∀ r1 w1, MON w w1 → Qc r1 w1 → XE "ShareServerModel" cc nL ret ini d (pc + 3) ls (r1.toList ++ rest) w1 Q) : XE "ShareServerModel" cc nL ret ini d pc ls (a1 :: .inr (7, o) :: rest) w Q := XE.callV (n := 1) (As := [a1]) hd ⟨(mt 646 (by decide +kernel) rfl), co_Md_unlockAt, (mt 47 (by decide +kernel) rfl), by decide, by decide +kernel, by decide +kernel, by decide +kernel⟩ rfl rfl (mt 648 (by decide +kernel) rfl) (mt 37 (by decide +kernel) rfl) ho rfl hrest hdd rfl hC kk
theorem k_Md_106 {cc : ByteArray} {nL : Nat} {ret : Option FieldType} {d pc : Nat} {ls : List (Option VV)} {rest : List VV} {w : WW} {Q : Option VV → WW → Prop} {ini : Bool} {o : Nat} {a1 : VV} {Qc : Option VV → WW → Prop} (d' : Nat) (hd : decode cc pc = .ok (.invokevirtual 106, 3)) (hdd : d' + 1 ≤ d) (hrest : rest.length ≤ 8) (ho : o ≠ 0) (hC : E_Md_inside d' [.inr (7, o), a1] w Qc) (kk : ∀ r1 w1, MON w w1 → Qc r1 w1 → XE "ShareServerModel" cc nL ret ini d (pc + 3) ls (r1.toList ++ rest) w1 Q) : XE "ShareServerModel" cc nL ret ini d pc ls (a1 :: .inr (7, o) :: rest) w Q := XE.callV (n := 1) (As := [a1]) hd ⟨(mt 650 (by decide +kernel) rfl), co_Md_inside, (mt 47 (by decide +kernel) rfl), by decide, by decide +kernel, by decide +kernel, by decide +kernel⟩ rfl rfl (mt 652 (by decide +kernel) rfl) (mt 38 (by decide +kernel) rfl) ho rfl hrest hdd rfl hC kk
theorem k_Md_109 {cc : ByteArray} {nL : Nat} {ret : Option FieldType} {d pc : Nat} {ls : List (Option VV)} {rest : List VV} {w : WW} {Q : Option VV → WW → Prop} {ini : Bool} {o : Nat} {a1 a2 a3 : VV} {Qc : Option VV → WW → Prop} (d' : Nat) (hd : decode cc pc = .ok (.invokevirtual 109, 3)) (hdd : d' + 1 ≤ d) (hrest : rest.length ≤ 8) (ho : o ≠ 0) (hC : E_Md_may d' [.inr (7, o), a1, a2, a3] w Qc) (kk : ∀ r1 w1, MON w w1 → Qc r1 w1 → XE "ShareServerModel" cc nL ret ini d (pc + 3) ls (r1.toList ++ rest) w1 Q) : XE "ShareServerModel" cc nL ret ini d pc ls (a3 :: a2 :: a1 :: .inr (7, o) :: rest) w Q := XE.callV (n := 3) (As := [a1, a2, a3]) hd ⟨(mt 666 (by decide +kernel) rfl), co_Md_may, (mt 47 (by decide +kernel) rfl), by decide, by decide +kernel, by decide +kernel, by decide +kernel⟩ rfl rfl (mt 668 (by decide +kernel) rfl) (mt 39 (by decide +kernel) rfl) ho rfl hrest hdd rfl hC kk
theorem k_Md_112 {cc : ByteArray} {nL : Nat} {ret : Option FieldType} {d pc : Nat} {ls : List (Option VV)} {rest : List VV} {w : WW} {Q : Option VV → WW → Prop} {ini : Bool} {o : Nat} {a1 a2 a3 a4 a5 : VV} {Qc : Option VV → WW → Prop} (d' : Nat) (hd : decode cc pc = .ok (.invokevirtual 112, 3)) (hdd : d' + 1 ≤ d) (hrest : rest.length ≤ 8) (ho : o ≠ 0) (hC : E_Md_met d' [.inr (7, o), a1, a2, a3, a4, a5] w Qc) (kk : ∀ r1 w1, MON w w1 → Qc r1 w1 → XE "ShareServerModel" cc nL ret ini d (pc + 3) ls (r1.toList ++ rest) w1 Q) : XE "ShareServerModel" cc nL ret ini d pc ls (a5 :: a4 :: a3 :: a2 :: a1 :: .inr (7, o) :: rest) w Q := XE.callV (n := 5) (As := [a1, a2, a3, a4, a5]) hd ⟨(mt 670 (by decide +kernel) rfl), co_Md_met, (mt 47 (by decide +kernel) rfl), by decide, by decide +kernel, by decide +kernel, by decide +kernel⟩ rfl rfl (mt 672 (by decide +kernel) rfl) (mt 40 (by decide +kernel) rfl) ho rfl hrest hdd rfl hC kk
theorem k_Md_119 {cc : ByteArray} {nL : Nat} {ret : Option FieldType} {d pc : Nat} {ls : List (Option VV)} {rest : List VV} {w : WW} {Q : Option VV → WW → Prop} {ini : Bool} {o : Nat} {a1 a2 a3 : VV} {Qc : Option VV → WW → Prop} (d' : Nat) (hd : decode cc pc = .ok (.invokevirtual 119, 3)) (hdd : d' + 1 ≤ d) (hrest : rest.length ≤ 8) (ho : o ≠ 0) (hC : E_Md_badRange d' [.inr (7, o), a1, a2, a3] w Qc) (kk : ∀ r1 w1, MON w w1 → Qc r1 w1 → XE "ShareServerModel" cc nL ret ini d (pc + 3) ls (r1.toList ++ rest) w1 Q) : XE "ShareServerModel" cc nL ret ini d pc ls (a3 :: a2 :: a1 :: .inr (7, o) :: rest) w Q := XE.callV (n := 3) (As := [a1, a2, a3]) hd ⟨(mt 686 (by decide +kernel) rfl), co_Md_badRange, (mt 47 (by decide +kernel) rfl), by decide, by decide +kernel, by decide +kernel, by decide +kernel⟩ rfl rfl (mt 688 (by decide +kernel) rfl) (mt 41 (by decide +kernel) rfl) ho rfl hrest hdd rfl hC kk
theorem k_Md_122 {cc : ByteArray} {nL : Nat} {ret : Option FieldType} {d pc : Nat} {ls : List (Option VV)} {rest : List VV} {w : WW} {Q : Option VV → WW → Prop} {ini : Bool} {o : Nat} {a1 : VV} {Qc : Option VV → WW → Prop} (d' : Nat) (hd : decode cc pc = .ok (.invokevirtual 122, 3)) (hdd : d' + 1 ≤ d) (hrest : rest.length ≤ 8) (ho : o ≠ 0) (hC : E_Md_locksOf d' [.inr (7, o), a1] w Qc) (kk : ∀ r1 w1, MON w w1 → Qc r1 w1 → XE "ShareServerModel" cc nL ret ini d (pc + 3) ls (r1.toList ++ rest) w1 Q) : XE "ShareServerModel" cc nL ret ini d pc ls (a1 :: .inr (7, o) :: rest) w Q := XE.callV (n := 1) (As := [a1]) hd ⟨(mt 690 (by decide +kernel) rfl), co_Md_locksOf, (mt 47 (by decide +kernel) rfl), by decide, by decide +kernel, by decide +kernel, by decide +kernel⟩ rfl rfl (mt 692 (by decide +kernel) rfl) (mt 42 (by decide +kernel) rfl) ho rfl hrest hdd rfl hC kk
theorem pl_Md_7 : PLD "ShareServerModel" 7 true 7 2 := ⟨_, _, _, rfl, by decide, (mt 528 (by decide +kernel) rfl), Or.inr ⟨rfl, rfl, rfl⟩⟩
theorem p_Md_7 {cc : ByteArray} {nL : Nat} {ret : Option FieldType} {d pc : Nat} {ls : List (Option VV)} {st : List VV} {w : WW} {Q : Option VV → WW → Prop} {o x k2 : Nat} (hd : decode cc pc = .ok (.putfield 7, 3)) (ho : o ≠ 0) (hk : k2 = 110 ∨ x = 0) (kk : XE "ShareServerModel" cc nL ret true d (pc + 3) ls st (sR w 7 o 2 x) Q) : XE "ShareServerModel" cc nL ret true d pc ls (.inr (k2, x) :: .inr (7, o) :: st) w Q := XE.putR hd pl_Md_7 rfl hk ho kk
theorem pl_Md_13 : PLD "ShareServerModel" 13 true 7 4 := ⟨_, _, _, rfl, by decide, (mt 530 (by decide +kernel) rfl), Or.inr ⟨rfl, rfl, rfl⟩⟩
theorem p_Md_13 {cc : ByteArray} {nL : Nat} {ret : Option FieldType} {d pc : Nat} {ls : List (Option VV)} {st : List VV} {w : WW} {Q : Option VV → WW → Prop} {o x k2 : Nat} (hd : decode cc pc = .ok (.putfield 13, 3)) (ho : o ≠ 0) (hk : k2 = 111 ∨ x = 0) (kk : XE "ShareServerModel" cc nL ret true d (pc + 3) ls st (sR w 7 o 4 x) Q) : XE "ShareServerModel" cc nL ret true d pc ls (.inr (k2, x) :: .inr (7, o) :: st) w Q := XE.putR hd pl_Md_13 rfl hk ho kk
theorem pl_Md_17 : PLD "ShareServerModel" 17 true 7 5 := ⟨_, _, _, rfl, by decide, (mt 531 (by decide +kernel) rfl), Or.inr ⟨rfl, rfl, rfl⟩⟩
theorem p_Md_17 {cc : ByteArray} {nL : Nat} {ret : Option FieldType} {d pc : Nat} {ls : List (Option VV)} {st : List VV} {w : WW} {Q : Option VV → WW → Prop} {o x k2 : Nat} (hd : decode cc pc = .ok (.putfield 17, 3)) (ho : o ≠ 0) (hk : k2 = 112 ∨ x = 0) (kk : XE "ShareServerModel" cc nL ret true d (pc + 3) ls st (sR w 7 o 5 x) Q) : XE "ShareServerModel" cc nL ret true d pc ls (.inr (k2, x) :: .inr (7, o) :: st) w Q := XE.putR hd pl_Md_17 rfl hk ho kk
theorem pl_Md_20 : PLD "ShareServerModel" 20 true 7 6 := ⟨_, _, _, rfl, by decide, (mt 532 (by decide +kernel) rfl), Or.inr ⟨rfl, rfl, rfl⟩⟩
theorem p_Md_20 {cc : ByteArray} {nL : Nat} {ret : Option FieldType} {d pc : Nat} {ls : List (Option VV)} {st : List VV} {w : WW} {Q : Option VV → WW → Prop} {o x k2 : Nat} (hd : decode cc pc = .ok (.putfield 20, 3)) (ho : o ≠ 0) (hk : k2 = 113 ∨ x = 0) (kk : XE "ShareServerModel" cc nL ret true d (pc + 3) ls st (sR w 7 o 6 x) Q) : XE "ShareServerModel" cc nL ret true d pc ls (.inr (k2, x) :: .inr (7, o) :: st) w Q := XE.putR hd pl_Md_20 rfl hk ho kk
theorem pl_Md_23 : PLD "ShareServerModel" 23 true 7 7 := ⟨_, _, _, rfl, by decide, (mt 533 (by decide +kernel) rfl), Or.inr ⟨rfl, rfl, rfl⟩⟩
theorem p_Md_23 {cc : ByteArray} {nL : Nat} {ret : Option FieldType} {d pc : Nat} {ls : List (Option VV)} {st : List VV} {w : WW} {Q : Option VV → WW → Prop} {o x k2 : Nat} (hd : decode cc pc = .ok (.putfield 23, 3)) (ho : o ≠ 0) (hk : k2 = 114 ∨ x = 0) (kk : XE "ShareServerModel" cc nL ret true d (pc + 3) ls st (sR w 7 o 7 x) Q) : XE "ShareServerModel" cc nL ret true d pc ls (.inr (k2, x) :: .inr (7, o) :: st) w Q := XE.putR hd pl_Md_23 rfl hk ho kk
theorem pl_Md_26 : PLD "ShareServerModel" 26 true 7 8 := ⟨_, _, _, rfl, by decide, (mt 534 (by decide +kernel) rfl), Or.inr ⟨rfl, rfl, rfl⟩⟩
theorem p_Md_26 {cc : ByteArray} {nL : Nat} {ret : Option FieldType} {d pc : Nat} {ls : List (Option VV)} {st : List VV} {w : WW} {Q : Option VV → WW → Prop} {o x k2 : Nat} (hd : decode cc pc = .ok (.putfield 26, 3)) (ho : o ≠ 0) (hk : k2 = 115 ∨ x = 0) (kk : XE "ShareServerModel" cc nL ret true d (pc + 3) ls st (sR w 7 o 8 x) Q) : XE "ShareServerModel" cc nL ret true d pc ls (.inr (k2, x) :: .inr (7, o) :: st) w Q := XE.putR hd pl_Md_26 rfl hk ho kk
theorem pl_Md_29 : PLD "ShareServerModel" 29 true 7 9 := ⟨_, _, _, rfl, by decide, (mt 535 (by decide +kernel) rfl), Or.inr ⟨rfl, rfl, rfl⟩⟩
theorem p_Md_29 {cc : ByteArray} {nL : Nat} {ret : Option FieldType} {d pc : Nat} {ls : List (Option VV)} {st : List VV} {w : WW} {Q : Option VV → WW → Prop} {o x k2 : Nat} (hd : decode cc pc = .ok (.putfield 29, 3)) (ho : o ≠ 0) (hk : k2 = 116 ∨ x = 0) (kk : XE "ShareServerModel" cc nL ret true d (pc + 3) ls st (sR w 7 o 9 x) Q) : XE "ShareServerModel" cc nL ret true d pc ls (.inr (k2, x) :: .inr (7, o) :: st) w Q := XE.putR hd pl_Md_29 rfl hk ho kk
theorem pl_Md_32 : PLD "ShareServerModel" 32 true 7 11 := ⟨_, _, _, rfl, by decide, (mt 537 (by decide +kernel) rfl), Or.inr ⟨rfl, rfl, rfl⟩⟩
theorem p_Md_32 {cc : ByteArray} {nL : Nat} {ret : Option FieldType} {d pc : Nat} {ls : List (Option VV)} {st : List VV} {w : WW} {Q : Option VV → WW → Prop} {o x k2 : Nat} (hd : decode cc pc = .ok (.putfield 32, 3)) (ho : o ≠ 0) (hk : k2 = 117 ∨ x = 0) (kk : XE "ShareServerModel" cc nL ret true d (pc + 3) ls st (sR w 7 o 11 x) Q) : XE "ShareServerModel" cc nL ret true d pc ls (.inr (k2, x) :: .inr (7, o) :: st) w Q := XE.putR hd pl_Md_32 rfl hk ho kk
theorem pl_Md_35 : PLD "ShareServerModel" 35 true 7 13 := ⟨_, _, _, rfl, by decide, (mt 539 (by decide +kernel) rfl), Or.inr ⟨rfl, rfl, rfl⟩⟩
theorem p_Md_35 {cc : ByteArray} {nL : Nat} {ret : Option FieldType} {d pc : Nat} {ls : List (Option VV)} {st : List VV} {w : WW} {Q : Option VV → WW → Prop} {o x k2 : Nat} (hd : decode cc pc = .ok (.putfield 35, 3)) (ho : o ≠ 0) (hk : k2 = 118 ∨ x = 0) (kk : XE "ShareServerModel" cc nL ret true d (pc + 3) ls st (sR w 7 o 13 x) Q) : XE "ShareServerModel" cc nL ret true d pc ls (.inr (k2, x) :: .inr (7, o) :: st) w Q := XE.putR hd pl_Md_35 rfl hk ho kk
theorem pl_Md_38 : PLD "ShareServerModel" 38 true 7 15 := ⟨_, _, _, rfl, by decide, (mt 541 (by decide +kernel) rfl), Or.inr ⟨rfl, rfl, rfl⟩⟩
theorem p_Md_38 {cc : ByteArray} {nL : Nat} {ret : Option FieldType} {d pc : Nat} {ls : List (Option VV)} {st : List VV} {w : WW} {Q : Option VV → WW → Prop} {o x k2 : Nat} (hd : decode cc pc = .ok (.putfield 38, 3)) (ho : o ≠ 0) (hk : k2 = 119 ∨ x = 0) (kk : XE "ShareServerModel" cc nL ret true d (pc + 3) ls st (sR w 7 o 15 x) Q) : XE "ShareServerModel" cc nL ret true d pc ls (.inr (k2, x) :: .inr (7, o) :: st) w Q := XE.putR hd pl_Md_38 rfl hk ho kk
theorem pl_Md_41 {ini : Bool} : PLD "ShareServerModel" 41 ini 7 10 := ⟨_, _, _, rfl, by decide, (mt 536 (by decide +kernel) rfl), Or.inl rfl⟩
theorem p_Md_41 {cc : ByteArray} {nL : Nat} {ret : Option FieldType} {d pc : Nat} {ls : List (Option VV)} {st : List VV} {w : WW} {Q : Option VV → WW → Prop} {ini : Bool} {o : Nat} {x : Int32} (hd : decode cc pc = .ok (.putfield 41, 3)) (ho : o ≠ 0) (kk : XE "ShareServerModel" cc nL ret ini d (pc + 3) ls st (sI w 7 o 10 x) Q) : XE "ShareServerModel" cc nL ret ini d pc ls (.inl x :: .inr (7, o) :: st) w Q := XE.putI hd pl_Md_41 (Or.inl rfl) ho kk
theorem pl_Md_53 {ini : Bool} : PLD "ShareServerModel" 53 ini 7 3 := ⟨_, _, _, rfl, by decide, (mt 529 (by decide +kernel) rfl), Or.inl rfl⟩
theorem p_Md_53 {cc : ByteArray} {nL : Nat} {ret : Option FieldType} {d pc : Nat} {ls : List (Option VV)} {st : List VV} {w : WW} {Q : Option VV → WW → Prop} {ini : Bool} {o : Nat} {x : Int32} (hd : decode cc pc = .ok (.putfield 53, 3)) (ho : o ≠ 0) (kk : XE "ShareServerModel" cc nL ret ini d (pc + 3) ls st (sI w 7 o 3 x) Q) : XE "ShareServerModel" cc nL ret ini d pc ls (.inl x :: .inr (7, o) :: st) w Q := XE.putI hd pl_Md_53 (Or.inl rfl) ho kk
theorem pl_Md_56 {ini : Bool} : PLD "ShareServerModel" 56 ini 7 0 := ⟨_, _, _, rfl, by decide, (mt 526 (by decide +kernel) rfl), Or.inl rfl⟩
theorem p_Md_56 {cc : ByteArray} {nL : Nat} {ret : Option FieldType} {d pc : Nat} {ls : List (Option VV)} {st : List VV} {w : WW} {Q : Option VV → WW → Prop} {ini : Bool} {o : Nat} {x : Int32} (hd : decode cc pc = .ok (.putfield 56, 3)) (ho : o ≠ 0) (kk : XE "ShareServerModel" cc nL ret ini d (pc + 3) ls st (sI w 7 o 0 x) Q) : XE "ShareServerModel" cc nL ret ini d pc ls (.inl x :: .inr (7, o) :: st) w Q := XE.putI hd pl_Md_56 (Or.inl rfl) ho kk
theorem pl_Md_63 {ini : Bool} : PLD "ShareServerModel" 63 ini 7 1 := ⟨_, _, _, rfl, by decide, (mt 527 (by decide +kernel) rfl), Or.inl rfl⟩
theorem p_Md_63 {cc : ByteArray} {nL : Nat} {ret : Option FieldType} {d pc : Nat} {ls : List (Option VV)} {st : List VV} {w : WW} {Q : Option VV → WW → Prop} {ini : Bool} {o : Nat} {x : Int32} (hd : decode cc pc = .ok (.putfield 63, 3)) (ho : o ≠ 0) (kk : XE "ShareServerModel" cc nL ret ini d (pc + 3) ls st (sI w 7 o 1 x) Q) : XE "ShareServerModel" cc nL ret ini d pc ls (.inl x :: .inr (7, o) :: st) w Q := XE.putI hd pl_Md_63 (Or.inl rfl) ho kk
theorem pl_Md_88 {ini : Bool} : PLD "ShareServerModel" 88 ini 7 12 := ⟨_, _, _, rfl, by decide, (mt 538 (by decide +kernel) rfl), Or.inl rfl⟩
theorem p_Md_88 {cc : ByteArray} {nL : Nat} {ret : Option FieldType} {d pc : Nat} {ls : List (Option VV)} {st : List VV} {w : WW} {Q : Option VV → WW → Prop} {ini : Bool} {o : Nat} {x : Int32} (hd : decode cc pc = .ok (.putfield 88, 3)) (ho : o ≠ 0) (kk : XE "ShareServerModel" cc nL ret ini d (pc + 3) ls st (sI w 7 o 12 x) Q) : XE "ShareServerModel" cc nL ret ini d pc ls (.inl x :: .inr (7, o) :: st) w Q := XE.putI hd pl_Md_88 (Or.inl rfl) ho kk
theorem pl_Md_100 {ini : Bool} : PLD "ShareServerModel" 100 ini 7 14 := ⟨_, _, _, rfl, by decide, (mt 540 (by decide +kernel) rfl), Or.inl rfl⟩
theorem p_Md_100 {cc : ByteArray} {nL : Nat} {ret : Option FieldType} {d pc : Nat} {ls : List (Option VV)} {st : List VV} {w : WW} {Q : Option VV → WW → Prop} {ini : Bool} {o : Nat} {x : Int32} (hd : decode cc pc = .ok (.putfield 100, 3)) (ho : o ≠ 0) (kk : XE "ShareServerModel" cc nL ret ini d (pc + 3) ls st (sI w 7 o 14 x) Q) : XE "ShareServerModel" cc nL ret ini d pc ls (.inl x :: .inr (7, o) :: st) w Q := XE.putI hd pl_Md_100 (Or.inl rfl) ho kk
theorem pl_Md_116 {ini : Bool} : PLD "ShareServerModel" 116 ini 7 16 := ⟨_, _, _, rfl, by decide, (mt 542 (by decide +kernel) rfl), Or.inl rfl⟩
theorem p_Md_116 {cc : ByteArray} {nL : Nat} {ret : Option FieldType} {d pc : Nat} {ls : List (Option VV)} {st : List VV} {w : WW} {Q : Option VV → WW → Prop} {ini : Bool} {o : Nat} {x : Int32} (hd : decode cc pc = .ok (.putfield 116, 3)) (ho : o ≠ 0) (kk : XE "ShareServerModel" cc nL ret ini d (pc + 3) ls st (sI w 7 o 16 x) Q) : XE "ShareServerModel" cc nL ret ini d pc ls (.inl x :: .inr (7, o) :: st) w Q := XE.putI hd pl_Md_116 (Or.inl rfl) ho kk
end
section
/-! THE MODEL: what the class and the reference both are, as plain functions -/
theorem inc_nI (i : Nat) : nI i + Int32.ofInt 1 = nI (i + 1) := nI_1 i
theorem ixn2 {n L K : Nat} (hL : L = K) (h : n < K) (hK : K ≤ 1000000) : IXN (nI n) L n := by
  subst hL
  exact IXN.nI h hK
def bI (b : Bool) : Int32 := if b then 1 else 0
theorem bI_t : bI true = 1 := rfl
theorem bI_f : bI false = 0 := rfl
theorem bI_01 (b : Bool) : bI b = 0 ∨ bI b = 1 := by cases b <;> decide
theorem bI_eq0 (b : Bool) : bI b = 0 ↔ b = false := by cases b <;> decide
theorem bI_eq1 (b : Bool) : bI b = 1 ↔ b = true := by cases b <;> decide
def uf {α : Type} (f : Nat → α) (k : Nat) (v : α) : Nat → α := fun j => if j = k then v else f j
theorem uf_s {α : Type} (f : Nat → α) (k : Nat) (v : α) : uf f k v k = v := if_pos rfl
theorem uf_n {α : Type} (f : Nat → α) {k j : Nat} (v : α) (h : j ≠ k) : uf f k v j = f j := if_neg h
/-! the ends of a method -/
section ENDS
variable {own : String} {cc : ByteArray} {nL : Nat} {ini : Bool} {d pc : Nat} {ls : List (Option VV)} {w : WW} {Q : Option VV → WW → Prop}
theorem XE.ri {x : Int32} (hd : decode cc pc = .ok (.ireturn, 1)) (q : Q (some (.inl x)) w) : XE own cc nL (some .int) ini d pc ls [.inl x] w Q := XE.retn (r := some (.inl x)) hd trivial rfl q
theorem XE.rb {x : Int32} (hd : decode cc pc = .ok (.ireturn, 1)) (hb : x = 0 ∨ x = 1) (q : Q (some (.inl x)) w) : XE own cc nL (some .boolean) ini d pc ls [.inl x] w Q := XE.retn (r := some (.inl x)) hd hb rfl q
theorem XE.rv (hd : decode cc pc = .ok (.return_, 1)) (q : Q none w) : XE own cc nL none ini d pc ls [] w Q := XE.retn (r := none) hd trivial rfl q
theorem XE.rr {n : String} {x : Nat × Nat} (hd : decode cc pc = .ok (.areturn, 1)) (q : Q (some (.inr x)) w) : XE own cc nL (some (.object n)) ini d pc ls [.inr x] w Q := XE.retn (r := some (.inr x)) hd trivial rfl q
end ENDS
theorem eq_nI {a b : Nat} (ha : a ≤ 1000000) (hb : b ≤ 1000000) : nI a = nI b ↔ a = b := nI_eq (by omega) (by omega)
theorem lt_nI {a b : Nat} (ha : a ≤ 1000000) (hb : b ≤ 1000000) : nI a < nI b ↔ a < b := nI_ltI (by omega) (by omega)
theorem le_nI {a b : Nat} (ha : a ≤ 1000000) (hb : b ≤ 1000000) : nI a ≤ nI b ↔ a ≤ b := nI_leI (by omega) (by omega)
/-! the table of the nodes: given, there, folder, directory, name, cells -/
abbrev Tb : Type := Nat × (Nat → Bool) × (Nat → Bool) × (Nat → Int32) × (Nat → Int32) × (Nat → Nat → Int32)
def tG (t : Tb) : Nat := t.1
def tT (t : Tb) (n : Nat) : Bool := t.2.1 n
def tF (t : Tb) (n : Nat) : Bool := t.2.2.1 n
def tD (t : Tb) (n : Nat) : Int32 := t.2.2.2.1 n
def tN (t : Tb) (n : Nat) : Int32 := t.2.2.2.2.1 n
def tC (t : Tb) (n i : Nat) : Int32 := t.2.2.2.2.2 n i
/-! a change: kind (1 made, 2 removed, 3 moved, 4 written), node, three numbers -/
abbrev Ch : Type := Nat × Nat × Int32 × Int32 × Int32
def app (c : Ch) (t : Tb) : Tb :=
  if c.1 = 1 then (c.2.1, uf t.2.1 c.2.1 true, uf t.2.2.1 c.2.1 (c.2.2.2.2 == 1), uf t.2.2.2.1 c.2.1 c.2.2.1, uf t.2.2.2.2.1 c.2.1 c.2.2.2.1, uf t.2.2.2.2.2 c.2.1 (fun _ => 0))
  else if c.1 = 2 then (t.1, uf t.2.1 c.2.1 false, t.2.2)
  else if c.1 = 3 then (t.1, t.2.1, t.2.2.1, uf t.2.2.2.1 c.2.1 c.2.2.1, uf t.2.2.2.2.1 c.2.1 c.2.2.2.1, t.2.2.2.2.2)
  else (t.1, t.2.1, t.2.2.1, t.2.2.2.1, t.2.2.2.2.1, uf t.2.2.2.2.2 c.2.1 (uf (t.2.2.2.2.2 c.2.1) c.2.2.1.toNatClampNeg c.2.2.2.1))
def tb0 : Tb := (0, (fun n => n == 0), (fun n => n == 0), (fun n => if n = 0 then -3 else 0), (fun n => if n = 0 then -3 else 0), (fun _ _ => 0))
/-- the table after the first so many changes of a log -/
def rep (lg : Nat → Ch) : Nat → Tb
  | 0 => tb0
  | n + 1 => app (lg n) (rep lg n)
theorem rep_congr {lg lg' : Nat → Ch} : ∀ {n : Nat}, (∀ c, c < n → lg c = lg' c) → rep lg n = rep lg' n := by
  intro n
  induction n with
  | zero => intro _; rfl
  | succ n ih =>
    intro h
    show app (lg n) (rep lg n) = app (lg' n) (rep lg' n)
    rw [h n (Nat.lt_succ_self n), ih (fun c hc => h c (Nat.lt_succ_of_lt hc))]
/-! a handle: node, access, share, grant, client, removes, open -/
abbrev HR : Type := Nat × Int32 × Int32 × Int32 × Int32 × Bool × Bool
def hN (h : HR) : Nat := h.1
def hA (h : HR) : Int32 := h.2.1
def hS (h : HR) : Int32 := h.2.2.1
def hG (h : HR) : Int32 := h.2.2.2.1
def hC (h : HR) : Int32 := h.2.2.2.2.1
def hR (h : HR) : Bool := h.2.2.2.2.2.1
def hO (h : HR) : Bool := h.2.2.2.2.2.2
/-! a request: client, directory, name, mode, wish, outcome -/
abbrev QR : Type := Int32 × Nat × Int32 × Int32 × Int32 × Int32
def qC (q : QR) : Int32 := q.1
def qD (q : QR) : Nat := q.2.1
def qN (q : QR) : Int32 := q.2.2.1
def qM (q : QR) : Int32 := q.2.2.2.1
def qW (q : QR) : Int32 := q.2.2.2.2.1
def qO (q : QR) : Int32 := q.2.2.2.2.2
/-! a lock: handle, first, end, alone -/
abbrev KR' : Type := Nat × Nat × Nat × Bool
/-! the state: changes, durable ones, the log, doomed, handles, the handles, requests, the requests, locks, seen -/
abbrev MS : Type := Nat × Nat × (Nat → Ch) × (Nat → Bool) × Nat × (Nat → HR) × Nat × (Nat → QR) × List KR' × Int32
def mN (m : MS) : Nat := m.1
def mU (m : MS) : Nat := m.2.1
def mG (m : MS) : Nat → Ch := m.2.2.1
def mM (m : MS) : Nat → Bool := m.2.2.2.1
def mH (m : MS) : Nat := m.2.2.2.2.1
def mh (m : MS) : Nat → HR := m.2.2.2.2.2.1
def mQ (m : MS) : Nat := m.2.2.2.2.2.2.1
def mq (m : MS) : Nat → QR := m.2.2.2.2.2.2.2.1
def mK (m : MS) : List KR' := m.2.2.2.2.2.2.2.2.1
def mS (m : MS) : Int32 := m.2.2.2.2.2.2.2.2.2
def mT (m : MS) : Tb := rep (mG m) (mN m)
def chF (c : Ch) (f : Nat) : Int32 := match f with
  | 0 => nI c.1
  | 1 => nI c.2.1
  | 2 => c.2.2.1
  | 3 => c.2.2.2.1
  | _ => c.2.2.2.2
def hrF (h : HR) (f : Nat) : Int32 := match f with
  | 0 => nI (hN h)
  | 1 => hA h
  | 2 => hS h
  | 3 => hG h
  | 4 => hC h
  | 5 => bI (hR h)
  | _ => bI (hO h)
def qrF (q : QR) (f : Nat) : Int32 := match f with
  | 0 => qC q
  | 1 => nI (qD q)
  | 2 => qN q
  | 3 => qM q
  | 4 => qW q
  | _ => qO q
def krF (k : KR') (f : Nat) : Int32 := match f with
  | 0 => nI k.1
  | 1 => nI k.2.1
  | 2 => nI k.2.2.1
  | _ => bI k.2.2.2
/-! the reference's cells -/
def MdS (w : WW) : Prop := wR w 7 1 2 = 1 ∧ wR w 7 1 4 = 1 ∧ wR w 7 1 5 = 1 ∧ wR w 7 1 6 = 1 ∧ wR w 7 1 7 = 1 ∧ wR w 7 1 8 = 1 ∧ wR w 7 1 9 = 1 ∧ wR w 7 1 11 = 1 ∧ wR w 7 1 13 = 1 ∧ wR w 7 1 15 = 1 ∧
  wL w 110 1 = 6000 ∧ wL w 111 1 = 25 ∧ wL w 112 1 = 25 ∧ wL w 113 1 = 25 ∧ wL w 114 1 = 25 ∧ wL w 115 1 = 25 ∧ wL w 116 1 = 800 ∧ wL w 117 1 = 3640 ∧ wL w 118 1 = 3120 ∧ wL w 119 1 = 800
/-- the arrays hold a table, where its nodes are there -/
def RMt (w : WW) (t : Tb) : Prop := wI w 7 1 3 = nI (tG t) ∧ (∀ n, n ≤ 24 → wI w 111 1 n = bI (tT t n)) ∧
  (∀ n, n ≤ 24 → tT t n = true → wI w 112 1 n = bI (tF t n) ∧ wI w 113 1 n = tD t n ∧ wI w 114 1 n = tN t n ∧ ∀ i, i < 32 → wI w 116 1 (32 * n + i) = tC t n i)
def RM (w : WW) (m : MS) : Prop := MdS w ∧ wI w 7 1 0 = nI (mN m) ∧ wI w 7 1 1 = nI (mU m) ∧ (∀ c, c < mN m → ∀ f, f < 5 → wI w 110 1 (5 * c + f) = chF (mG m c) f) ∧ RMt w (mT m) ∧
  (∀ n, n ≤ 24 → wI w 115 1 n = bI (mM m n)) ∧ wI w 7 1 10 = nI (mH m) ∧ (∀ x, 1 ≤ x → x ≤ mH m → ∀ f, f < 7 → wI w 117 1 (7 * x + f) = hrF (mh m x) f) ∧
  wI w 7 1 12 = nI (mQ m) ∧ ((∀ r, 1 ≤ r → r ≤ mQ m → ∀ f, f < 6 → wI w 118 1 (6 * r + f) = qrF (mq m r) f) ∧ ∀ r, mQ m < r → r < 520 → wI w 118 1 (6 * r + 5) = 0) ∧
  wI w 7 1 14 = nI (mK m).length ∧ (∀ i (h : i < (mK m).length), ∀ f, f < 4 → wI w 119 1 (4 * i + f) = krF ((mK m)[i]) f) ∧ wI w 7 1 16 = mS m

/-- the bounds that the arrays want -/
def WB (m : MS) : Prop := mH m ≤ 512 ∧ mQ m ≤ 512 ∧ mN m ≤ 1100 ∧ (mK m).length ≤ 190 ∧ tG (mT m) ≤ 24 ∧ (∀ x, 1 ≤ x → x ≤ mH m → hN (mh m x) ≤ 24) ∧ (∀ k ∈ mK m, 1 ≤ k.1 ∧ k.1 ≤ mH m ∧ k.2.1 ≤ 32 ∧ k.2.2.1 ≤ 32) ∧ (∀ r, 1 ≤ r → r ≤ mQ m → qD (mq m r) ≤ 24) ∧
  (∀ x, 1 ≤ x → x ≤ mH m → hO (mh m x) = true → tT (mT m) (hN (mh m x)) = true) ∧ (∀ r, 1 ≤ r → r ≤ mQ m → ∃ md, md < 1024 ∧ qM (mq m r) = nI md) ∧ mU m ≤ mN m ∧ mN m ≤ mU m + 5
/-- the open handle that a number names, or 0 -/
def hOf (m : MS) (v : Int32) : Nat := if 1 ≤ v ∧ v ≤ nI (mH m) ∧ hO (mh m v.toNatClampNeg) = true then v.toNatClampNeg else 0
theorem rng_nI {v : Int32} {n : Nat} (hn : n ≤ 1000000) (h1 : 1 ≤ v) (h2 : v ≤ nI n) : ∃ x, v = nI x ∧ 1 ≤ x ∧ x ≤ n ∧ v.toNatClampNeg = x := by
  have h0 : ¬ v < 0 := fun h => by
    have := Int32.lt_iff_toInt_lt.mp h
    have := Int32.le_iff_toInt_le.mp h1
    simp at *
    omega
  obtain ⟨j, hj, rfl⟩ := nI_of h0
  have a : 1 ≤ j := by
    have := (nI_leI (a := 1) (b := j) (by omega) hj).mp h1
    exact this
  have b : j ≤ n := (nI_leI hj (by omega)).mp h2
  exact ⟨j, rfl, a, b, nI_clamp hj⟩
theorem hOf_nz {m : MS} (hb : WB m) {v : Int32} (h : hOf m v ≠ 0) : v = nI (hOf m v) ∧ 1 ≤ hOf m v ∧ hOf m v ≤ mH m ∧ hO (mh m (hOf m v)) = true := by
  have h512 := hb.1
  unfold hOf at h ⊢
  by_cases c : 1 ≤ v ∧ v ≤ nI (mH m) ∧ hO (mh m v.toNatClampNeg) = true
  · rw [if_pos c]
    obtain ⟨x, e1, e2, e3, e4⟩ := rng_nI (by omega) c.1 c.2.1
    have c3 := c.2.2
    rw [e4] at c3 ⊢
    exact ⟨e1, e2, e3, c3⟩
  · rw [if_neg c] at h
    exact absurd rfl h
theorem hOf_of {m : MS} (hb : WB m) {x : Nat} (h1 : 1 ≤ x) (h2 : x ≤ mH m) (h3 : hO (mh m x) = true) : hOf m (nI x) = x := by
  have h512 := hb.1
  have e : (nI x).toNatClampNeg = x := nI_clamp (by omega)
  unfold hOf
  rw [e, if_pos ⟨(le_nI (a := 1) (by omega) (by omega)).mpr h1, (le_nI (by omega) (by omega)).mpr h2, h3⟩]
def nOpen (m : MS) : Nat := (List.range' 1 (mH m)).countP (fun x => hO (mh m x))
def cntO (m : MS) (n : Nat) : Nat := (List.range' 1 (mH m)).countP (fun x => hO (mh m x) && hN (mh m x) == n)
def ins (t : Tb) (v : Int32) : Nat := (List.range' 1 (tG t)).countP (fun x => tT t x && tD t x == v)
def atP (t : Tb) (d nm : Int32) : Option Nat := (List.range' 1 (tG t)).find? (fun x => tT t x && tD t x == d && tN t x == nm)
def oI (x : Option Nat) : Int32 := match x with
  | none => -3
  | some n => nI n
/-- does the lock k of the list stand against the handle x at the cells f .. e - 1 (any: of any kind; own: what the handle's own locks do) -/
def metP (m : MS) (x f e : Nat) (any : Bool) (own : Nat) (k : KR') : Bool :=
  hN (mh m k.1) == hN (mh m x) && decide (k.2.1 < e) && decide (f < k.2.2.1) && (if k.1 = x ∧ own = 0 then false else if k.1 = x ∧ own = 2 then !k.2.2.2 else any || k.2.2.2)
def lksN (m : MS) (n : Nat) : Nat := (mK m).countP (fun k => hN (mh m k.1) == n)

theorem WB.op {m : MS} (h : WB m) {x : Nat} (h1 : 1 ≤ x) (h2 : x ≤ mH m) (h3 : hO (mh m x) = true) : tT (mT m) (hN (mh m x)) = true := h.2.2.2.2.2.2.2.2.1 x h1 h2 h3
theorem WB.n24 {m : MS} (h : WB m) {x : Nat} (h1 : 1 ≤ x) (h2 : x ≤ mH m) : hN (mh m x) ≤ 24 := h.2.2.2.2.2.1 x h1 h2
theorem WB.d24 {m : MS} (h : WB m) {r : Nat} (h1 : 1 ≤ r) (h2 : r ≤ mQ m) : qD (mq m r) ≤ 24 := h.2.2.2.2.2.2.2.1 r h1 h2
theorem WB.md {m : MS} (h : WB m) {r : Nat} (h1 : 1 ≤ r) (h2 : r ≤ mQ m) : ∃ md, md < 1024 ∧ qM (mq m r) = nI md := h.2.2.2.2.2.2.2.2.2.1 r h1 h2
theorem WB.un {m : MS} (h : WB m) : mU m ≤ mN m ∧ mN m ≤ mU m + 5 := h.2.2.2.2.2.2.2.2.2.2
theorem WB.g24 {m : MS} (h : WB m) : tG (mT m) ≤ 24 := h.2.2.2.2.1
theorem WB.n11 {m : MS} (h : WB m) : mN m ≤ 1100 := h.2.2.1
/-! setters -/
def setH (m : MS) (f : Nat → HR) : MS := (m.1, m.2.1, m.2.2.1, m.2.2.2.1, m.2.2.2.2.1, f, m.2.2.2.2.2.2)
def setQ (m : MS) (f : Nat → QR) : MS := (m.1, m.2.1, m.2.2.1, m.2.2.2.1, m.2.2.2.2.1, m.2.2.2.2.2.1, m.2.2.2.2.2.2.1, f, m.2.2.2.2.2.2.2.2)
def setD (m : MS) (f : Nat → Bool) : MS := (m.1, m.2.1, m.2.2.1, f, m.2.2.2.2)
def setK (m : MS) (k : List KR') : MS := (m.1, m.2.1, m.2.2.1, m.2.2.2.1, m.2.2.2.2.1, m.2.2.2.2.2.1, m.2.2.2.2.2.2.1, m.2.2.2.2.2.2.2.1, k, m.2.2.2.2.2.2.2.2.2)
def setS (m : MS) (v : Int32) : MS := (m.1, m.2.1, m.2.2.1, m.2.2.2.1, m.2.2.2.2.1, m.2.2.2.2.2.1, m.2.2.2.2.2.2.1, m.2.2.2.2.2.2.2.1, m.2.2.2.2.2.2.2.2.1, v)
def hsG (h : HR) (g : Int32) : HR := (h.1, h.2.1, h.2.2.1, g, h.2.2.2.2)
def hsO (h : HR) (o : Bool) : HR := (h.1, h.2.1, h.2.2.1, h.2.2.2.1, h.2.2.2.2.1, h.2.2.2.2.2.1, o)
def qsO (q : QR) (o : Int32) : QR := (q.1, q.2.1, q.2.2.1, q.2.2.2.1, q.2.2.2.2.1, o)
def accM (md : Int32) : Int32 := md &&& nI 7
def shrM (md : Int32) : Int32 := (md >>> (nI 3 &&& 31)) &&& nI 7
def hasM (md : Int32) (b : Nat) : Bool := !(md &&& nI b == 0)
/-- an open handle of the node n with the grant 2 or 3 -/
def brkP (m : MS) (n x : Nat) : Bool := hO (mh m x) && (hN (mh m x) == n && decide (nI 2 ≤ hG (mh m x)))
def brkA (m : MS) (n : Nat) : Bool := (List.range' 1 (mH m)).any (brkP m n)
def brkM (m : MS) (n : Nat) : MS := setH m (fun x => if (1 ≤ x ∧ x ≤ mH m) ∧ brkP m n x = true then hsG (mh m x) (nI 3) else mh m x)
def shP (m : MS) (n : Nat) (md : Int32) (x : Nat) : Bool := hO (mh m x) && (hN (mh m x) == n && (!(accM md &&& (hS (mh m x) ^^^ (-1)) == 0) || !(hA (mh m x) &&& (shrM md ^^^ (-1)) == 0)))
def shA (m : MS) (n : Nat) (md : Int32) : Bool := (List.range' 1 (mH m)).any (shP m n md)
def grG (m : MS) (r n : Nat) : Int32 := if tF (mT m) n = true ∨ qW (mq m r) = nI 0 then nI 0 else if qW (mq m r) = nI 2 ∧ cntO m n = 0 then nI 2 else nI 1
def grM (m : MS) (r n : Nat) : MS := (m.1, m.2.1, m.2.2.1, m.2.2.2.1, mH m + 1, uf (mh m) (mH m + 1) (n, accM (qM (mq m r)), shrM (qM (mq m r)), grG m r n, qC (mq m r), hasM (qM (mq m r)) 512, true), m.2.2.2.2.2.2)
set_option maxRecDepth 100000 in
theorem bit9 : ∀ md, md < 1024 → nI md >>> (nI 9 &&& 31) = bI (hasM (nI md) 512) := by decide +kernel
set_option maxRecDepth 100000 in
theorem bit8 : ∀ md, md < 1024 → (nI md >>> (nI 8 &&& 31)) &&& nI 1 = bI (hasM (nI md) 256) := by decide +kernel
set_option maxRecDepth 100000 in
theorem bit192 : ∀ md, md < 1024 → (nI md &&& nI 192 = nI 192 ↔ (hasM (nI md) 64 = true ∧ hasM (nI md) 128 = true)) := by decide +kernel

theorem hasM_t {md : Int32} {b : Nat} : hasM md b = true ↔ ¬ md &&& nI b = 0 := by simp [hasM]
theorem hasM_f {md : Int32} {b : Nat} : hasM md b = false ↔ md &&& nI b = 0 := by simp [hasM]
end
section
/-! the reference's small methods, over its arrays -/
theorem Md_in_ok {w : WW} {d : Nat} (v a b : Int32) : E_Md_in d [.inl v, .inl a, .inl b] w (fun r w' => r = some (.inl (bI (decide (a ≤ v) && decide (v ≤ b)))) ∧ w' = w) := by
  refine S_Md_in ?_
  have t : ∀ x : Bool, RT (some .boolean) (some (.inl (bI x))) := fun x => bI_01 x
  refine XE.iload_n d_Md_in_0 rfl ?_
  refine XE.iload_n d_Md_in_1 rfl ?_
  refine XE.icmp_lt 14 d_Md_in_2 (by decide) (fun h2 => ?_) (fun h2 => ?_)
  · have e : (decide (a ≤ v) && decide (v ≤ b)) = false := by simp [Int32.not_le.mpr h2]
    refine XE.iconst (x := nI 0) d_Md_in_14 (by decide) ?_
    exact XE.retn (r := some (.inl (bI (decide (a ≤ v) && decide (v ≤ b))))) d_Md_in_15 (t _) (by rw [e]; rfl) ⟨rfl, rfl⟩
  · refine XE.iload_n d_Md_in_5 rfl ?_
    refine XE.iload_n d_Md_in_6 rfl ?_
    refine XE.icmp_gt 14 d_Md_in_7 (by decide) (fun h7 => ?_) (fun h7 => ?_)
    · have e : (decide (a ≤ v) && decide (v ≤ b)) = false := by simp [Int32.not_le.mpr h7]
      refine XE.iconst (x := nI 0) d_Md_in_14 (by decide) ?_
      exact XE.retn (r := some (.inl (bI (decide (a ≤ v) && decide (v ≤ b))))) d_Md_in_15 (t _) (by rw [e]; rfl) ⟨rfl, rfl⟩
    · have e : (decide (a ≤ v) && decide (v ≤ b)) = true := by simp [Int32.not_lt.mp h2, Int32.not_lt.mp h7]
      refine XE.iconst (x := nI 1) d_Md_in_10 (by decide) ?_
      refine XE.goto 15 d_Md_in_11 (by decide) ?_
      exact XE.retn (r := some (.inl (bI (decide (a ≤ v) && decide (v ≤ b))))) d_Md_in_15 (t _) (by rw [e]; rfl) ⟨rfl, rfl⟩
theorem Md_h_ok {w : WW} {d x f : Nat} (h1 : wR w 7 1 11 = 1) (h2 : wL w 117 1 = 3640) (hx : 7 * x + f < 3640) : E_Md_h d [.inr (7, 1), .inl (nI x), .inl (nI f)] w (fun r w' => r = some (.inl (wI w 117 1 (7 * x + f))) ∧ w' = w) := by
  refine S_Md_h ?_
  refine XE.aload_n d_Md_h_0 rfl ?_
  refine g_Md_32 d_Md_h_1 (by first | assumption | decide | omega) (by first | assumption | rfl) ?_
  refine XE.bipush (x := nI 7) d_Md_h_4 (by decide) ?_
  refine XE.iload_n d_Md_h_6 rfl ?_
  refine XE.imul d_Md_h_7 (by first | exact pk_mul _ _ | rfl) ?_
  refine XE.iload_n d_Md_h_8 rfl ?_
  refine XE.iadd d_Md_h_9 (by first | exact nI_add _ _ | rfl) ?_
  refine XE.iald d_Md_h_10 (Or.inr ⟨by decide, rfl⟩) (by first | assumption | decide | omega) (by first | assumption | exact ixn2 (by assumption) (by omega) (by omega)) (by first | assumption | rfl) ?_
  exact XE.ri d_Md_h_11 ⟨rfl, rfl⟩
/-- the handle's fields as the model has them -/
theorem Md_h_m {w : WW} {m : MS} {d x : Nat} (f : Nat) (hM : RM w m) (hB : WB m) (h1 : 1 ≤ x) (h2 : x ≤ mH m) (hf : f < 7) : E_Md_h d [.inr (7, 1), .inl (nI x), .inl (nI f)] w (fun r w' => r = some (.inl (hrF (mh m x) f)) ∧ w' = w) := by
  have b := hB.1
  obtain ⟨hS, -, -, -, -, -, -, hH, -⟩ := hM
  have e := hH x h1 h2 f hf
  rw [← e]
  exact Md_h_ok hS.2.2.2.2.2.2.2.1 hS.2.2.2.2.2.2.2.2.2.2.2.2.2.2.2.2.2.1 (by omega)
theorem Md_shut_ok {w : WW} {m : MS} {d : Nat} (hM : RM w m) (hB : WB m) (v : Int32) (hd : 1 ≤ d) : E_Md_shut d [.inr (7, 1), .inl v] w (fun r w' => r = some (.inl (bI (hOf m v == 0))) ∧ w' = w) := by
  refine S_Md_shut ?_
  have b := hB.1
  have hn : wI w 7 1 10 = nI (mH m) := hM.2.2.2.2.2.2.1
  have k1 : bI (decide (nI 1 ≤ v) && decide (v ≤ nI (mH m))) = 0 → (hOf m v == 0) = true := by
    intro h
    rw [bI_eq0] at h
    unfold hOf
    rw [if_neg]
    · rfl
    · rintro ⟨c1, c2, -⟩
      have c1 : nI 1 ≤ v := c1
      simp [c1, c2] at h
  have k2 : ¬ bI (decide (nI 1 ≤ v) && decide (v ≤ nI (mH m))) = 0 → ∃ x, v = nI x ∧ 1 ≤ x ∧ x ≤ mH m ∧ v.toNatClampNeg = x := by
    intro h
    rw [bI_eq0, Bool.not_eq_false, Bool.and_eq_true, decide_eq_true_eq, decide_eq_true_eq] at h
    exact rng_nI (by omega) h.1 h.2
  have k3 : ∀ x, 1 ≤ x → x ≤ mH m → (¬ hrF (mh m x) 6 = 0 → (hOf m (nI x) == 0) = false) ∧ (hrF (mh m x) 6 = 0 → (hOf m (nI x) == 0) = true) := by
    intro x x1 x2
    have e : (nI x).toNatClampNeg = x := nI_clamp (by omega)
    refine ⟨fun h => ?_, fun h => ?_⟩
    · have h : ¬ bI (hO (mh m x)) = 0 := h
      rw [bI_eq0, Bool.not_eq_false] at h
      rw [hOf_of hB x1 x2 h]
      simp; omega
    · have h : bI (hO (mh m x)) = 0 := h
      rw [bI_eq0] at h
      unfold hOf
      rw [e, if_neg (by rw [h]; rintro ⟨-, -, c⟩; cases c)]
      rfl
  refine XE.iload_n d_Md_shut_0 rfl ?_
  refine XE.iconst (x := nI 1) d_Md_shut_1 (by decide) ?_
  refine XE.aload_n d_Md_shut_2 rfl ?_
  refine g_Md_41 d_Md_shut_3 (by first | assumption | decide | omega) (by first | assumption | rfl) ?_
  refine k_Md_45 0 d_Md_shut_6 (by omega) (Nat.le_of_ble_eq_true rfl) (Md_in_ok v (nI 1) (nI (mH m))) (fun r1 w1 hm1 hq1 => ?_)
  rw [hq1.1, hq1.2]
  clear hq1 hm1 r1 w1
  refine XE.if_eq 22 d_Md_shut_9 (by decide) (fun h9 => ?_) (fun h9 => ?_)
  · have e := k1 h9
    refine XE.iconst (x := nI 1) d_Md_shut_22 (by decide) ?_
    refine XE.goto 27 d_Md_shut_23 (by decide) ?_
    exact XE.rb d_Md_shut_27 (by decide) ⟨by rw [e]; rfl, rfl⟩
  · obtain ⟨x, rfl, x1, x2, -⟩ := k2 h9
    refine XE.aload_n d_Md_shut_12 rfl ?_
    refine XE.iload_n d_Md_shut_13 rfl ?_
    refine XE.bipush (x := nI 6) d_Md_shut_14 (by decide) ?_
    refine k_Md_49 0 d_Md_shut_16 (by omega) (Nat.le_of_ble_eq_true rfl) (by first | assumption | decide | omega) (Md_h_m 6 hM hB x1 x2 (by decide)) (fun r1 w1 hm1 hq1 => ?_)
    rw [hq1.1, hq1.2]
    clear hq1 hm1 r1 w1
    refine XE.if_ne 26 d_Md_shut_19 (by decide) (fun h19 => ?_) (fun h19 => ?_)
    · have e := (k3 x x1 x2).1 h19
      refine XE.iconst (x := nI 0) d_Md_shut_26 (by decide) ?_
      exact XE.rb d_Md_shut_27 (by decide) ⟨by rw [e]; rfl, rfl⟩
    · have e := (k3 x x1 x2).2 h19
      refine XE.iconst (x := nI 1) d_Md_shut_22 (by decide) ?_
      refine XE.goto 27 d_Md_shut_23 (by decide) ?_
      exact XE.rb d_Md_shut_27 (by decide) ⟨by rw [e]; rfl, rfl⟩
/-- openOf, of all handles (g = true) or of a node's -/
theorem Md_openOf_g {w : WW} {m : MS} {d : Nat} (hM : RM w m) (hB : WB m) (v : Int32) (p : Nat → Bool) (hp : ∀ x, 1 ≤ x → x ≤ mH m → (p x = true ↔ hO (mh m x) = true ∧ (v < 0 ∨ nI (hN (mh m x)) = v))) (hd : 1 ≤ d) :
    E_Md_openOf d [.inr (7, 1), .inl v] w (fun r w' => r = some (.inl (nI ((List.range' 1 (mH m)).countP p))) ∧ w' = w) := by
  refine S_Md_openOf ?_
  have b := hB.1
  have hn : wI w 7 1 10 = nI (mH m) := hM.2.2.2.2.2.2.1
  have loop : ∀ k i c, i + k = mH m + 1 → 1 ≤ i → X_Md_openOf d 4 [some (.inr (7, 1)), some (.inl v), some (.inl (nI c)), some (.inl (nI i))] [] w (fun r w' => r = some (.inl (nI (c + (List.range' i k).countP p))) ∧ w' = w) := by
    intro k
    induction k with
    | zero =>
      intro i c h1 h2
      refine XE.iload_n d_Md_openOf_4 rfl ?_
      refine XE.aload_n d_Md_openOf_5 rfl ?_
      refine g_Md_41 d_Md_openOf_6 (by first | assumption | decide | omega) (by first | assumption | rfl) ?_
      refine XE.icmp_gt 46 d_Md_openOf_9 (by decide) (fun h9 => ?_) (fun h9 => absurd h9 ((by rw [lt_nI (by omega) (by omega)]; omega)))
      refine XE.iload_n d_Md_openOf_46 rfl ?_
      exact XE.ri d_Md_openOf_47 ⟨by simp, rfl⟩
    | succ k ih =>
      intro i c h1 h2
      have e1 : ¬ p i = true → (List.range' i (k + 1)).countP p = (List.range' (i + 1) k).countP p := fun h => by rw [List.range'_succ, List.countP_cons_of_neg h]
      have e2 : p i = true → (List.range' i (k + 1)).countP p = (List.range' (i + 1) k).countP p + 1 := fun h => by rw [List.range'_succ, List.countP_cons_of_pos h]
      have hpi := hp i h2 (by omega)
      have o1 : ¬ hrF (mh m i) 6 = nI 1 → ¬ p i = true := fun h q => h ((bI_eq1 _).mpr (hpi.mp q).1)
      have o2 : hrF (mh m i) 6 = nI 1 → hO (mh m i) = true := fun h => (bI_eq1 _).mp h
      refine XE.iload_n d_Md_openOf_4 rfl ?_
      refine XE.aload_n d_Md_openOf_5 rfl ?_
      refine g_Md_41 d_Md_openOf_6 (by first | assumption | decide | omega) (by first | assumption | rfl) ?_
      refine XE.icmp_gt 46 d_Md_openOf_9 (by decide) (fun h9 => absurd h9 ((by rw [lt_nI (by omega) (by omega)]; omega))) (fun h9 => ?_)
      refine XE.aload_n d_Md_openOf_12 rfl ?_
      refine XE.iload_n d_Md_openOf_13 rfl ?_
      refine XE.bipush (x := nI 6) d_Md_openOf_14 (by decide) ?_
      refine k_Md_49 0 d_Md_openOf_16 (by omega) (Nat.le_of_ble_eq_true rfl) (by first | assumption | decide | omega) (Md_h_m 6 hM hB h2 (by omega) (by decide)) (fun r1 w1 hm1 hq1 => ?_)
      rw [hq1.1, hq1.2]
      clear hq1 hm1 r1 w1
      refine XE.iconst (x := nI 1) d_Md_openOf_19 (by decide) ?_
      refine XE.icmp_ne 40 d_Md_openOf_20 (by decide) (fun h20 => ?_) (fun h20 => ?_)
      · have q := e1 (o1 h20)
        refine XE.iinc d_Md_openOf_40 rfl (inc_nI _) ?_
        refine XE.goto 4 d_Md_openOf_43 (by decide) ?_
        refine (ih (i + 1) _ (by omega) (by omega)).mono (fun r w' z => ⟨z.1.trans ?_, z.2⟩)
        rw [q] <;> try (congr 3 <;> omega)
      · refine XE.iload_n d_Md_openOf_23 rfl ?_
        refine XE.if_lt 37 d_Md_openOf_24 (by decide) (fun h24 => ?_) (fun h24 => ?_)
        · have q := e2 (hpi.mpr ⟨o2 h20, Or.inl h24⟩)
          refine XE.iinc d_Md_openOf_37 rfl (inc_nI _) ?_
          refine XE.iinc d_Md_openOf_40 rfl (inc_nI _) ?_
          refine XE.goto 4 d_Md_openOf_43 (by decide) ?_
          refine (ih (i + 1) _ (by omega) (by omega)).mono (fun r w' z => ⟨z.1.trans ?_, z.2⟩)
          rw [q] <;> try (congr 3 <;> omega)
        · refine XE.aload_n d_Md_openOf_27 rfl ?_
          refine XE.iload_n d_Md_openOf_28 rfl ?_
          refine XE.iconst (x := nI 0) d_Md_openOf_29 (by decide) ?_
          refine k_Md_49 0 d_Md_openOf_30 (by omega) (Nat.le_of_ble_eq_true rfl) (by first | assumption | decide | omega) (Md_h_m 0 hM hB h2 (by omega) (by decide)) (fun r1 w1 hm1 hq1 => ?_)
          rw [hq1.1, hq1.2]
          clear hq1 hm1 r1 w1
          refine XE.iload_n d_Md_openOf_33 rfl ?_
          refine XE.icmp_ne 40 d_Md_openOf_34 (by decide) (fun h34 => ?_) (fun h34 => ?_)
          · have q := e1 (fun z => (hpi.mp z).2.elim h24 h34)
            refine XE.iinc d_Md_openOf_40 rfl (inc_nI _) ?_
            refine XE.goto 4 d_Md_openOf_43 (by decide) ?_
            refine (ih (i + 1) _ (by omega) (by omega)).mono (fun r w' z => ⟨z.1.trans ?_, z.2⟩)
            rw [q] <;> try (congr 3 <;> omega)
          · have q := e2 (hpi.mpr ⟨o2 h20, Or.inr h34⟩)
            refine XE.iinc d_Md_openOf_37 rfl (inc_nI _) ?_
            refine XE.iinc d_Md_openOf_40 rfl (inc_nI _) ?_
            refine XE.goto 4 d_Md_openOf_43 (by decide) ?_
            refine (ih (i + 1) _ (by omega) (by omega)).mono (fun r w' z => ⟨z.1.trans ?_, z.2⟩)
            rw [q] <;> try (congr 3 <;> omega)
  refine XE.iconst (x := nI 0) d_Md_openOf_0 (by decide) ?_
  refine XE.istore_n d_Md_openOf_1 (by decide) ?_
  refine XE.iconst (x := nI 1) d_Md_openOf_2 (by decide) ?_
  refine XE.istore_n d_Md_openOf_3 (by decide) ?_
  refine (loop (mH m) 1 0 (by omega) (by omega)).mono (fun r w' z => ⟨z.1.trans ?_, z.2⟩)
  rw [Nat.zero_add]
theorem Md_openOf_all {w : WW} {m : MS} {d : Nat} (hM : RM w m) (hB : WB m) (hd : 1 ≤ d) : E_Md_openOf d [.inr (7, 1), .inl (-1)] w (fun r w' => r = some (.inl (nI (nOpen m))) ∧ w' = w) :=
  Md_openOf_g hM hB (-1) (fun x => hO (mh m x)) (fun x _ _ => ⟨fun h => ⟨h, Or.inl (by decide)⟩, fun h => h.1⟩) hd
theorem Md_openOf_n {w : WW} {m : MS} {d n : Nat} (hM : RM w m) (hB : WB m) (hn : n ≤ 24) (hd : 1 ≤ d) : E_Md_openOf d [.inr (7, 1), .inl (nI n)] w (fun r w' => r = some (.inl (nI (cntO m n))) ∧ w' = w) :=
  Md_openOf_g hM hB (nI n) (fun x => hO (mh m x) && hN (mh m x) == n) (fun x h1 h2 => by
    have h24 := hB.2.2.2.2.2.1 x h1 h2
    rw [Bool.and_eq_true, beq_iff_eq, eq_nI (by omega) (by omega)]
    exact ⟨fun h => ⟨h.1, Or.inr h.2⟩, fun h => ⟨h.1, h.2.elim (fun q => absurd q (nI_pos (by omega))) id⟩⟩) hd
end
section
/-! the reference: loops over the nodes and the locks -/
theorem Md_inside_ok {w : WW} {t : Tb} {d : Nat} (hS : MdS w) (hT : RMt w t) (hg : tG t ≤ 24) (v : Int32) :
    E_Md_inside d [.inr (7, 1), .inl v] w (fun r w' => r = some (.inl (nI (ins t v))) ∧ w' = w) := by
  refine S_Md_inside ?_
  obtain ⟨hn, hTh, hTr⟩ := hT
  obtain ⟨-, s4, -, s6, -, -, -, -, -, -, -, l1, -, l3, -⟩ := hS
  let p : Nat → Bool := fun x => tT t x && tD t x == v
  have loop : ∀ k i c, i + k = tG t + 1 → 1 ≤ i → X_Md_inside d 4 [some (.inr (7, 1)), some (.inl v), some (.inl (nI c)), some (.inl (nI i))] [] w (fun r w' => r = some (.inl (nI (c + (List.range' i k).countP p))) ∧ w' = w) := by
    intro k
    induction k with
    | zero =>
      intro i c h1 h2
      refine XE.iload_n d_Md_inside_4 rfl ?_
      refine XE.aload_n d_Md_inside_5 rfl ?_
      refine g_Md_53 d_Md_inside_6 (by first | assumption | decide | omega) (by first | assumption | rfl) ?_
      refine XE.icmp_gt 40 d_Md_inside_9 (by decide) (fun h9 => ?_) (fun h9 => absurd h9 ((by rw [lt_nI (by omega) (by omega)]; omega)))
      refine XE.iload_n d_Md_inside_40 rfl ?_
      exact XE.ri d_Md_inside_41 ⟨by simp, rfl⟩
    | succ k ih =>
      intro i c h1 h2
      have e1 : ¬ p i = true → (List.range' i (k + 1)).countP p = (List.range' (i + 1) k).countP p := fun h => by rw [List.range'_succ, List.countP_cons_of_neg h]
      have e2 : p i = true → (List.range' i (k + 1)).countP p = (List.range' (i + 1) k).countP p + 1 := fun h => by rw [List.range'_succ, List.countP_cons_of_pos h]
      have hpi : p i = true ↔ tT t i = true ∧ tD t i = v := by simp [p]
      have o1 : wI w 111 1 i = 0 → ¬ p i = true := fun h q => by
        rw [hTh i (by omega), (hpi.mp q).1] at h
        exact absurd h (by decide)
      have o2 : ¬ wI w 111 1 i = 0 → (wI w 113 1 i = v ↔ p i = true) := fun h => by
        have ht : tT t i = true := by
          rw [hTh i (by omega), bI_eq0, Bool.not_eq_false] at h
          exact h
        rw [(hTr i (by omega) ht).2.1, hpi]
        exact ⟨fun q => ⟨ht, q⟩, fun q => q.2⟩
      refine XE.iload_n d_Md_inside_4 rfl ?_
      refine XE.aload_n d_Md_inside_5 rfl ?_
      refine g_Md_53 d_Md_inside_6 (by first | assumption | decide | omega) (by first | assumption | rfl) ?_
      refine XE.icmp_gt 40 d_Md_inside_9 (by decide) (fun h9 => absurd h9 ((by rw [lt_nI (by omega) (by omega)]; omega))) (fun h9 => ?_)
      refine XE.aload_n d_Md_inside_12 rfl ?_
      refine g_Md_13 d_Md_inside_13 (by first | assumption | decide | omega) (by first | assumption | rfl) ?_
      refine XE.iload_n d_Md_inside_16 rfl ?_
      refine XE.zald d_Md_inside_17 (by decide) rfl (by first | assumption | decide | omega) (by first | assumption | exact ixn2 (by assumption) (by omega) (by omega)) rfl ?_
      refine XE.if_eq 34 d_Md_inside_18 (by decide) (fun h18 => ?_) (fun h18 => ?_)
      · have q := e1 (o1 h18)
        refine XE.iinc d_Md_inside_34 rfl (inc_nI _) ?_
        refine XE.goto 4 d_Md_inside_37 (by decide) ?_
        refine (ih (i + 1) _ (by omega) (by omega)).mono (fun r w' z => ⟨z.1.trans ?_, z.2⟩)
        rw [q] <;> try (congr 3 <;> omega)
      · refine XE.aload_n d_Md_inside_21 rfl ?_
        refine g_Md_20 d_Md_inside_22 (by first | assumption | decide | omega) (by first | assumption | rfl) ?_
        refine XE.iload_n d_Md_inside_25 rfl ?_
        refine XE.iald d_Md_inside_26 (Or.inr ⟨by decide, rfl⟩) (by first | assumption | decide | omega) (by first | assumption | exact ixn2 (by assumption) (by omega) (by omega)) rfl ?_
        refine XE.iload_n d_Md_inside_27 rfl ?_
        refine XE.icmp_ne 34 d_Md_inside_28 (by decide) (fun h28 => ?_) (fun h28 => ?_)
        · have q := e1 (fun z => h28 ((o2 h18).mpr z))
          refine XE.iinc d_Md_inside_34 rfl (inc_nI _) ?_
          refine XE.goto 4 d_Md_inside_37 (by decide) ?_
          refine (ih (i + 1) _ (by omega) (by omega)).mono (fun r w' z => ⟨z.1.trans ?_, z.2⟩)
          rw [q] <;> try (congr 3 <;> omega)
        · have q := e2 ((o2 h18).mp h28)
          refine XE.iinc d_Md_inside_31 rfl (inc_nI _) ?_
          refine XE.iinc d_Md_inside_34 rfl (inc_nI _) ?_
          refine XE.goto 4 d_Md_inside_37 (by decide) ?_
          refine (ih (i + 1) _ (by omega) (by omega)).mono (fun r w' z => ⟨z.1.trans ?_, z.2⟩)
          rw [q] <;> try (congr 3 <;> omega)
  refine XE.iconst (x := nI 0) d_Md_inside_0 (by decide) ?_
  refine XE.istore_n d_Md_inside_1 (by decide) ?_
  refine XE.iconst (x := nI 1) d_Md_inside_2 (by decide) ?_
  refine XE.istore_n d_Md_inside_3 (by decide) ?_
  refine (loop (tG t) 1 0 (by omega) (by omega)).mono (fun r w' z => ⟨z.1.trans ?_, z.2⟩)
  rw [Nat.zero_add]; rfl
theorem Md_at_ok {w : WW} {t : Tb} {d : Nat} (hS : MdS w) (hT : RMt w t) (hg : tG t ≤ 24) (v u : Int32) :
    E_Md_at d [.inr (7, 1), .inl v, .inl u] w (fun r w' => r = some (.inl (oI (atP t v u))) ∧ w' = w) := by
  refine S_Md_at ?_
  obtain ⟨hn, hTh, hTr⟩ := hT
  obtain ⟨-, s4, -, s6, s7, -, -, -, -, -, -, l1, -, l3, l4, -⟩ := hS
  let p : Nat → Bool := fun x => tT t x && tD t x == v && tN t x == u
  have loop : ∀ k i, i + k = tG t + 1 → 1 ≤ i → X_Md_at d 2 [some (.inr (7, 1)), some (.inl v), some (.inl u), some (.inl (nI i))] [] w (fun r w' => r = some (.inl (oI ((List.range' i k).find? p))) ∧ w' = w) := by
    intro k
    induction k with
    | zero =>
      intro i h1 h2
      refine XE.iload_n d_Md_at_2 rfl ?_
      refine XE.aload_n d_Md_at_3 rfl ?_
      refine g_Md_53 d_Md_at_4 (by first | assumption | decide | omega) (by first | assumption | rfl) ?_
      refine XE.icmp_gt 47 d_Md_at_7 (by decide) (fun h7 => ?_) (fun h7 => absurd h7 ((by rw [lt_nI (by omega) (by omega)]; omega)))
      refine XE.bipush (x := (-3)) d_Md_at_47 (by decide) ?_
      exact XE.ri d_Md_at_49 ⟨rfl, rfl⟩
    | succ k ih =>
      intro i h1 h2
      have e1 : ¬ p i = true → (List.range' i (k + 1)).find? p = (List.range' (i + 1) k).find? p := fun h => by rw [List.range'_succ, List.find?_cons_of_neg h]
      have e2 : p i = true → (List.range' i (k + 1)).find? p = some i := fun h => by rw [List.range'_succ, List.find?_cons_of_pos h]
      have hpi : p i = true ↔ (tT t i = true ∧ tD t i = v) ∧ tN t i = u := by simp [p]
      have o1 : wI w 111 1 i = 0 → ¬ p i = true := fun h q => by
        rw [hTh i (by omega), (hpi.mp q).1.1] at h
        exact absurd h (by decide)
      have o2 : ¬ wI w 111 1 i = 0 → (wI w 113 1 i = v ∧ wI w 114 1 i = u ↔ p i = true) := fun h => by
        have ht : tT t i = true := by
          rw [hTh i (by omega), bI_eq0, Bool.not_eq_false] at h
          exact h
        rw [(hTr i (by omega) ht).2.1, (hTr i (by omega) ht).2.2.1, hpi]
        exact ⟨fun q => ⟨⟨ht, q.1⟩, q.2⟩, fun q => ⟨q.1.2, q.2⟩⟩
      refine XE.iload_n d_Md_at_2 rfl ?_
      refine XE.aload_n d_Md_at_3 rfl ?_
      refine g_Md_53 d_Md_at_4 (by first | assumption | decide | omega) (by first | assumption | rfl) ?_
      refine XE.icmp_gt 47 d_Md_at_7 (by decide) (fun h7 => absurd h7 ((by rw [lt_nI (by omega) (by omega)]; omega))) (fun h7 => ?_)
      refine XE.aload_n d_Md_at_10 rfl ?_
      refine g_Md_13 d_Md_at_11 (by first | assumption | decide | omega) (by first | assumption | rfl) ?_
      refine XE.iload_n d_Md_at_14 rfl ?_
      refine XE.zald d_Md_at_15 (by decide) rfl (by first | assumption | decide | omega) (by first | assumption | exact ixn2 (by assumption) (by omega) (by omega)) rfl ?_
      refine XE.if_eq 41 d_Md_at_16 (by decide) (fun h16 => ?_) (fun h16 => ?_)
      · have q := e1 (o1 h16)
        refine XE.iinc d_Md_at_41 rfl (inc_nI _) ?_
        refine XE.goto 2 d_Md_at_44 (by decide) ?_
        refine (ih (i + 1) (by omega) (by omega)).mono (fun r w' z => ⟨z.1.trans ?_, z.2⟩)
        rw [q]
      · refine XE.aload_n d_Md_at_19 rfl ?_
        refine g_Md_20 d_Md_at_20 (by first | assumption | decide | omega) (by first | assumption | rfl) ?_
        refine XE.iload_n d_Md_at_23 rfl ?_
        refine XE.iald d_Md_at_24 (Or.inr ⟨by decide, rfl⟩) (by first | assumption | decide | omega) (by first | assumption | exact ixn2 (by assumption) (by omega) (by omega)) rfl ?_
        refine XE.iload_n d_Md_at_25 rfl ?_
        refine XE.icmp_ne 41 d_Md_at_26 (by decide) (fun h26 => ?_) (fun h26 => ?_)
        · have q := e1 (fun z => h26 ((o2 h16).mpr z).1)
          refine XE.iinc d_Md_at_41 rfl (inc_nI _) ?_
          refine XE.goto 2 d_Md_at_44 (by decide) ?_
          refine (ih (i + 1) (by omega) (by omega)).mono (fun r w' z => ⟨z.1.trans ?_, z.2⟩)
          rw [q]
        · refine XE.aload_n d_Md_at_29 rfl ?_
          refine g_Md_23 d_Md_at_30 (by first | assumption | decide | omega) (by first | assumption | rfl) ?_
          refine XE.iload_n d_Md_at_33 rfl ?_
          refine XE.iald d_Md_at_34 (Or.inr ⟨by decide, rfl⟩) (by first | assumption | decide | omega) (by first | assumption | exact ixn2 (by assumption) (by omega) (by omega)) rfl ?_
          refine XE.iload_n d_Md_at_35 rfl ?_
          refine XE.icmp_ne 41 d_Md_at_36 (by decide) (fun h36 => ?_) (fun h36 => ?_)
          · have q := e1 (fun z => h36 ((o2 h16).mpr z).2)
            refine XE.iinc d_Md_at_41 rfl (inc_nI _) ?_
            refine XE.goto 2 d_Md_at_44 (by decide) ?_
            refine (ih (i + 1) (by omega) (by omega)).mono (fun r w' z => ⟨z.1.trans ?_, z.2⟩)
            rw [q]
          · have q := e2 ((o2 h16).mp ⟨h26, h36⟩)
            refine XE.iload_n d_Md_at_39 rfl ?_
            exact XE.ri d_Md_at_40 ⟨by rw [q]; rfl, rfl⟩
  refine XE.iconst (x := nI 1) d_Md_at_0 (by decide) ?_
  refine XE.istore_n d_Md_at_1 (by decide) ?_
  exact (loop (tG t) 1 (by omega) (by omega)).mono (fun r w' z => ⟨z.1, z.2⟩)
theorem Md_locksOf_ok {w : WW} {m : MS} {d n : Nat} (hM : RM w m) (hB : WB m) (hn : n ≤ 24) (hd : 1 ≤ d) :
    E_Md_locksOf d [.inr (7, 1), .inl (nI n)] w (fun r w' => r = some (.inl (nI (lksN m n))) ∧ w' = w) := by
  refine S_Md_locksOf ?_
  have hS := hM.1
  obtain ⟨-, -, -, -, -, -, -, s11, -, s15, -, -, -, -, -, -, -, l17, -, l19⟩ := hS
  have hk : wI w 7 1 14 = nI (mK m).length := hM.2.2.2.2.2.2.2.2.2.2.1
  have hK := hM.2.2.2.2.2.2.2.2.2.2.2.1
  have b4 := hB.2.2.2.1
  let p : KR' → Bool := fun k => hN (mh m k.1) == n
  have loop : ∀ k i c, i + k = (mK m).length → X_Md_locksOf d 4 [some (.inr (7, 1)), some (.inl (nI n)), some (.inl (nI c)), some (.inl (nI i))] [] w (fun r w' => r = some (.inl (nI (c + ((mK m).drop i).countP p))) ∧ w' = w) := by
    intro k
    induction k with
    | zero =>
      intro i c h1
      refine XE.iload_n d_Md_locksOf_4 rfl ?_
      refine XE.aload_n d_Md_locksOf_5 rfl ?_
      refine g_Md_100 d_Md_locksOf_6 (by first | assumption | decide | omega) (by first | assumption | rfl) ?_
      refine XE.icmp_ge 38 d_Md_locksOf_9 (by decide) (fun h9 => ?_) (fun h9 => absurd h9 ((by rw [le_nI (by omega) (by omega)]; omega)))
      refine XE.iload_n d_Md_locksOf_38 rfl ?_
      exact XE.ri d_Md_locksOf_39 ⟨by rw [List.drop_of_length_le (by omega)]; rfl, rfl⟩
    | succ k ih =>
      intro i c h1
      have hi : i < (mK m).length := by omega
      have hdr : (mK m).drop i = (mK m)[i] :: (mK m).drop (i + 1) := List.drop_eq_getElem_cons hi
      have e1 : ¬ p (mK m)[i] = true → ((mK m).drop i).countP p = ((mK m).drop (i + 1)).countP p := fun h => by rw [hdr, List.countP_cons_of_neg h]
      have e2 : p (mK m)[i] = true → ((mK m).drop i).countP p = ((mK m).drop (i + 1)).countP p + 1 := fun h => by rw [hdr, List.countP_cons_of_pos h]
      obtain ⟨a1, a2, -⟩ := hB.2.2.2.2.2.2.1 (mK m)[i] (List.getElem_mem hi)
      have b24 := hB.2.2.2.2.2.1 _ a1 a2
      have hpi : nI (hN (mh m (mK m)[i].1)) = nI n ↔ p (mK m)[i] = true := by
        rw [eq_nI (by omega) (by omega)]
        simp [p]
      refine XE.iload_n d_Md_locksOf_4 rfl ?_
      refine XE.aload_n d_Md_locksOf_5 rfl ?_
      refine g_Md_100 d_Md_locksOf_6 (by first | assumption | decide | omega) (by first | assumption | rfl) ?_
      refine XE.icmp_ge 38 d_Md_locksOf_9 (by decide) (fun h9 => absurd h9 ((by rw [le_nI (by omega) (by omega)]; omega))) (fun h9 => ?_)
      refine XE.aload_n d_Md_locksOf_12 rfl ?_
      refine XE.aload_n d_Md_locksOf_13 rfl ?_
      refine g_Md_38 d_Md_locksOf_14 (by first | assumption | decide | omega) (by first | assumption | rfl) ?_
      refine XE.iconst (x := nI 4) d_Md_locksOf_17 (by decide) ?_
      refine XE.iload_n d_Md_locksOf_18 rfl ?_
      refine XE.imul d_Md_locksOf_19 (by first | exact pk_mul _ _ | rfl) ?_
      refine XE.iald d_Md_locksOf_20 (Or.inr ⟨by decide, rfl⟩) (by first | assumption | decide | omega) (by first | assumption | exact ixn2 (by assumption) (by omega) (by omega)) (hK i hi 0 (by decide)) ?_
      refine XE.iconst (x := nI 0) d_Md_locksOf_21 (by decide) ?_
      refine k_Md_49 0 d_Md_locksOf_22 (by omega) (Nat.le_of_ble_eq_true rfl) (by first | assumption | decide | omega) (Md_h_m 0 hM hB a1 a2 (by decide)) (fun r1 w1 hm1 hq1 => ?_)
      rw [hq1.1, hq1.2]
      clear hq1 hm1 r1 w1
      refine XE.iload_n d_Md_locksOf_25 rfl ?_
      refine XE.icmp_ne 32 d_Md_locksOf_26 (by decide) (fun h26 => ?_) (fun h26 => ?_)
      · have q := e1 (fun z => h26 (hpi.mpr z))
        refine XE.iinc d_Md_locksOf_32 rfl (inc_nI _) ?_
        refine XE.goto 4 d_Md_locksOf_35 (by decide) ?_
        refine (ih (i + 1) _ (by omega)).mono (fun r w' z => ⟨z.1.trans ?_, z.2⟩)
        rw [q] <;> try (congr 3 <;> omega)
      · have q := e2 (hpi.mp h26)
        refine XE.iinc d_Md_locksOf_29 rfl (inc_nI _) ?_
        refine XE.iinc d_Md_locksOf_32 rfl (inc_nI _) ?_
        refine XE.goto 4 d_Md_locksOf_35 (by decide) ?_
        refine (ih (i + 1) _ (by omega)).mono (fun r w' z => ⟨z.1.trans ?_, z.2⟩)
        rw [q] <;> try (congr 3 <;> omega)
  refine XE.iconst (x := nI 0) d_Md_locksOf_0 (by decide) ?_
  refine XE.istore_n d_Md_locksOf_1 (by decide) ?_
  refine XE.iconst (x := nI 0) d_Md_locksOf_2 (by decide) ?_
  refine XE.istore_n d_Md_locksOf_3 (by decide) ?_
  refine (loop _ 0 0 (Nat.zero_add _)).mono (fun r w' z => ⟨z.1.trans ?_, z.2⟩)
  rw [Nat.zero_add]; rfl
end
section
/-! the reference's log: apply and note -/
/-- the cells of a node emptied, up to i -/
def zr (w : WW) (n i : Nat) : WW := (w.1, (fun k o j => if k = 116 ∧ o = 1 ∧ 32 * n ≤ j ∧ j < 32 * n + i then 0 else w.2.1 k o j), w.2.2)
theorem wI_zr (w : WW) (n i k o j : Nat) : wI (zr w n i) k o j = if k = 116 ∧ o = 1 ∧ 32 * n ≤ j ∧ j < 32 * n + i then 0 else wI w k o j := rfl
theorem zr_0 (w : WW) (n : Nat) : zr w n 0 = w := by
  have : (fun k o j => if k = 116 ∧ o = 1 ∧ 32 * n ≤ j ∧ j < 32 * n + 0 then 0 else w.2.1 k o j) = w.2.1 := by
    funext k o j
    rw [if_neg (by omega)]
  show (w.1, _, w.2.2) = w
  rw [this]
theorem zr_s (w : WW) (n i : Nat) : sI (zr w n i) 116 1 (32 * n + i) (nI 0) = zr w n (i + 1) := by
  show (w.1, _, w.2.2) = (w.1, _, w.2.2)
  congr 2
  funext k o j
  show (if k = 116 ∧ o = 1 ∧ j = 32 * n + i then nI 0 else if k = 116 ∧ o = 1 ∧ 32 * n ≤ j ∧ j < 32 * n + i then 0 else w.2.1 k o j) = if k = 116 ∧ o = 1 ∧ 32 * n ≤ j ∧ j < 32 * n + (i + 1) then 0 else w.2.1 k o j
  by_cases h1 : k = 116 ∧ o = 1
  · obtain ⟨rfl, rfl⟩ := h1
    by_cases h2 : j = 32 * n + i
    · rw [if_pos ⟨rfl, rfl, h2⟩, if_pos ⟨rfl, rfl, by omega, by omega⟩]; rfl
    · rw [if_neg (fun q => h2 q.2.2)]
      by_cases h3 : 32 * n ≤ j ∧ j < 32 * n + i
      · rw [if_pos ⟨rfl, rfl, h3⟩, if_pos ⟨rfl, rfl, h3.1, by omega⟩]
      · rw [if_neg (fun q => h3 q.2.2), if_neg (fun q => h3 ⟨q.2.2.1, by omega⟩)]
  · rw [if_neg (fun q => h1 ⟨q.1, q.2.1⟩), if_neg (fun q => h1 ⟨q.1, q.2.1⟩), if_neg (fun q => h1 ⟨q.1, q.2.1⟩)]
section AP
variable {w : WW} {d c n : Nat} {a b e z : Int32}
theorem Md_apply_1 (hS : MdS w) (hc : c ≤ 1100) (hn : n ≤ 24) (f0 : wI w 110 1 (5 * c) = nI 1) (f1 : wI w 110 1 (5 * c + 1) = nI n) (f2 : wI w 110 1 (5 * c + 2) = a) (f3 : wI w 110 1 (5 * c + 3) = b) (f4 : wI w 110 1 (5 * c + 4) = e) (hz1 : e = nI 1 → z = nI 1) (hz0 : ¬ e = nI 1 → z = nI 0) :
    E_Md_apply d [.inr (7, 1), .inl (nI c)] w (fun r w' => r = none ∧ w' = sI (sI (zr (sI (sI (sI w 7 1 3 (nI n)) 111 1 n (nI 1)) 112 1 n z) n 32) 113 1 n a) 114 1 n b) := by
  refine S_Md_apply ?_
  obtain ⟨s2, s4, s5, s6, s7, s8, s9, s11, s13, s15, l0, l1, l2, l3, l4, l5, l6, l7, l8, l9⟩ := hS
  have loop : ∀ (v : WW), (wR v 7 1 9 = 1) → wL v 116 1 = 800 → wR v 7 1 2 = 1 → wL v 110 1 = 6000 → wR v 7 1 6 = 1 → wL v 113 1 = 25 → wR v 7 1 7 = 1 → wL v 114 1 = 25 → wI v 110 1 (5 * c) = nI 1 → wI v 110 1 (5 * c + 2) = a → wI v 110 1 (5 * c + 3) = b → ∀ k i, i + k = 32 → X_Md_apply d 61 [some (.inr (7, 1)), some (.inl (nI c)), some (.inl (nI (5 * c))), some (.inl (nI n)), some (.inl (nI i))] [] (zr v n i) (fun r w' => r = none ∧ w' = sI (sI (zr v n 32) 113 1 n a) 114 1 n b) := by
    intro v q1 q2 q3 q4 q5 q6 q7 q8 q9 q10 q11 k
    induction k with
    | zero =>
      intro i hi
      have hi : i = 32 := hi
      subst hi
      refine XE.iload d_Md_apply_61 rfl ?_
      refine XE.bipush (x := nI 32) d_Md_apply_63 (by decide) ?_
      refine XE.icmp_ge 87 d_Md_apply_65 (by decide) (fun h65 => ?_) (fun h65 => absurd h65 ((by rw [le_nI (by omega) (by omega)]; omega)))
      refine XE.aload_n d_Md_apply_87 rfl ?_
      refine g_Md_7 d_Md_apply_88 (by first | assumption | decide | omega) (by first | assumption | rfl) ?_
      refine XE.iload_n d_Md_apply_91 rfl ?_
      refine XE.iald d_Md_apply_92 (Or.inr ⟨by decide, rfl⟩) (by first | assumption | decide | omega) (by first | assumption | exact ixn2 (by assumption) (by omega) (by omega)) (by first | assumption | rfl) ?_
      refine XE.iconst (x := nI 2) d_Md_apply_93 (by decide) ?_
      refine XE.icmp_ne 104 d_Md_apply_94 (by decide) (fun h94 => ?_) (fun h94 => absurd h94 ((by decide)))
      refine XE.aload_n d_Md_apply_104 rfl ?_
      refine g_Md_7 d_Md_apply_105 (by first | assumption | decide | omega) (by first | assumption | rfl) ?_
      refine XE.iload_n d_Md_apply_108 rfl ?_
      refine XE.iald d_Md_apply_109 (Or.inr ⟨by decide, rfl⟩) (by first | assumption | decide | omega) (by first | assumption | exact ixn2 (by assumption) (by omega) (by omega)) (by first | assumption | rfl) ?_
      refine XE.iconst (x := nI 4) d_Md_apply_110 (by decide) ?_
      refine XE.icmp_ne 140 d_Md_apply_111 (by decide) (fun h111 => ?_) (fun h111 => absurd h111 ((by decide)))
      refine XE.aload_n d_Md_apply_140 rfl ?_
      refine g_Md_7 d_Md_apply_141 (by first | assumption | decide | omega) (by first | assumption | rfl) ?_
      refine XE.iload_n d_Md_apply_144 rfl ?_
      refine XE.iald d_Md_apply_145 (Or.inr ⟨by decide, rfl⟩) (by first | assumption | decide | omega) (by first | assumption | exact ixn2 (by assumption) (by omega) (by omega)) (by first | assumption | rfl) ?_
      refine XE.iconst (x := nI 1) d_Md_apply_146 (by decide) ?_
      refine XE.icmp_eq 160 d_Md_apply_147 (by decide) (fun h147 => ?_) (fun h147 => absurd h147 ((by decide)))
      refine XE.aload_n d_Md_apply_160 rfl ?_
      refine g_Md_20 d_Md_apply_161 (by first | assumption | decide | omega) (by first | assumption | rfl) ?_
      refine XE.iload_n d_Md_apply_164 rfl ?_
      refine XE.aload_n d_Md_apply_165 rfl ?_
      refine g_Md_7 d_Md_apply_166 (by first | assumption | decide | omega) (by first | assumption | rfl) ?_
      refine XE.iload_n d_Md_apply_169 rfl ?_
      refine XE.iconst (x := nI 2) d_Md_apply_170 (by decide) ?_
      refine XE.iadd d_Md_apply_171 (by first | exact nI_add _ _ | rfl) ?_
      refine XE.iald d_Md_apply_172 (Or.inr ⟨by decide, rfl⟩) (by first | assumption | decide | omega) (by first | assumption | exact ixn2 (by assumption) (by omega) (by omega)) (by first | assumption | rfl) ?_
      refine XE.iast d_Md_apply_173 (by decide) rfl (by first | assumption | decide | omega) (by first | assumption | exact ixn2 (by assumption) (by omega) (by omega)) ?_
      refine XE.aload_n d_Md_apply_174 rfl ?_
      refine g_Md_23 d_Md_apply_175 (by first | assumption | decide | omega) (by first | assumption | rfl) ?_
      refine XE.iload_n d_Md_apply_178 rfl ?_
      refine XE.aload_n d_Md_apply_179 rfl ?_
      refine g_Md_7 d_Md_apply_180 (by first | assumption | decide | omega) (by first | assumption | rfl) ?_
      refine XE.iload_n d_Md_apply_183 rfl ?_
      refine XE.iconst (x := nI 3) d_Md_apply_184 (by decide) ?_
      refine XE.iadd d_Md_apply_185 (by first | exact nI_add _ _ | rfl) ?_
      refine XE.iald d_Md_apply_186 (Or.inr ⟨by decide, rfl⟩) (by first | assumption | decide | omega) (by first | assumption | exact ixn2 (by assumption) (by omega) (by omega)) (by first | assumption | rfl) ?_
      refine XE.iast d_Md_apply_187 (by decide) rfl (by first | assumption | decide | omega) (by first | assumption | exact ixn2 (by assumption) (by omega) (by omega)) ?_
      exact XE.rv d_Md_apply_188 ⟨rfl, rfl⟩
    | succ k ih =>
      intro i hi
      refine XE.iload d_Md_apply_61 rfl ?_
      refine XE.bipush (x := nI 32) d_Md_apply_63 (by decide) ?_
      refine XE.icmp_ge 87 d_Md_apply_65 (by decide) (fun h65 => absurd h65 ((by rw [le_nI (by omega) (by omega)]; omega))) (fun h65 => ?_)
      refine XE.aload_n d_Md_apply_68 rfl ?_
      refine g_Md_29 d_Md_apply_69 (by first | assumption | decide | omega) (by first | assumption | rfl) ?_
      refine XE.bipush (x := nI 32) d_Md_apply_72 (by decide) ?_
      refine XE.iload_n d_Md_apply_74 rfl ?_
      refine XE.imul d_Md_apply_75 (by first | exact pk_mul _ _ | rfl) ?_
      refine XE.iload d_Md_apply_76 rfl ?_
      refine XE.iadd d_Md_apply_78 (by first | exact nI_add _ _ | rfl) ?_
      refine XE.iconst (x := nI 0) d_Md_apply_79 (by decide) ?_
      refine XE.iast d_Md_apply_80 (by decide) rfl (by first | assumption | decide | omega) (by first | assumption | exact ixn2 (by assumption) (by omega) (by omega)) ?_
      refine XE.iinc d_Md_apply_81 rfl (inc_nI _) ?_
      refine XE.goto 61 d_Md_apply_84 (by decide) ?_
      rw [zr_s]
      exact ih (i + 1) (by omega)
  refine XE.iconst (x := nI 5) d_Md_apply_0 (by decide) ?_
  refine XE.iload_n d_Md_apply_1 rfl ?_
  refine XE.imul d_Md_apply_2 (by first | exact pk_mul _ _ | rfl) ?_
  refine XE.istore_n d_Md_apply_3 (by decide) ?_
  refine XE.aload_n d_Md_apply_4 rfl ?_
  refine g_Md_7 d_Md_apply_5 (by first | assumption | decide | omega) (by first | assumption | rfl) ?_
  refine XE.iload_n d_Md_apply_8 rfl ?_
  refine XE.iconst (x := nI 1) d_Md_apply_9 (by decide) ?_
  refine XE.iadd d_Md_apply_10 (by first | exact nI_add _ _ | rfl) ?_
  refine XE.iald d_Md_apply_11 (Or.inr ⟨by decide, rfl⟩) (by first | assumption | decide | omega) (by first | assumption | exact ixn2 (by assumption) (by omega) (by omega)) (by first | assumption | rfl) ?_
  refine XE.istore_n d_Md_apply_12 (by decide) ?_
  refine XE.aload_n d_Md_apply_13 rfl ?_
  refine g_Md_7 d_Md_apply_14 (by first | assumption | decide | omega) (by first | assumption | rfl) ?_
  refine XE.iload_n d_Md_apply_17 rfl ?_
  refine XE.iald d_Md_apply_18 (Or.inr ⟨by decide, rfl⟩) (by first | assumption | decide | omega) (by first | assumption | exact ixn2 (by assumption) (by omega) (by omega)) (by first | assumption | rfl) ?_
  refine XE.iconst (x := nI 1) d_Md_apply_19 (by decide) ?_
  refine XE.icmp_ne 87 d_Md_apply_20 (by decide) (fun h20 => absurd h20 ((by decide))) (fun h20 => ?_)
  refine XE.aload_n d_Md_apply_23 rfl ?_
  refine XE.iload_n d_Md_apply_24 rfl ?_
  refine p_Md_53 d_Md_apply_25 (by first | assumption | decide | omega) ?_
  refine XE.aload_n d_Md_apply_28 rfl ?_
  refine g_Md_13 d_Md_apply_29 (by first | assumption | decide | omega) (by first | assumption | rfl) ?_
  refine XE.iload_n d_Md_apply_32 rfl ?_
  refine XE.iconst (x := nI 1) d_Md_apply_33 (by decide) ?_
  refine XE.zast d_Md_apply_34 (by decide) rfl (Or.inr rfl) (by first | assumption | decide | omega) (by first | assumption | exact ixn2 (by assumption) (by omega) (by omega)) ?_
  refine XE.aload_n d_Md_apply_35 rfl ?_
  refine g_Md_17 d_Md_apply_36 (by first | assumption | decide | omega) (by first | assumption | rfl) ?_
  refine XE.iload_n d_Md_apply_39 rfl ?_
  refine XE.aload_n d_Md_apply_40 rfl ?_
  refine g_Md_7 d_Md_apply_41 (by first | assumption | decide | omega) (by first | assumption | rfl) ?_
  refine XE.iload_n d_Md_apply_44 rfl ?_
  refine XE.iconst (x := nI 4) d_Md_apply_45 (by decide) ?_
  refine XE.iadd d_Md_apply_46 (by first | exact nI_add _ _ | rfl) ?_
  refine XE.iald d_Md_apply_47 (Or.inr ⟨by decide, rfl⟩) (by first | assumption | decide | omega) (by first | assumption | exact ixn2 (by assumption) (by omega) (by omega)) (by first | assumption | rfl) ?_
  refine XE.iconst (x := nI 1) d_Md_apply_48 (by decide) ?_
  refine XE.icmp_ne 56 d_Md_apply_49 (by decide) (fun h49 => ?_) (fun h49 => ?_)
  · have hz := hz0 h49
    subst hz
    refine XE.iconst (x := nI 0) d_Md_apply_56 (by decide) ?_
    refine XE.zast d_Md_apply_57 (by decide) rfl (by decide) (by first | assumption | decide | omega) (by first | assumption | exact ixn2 (by assumption) (by omega) (by omega)) ?_
    refine XE.iconst (x := nI 0) d_Md_apply_58 (by decide) ?_
    refine XE.istore d_Md_apply_59 (by decide) ?_
    first | (have L := loop (sI (sI (sI w 7 1 3 (nI n)) 111 1 n (nI 1)) 112 1 n (nI 0)) s9 l6 s2 l0 s6 l3 s7 l4 f0 f2 f3 32 0 rfl; rw [zr_0] at L; exact L) | (have L := loop (sI (sI (sI w 7 1 3 (nI n)) 111 1 n (nI 1)) 112 1 n (nI 1)) s9 l6 s2 l0 s6 l3 s7 l4 f0 f2 f3 32 0 rfl; rw [zr_0] at L; exact L)
  · have hz := hz1 h49
    subst hz
    refine XE.iconst (x := nI 1) d_Md_apply_52 (by decide) ?_
    refine XE.goto 57 d_Md_apply_53 (by decide) ?_
    refine XE.zast d_Md_apply_57 (by decide) rfl (by decide) (by first | assumption | decide | omega) (by first | assumption | exact ixn2 (by assumption) (by omega) (by omega)) ?_
    refine XE.iconst (x := nI 0) d_Md_apply_58 (by decide) ?_
    refine XE.istore d_Md_apply_59 (by decide) ?_
    first | (have L := loop (sI (sI (sI w 7 1 3 (nI n)) 111 1 n (nI 1)) 112 1 n (nI 0)) s9 l6 s2 l0 s6 l3 s7 l4 f0 f2 f3 32 0 rfl; rw [zr_0] at L; exact L) | (have L := loop (sI (sI (sI w 7 1 3 (nI n)) 111 1 n (nI 1)) 112 1 n (nI 1)) s9 l6 s2 l0 s6 l3 s7 l4 f0 f2 f3 32 0 rfl; rw [zr_0] at L; exact L)
theorem Md_apply_2 (hS : MdS w) (hc : c ≤ 1100) (hn : n ≤ 24) (f0 : wI w 110 1 (5 * c) = nI 2) (f1 : wI w 110 1 (5 * c + 1) = nI n) :
    E_Md_apply d [.inr (7, 1), .inl (nI c)] w (fun r w' => r = none ∧ w' = sI w 111 1 n (nI 0)) := by
  refine S_Md_apply ?_
  obtain ⟨s2, s4, s5, s6, s7, s8, s9, s11, s13, s15, l0, l1, l2, l3, l4, l5, l6, l7, l8, l9⟩ := hS
  refine XE.iconst (x := nI 5) d_Md_apply_0 (by decide) ?_
  refine XE.iload_n d_Md_apply_1 rfl ?_
  refine XE.imul d_Md_apply_2 (by first | exact pk_mul _ _ | rfl) ?_
  refine XE.istore_n d_Md_apply_3 (by decide) ?_
  refine XE.aload_n d_Md_apply_4 rfl ?_
  refine g_Md_7 d_Md_apply_5 (by first | assumption | decide | omega) (by first | assumption | rfl) ?_
  refine XE.iload_n d_Md_apply_8 rfl ?_
  refine XE.iconst (x := nI 1) d_Md_apply_9 (by decide) ?_
  refine XE.iadd d_Md_apply_10 (by first | exact nI_add _ _ | rfl) ?_
  refine XE.iald d_Md_apply_11 (Or.inr ⟨by decide, rfl⟩) (by first | assumption | decide | omega) (by first | assumption | exact ixn2 (by assumption) (by omega) (by omega)) (by first | assumption | rfl) ?_
  refine XE.istore_n d_Md_apply_12 (by decide) ?_
  refine XE.aload_n d_Md_apply_13 rfl ?_
  refine g_Md_7 d_Md_apply_14 (by first | assumption | decide | omega) (by first | assumption | rfl) ?_
  refine XE.iload_n d_Md_apply_17 rfl ?_
  refine XE.iald d_Md_apply_18 (Or.inr ⟨by decide, rfl⟩) (by first | assumption | decide | omega) (by first | assumption | exact ixn2 (by assumption) (by omega) (by omega)) (by first | assumption | rfl) ?_
  refine XE.iconst (x := nI 1) d_Md_apply_19 (by decide) ?_
  refine XE.icmp_ne 87 d_Md_apply_20 (by decide) (fun h20 => ?_) (fun h20 => absurd h20 ((by decide)))
  refine XE.aload_n d_Md_apply_87 rfl ?_
  refine g_Md_7 d_Md_apply_88 (by first | assumption | decide | omega) (by first | assumption | rfl) ?_
  refine XE.iload_n d_Md_apply_91 rfl ?_
  refine XE.iald d_Md_apply_92 (Or.inr ⟨by decide, rfl⟩) (by first | assumption | decide | omega) (by first | assumption | exact ixn2 (by assumption) (by omega) (by omega)) (by first | assumption | rfl) ?_
  refine XE.iconst (x := nI 2) d_Md_apply_93 (by decide) ?_
  refine XE.icmp_ne 104 d_Md_apply_94 (by decide) (fun h94 => absurd h94 ((by decide))) (fun h94 => ?_)
  refine XE.aload_n d_Md_apply_97 rfl ?_
  refine g_Md_13 d_Md_apply_98 (by first | assumption | decide | omega) (by first | assumption | rfl) ?_
  refine XE.iload_n d_Md_apply_101 rfl ?_
  refine XE.iconst (x := nI 0) d_Md_apply_102 (by decide) ?_
  refine XE.zast d_Md_apply_103 (by decide) rfl (by first | assumption | decide) (by first | assumption | decide | omega) (by first | assumption | exact ixn2 (by assumption) (by omega) (by omega)) ?_
  refine XE.aload_n d_Md_apply_104 rfl ?_
  refine g_Md_7 d_Md_apply_105 (by first | assumption | decide | omega) (by first | assumption | rfl) ?_
  refine XE.iload_n d_Md_apply_108 rfl ?_
  refine XE.iald d_Md_apply_109 (Or.inr ⟨by decide, rfl⟩) (by first | assumption | decide | omega) (by first | assumption | exact ixn2 (by assumption) (by omega) (by omega)) (by first | assumption | rfl) ?_
  refine XE.iconst (x := nI 4) d_Md_apply_110 (by decide) ?_
  refine XE.icmp_ne 140 d_Md_apply_111 (by decide) (fun h111 => ?_) (fun h111 => absurd h111 ((by decide)))
  refine XE.aload_n d_Md_apply_140 rfl ?_
  refine g_Md_7 d_Md_apply_141 (by first | assumption | decide | omega) (by first | assumption | rfl) ?_
  refine XE.iload_n d_Md_apply_144 rfl ?_
  refine XE.iald d_Md_apply_145 (Or.inr ⟨by decide, rfl⟩) (by first | assumption | decide | omega) (by first | assumption | exact ixn2 (by assumption) (by omega) (by omega)) (by first | assumption | rfl) ?_
  refine XE.iconst (x := nI 1) d_Md_apply_146 (by decide) ?_
  refine XE.icmp_eq 160 d_Md_apply_147 (by decide) (fun h147 => absurd h147 ((by decide))) (fun h147 => ?_)
  refine XE.aload_n d_Md_apply_150 rfl ?_
  refine g_Md_7 d_Md_apply_151 (by first | assumption | decide | omega) (by first | assumption | rfl) ?_
  refine XE.iload_n d_Md_apply_154 rfl ?_
  refine XE.iald d_Md_apply_155 (Or.inr ⟨by decide, rfl⟩) (by first | assumption | decide | omega) (by first | assumption | exact ixn2 (by assumption) (by omega) (by omega)) (by first | assumption | rfl) ?_
  refine XE.iconst (x := nI 3) d_Md_apply_156 (by decide) ?_
  refine XE.icmp_ne 188 d_Md_apply_157 (by decide) (fun h157 => ?_) (fun h157 => absurd h157 ((by decide)))
  exact XE.rv d_Md_apply_188 ⟨rfl, rfl⟩
theorem Md_apply_3 (hS : MdS w) (hc : c ≤ 1100) (hn : n ≤ 24) (f0 : wI w 110 1 (5 * c) = nI 3) (f1 : wI w 110 1 (5 * c + 1) = nI n) (f2 : wI w 110 1 (5 * c + 2) = a) (f3 : wI w 110 1 (5 * c + 3) = b) :
    E_Md_apply d [.inr (7, 1), .inl (nI c)] w (fun r w' => r = none ∧ w' = sI (sI w 113 1 n a) 114 1 n b) := by
  refine S_Md_apply ?_
  obtain ⟨s2, s4, s5, s6, s7, s8, s9, s11, s13, s15, l0, l1, l2, l3, l4, l5, l6, l7, l8, l9⟩ := hS
  refine XE.iconst (x := nI 5) d_Md_apply_0 (by decide) ?_
  refine XE.iload_n d_Md_apply_1 rfl ?_
  refine XE.imul d_Md_apply_2 (by first | exact pk_mul _ _ | rfl) ?_
  refine XE.istore_n d_Md_apply_3 (by decide) ?_
  refine XE.aload_n d_Md_apply_4 rfl ?_
  refine g_Md_7 d_Md_apply_5 (by first | assumption | decide | omega) (by first | assumption | rfl) ?_
  refine XE.iload_n d_Md_apply_8 rfl ?_
  refine XE.iconst (x := nI 1) d_Md_apply_9 (by decide) ?_
  refine XE.iadd d_Md_apply_10 (by first | exact nI_add _ _ | rfl) ?_
  refine XE.iald d_Md_apply_11 (Or.inr ⟨by decide, rfl⟩) (by first | assumption | decide | omega) (by first | assumption | exact ixn2 (by assumption) (by omega) (by omega)) (by first | assumption | rfl) ?_
  refine XE.istore_n d_Md_apply_12 (by decide) ?_
  refine XE.aload_n d_Md_apply_13 rfl ?_
  refine g_Md_7 d_Md_apply_14 (by first | assumption | decide | omega) (by first | assumption | rfl) ?_
  refine XE.iload_n d_Md_apply_17 rfl ?_
  refine XE.iald d_Md_apply_18 (Or.inr ⟨by decide, rfl⟩) (by first | assumption | decide | omega) (by first | assumption | exact ixn2 (by assumption) (by omega) (by omega)) (by first | assumption | rfl) ?_
  refine XE.iconst (x := nI 1) d_Md_apply_19 (by decide) ?_
  refine XE.icmp_ne 87 d_Md_apply_20 (by decide) (fun h20 => ?_) (fun h20 => absurd h20 ((by decide)))
  refine XE.aload_n d_Md_apply_87 rfl ?_
  refine g_Md_7 d_Md_apply_88 (by first | assumption | decide | omega) (by first | assumption | rfl) ?_
  refine XE.iload_n d_Md_apply_91 rfl ?_
  refine XE.iald d_Md_apply_92 (Or.inr ⟨by decide, rfl⟩) (by first | assumption | decide | omega) (by first | assumption | exact ixn2 (by assumption) (by omega) (by omega)) (by first | assumption | rfl) ?_
  refine XE.iconst (x := nI 2) d_Md_apply_93 (by decide) ?_
  refine XE.icmp_ne 104 d_Md_apply_94 (by decide) (fun h94 => ?_) (fun h94 => absurd h94 ((by decide)))
  refine XE.aload_n d_Md_apply_104 rfl ?_
  refine g_Md_7 d_Md_apply_105 (by first | assumption | decide | omega) (by first | assumption | rfl) ?_
  refine XE.iload_n d_Md_apply_108 rfl ?_
  refine XE.iald d_Md_apply_109 (Or.inr ⟨by decide, rfl⟩) (by first | assumption | decide | omega) (by first | assumption | exact ixn2 (by assumption) (by omega) (by omega)) (by first | assumption | rfl) ?_
  refine XE.iconst (x := nI 4) d_Md_apply_110 (by decide) ?_
  refine XE.icmp_ne 140 d_Md_apply_111 (by decide) (fun h111 => ?_) (fun h111 => absurd h111 ((by decide)))
  refine XE.aload_n d_Md_apply_140 rfl ?_
  refine g_Md_7 d_Md_apply_141 (by first | assumption | decide | omega) (by first | assumption | rfl) ?_
  refine XE.iload_n d_Md_apply_144 rfl ?_
  refine XE.iald d_Md_apply_145 (Or.inr ⟨by decide, rfl⟩) (by first | assumption | decide | omega) (by first | assumption | exact ixn2 (by assumption) (by omega) (by omega)) (by first | assumption | rfl) ?_
  refine XE.iconst (x := nI 1) d_Md_apply_146 (by decide) ?_
  refine XE.icmp_eq 160 d_Md_apply_147 (by decide) (fun h147 => absurd h147 ((by decide))) (fun h147 => ?_)
  refine XE.aload_n d_Md_apply_150 rfl ?_
  refine g_Md_7 d_Md_apply_151 (by first | assumption | decide | omega) (by first | assumption | rfl) ?_
  refine XE.iload_n d_Md_apply_154 rfl ?_
  refine XE.iald d_Md_apply_155 (Or.inr ⟨by decide, rfl⟩) (by first | assumption | decide | omega) (by first | assumption | exact ixn2 (by assumption) (by omega) (by omega)) (by first | assumption | rfl) ?_
  refine XE.iconst (x := nI 3) d_Md_apply_156 (by decide) ?_
  refine XE.icmp_ne 188 d_Md_apply_157 (by decide) (fun h157 => absurd h157 ((by decide))) (fun h157 => ?_)
  refine XE.aload_n d_Md_apply_160 rfl ?_
  refine g_Md_20 d_Md_apply_161 (by first | assumption | decide | omega) (by first | assumption | rfl) ?_
  refine XE.iload_n d_Md_apply_164 rfl ?_
  refine XE.aload_n d_Md_apply_165 rfl ?_
  refine g_Md_7 d_Md_apply_166 (by first | assumption | decide | omega) (by first | assumption | rfl) ?_
  refine XE.iload_n d_Md_apply_169 rfl ?_
  refine XE.iconst (x := nI 2) d_Md_apply_170 (by decide) ?_
  refine XE.iadd d_Md_apply_171 (by first | exact nI_add _ _ | rfl) ?_
  refine XE.iald d_Md_apply_172 (Or.inr ⟨by decide, rfl⟩) (by first | assumption | decide | omega) (by first | assumption | exact ixn2 (by assumption) (by omega) (by omega)) (by first | assumption | rfl) ?_
  refine XE.iast d_Md_apply_173 (by decide) rfl (by first | assumption | decide | omega) (by first | assumption | exact ixn2 (by assumption) (by omega) (by omega)) ?_
  refine XE.aload_n d_Md_apply_174 rfl ?_
  refine g_Md_23 d_Md_apply_175 (by first | assumption | decide | omega) (by first | assumption | rfl) ?_
  refine XE.iload_n d_Md_apply_178 rfl ?_
  refine XE.aload_n d_Md_apply_179 rfl ?_
  refine g_Md_7 d_Md_apply_180 (by first | assumption | decide | omega) (by first | assumption | rfl) ?_
  refine XE.iload_n d_Md_apply_183 rfl ?_
  refine XE.iconst (x := nI 3) d_Md_apply_184 (by decide) ?_
  refine XE.iadd d_Md_apply_185 (by first | exact nI_add _ _ | rfl) ?_
  refine XE.iald d_Md_apply_186 (Or.inr ⟨by decide, rfl⟩) (by first | assumption | decide | omega) (by first | assumption | exact ixn2 (by assumption) (by omega) (by omega)) (by first | assumption | rfl) ?_
  refine XE.iast d_Md_apply_187 (by decide) rfl (by first | assumption | decide | omega) (by first | assumption | exact ixn2 (by assumption) (by omega) (by omega)) ?_
  exact XE.rv d_Md_apply_188 ⟨rfl, rfl⟩
theorem Md_apply_4 {i : Nat} (hS : MdS w) (hc : c ≤ 1100) (hn : n ≤ 24) (hi : i < 32) (f0 : wI w 110 1 (5 * c) = nI 4) (f1 : wI w 110 1 (5 * c + 1) = nI n) (f2 : wI w 110 1 (5 * c + 2) = nI i) (f3 : wI w 110 1 (5 * c + 3) = b) :
    E_Md_apply d [.inr (7, 1), .inl (nI c)] w (fun r w' => r = none ∧ w' = sI w 116 1 (32 * n + i) b) := by
  refine S_Md_apply ?_
  obtain ⟨s2, s4, s5, s6, s7, s8, s9, s11, s13, s15, l0, l1, l2, l3, l4, l5, l6, l7, l8, l9⟩ := hS
  refine XE.iconst (x := nI 5) d_Md_apply_0 (by decide) ?_
  refine XE.iload_n d_Md_apply_1 rfl ?_
  refine XE.imul d_Md_apply_2 (by first | exact pk_mul _ _ | rfl) ?_
  refine XE.istore_n d_Md_apply_3 (by decide) ?_
  refine XE.aload_n d_Md_apply_4 rfl ?_
  refine g_Md_7 d_Md_apply_5 (by first | assumption | decide | omega) (by first | assumption | rfl) ?_
  refine XE.iload_n d_Md_apply_8 rfl ?_
  refine XE.iconst (x := nI 1) d_Md_apply_9 (by decide) ?_
  refine XE.iadd d_Md_apply_10 (by first | exact nI_add _ _ | rfl) ?_
  refine XE.iald d_Md_apply_11 (Or.inr ⟨by decide, rfl⟩) (by first | assumption | decide | omega) (by first | assumption | exact ixn2 (by assumption) (by omega) (by omega)) (by first | assumption | rfl) ?_
  refine XE.istore_n d_Md_apply_12 (by decide) ?_
  refine XE.aload_n d_Md_apply_13 rfl ?_
  refine g_Md_7 d_Md_apply_14 (by first | assumption | decide | omega) (by first | assumption | rfl) ?_
  refine XE.iload_n d_Md_apply_17 rfl ?_
  refine XE.iald d_Md_apply_18 (Or.inr ⟨by decide, rfl⟩) (by first | assumption | decide | omega) (by first | assumption | exact ixn2 (by assumption) (by omega) (by omega)) (by first | assumption | rfl) ?_
  refine XE.iconst (x := nI 1) d_Md_apply_19 (by decide) ?_
  refine XE.icmp_ne 87 d_Md_apply_20 (by decide) (fun h20 => ?_) (fun h20 => absurd h20 ((by decide)))
  refine XE.aload_n d_Md_apply_87 rfl ?_
  refine g_Md_7 d_Md_apply_88 (by first | assumption | decide | omega) (by first | assumption | rfl) ?_
  refine XE.iload_n d_Md_apply_91 rfl ?_
  refine XE.iald d_Md_apply_92 (Or.inr ⟨by decide, rfl⟩) (by first | assumption | decide | omega) (by first | assumption | exact ixn2 (by assumption) (by omega) (by omega)) (by first | assumption | rfl) ?_
  refine XE.iconst (x := nI 2) d_Md_apply_93 (by decide) ?_
  refine XE.icmp_ne 104 d_Md_apply_94 (by decide) (fun h94 => ?_) (fun h94 => absurd h94 ((by decide)))
  refine XE.aload_n d_Md_apply_104 rfl ?_
  refine g_Md_7 d_Md_apply_105 (by first | assumption | decide | omega) (by first | assumption | rfl) ?_
  refine XE.iload_n d_Md_apply_108 rfl ?_
  refine XE.iald d_Md_apply_109 (Or.inr ⟨by decide, rfl⟩) (by first | assumption | decide | omega) (by first | assumption | exact ixn2 (by assumption) (by omega) (by omega)) (by first | assumption | rfl) ?_
  refine XE.iconst (x := nI 4) d_Md_apply_110 (by decide) ?_
  refine XE.icmp_ne 140 d_Md_apply_111 (by decide) (fun h111 => absurd h111 ((by decide))) (fun h111 => ?_)
  refine XE.aload_n d_Md_apply_114 rfl ?_
  refine g_Md_29 d_Md_apply_115 (by first | assumption | decide | omega) (by first | assumption | rfl) ?_
  refine XE.bipush (x := nI 32) d_Md_apply_118 (by decide) ?_
  refine XE.iload_n d_Md_apply_120 rfl ?_
  refine XE.imul d_Md_apply_121 (by first | exact pk_mul _ _ | rfl) ?_
  refine XE.aload_n d_Md_apply_122 rfl ?_
  refine g_Md_7 d_Md_apply_123 (by first | assumption | decide | omega) (by first | assumption | rfl) ?_
  refine XE.iload_n d_Md_apply_126 rfl ?_
  refine XE.iconst (x := nI 2) d_Md_apply_127 (by decide) ?_
  refine XE.iadd d_Md_apply_128 (by first | exact nI_add _ _ | rfl) ?_
  refine XE.iald d_Md_apply_129 (Or.inr ⟨by decide, rfl⟩) (by first | assumption | decide | omega) (by first | assumption | exact ixn2 (by assumption) (by omega) (by omega)) (by first | assumption | rfl) ?_
  refine XE.iadd d_Md_apply_130 (by first | exact nI_add _ _ | rfl) ?_
  refine XE.aload_n d_Md_apply_131 rfl ?_
  refine g_Md_7 d_Md_apply_132 (by first | assumption | decide | omega) (by first | assumption | rfl) ?_
  refine XE.iload_n d_Md_apply_135 rfl ?_
  refine XE.iconst (x := nI 3) d_Md_apply_136 (by decide) ?_
  refine XE.iadd d_Md_apply_137 (by first | exact nI_add _ _ | rfl) ?_
  refine XE.iald d_Md_apply_138 (Or.inr ⟨by decide, rfl⟩) (by first | assumption | decide | omega) (by first | assumption | exact ixn2 (by assumption) (by omega) (by omega)) (by first | assumption | rfl) ?_
  refine XE.iast d_Md_apply_139 (by decide) rfl (by first | assumption | decide | omega) (by first | assumption | exact ixn2 (by assumption) (by omega) (by omega)) ?_
  refine XE.aload_n d_Md_apply_140 rfl ?_
  refine g_Md_7 d_Md_apply_141 (by first | assumption | decide | omega) (by first | assumption | rfl) ?_
  refine XE.iload_n d_Md_apply_144 rfl ?_
  refine XE.iald d_Md_apply_145 (Or.inr ⟨by decide, rfl⟩) (by first | assumption | decide | omega) (by first | assumption | exact ixn2 (by assumption) (by omega) (by omega)) (by first | assumption | rfl) ?_
  refine XE.iconst (x := nI 1) d_Md_apply_146 (by decide) ?_
  refine XE.icmp_eq 160 d_Md_apply_147 (by decide) (fun h147 => absurd h147 ((by decide))) (fun h147 => ?_)
  refine XE.aload_n d_Md_apply_150 rfl ?_
  refine g_Md_7 d_Md_apply_151 (by first | assumption | decide | omega) (by first | assumption | rfl) ?_
  refine XE.iload_n d_Md_apply_154 rfl ?_
  refine XE.iald d_Md_apply_155 (Or.inr ⟨by decide, rfl⟩) (by first | assumption | decide | omega) (by first | assumption | exact ixn2 (by assumption) (by omega) (by omega)) (by first | assumption | rfl) ?_
  refine XE.iconst (x := nI 3) d_Md_apply_156 (by decide) ?_
  refine XE.icmp_ne 188 d_Md_apply_157 (by decide) (fun h157 => ?_) (fun h157 => absurd h157 ((by decide)))
  exact XE.rv d_Md_apply_188 ⟨rfl, rfl⟩
end AP
/-- everything but the ints is the same, and of the ints what isn't the reference's -/
def FM (w w' : WW) : Prop := w'.1 = w.1 ∧ w'.2.2 = w.2.2 ∧ ∀ k o j, k ≠ 7 → k < 110 → wI w' k o j = wI w k o j
theorem FM.rf {w : WW} : FM w w := ⟨rfl, rfl, fun _ _ _ _ _ => rfl⟩
theorem FM.tr {w w1 w2 : WW} (a : FM w w1) (b : FM w1 w2) : FM w w2 := ⟨b.1.trans a.1, b.2.1.trans a.2.1, fun k o j h1 h2 => (b.2.2 k o j h1 h2).trans (a.2.2 k o j h1 h2)⟩
theorem FM.sI {w : WW} {k o j : Nat} {x : Int32} (h : k = 7 ∨ 110 ≤ k) : FM w (sI w k o j x) := ⟨rfl, rfl, fun k' o' j' h1 h2 => by
  rw [wI_sI, if_neg]
  rintro ⟨rfl, -⟩
  omega⟩
theorem FM.zr {w : WW} {n i : Nat} : FM w (zr w n i) := ⟨rfl, rfl, fun k' o' j' h1 h2 => by
  rw [wI_zr, if_neg]
  rintro ⟨rfl, -⟩
  omega⟩
theorem FM.S {w w' : WW} (h : FM w w') (hS : MdS w) : MdS w' := by
  obtain ⟨h1, h2, -⟩ := h
  unfold MdS at hS ⊢
  unfold wR wL at hS ⊢
  rw [h2]
  exact hS
/-- a change that fits a table -/
def okC (c : Ch) (t : Tb) : Prop := c.2.1 ≤ 24 ∧ ((c.1 = 1 ∧ (c.2.2.2.2 = 0 ∨ c.2.2.2.2 = 1)) ∨ (c.1 = 2) ∨ (c.1 = 3 ∧ tT t c.2.1 = true) ∨ (c.1 = 4 ∧ tT t c.2.1 = true ∧ ∃ i, i < 32 ∧ c.2.2.1 = nI i))
/-- what apply leaves alone -/
def FA (w w' : WW) : Prop := w'.1 = w.1 ∧ w'.2.2 = w.2.2 ∧ ∀ k o j, ¬ (k = 7 ∧ j = 3) → ¬ (k = 111 ∨ k = 112 ∨ k = 113 ∨ k = 114 ∨ k = 116) → wI w' k o j = wI w k o j
theorem FA.FM {w w' : WW} (h : FA w w') : FM w w' := ⟨h.1, h.2.1, fun k o j h1 h2 => h.2.2 k o j (fun q => h1 q.1) (by omega)⟩
set_option maxHeartbeats 1000000 in
theorem Md_apply_ok {w : WW} {d c : Nat} {ch : Ch} {t : Tb} (hS : MdS w) (hT : RMt w t) (hc : c ≤ 1100) (hf : ∀ f, f < 5 → wI w 110 1 (5 * c + f) = chF ch f) (hok : okC ch t) :
    E_Md_apply d [.inr (7, 1), .inl (nI c)] w (fun r w' => r = none ∧ RMt w' (app ch t) ∧ FA w w') := by
  obtain ⟨kd, n, a, b, e⟩ := ch
  obtain ⟨hn, hk⟩ := hok
  have hn : n ≤ 24 := hn
  have f0 : wI w 110 1 (5 * c) = nI kd := hf 0 (by decide)
  have f1 : wI w 110 1 (5 * c + 1) = nI n := hf 1 (by decide)
  have f2 : wI w 110 1 (5 * c + 2) = a := hf 2 (by decide)
  have f3 : wI w 110 1 (5 * c + 3) = b := hf 3 (by decide)
  have f4 : wI w 110 1 (5 * c + 4) = e := hf 4 (by decide)
  clear hf
  obtain ⟨g1, g2, g3⟩ := hT
  dsimp only at hk
  rcases hk with ⟨rfl, he⟩ | rfl | ⟨rfl, ht⟩ | ⟨rfl, ht, i, hi, rfl⟩
  · refine (Md_apply_1 (z := bI (e == 1)) hS hc hn f0 f1 f2 f3 f4 (fun h => by rw [show e = 1 from h]; rfl) (fun h => by
      have : (e == 1) = false := by
        rw [beq_eq_false_iff_ne]
        exact h
      rw [this]; rfl)).mono (fun r w' q => ⟨q.1, ?_, ?_⟩)
    · rw [q.2]
      refine ⟨?_, fun x hx => ?_, fun x hx hx2 => ?_⟩
      · simp [wI_sI, wI_zr, app, tG]
      · by_cases h : x = n
        · simp [wI_sI, wI_zr, app, tT, h, uf_s, bI]; rfl
        · simp [wI_sI, wI_zr, app, tT, h, uf_n]; exact g2 x hx
      · by_cases h : x = n
        · subst h
          refine ⟨by simp [wI_sI, wI_zr, app, tF, uf_s], by simp [wI_sI, wI_zr, app, tD, uf_s], by simp [wI_sI, wI_zr, app, tN, uf_s], fun i hi => ?_⟩
          simp [wI_sI, wI_zr, app, tC, uf_s, hi]
        · have hx3 : tT t x = true := by simpa [app, tT, h, uf_n] using hx2
          obtain ⟨e1, e2, e3, e4⟩ := g3 x hx hx3
          refine ⟨by simp [wI_sI, wI_zr, app, tF, h, uf_n]; exact e1, by simp [wI_sI, wI_zr, app, tD, h, uf_n]; exact e2, by simp [wI_sI, wI_zr, app, tN, h, uf_n]; exact e3, fun i hi => ?_⟩
          have : ¬ (32 * n ≤ 32 * x + i ∧ 32 * x + i < 32 * n + 32) := by omega
          simp only [wI_sI, wI_zr, app, tC, h, uf_n, if_true, ne_eq, not_false_eq_true]
          simp [this]; exact e4 i hi
    · rw [q.2]
      refine ⟨rfl, rfl, fun k o j h1 h2 => ?_⟩
      simp only [wI_sI, wI_zr]
      rw [if_neg (by omega), if_neg (by omega), if_neg (by omega), if_neg (by omega), if_neg (by omega), if_neg (by omega)]
  · refine (Md_apply_2 hS hc hn f0 f1).mono (fun r w' q => ⟨q.1, ?_, ?_⟩)
    · rw [q.2]
      refine ⟨by simp [wI_sI, app, tG]; exact g1, fun x hx => ?_, fun x hx hx2 => ?_⟩
      · by_cases h : x = n
        · simp [wI_sI, app, tT, h, uf_s, bI]; rfl
        · simp [wI_sI, app, tT, h, uf_n]; exact g2 x hx
      · have h : ¬ x = n := fun h => by simp [app, tT, h, uf_s] at hx2
        have hx3 : tT t x = true := by simpa [app, tT, h, uf_n] using hx2
        exact g3 x hx hx3
    · rw [q.2]
      refine ⟨rfl, rfl, fun k o j h1 h2 => ?_⟩
      simp only [wI_sI]
      rw [if_neg (by omega)]
  · refine (Md_apply_3 hS hc hn f0 f1 f2 f3).mono (fun r w' q => ⟨q.1, ?_, ?_⟩)
    · rw [q.2]
      refine ⟨by simp [wI_sI, app, tG]; exact g1, fun x hx => by simp [wI_sI, app, tT]; exact g2 x hx, fun x hx hx2 => ?_⟩
      have hx3 : tT t x = true := hx2
      obtain ⟨e1, e2, e3, e4⟩ := g3 x hx hx3
      by_cases h : x = n
      · subst h
        exact ⟨by simp [wI_sI, app, tF]; exact e1, by simp [wI_sI, app, tD, uf_s], by simp [wI_sI, app, tN, uf_s], fun i hi => by simp [wI_sI, app, tC]; exact e4 i hi⟩
      · exact ⟨by simp [wI_sI, app, tF]; exact e1, by simp [wI_sI, app, tD, h, uf_n]; exact e2, by simp [wI_sI, app, tN, h, uf_n]; exact e3, fun i hi => by simp [wI_sI, app, tC]; exact e4 i hi⟩
    · rw [q.2]
      refine ⟨rfl, rfl, fun k o j h1 h2 => ?_⟩
      simp only [wI_sI]
      rw [if_neg (by omega), if_neg (by omega)]
  · have hcl : (nI i).toNatClampNeg = i := nI_clamp (by omega)
    refine (Md_apply_4 hS hc hn hi f0 f1 f2 f3).mono (fun r w' q => ⟨q.1, ?_, ?_⟩)
    · rw [q.2]
      refine ⟨by simp [wI_sI, app, tG]; exact g1, fun x hx => by simp [wI_sI, app, tT]; exact g2 x hx, fun x hx hx2 => ?_⟩
      have hx3 : tT t x = true := hx2
      obtain ⟨e1, e2, e3, e4⟩ := g3 x hx hx3
      refine ⟨by simp [wI_sI, app, tF]; exact e1, by simp [wI_sI, app, tD]; exact e2, by simp [wI_sI, app, tN]; exact e3, fun i' hi' => ?_⟩
      by_cases h : x = n
      · subst h
        by_cases h2 : i' = i
        · subst h2
          simp [wI_sI, app, tC, uf_s, hcl]
        · simp [wI_sI, app, tC, uf_s, hcl, h2, uf_n]; exact e4 i' hi'
      · have : ¬ 32 * x + i' = 32 * n + i := by omega
        simp [wI_sI, app, tC, h, uf_n, this]; exact e4 i' hi'
    · rw [q.2]
      refine ⟨rfl, rfl, fun k o j h1 h2 => ?_⟩
      simp only [wI_sI]
      rw [if_neg (by omega)]
end
section
/-! the reference's note -/
def noteM (m : MS) (c : Ch) : MS := (mN m + 1, (if mN m + 1 - mU m = 6 then mN m + 1 else mU m), uf (mG m) (mN m) c, m.2.2.2)
theorem mT_note (m : MS) (c : Ch) : mT (noteM m c) = app c (mT m) := by
  show app (uf (mG m) (mN m) c (mN m)) (rep (uf (mG m) (mN m) c) (mN m)) = app c (rep (mG m) (mN m))
  rw [uf_s, rep_congr (lg' := mG m) (fun c' h => uf_n _ _ (Nat.ne_of_lt h))]
theorem Md_note_ok {w : WW} {m : MS} {d kd n : Nat} {a b e : Int32} (hM : RM w m) (h11 : mN m ≤ 1100) (hu : mU m ≤ mN m) (hk : kd ≤ 4) (hok : okC (kd, n, a, b, e) (mT m)) (hd : 1 ≤ d) :
    E_Md_note d [.inr (7, 1), .inl (nI kd), .inl (nI n), .inl a, .inl b, .inl e] w (fun r w' => r = none ∧ RM w' (noteM m (kd, n, a, b, e)) ∧ FM w w') := by
  refine S_Md_note ?_
  obtain ⟨hS, c0, c1, hLg, hT, hDm, hh, hH, hq, hQ, hk4, hK, hs⟩ := hM
  have hS' := hS
  obtain ⟨s2, s4, s5, s6, s7, s8, s9, s11, s13, s15, l0, l1, l2, l3, l4, l5, l6, l7, l8, l9⟩ := hS
  have hn : n ≤ 24 := hok.1
  generalize hN0 : mN m = N at *
  let w5 : WW := sI (sI (sI (sI (sI w 110 1 (5 * N) (nI kd)) 110 1 (5 * N + 1) (nI n)) 110 1 (5 * N + 2) a) 110 1 (5 * N + 3) b) 110 1 (5 * N + 4) e
  have hf : ∀ f, f < 5 → wI w5 110 1 (5 * N + f) = chF (kd, n, a, b, e) f := by
    intro f hf
    match f, hf with
    | 0, _ => simp [w5, wI_sI, chF]
    | 1, _ => simp [w5, wI_sI, chF]
    | 2, _ => simp [w5, wI_sI, chF]
    | 3, _ => simp [w5, wI_sI, chF]
    | 4, _ => simp [w5, wI_sI, chF]
  have hf2 : ∀ k o j, ¬ (k = 110 ∧ o = 1 ∧ 5 * N ≤ j ∧ j < 5 * N + 5) → wI w5 k o j = wI w k o j := by
    intro k o j h
    simp only [w5, wI_sI]
    rw [if_neg (by omega), if_neg (by omega), if_neg (by omega), if_neg (by omega), if_neg (by omega)]
  have hT5 : RMt w5 (mT m) := hT
  have fin : ∀ (w1 : WW) (u : Nat), RMt w1 (app (kd, n, a, b, e) (mT m)) → FA w5 w1 → (if N + 1 - mU m = 6 then N + 1 else mU m) = u → ∀ w3 : WW, (w3 = sI w1 7 1 0 (nI (N + 1)) ∧ u = mU m ∨ w3 = sI (sI w1 7 1 0 (nI (N + 1))) 7 1 1 (nI u)) → RM w3 (noteM m (kd, n, a, b, e)) ∧ FM w w3 := by
    intro w1 u hT1 hA1 hu3 w3 hw3
    have F3 : FM w w3 := by
      have F5 : FM w w5 := (((FM.sI (Or.inr (by decide))).tr (FM.sI (Or.inr (by decide)))).tr (FM.sI (Or.inr (by decide)))).tr ((FM.sI (Or.inr (by decide))).tr (FM.sI (Or.inr (by decide))))
      rcases hw3 with ⟨rfl, -⟩ | rfl
      · exact (F5.tr hA1.FM).tr (FM.sI (Or.inl rfl))
      · exact ((F5.tr hA1.FM).tr (FM.sI (Or.inl rfl))).tr (FM.sI (Or.inl rfl))
    have k1 : ∀ k o j, ¬ (k = 7 ∧ (j = 0 ∨ j = 1)) → wI w3 k o j = wI w1 k o j := by
      intro k o j h
      rcases hw3 with ⟨rfl, -⟩ | rfl
      · rw [wI_sI, if_neg (by omega)]
      · rw [wI_sI, if_neg (by omega), wI_sI, if_neg (by omega)]
    have key : ∀ k o j, (k = 115 ∨ k = 117 ∨ k = 118 ∨ k = 119 ∨ (k = 7 ∧ j ≠ 0 ∧ j ≠ 1 ∧ j ≠ 3)) → wI w3 k o j = wI w k o j := by
      intro k o j h
      rw [k1 k o j (by omega), hA1.2.2 k o j (by omega) (by omega), hf2 k o j (by omega)]
    have e1 : wI w3 7 1 1 = nI u := by
      rcases hw3 with ⟨rfl, h⟩ | rfl
      · rw [wI_sI, if_neg (by omega), hA1.2.2 7 1 1 (by omega) (by omega), hf2 7 1 1 (by omega), c1, h]
      · rw [wI_sI, if_pos ⟨rfl, rfl, rfl⟩]
    have e0 : wI w3 7 1 0 = nI (N + 1) := by
      rcases hw3 with ⟨rfl, h⟩ | rfl
      · rw [wI_sI, if_pos ⟨rfl, rfl, rfl⟩]
      · rw [wI_sI, if_neg (by omega), wI_sI, if_pos ⟨rfl, rfl, rfl⟩]
    refine ⟨⟨F3.S hS', ?_, ?_, ?_, ?_, ?_, ?_, ?_, ?_, ?_, ?_, ?_, ?_⟩, F3⟩
    · show wI w3 7 1 0 = nI (mN m + 1)
      rw [hN0]; exact e0
    · show wI w3 7 1 1 = nI (if mN m + 1 - mU m = 6 then mN m + 1 else mU m)
      rw [hN0, hu3]; exact e1
    · intro c hc f hf'
      have hc : c < N + 1 := by rw [← hN0]; exact hc
      show wI w3 110 1 (5 * c + f) = chF (uf (mG m) (mN m) (kd, n, a, b, e) c) f
      rw [k1 _ _ _ (by omega), hA1.2.2 _ _ _ (by omega) (by omega), hN0]
      by_cases h : c = N
      · subst h
        rw [uf_s]; exact hf f hf'
      · rw [uf_n _ _ h, hf2 _ _ _ (by omega)]
        exact hLg c (by omega) f hf'
    · rw [mT_note]
      obtain ⟨x1, x2, x3⟩ := hT1
      refine ⟨by rw [k1 _ _ _ (by omega)]; exact x1, fun x hx => by rw [k1 _ _ _ (by omega)]; exact x2 x hx, fun x hx hx2 => ?_⟩
      obtain ⟨y1, y2, y3, y4⟩ := x3 x hx hx2
      exact ⟨by rw [k1 _ _ _ (by omega)]; exact y1, by rw [k1 _ _ _ (by omega)]; exact y2, by rw [k1 _ _ _ (by omega)]; exact y3, fun i hi => by rw [k1 _ _ _ (by omega)]; exact y4 i hi⟩
    · intro x hx; rw [key _ _ _ (by omega)]; exact hDm x hx
    · rw [key _ _ _ (by omega)]; exact hh
    · intro x h1 h2 f hf'; rw [key _ _ _ (by omega)]; exact hH x h1 h2 f hf'
    · rw [key _ _ _ (by omega)]; exact hq
    · exact ⟨fun x h1 h2 f hf' => by rw [key _ _ _ (by omega)]; exact hQ.1 x h1 h2 f hf', fun x h1 h2 => by rw [key _ _ _ (by omega)]; exact hQ.2 x h1 h2⟩
    · rw [key _ _ _ (by omega)]; exact hk4
    · intro i hi f hf'; rw [key _ _ _ (by omega)]; exact hK i hi f hf'
    · rw [key _ _ _ (by omega)]; exact hs
  refine XE.iconst (x := nI 5) d_Md_note_0 (by decide) ?_
  refine XE.aload_n d_Md_note_1 rfl ?_
  refine g_Md_56 d_Md_note_2 (by first | assumption | decide | omega) (by first | assumption | rfl) ?_
  refine XE.imul d_Md_note_5 (by first | exact pk_mul _ _ | rfl) ?_
  refine XE.istore d_Md_note_6 (by decide) ?_
  refine XE.aload_n d_Md_note_8 rfl ?_
  refine g_Md_7 d_Md_note_9 (by first | assumption | decide | omega) (by first | assumption | rfl) ?_
  refine XE.iload d_Md_note_12 rfl ?_
  refine XE.iload_n d_Md_note_14 rfl ?_
  refine XE.iast d_Md_note_15 (by decide) rfl (by first | assumption | decide | omega) (by first | assumption | exact ixn2 (by assumption) (by omega) (by omega)) ?_
  refine XE.aload_n d_Md_note_16 rfl ?_
  refine g_Md_7 d_Md_note_17 (by first | assumption | decide | omega) (by first | assumption | rfl) ?_
  refine XE.iload d_Md_note_20 rfl ?_
  refine XE.iconst (x := nI 1) d_Md_note_22 (by decide) ?_
  refine XE.iadd d_Md_note_23 (by first | exact nI_add _ _ | rfl) ?_
  refine XE.iload_n d_Md_note_24 rfl ?_
  refine XE.iast d_Md_note_25 (by decide) rfl (by first | assumption | decide | omega) (by first | assumption | exact ixn2 (by assumption) (by omega) (by omega)) ?_
  refine XE.aload_n d_Md_note_26 rfl ?_
  refine g_Md_7 d_Md_note_27 (by first | assumption | decide | omega) (by first | assumption | rfl) ?_
  refine XE.iload d_Md_note_30 rfl ?_
  refine XE.iconst (x := nI 2) d_Md_note_32 (by decide) ?_
  refine XE.iadd d_Md_note_33 (by first | exact nI_add _ _ | rfl) ?_
  refine XE.iload_n d_Md_note_34 rfl ?_
  refine XE.iast d_Md_note_35 (by decide) rfl (by first | assumption | decide | omega) (by first | assumption | exact ixn2 (by assumption) (by omega) (by omega)) ?_
  refine XE.aload_n d_Md_note_36 rfl ?_
  refine g_Md_7 d_Md_note_37 (by first | assumption | decide | omega) (by first | assumption | rfl) ?_
  refine XE.iload d_Md_note_40 rfl ?_
  refine XE.iconst (x := nI 3) d_Md_note_42 (by decide) ?_
  refine XE.iadd d_Md_note_43 (by first | exact nI_add _ _ | rfl) ?_
  refine XE.iload d_Md_note_44 rfl ?_
  refine XE.iast d_Md_note_46 (by decide) rfl (by first | assumption | decide | omega) (by first | assumption | exact ixn2 (by assumption) (by omega) (by omega)) ?_
  refine XE.aload_n d_Md_note_47 rfl ?_
  refine g_Md_7 d_Md_note_48 (by first | assumption | decide | omega) (by first | assumption | rfl) ?_
  refine XE.iload d_Md_note_51 rfl ?_
  refine XE.iconst (x := nI 4) d_Md_note_53 (by decide) ?_
  refine XE.iadd d_Md_note_54 (by first | exact nI_add _ _ | rfl) ?_
  refine XE.iload d_Md_note_55 rfl ?_
  refine XE.iast d_Md_note_57 (by decide) rfl (by first | assumption | decide | omega) (by first | assumption | exact ixn2 (by assumption) (by omega) (by omega)) ?_
  refine XE.aload_n d_Md_note_58 rfl ?_
  refine XE.aload_n d_Md_note_59 rfl ?_
  refine g_Md_56 d_Md_note_60 (by first | assumption | decide | omega) (by first | assumption | rfl) ?_
  refine k_Md_59 0 d_Md_note_63 (by omega) (Nat.le_of_ble_eq_true rfl) (by first | assumption | decide | omega) (Md_apply_ok (w := w5) (t := mT m) hS' hT5 (by omega) hf hok) (fun r1 w1 hm1 hq1 => ?_)
  obtain ⟨rfl, hT1, hA1⟩ := hq1
  have d0 : wI w1 7 1 0 = nI N := by rw [hA1.2.2 7 1 0 (by omega) (by omega), hf2 7 1 0 (by omega), c0]
  have d1 : wI w1 7 1 1 = nI (mU m) := by rw [hA1.2.2 7 1 1 (by omega) (by omega), hf2 7 1 1 (by omega), c1]
  refine XE.aload_n d_Md_note_66 rfl ?_
  refine XE.dup d_Md_note_67 ?_
  refine g_Md_56 d_Md_note_68 (by first | assumption | decide | omega) (by first | assumption | rfl) ?_
  refine XE.iconst (x := nI 1) d_Md_note_71 (by decide) ?_
  refine XE.iadd d_Md_note_72 (by first | exact nI_add _ _ | rfl) ?_
  refine p_Md_56 d_Md_note_73 (by first | assumption | decide | omega) ?_
  refine XE.aload_n d_Md_note_76 rfl ?_
  refine g_Md_56 (x := nI (N + 1)) d_Md_note_77 (by first | assumption | decide | omega) (by rw [wI_sI, if_pos ⟨rfl, rfl, rfl⟩]) ?_
  refine XE.aload_n d_Md_note_80 rfl ?_
  refine g_Md_63 (x := nI (mU m)) d_Md_note_81 (by first | assumption | decide | omega) (by rw [wI_sI, if_neg (by omega)]; exact d1) ?_
  refine XE.isub d_Md_note_84 (pk_sub (by omega)) ?_
  refine XE.bipush (x := nI 6) d_Md_note_85 (by decide) ?_
  refine XE.icmp_ne 98 d_Md_note_87 (by decide) (fun h87 => ?_) (fun h87 => ?_)
  · have e6 : ¬ N + 1 - mU m = 6 := fun h => h87 (by rw [h])
    first | exact XE.rv d_Md_note_98 ⟨rfl, fin w1 _ hT1 hA1 (by rw [if_neg e6]) _ (Or.inl ⟨rfl, rfl⟩)⟩ | exact XE.rv d_Md_note_98 ⟨rfl, fin w1 _ hT1 hA1 (by rw [if_pos e6]) _ (Or.inr rfl)⟩
  · have e6 : N + 1 - mU m = 6 := (eq_nI (by omega) (by omega)).mp h87
    refine XE.aload_n d_Md_note_90 rfl ?_
    refine XE.aload_n d_Md_note_91 rfl ?_
    refine g_Md_56 (x := nI (N + 1)) d_Md_note_92 (by first | assumption | decide | omega) (by rw [wI_sI, if_pos ⟨rfl, rfl, rfl⟩]) ?_
    refine p_Md_63 d_Md_note_95 (by first | assumption | decide | omega) ?_
    first | exact XE.rv d_Md_note_98 ⟨rfl, fin w1 _ hT1 hA1 (by rw [if_neg e6]) _ (Or.inl ⟨rfl, rfl⟩)⟩ | exact XE.rv d_Md_note_98 ⟨rfl, fin w1 _ hT1 hA1 (by rw [if_pos e6]) _ (Or.inr rfl)⟩
end
section
/-! the reference: breaks, sharing, grant -/
theorem RM.hset {w : WW} {m : MS} (hM : RM w m) {x f : Nat} {v : Int32} {h' : HR} (h1 : 1 ≤ x) (hf : f < 7) (e : ∀ g, g < 7 → hrF h' g = if g = f then v else hrF (mh m x) g) : RM (sI w 117 1 (7 * x + f) v) (setH m (uf (mh m) x h')) := by
  obtain ⟨hS, c0, c1, hLg, hT, hDm, hh, hH, hq, hQ, hk4, hK, hs⟩ := hM
  refine ⟨hS, c0, c1, hLg, hT, hDm, hh, ?_, hq, hQ, hk4, hK, hs⟩
  intro y y1 y2 g hg
  show wI (sI w 117 1 (7 * x + f) v) 117 1 (7 * y + g) = hrF (uf (mh m) x h' y) g
  by_cases h : y = x
  · subst h
    rw [uf_s, e g hg, wI_sI]
    by_cases h2 : g = f
    · rw [if_pos h2, if_pos ⟨rfl, rfl, by omega⟩]
    · rw [if_neg h2, if_neg (by omega)]
      exact hH y y1 y2 g hg
  · rw [uf_n _ _ h, wI_sI, if_neg (by omega)]
    exact hH y y1 y2 g hg
theorem Md_breaks_ok {w : WW} {m : MS} {d n : Nat} (hM : RM w m) (hB : WB m) (hn : n ≤ 24) (hd : 1 ≤ d) :
    E_Md_breaks d [.inr (7, 1), .inl (nI n)] w (fun r w' => r = some (.inl (bI (brkA m n))) ∧ RM w' (brkM m n) ∧ FM w w') := by
  refine S_Md_breaks ?_
  have b := hB.1
  let fn : Nat → Nat → HR := fun i x => if (1 ≤ x ∧ x < i) ∧ brkP m n x = true then hsG (mh m x) (nI 3) else mh m x
  have loop : ∀ k i c w0, i + k = mH m + 1 → 1 ≤ i → RM w0 (setH m (fn i)) → FM w w0 → X_Md_breaks d 4 [some (.inr (7, 1)), some (.inl (nI n)), some (.inl (bI c)), some (.inl (nI i))] [] w0 (fun r w' => r = some (.inl (bI (c || (List.range' i k).any (brkP m n)))) ∧ RM w' (setH m (fn (mH m + 1))) ∧ FM w w') := by
    intro k
    induction k with
    | zero =>
      intro i c w0 h1 h2 hR hF
      have hn : wI w0 7 1 10 = nI (mH m) := hR.2.2.2.2.2.2.1
      have e : i = mH m + 1 := h1
      subst e
      refine XE.iload_n d_Md_breaks_4 rfl ?_
      refine XE.aload_n d_Md_breaks_5 rfl ?_
      refine g_Md_41 d_Md_breaks_6 (by first | assumption | decide | omega) (by first | assumption | rfl) ?_
      refine XE.icmp_gt 65 d_Md_breaks_9 (by decide) (fun h9 => ?_) (fun h9 => absurd h9 ((by rw [lt_nI (by omega) (by omega)]; omega)))
      refine XE.iload_n d_Md_breaks_65 rfl ?_
      exact XE.rb d_Md_breaks_66 (bI_01 c) ⟨by simp, hR, hF⟩
    | succ k ih =>
      intro i c w0 h1 h2 hR hF
      have hn' : wI w0 7 1 10 = nI (mH m) := hR.2.2.2.2.2.2.1
      have s11 := hR.1.2.2.2.2.2.2.2.1
      have l7 := hR.1.2.2.2.2.2.2.2.2.2.2.2.2.2.2.2.2.2.1
      have hH : ∀ f, f < 7 → wI w0 117 1 (7 * i + f) = hrF (mh m i) f := fun f hf => by
        have := hR.2.2.2.2.2.2.2.1 i h2 (by show i ≤ mH m; omega) f hf
        rw [this]
        show hrF (fn i i) f = _
        simp [fn]
      have hc : ∀ f, f < 7 → E_Md_h 0 [.inr (7, 1), .inl (nI i), .inl (nI f)] w0 (fun r w' => r = some (.inl (hrF (mh m i) f)) ∧ w' = w0) := fun f hf => by
        rw [← hH f hf]
        exact Md_h_ok s11 l7 (by omega)
      have e1 : ¬ brkP m n i = true → fn i = fn (i + 1) ∧ (List.range' i (k + 1)).any (brkP m n) = (List.range' (i + 1) k).any (brkP m n) := fun h => by
        refine ⟨?_, by rw [List.range'_succ, List.any_cons]; simp [h]⟩
        funext x
        by_cases hx : x = i
        · subst hx; simp [fn, h]
        · have : (1 ≤ x ∧ x < i) ↔ (1 ≤ x ∧ x < i + 1) := by omega
          simp only [fn, this]
      have e2 : brkP m n i = true → uf (fn i) i (hsG (mh m i) (nI 3)) = fn (i + 1) ∧ (List.range' i (k + 1)).any (brkP m n) = true := fun h => by
        refine ⟨?_, by rw [List.range'_succ, List.any_cons]; simp [h]⟩
        funext x
        by_cases hx : x = i
        · subst hx; simp [fn, h, uf_s, h2]
        · rw [uf_n _ _ hx]
          have : (1 ≤ x ∧ x < i) ↔ (1 ≤ x ∧ x < i + 1) := by omega
          simp only [fn, this]
      have hpi : brkP m n i = true ↔ hO (mh m i) = true ∧ nI (hN (mh m i)) = nI n ∧ nI 2 ≤ hG (mh m i) := by
        have := hB.n24 h2 (by omega : i ≤ mH m)
        rw [eq_nI (by omega) (by omega)]
        simp [brkP]
      have hs2 : RM (sI w0 117 1 (7 * i + 3) (nI 3)) (setH m (uf (fn i) i (hsG (mh m i) (nI 3)))) := hR.hset (f := 3) (v := nI 3) (h' := hsG (mh m i) (nI 3)) h2 (by decide) (fun g hg => by
        show _ = if g = 3 then nI 3 else hrF (fn i i) g
        rw [show fn i i = mh m i by simp [fn]]
        match g, hg with
        | 0, _ => rfl
        | 1, _ => rfl
        | 2, _ => rfl
        | 3, _ => rfl
        | 4, _ => rfl
        | 5, _ => rfl
        | 6, _ => rfl)
      refine XE.iload_n d_Md_breaks_4 rfl ?_
      refine XE.aload_n d_Md_breaks_5 rfl ?_
      refine g_Md_41 d_Md_breaks_6 (by first | assumption | decide | omega) (by first | assumption | rfl) ?_
      refine XE.icmp_gt 65 d_Md_breaks_9 (by decide) (fun h9 => absurd h9 ((by rw [lt_nI (by omega) (by omega)]; omega))) (fun h9 => ?_)
      refine XE.aload_n d_Md_breaks_12 rfl ?_
      refine XE.iload_n d_Md_breaks_13 rfl ?_
      refine XE.bipush (x := nI 6) d_Md_breaks_14 (by decide) ?_
      refine k_Md_49 0 d_Md_breaks_16 (by omega) (Nat.le_of_ble_eq_true rfl) (by first | assumption | decide | omega) (hc 6 (by decide)) (fun r1 w1 hm1 hq1 => ?_)
      rw [hq1.1, hq1.2]
      clear hq1 hm1 r1 w1
      refine XE.if_eq 59 d_Md_breaks_19 (by decide) (fun h19 => ?_) (fun h19 => ?_)
      · have q := e1 (fun z => by rw [show hrF (mh m i) 6 = bI (hO (mh m i)) from rfl, (hpi.mp z).1] at h19; exact absurd h19 (by decide))
        refine XE.iinc d_Md_breaks_59 rfl (inc_nI _) ?_
        refine XE.goto 4 d_Md_breaks_62 (by decide) ?_
        first | (refine (ih (i + 1) c _ (by omega) (by omega) (by rw [← q.1]; exact hR) hF).mono (fun r w' z => ⟨z.1.trans ?_, z.2⟩); rw [q.2]) | (refine (ih (i + 1) true _ (by omega) (by omega) (by rw [← q.1]; exact hR2) (hF.tr (FM.sI (Or.inr (by decide))))).mono (fun r w' z => ⟨z.1.trans ?_, z.2⟩); rw [q.2]; simp)
      · refine XE.aload_n d_Md_breaks_22 rfl ?_
        refine XE.iload_n d_Md_breaks_23 rfl ?_
        refine XE.iconst (x := nI 0) d_Md_breaks_24 (by decide) ?_
        refine k_Md_49 0 d_Md_breaks_25 (by omega) (Nat.le_of_ble_eq_true rfl) (by first | assumption | decide | omega) (hc 0 (by decide)) (fun r1 w1 hm1 hq1 => ?_)
        rw [hq1.1, hq1.2]
        clear hq1 hm1 r1 w1
        refine XE.iload_n d_Md_breaks_28 rfl ?_
        refine XE.icmp_ne 59 d_Md_breaks_29 (by decide) (fun h29 => ?_) (fun h29 => ?_)
        · have q := e1 (fun z => h29 (hpi.mp z).2.1)
          refine XE.iinc d_Md_breaks_59 rfl (inc_nI _) ?_
          refine XE.goto 4 d_Md_breaks_62 (by decide) ?_
          first | (refine (ih (i + 1) c _ (by omega) (by omega) (by rw [← q.1]; exact hR) hF).mono (fun r w' z => ⟨z.1.trans ?_, z.2⟩); rw [q.2]) | (refine (ih (i + 1) true _ (by omega) (by omega) (by rw [← q.1]; exact hR2) (hF.tr (FM.sI (Or.inr (by decide))))).mono (fun r w' z => ⟨z.1.trans ?_, z.2⟩); rw [q.2]; simp)
        · refine XE.aload_n d_Md_breaks_32 rfl ?_
          refine XE.iload_n d_Md_breaks_33 rfl ?_
          refine XE.iconst (x := nI 3) d_Md_breaks_34 (by decide) ?_
          refine k_Md_49 0 d_Md_breaks_35 (by omega) (Nat.le_of_ble_eq_true rfl) (by first | assumption | decide | omega) (hc 3 (by decide)) (fun r1 w1 hm1 hq1 => ?_)
          rw [hq1.1, hq1.2]
          clear hq1 hm1 r1 w1
          refine XE.iconst (x := nI 2) d_Md_breaks_38 (by decide) ?_
          refine XE.icmp_ge 45 d_Md_breaks_39 (by decide) (fun h39 => ?_) (fun h39 => ?_)
          · have q0 := hpi.mpr ⟨(bI_eq1 _).mp ((bI_01 _).resolve_left h19), h29, h39⟩
            have q := e2 q0
            have hR2 := hs2
            refine XE.aload_n d_Md_breaks_45 rfl ?_
            refine g_Md_32 d_Md_breaks_46 (by first | assumption | decide | omega) (by first | assumption | rfl) ?_
            refine XE.bipush (x := nI 7) d_Md_breaks_49 (by decide) ?_
            refine XE.iload_n d_Md_breaks_51 rfl ?_
            refine XE.imul d_Md_breaks_52 (by first | exact pk_mul _ _ | rfl) ?_
            refine XE.iconst (x := nI 3) d_Md_breaks_53 (by decide) ?_
            refine XE.iadd d_Md_breaks_54 (by first | exact nI_add _ _ | rfl) ?_
            refine XE.iconst (x := nI 3) d_Md_breaks_55 (by decide) ?_
            refine XE.iast d_Md_breaks_56 (by decide) rfl (by first | assumption | decide | omega) (by first | assumption | exact ixn2 (by assumption) (by omega) (by omega)) ?_
            refine XE.iconst (x := nI 1) d_Md_breaks_57 (by decide) ?_
            refine XE.istore_n d_Md_breaks_58 (by decide) ?_
            refine XE.iinc d_Md_breaks_59 rfl (inc_nI _) ?_
            refine XE.goto 4 d_Md_breaks_62 (by decide) ?_
            first | (refine (ih (i + 1) c _ (by omega) (by omega) (by rw [← q.1]; exact hR) hF).mono (fun r w' z => ⟨z.1.trans ?_, z.2⟩); rw [q.2]) | (refine (ih (i + 1) true _ (by omega) (by omega) (by rw [← q.1]; exact hR2) (hF.tr (FM.sI (Or.inr (by decide))))).mono (fun r w' z => ⟨z.1.trans ?_, z.2⟩); rw [q.2]; simp)
          · have q := e1 (fun z => h39 (hpi.mp z).2.2)
            refine XE.goto 59 d_Md_breaks_42 (by decide) ?_
            refine XE.iinc d_Md_breaks_59 rfl (inc_nI _) ?_
            refine XE.goto 4 d_Md_breaks_62 (by decide) ?_
            first | (refine (ih (i + 1) c _ (by omega) (by omega) (by rw [← q.1]; exact hR) hF).mono (fun r w' z => ⟨z.1.trans ?_, z.2⟩); rw [q.2]) | (refine (ih (i + 1) true _ (by omega) (by omega) (by rw [← q.1]; exact hR2) (hF.tr (FM.sI (Or.inr (by decide))))).mono (fun r w' z => ⟨z.1.trans ?_, z.2⟩); rw [q.2]; simp)
  have f1 : fn 1 = mh m := by
    funext x
    simp only [fn]
    rw [if_neg (by omega)]
  have f2 : setH m (fn (mH m + 1)) = brkM m n := by
    unfold brkM
    congr 1
    funext x
    have : (1 ≤ x ∧ x < mH m + 1) ↔ (1 ≤ x ∧ x ≤ mH m) := by omega
    simp only [fn, this]
  refine XE.iconst (x := nI 0) d_Md_breaks_0 (by decide) ?_
  refine XE.istore_n d_Md_breaks_1 (by decide) ?_
  refine XE.iconst (x := nI 1) d_Md_breaks_2 (by decide) ?_
  refine XE.istore_n d_Md_breaks_3 (by decide) ?_
  refine (loop (mH m) 1 false w (by omega) (by omega) (by rw [f1]; exact hM) FM.rf).mono (fun r w' z => ⟨z.1.trans ?_, ?_, z.2.2⟩)
  rw [Bool.false_or]; rfl
  rw [← f2]; exact z.2.1
end
section
/-! the reference: sharing, grant -/
theorem Md_sharing_ok {w : WW} {m : MS} {d n : Nat} (hM : RM w m) (hB : WB m) (hn : n ≤ 24) (md : Int32) (hd : 1 ≤ d) :
    E_Md_sharing d [.inr (7, 1), .inl (nI n), .inl md] w (fun r w' => r = some (.inl (bI (shA m n md))) ∧ w' = w) := by
  refine S_Md_sharing ?_
  have b := hB.1
  have hn' : wI w 7 1 10 = nI (mH m) := hM.2.2.2.2.2.2.1
  have loop : ∀ k i ls4 ls5, i + k = mH m + 1 → 1 ≤ i → X_Md_sharing d 2 [some (.inr (7, 1)), some (.inl (nI n)), some (.inl md), some (.inl (nI i)), ls4, ls5] [] w (fun r w' => r = some (.inl (bI ((List.range' i k).any (shP m n md)))) ∧ w' = w) := by
    intro k
    induction k with
    | zero =>
      intro i _ _ h1 h2
      refine XE.iload_n d_Md_sharing_2 rfl ?_
      refine XE.aload_n d_Md_sharing_3 rfl ?_
      refine g_Md_41 d_Md_sharing_4 (by first | assumption | decide | omega) (by first | assumption | rfl) ?_
      refine XE.icmp_gt 83 d_Md_sharing_7 (by decide) (fun h7 => ?_) (fun h7 => absurd h7 ((by rw [lt_nI (by omega) (by omega)]; omega)))
      refine XE.iconst (x := nI 0) d_Md_sharing_83 (by decide) ?_
      exact XE.rb d_Md_sharing_84 (by decide) ⟨rfl, rfl⟩
    | succ k ih =>
      intro i _ _ h1 h2
      have e1 : ¬ shP m n md i = true → (List.range' i (k + 1)).any (shP m n md) = (List.range' (i + 1) k).any (shP m n md) := fun h => by rw [List.range'_succ, List.any_cons]; simp [h]
      have e2 : shP m n md i = true → (List.range' i (k + 1)).any (shP m n md) = true := fun h => by rw [List.range'_succ, List.any_cons]; simp [h]
      have hpi : shP m n md i = true ↔ hO (mh m i) = true ∧ nI (hN (mh m i)) = nI n ∧ (¬ accM md &&& (hS (mh m i) ^^^ (-1)) = 0 ∨ ¬ hA (mh m i) &&& (shrM md ^^^ (-1)) = 0) := by
        have := hB.n24 h2 (by omega : i ≤ mH m)
        rw [eq_nI (by omega) (by omega)]
        simp [shP]
      have hc : ∀ f, f < 7 → E_Md_h 0 [.inr (7, 1), .inl (nI i), .inl (nI f)] w (fun r w' => r = some (.inl (hrF (mh m i) f)) ∧ w' = w) := fun f hf => Md_h_m f hM hB h2 (by omega) hf
      refine XE.iload_n d_Md_sharing_2 rfl ?_
      refine XE.aload_n d_Md_sharing_3 rfl ?_
      refine g_Md_41 d_Md_sharing_4 (by first | assumption | decide | omega) (by first | assumption | rfl) ?_
      refine XE.icmp_gt 83 d_Md_sharing_7 (by decide) (fun h7 => absurd h7 ((by rw [lt_nI (by omega) (by omega)]; omega))) (fun h7 => ?_)
      refine XE.aload_n d_Md_sharing_10 rfl ?_
      refine XE.iload_n d_Md_sharing_11 rfl ?_
      refine XE.bipush (x := nI 6) d_Md_sharing_12 (by decide) ?_
      refine k_Md_49 0 d_Md_sharing_14 (by omega) (Nat.le_of_ble_eq_true rfl) (by first | assumption | decide | omega) (hc 6 (by decide)) (fun r1 w1 hm1 hq1 => ?_)
      rw [hq1.1, hq1.2]
      clear hq1 hm1 r1 w1
      refine XE.if_eq 77 d_Md_sharing_17 (by decide) (fun h17 => ?_) (fun h17 => ?_)
      · have q := e1 (fun z => by rw [show hrF (mh m i) 6 = bI (hO (mh m i)) from rfl, (hpi.mp z).1] at h17; exact absurd h17 (by decide))
        refine XE.iinc d_Md_sharing_77 rfl (inc_nI _) ?_
        refine XE.goto 2 d_Md_sharing_80 (by decide) ?_
        refine (ih (i + 1) _ _ (by omega) (by omega)).mono (fun r w' z => ⟨z.1.trans ?_, z.2⟩)
        rw [q]
      · refine XE.aload_n d_Md_sharing_20 rfl ?_
        refine XE.iload_n d_Md_sharing_21 rfl ?_
        refine XE.iconst (x := nI 0) d_Md_sharing_22 (by decide) ?_
        refine k_Md_49 0 d_Md_sharing_23 (by omega) (Nat.le_of_ble_eq_true rfl) (by first | assumption | decide | omega) (hc 0 (by decide)) (fun r1 w1 hm1 hq1 => ?_)
        rw [hq1.1, hq1.2]
        clear hq1 hm1 r1 w1
        refine XE.iload_n d_Md_sharing_26 rfl ?_
        refine XE.icmp_eq 33 d_Md_sharing_27 (by decide) (fun h27 => ?_) (fun h27 => ?_)
        · refine XE.iload_n d_Md_sharing_33 rfl ?_
          refine XE.bipush (x := nI 7) d_Md_sharing_34 (by decide) ?_
          refine XE.iand d_Md_sharing_36 rfl ?_
          refine XE.aload_n d_Md_sharing_37 rfl ?_
          refine XE.iload_n d_Md_sharing_38 rfl ?_
          refine XE.iconst (x := nI 2) d_Md_sharing_39 (by decide) ?_
          refine k_Md_49 0 d_Md_sharing_40 (by omega) (Nat.le_of_ble_eq_true rfl) (by first | assumption | decide | omega) (hc 2 (by decide)) (fun r1 w1 hm1 hq1 => ?_)
          rw [hq1.1, hq1.2]
          clear hq1 hm1 r1 w1
          refine XE.iconst (x := (-1)) d_Md_sharing_43 (by decide) ?_
          refine XE.ixor d_Md_sharing_44 rfl ?_
          refine XE.iand d_Md_sharing_45 rfl ?_
          refine XE.istore d_Md_sharing_46 (by decide) ?_
          refine XE.aload_n d_Md_sharing_48 rfl ?_
          refine XE.iload_n d_Md_sharing_49 rfl ?_
          refine XE.iconst (x := nI 1) d_Md_sharing_50 (by decide) ?_
          refine k_Md_49 0 d_Md_sharing_51 (by omega) (Nat.le_of_ble_eq_true rfl) (by first | assumption | decide | omega) (hc 1 (by decide)) (fun r1 w1 hm1 hq1 => ?_)
          rw [hq1.1, hq1.2]
          clear hq1 hm1 r1 w1
          refine XE.iload_n d_Md_sharing_54 rfl ?_
          refine XE.iconst (x := nI 3) d_Md_sharing_55 (by decide) ?_
          refine XE.ishr d_Md_sharing_56 rfl ?_
          refine XE.bipush (x := nI 7) d_Md_sharing_57 (by decide) ?_
          refine XE.iand d_Md_sharing_59 rfl ?_
          refine XE.iconst (x := (-1)) d_Md_sharing_60 (by decide) ?_
          refine XE.ixor d_Md_sharing_61 rfl ?_
          refine XE.iand d_Md_sharing_62 rfl ?_
          refine XE.istore d_Md_sharing_63 (by decide) ?_
          refine XE.iload d_Md_sharing_65 rfl ?_
          refine XE.if_ne 75 d_Md_sharing_67 (by decide) (fun h67 => ?_) (fun h67 => ?_)
          · have q := e2 (hpi.mpr ⟨(bI_eq1 _).mp ((bI_01 _).resolve_left h17), h27, Or.inl h67⟩)
            refine XE.iconst (x := nI 1) d_Md_sharing_75 (by decide) ?_
            exact XE.rb d_Md_sharing_76 (by decide) ⟨by rw [q]; rfl, rfl⟩
          · refine XE.iload d_Md_sharing_70 rfl ?_
            refine XE.if_eq 77 d_Md_sharing_72 (by decide) (fun h72 => ?_) (fun h72 => ?_)
            · have q := e1 (fun z => (hpi.mp z).2.2.elim (fun y => y h67) (fun y => y h72))
              refine XE.iinc d_Md_sharing_77 rfl (inc_nI _) ?_
              refine XE.goto 2 d_Md_sharing_80 (by decide) ?_
              refine (ih (i + 1) _ _ (by omega) (by omega)).mono (fun r w' z => ⟨z.1.trans ?_, z.2⟩)
              rw [q]
            · have q := e2 (hpi.mpr ⟨(bI_eq1 _).mp ((bI_01 _).resolve_left h17), h27, Or.inr h72⟩)
              refine XE.iconst (x := nI 1) d_Md_sharing_75 (by decide) ?_
              exact XE.rb d_Md_sharing_76 (by decide) ⟨by rw [q]; rfl, rfl⟩
        · have q := e1 (fun z => h27 (hpi.mp z).2.1)
          refine XE.goto 77 d_Md_sharing_30 (by decide) ?_
          refine XE.iinc d_Md_sharing_77 rfl (inc_nI _) ?_
          refine XE.goto 2 d_Md_sharing_80 (by decide) ?_
          refine (ih (i + 1) _ _ (by omega) (by omega)).mono (fun r w' z => ⟨z.1.trans ?_, z.2⟩)
          rw [q]
  refine XE.iconst (x := nI 1) d_Md_sharing_0 (by decide) ?_
  refine XE.istore_n d_Md_sharing_1 (by decide) ?_
  exact loop (mH m) 1 _ _ (by omega) (by omega)
theorem RM.hadd {w w' : WW} {m : MS} {h' : HR} (hM : RM w m) (hF : w'.1 = w.1 ∧ w'.2.2 = w.2.2) (e0 : wI w' 7 1 10 = nI (mH m + 1)) (e1 : ∀ f, f < 7 → wI w' 117 1 (7 * (mH m + 1) + f) = hrF h' f)
    (e2 : ∀ k o j, ¬ (k = 7 ∧ j = 10) → ¬ (k = 117 ∧ 7 * (mH m + 1) ≤ j) → wI w' k o j = wI w k o j) : RM w' (m.1, m.2.1, m.2.2.1, m.2.2.2.1, mH m + 1, uf (mh m) (mH m + 1) h', m.2.2.2.2.2.2) := by
  obtain ⟨hS, c0, c1, hLg, hT, hDm, hh, hH, hq, hQ, hk4, hK, hs⟩ := hM
  refine ⟨?_, ?_, ?_, ?_, ?_, ?_, e0, ?_, ?_, ?_, ?_, ?_, ?_⟩
  · unfold MdS at hS ⊢
    unfold wR wL at hS ⊢
    rw [hF.2]
    exact hS
  · rw [e2 _ _ _ (by omega) (by omega)]; exact c0
  · rw [e2 _ _ _ (by omega) (by omega)]; exact c1
  · intro c hc f hf; rw [e2 _ _ _ (by omega) (by omega)]; exact hLg c hc f hf
  · obtain ⟨x1, x2, x3⟩ := hT
    refine ⟨by rw [e2 _ _ _ (by omega) (by omega)]; exact x1, fun x hx => by rw [e2 _ _ _ (by omega) (by omega)]; exact x2 x hx, fun x hx hx2 => ?_⟩
    obtain ⟨y1, y2, y3, y4⟩ := x3 x hx hx2
    exact ⟨by rw [e2 _ _ _ (by omega) (by omega)]; exact y1, by rw [e2 _ _ _ (by omega) (by omega)]; exact y2, by rw [e2 _ _ _ (by omega) (by omega)]; exact y3, fun i hi => by rw [e2 _ _ _ (by omega) (by omega)]; exact y4 i hi⟩
  · intro x hx; rw [e2 _ _ _ (by omega) (by omega)]; exact hDm x hx
  · intro x h1 h2 f hf
    show wI w' 117 1 (7 * x + f) = hrF (uf (mh m) (mH m + 1) h' x) f
    have h2 : x ≤ mH m + 1 := h2
    by_cases h : x = mH m + 1
    · subst h; rw [uf_s]; exact e1 f hf
    · rw [uf_n _ _ h, e2 _ _ _ (by omega) (by omega)]; exact hH x h1 (by omega) f hf
  · rw [e2 _ _ _ (by omega) (by omega)]; exact hq
  · exact ⟨fun x h1 h2 f hf => by rw [e2 _ _ _ (by omega) (by omega)]; exact hQ.1 x h1 h2 f hf, fun x h1 h2 => by rw [e2 _ _ _ (by omega) (by omega)]; exact hQ.2 x h1 h2⟩
  · rw [e2 _ _ _ (by omega) (by omega)]; exact hk4
  · intro i hi f hf; rw [e2 _ _ _ (by omega) (by omega)]; exact hK i hi f hf
  · rw [e2 _ _ _ (by omega) (by omega)]; exact hs
set_option maxHeartbeats 1000000 in
theorem Md_grant_ok {w : WW} {m : MS} {d r n : Nat} (hM : RM w m) (hB : WB m) (hn : n ≤ 24) (ht : tT (mT m) n = true) (r1 : 1 ≤ r) (r2 : r ≤ mQ m) (hh512 : mH m < 512) (hd : 2 ≤ d) :
    E_Md_grant d [.inr (7, 1), .inl (nI r), .inl (nI n)] w (fun q w' => q = some (.inl (nI (mH m + 1))) ∧ RM w' (grM m r n) ∧ FM w w') := by
  refine S_Md_grant ?_
  have hM' := hM
  obtain ⟨hS, c0, c1, hLg, hT, hDm, hh, hH, hq, hQ, hk4, hK, hs⟩ := hM
  obtain ⟨s2, s4, s5, s6, s7, s8, s9, s11, s13, s15, l0, l1, l2, l3, l4, l5, l6, l7, l8, l9⟩ := hS
  have q0 : wI w 118 1 (6 * r) = qC (mq m r) := hQ.1 r r1 r2 0 (by decide)
  have q3 : wI w 118 1 (6 * r + 3) = qM (mq m r) := hQ.1 r r1 r2 3 (by decide)
  have q4 : wI w 118 1 (6 * r + 4) = qW (mq m r) := hQ.1 r r1 r2 4 (by decide)
  have tf : wI w 112 1 n = bI (tF (mT m) n) := (hT.2.2 n hn ht).1
  have b2 := hB.2.1
  obtain ⟨md, hmd, emd⟩ := hB.md r1 r2
  have hb9 := bit9 md hmd
  rw [← emd] at hb9
  generalize hNH : mH m = NH at *
  have tail : ∀ g : Int32, grG m r n = g → X_Md_grant d 62 [some (.inr (7, 1)), some (.inl (nI r)), some (.inl (nI n)), some (.inl (qM (mq m r))), some (.inl (qW (mq m r))), none, none] [.inl g] w (fun q w' => q = some (.inl (nI (NH + 1))) ∧ RM w' (grM m r n) ∧ FM w w') := by
    intro g hg
    let B := 7 * (NH + 1)
    let w8 : WW := sI (sI (sI (sI (sI (sI (sI (sI w 7 1 10 (nI (NH + 1))) 117 1 B (nI n)) 117 1 (B + 1) (accM (qM (mq m r)))) 117 1 (B + 2) (shrM (qM (mq m r)))) 117 1 (B + 3) g) 117 1 (B + 4) (qC (mq m r))) 117 1 (B + 5) (qM (mq m r) >>> (nI 9 &&& 31))) 117 1 (B + 6) (nI 1)
    have fin : RM w8 (grM m r n) ∧ FM w w8 := by
      refine ⟨?_, (((FM.sI (Or.inl rfl)).tr (FM.sI (Or.inr (by decide)))).tr ((FM.sI (Or.inr (by decide))).tr (FM.sI (Or.inr (by decide))))).tr (((FM.sI (Or.inr (by decide))).tr (FM.sI (Or.inr (by decide)))).tr ((FM.sI (Or.inr (by decide))).tr (FM.sI (Or.inr (by decide)))))⟩
      refine hM'.hadd (h' := (n, accM (qM (mq m r)), shrM (qM (mq m r)), grG m r n, qC (mq m r), hasM (qM (mq m r)) 512, true)) ⟨rfl, rfl⟩ ?_ ?_ ?_
      · simp [w8, wI_sI, hNH]
      · rw [hNH]
        intro f hf
        match f, hf with
        | 0, _ => simp [w8, B, wI_sI, hrF, hN]
        | 1, _ => simp [w8, B, wI_sI, hrF, hA]
        | 2, _ => simp [w8, B, wI_sI, hrF, hS]
        | 3, _ => simp [w8, B, wI_sI, hrF, hG, hg]
        | 4, _ => simp [w8, B, wI_sI, hrF, hC]
        | 5, _ => simp [w8, B, wI_sI, hrF, hR, hb9]
        | 6, _ => simp [w8, B, wI_sI, hrF, hO]; rfl
      · rw [hNH]
        intro k o j h1 h2
        simp only [w8, wI_sI]
        rw [if_neg (by omega), if_neg (by omega), if_neg (by omega), if_neg (by omega), if_neg (by omega), if_neg (by omega), if_neg (by omega), if_neg (by omega)]
    refine XE.istore d_Md_grant_62 (by decide) ?_
    refine XE.aload_n d_Md_grant_64 rfl ?_
    refine XE.dup d_Md_grant_65 ?_
    refine g_Md_41 d_Md_grant_66 (by first | assumption | decide | omega) (by first | assumption | rfl) ?_
    refine XE.iconst (x := nI 1) d_Md_grant_69 (by decide) ?_
    refine XE.iadd d_Md_grant_70 (by first | exact nI_add _ _ | rfl) ?_
    refine p_Md_41 d_Md_grant_71 (by first | assumption | decide | omega) ?_
    refine XE.bipush (x := nI 7) d_Md_grant_74 (by decide) ?_
    refine XE.aload_n d_Md_grant_76 rfl ?_
    refine g_Md_41 (x := nI (NH + 1)) d_Md_grant_77 (by first | assumption | decide | omega) (by rw [wI_sI, if_pos ⟨rfl, rfl, rfl⟩]) ?_
    refine XE.imul d_Md_grant_80 (by first | exact pk_mul _ _ | rfl) ?_
    refine XE.istore d_Md_grant_81 (by decide) ?_
    refine XE.aload_n d_Md_grant_83 rfl ?_
    refine g_Md_32 d_Md_grant_84 (by first | assumption | decide | omega) (by first | assumption | rfl) ?_
    refine XE.iload d_Md_grant_87 rfl ?_
    refine XE.iload_n d_Md_grant_89 rfl ?_
    refine XE.iast d_Md_grant_90 (by decide) rfl (by first | assumption | decide | omega) (by first | assumption | exact ixn2 (by assumption) (by omega) (by omega)) ?_
    refine XE.aload_n d_Md_grant_91 rfl ?_
    refine g_Md_32 d_Md_grant_92 (by first | assumption | decide | omega) (by first | assumption | rfl) ?_
    refine XE.iload d_Md_grant_95 rfl ?_
    refine XE.iconst (x := nI 1) d_Md_grant_97 (by decide) ?_
    refine XE.iadd d_Md_grant_98 (by first | exact nI_add _ _ | rfl) ?_
    refine XE.iload_n d_Md_grant_99 rfl ?_
    refine XE.bipush (x := nI 7) d_Md_grant_100 (by decide) ?_
    refine XE.iand d_Md_grant_102 rfl ?_
    refine XE.iast d_Md_grant_103 (by decide) rfl (by first | assumption | decide | omega) (by first | assumption | exact ixn2 (by assumption) (by omega) (by omega)) ?_
    refine XE.aload_n d_Md_grant_104 rfl ?_
    refine g_Md_32 d_Md_grant_105 (by first | assumption | decide | omega) (by first | assumption | rfl) ?_
    refine XE.iload d_Md_grant_108 rfl ?_
    refine XE.iconst (x := nI 2) d_Md_grant_110 (by decide) ?_
    refine XE.iadd d_Md_grant_111 (by first | exact nI_add _ _ | rfl) ?_
    refine XE.iload_n d_Md_grant_112 rfl ?_
    refine XE.iconst (x := nI 3) d_Md_grant_113 (by decide) ?_
    refine XE.ishr d_Md_grant_114 rfl ?_
    refine XE.bipush (x := nI 7) d_Md_grant_115 (by decide) ?_
    refine XE.iand d_Md_grant_117 rfl ?_
    refine XE.iast d_Md_grant_118 (by decide) rfl (by first | assumption | decide | omega) (by first | assumption | exact ixn2 (by assumption) (by omega) (by omega)) ?_
    refine XE.aload_n d_Md_grant_119 rfl ?_
    refine g_Md_32 d_Md_grant_120 (by first | assumption | decide | omega) (by first | assumption | rfl) ?_
    refine XE.iload d_Md_grant_123 rfl ?_
    refine XE.iconst (x := nI 3) d_Md_grant_125 (by decide) ?_
    refine XE.iadd d_Md_grant_126 (by first | exact nI_add _ _ | rfl) ?_
    refine XE.iload d_Md_grant_127 rfl ?_
    refine XE.iast d_Md_grant_129 (by decide) rfl (by first | assumption | decide | omega) (by first | assumption | exact ixn2 (by assumption) (by omega) (by omega)) ?_
    refine XE.aload_n d_Md_grant_130 rfl ?_
    refine g_Md_32 d_Md_grant_131 (by first | assumption | decide | omega) (by first | assumption | rfl) ?_
    refine XE.iload d_Md_grant_134 rfl ?_
    refine XE.iconst (x := nI 4) d_Md_grant_136 (by decide) ?_
    refine XE.iadd d_Md_grant_137 (by first | exact nI_add _ _ | rfl) ?_
    refine XE.aload_n d_Md_grant_138 rfl ?_
    refine g_Md_35 d_Md_grant_139 (by first | assumption | decide | omega) (by first | assumption | rfl) ?_
    refine XE.bipush (x := nI 6) d_Md_grant_142 (by decide) ?_
    refine XE.iload_n d_Md_grant_144 rfl ?_
    refine XE.imul d_Md_grant_145 (by first | exact pk_mul _ _ | rfl) ?_
    refine XE.iald d_Md_grant_146 (Or.inr ⟨by decide, rfl⟩) (by first | assumption | decide | omega) (by first | assumption | exact ixn2 (by assumption) (by omega) (by omega)) (by first | assumption | rfl) ?_
    refine XE.iast d_Md_grant_147 (by decide) rfl (by first | assumption | decide | omega) (by first | assumption | exact ixn2 (by assumption) (by omega) (by omega)) ?_
    refine XE.aload_n d_Md_grant_148 rfl ?_
    refine g_Md_32 d_Md_grant_149 (by first | assumption | decide | omega) (by first | assumption | rfl) ?_
    refine XE.iload d_Md_grant_152 rfl ?_
    refine XE.iconst (x := nI 5) d_Md_grant_154 (by decide) ?_
    refine XE.iadd d_Md_grant_155 (by first | exact nI_add _ _ | rfl) ?_
    refine XE.iload_n d_Md_grant_156 rfl ?_
    refine XE.bipush (x := nI 9) d_Md_grant_157 (by decide) ?_
    refine XE.ishr d_Md_grant_159 rfl ?_
    refine XE.iast d_Md_grant_160 (by decide) rfl (by first | assumption | decide | omega) (by first | assumption | exact ixn2 (by assumption) (by omega) (by omega)) ?_
    refine XE.aload_n d_Md_grant_161 rfl ?_
    refine g_Md_32 d_Md_grant_162 (by first | assumption | decide | omega) (by first | assumption | rfl) ?_
    refine XE.iload d_Md_grant_165 rfl ?_
    refine XE.bipush (x := nI 6) d_Md_grant_167 (by decide) ?_
    refine XE.iadd d_Md_grant_169 (by first | exact nI_add _ _ | rfl) ?_
    refine XE.iconst (x := nI 1) d_Md_grant_170 (by decide) ?_
    refine XE.iast d_Md_grant_171 (by decide) rfl (by first | assumption | decide | omega) (by first | assumption | exact ixn2 (by assumption) (by omega) (by omega)) ?_
    refine XE.aload_n d_Md_grant_172 rfl ?_
    refine g_Md_41 (x := nI (NH + 1)) d_Md_grant_173 (by first | assumption | decide | omega) rfl ?_
    exact XE.ri d_Md_grant_176 ⟨rfl, fin⟩
  have e31 : ¬ bI (tF (mT m) n) = 0 → grG m r n = nI 0 := fun h => by unfold grG; rw [if_pos (Or.inl ((bI_eq1 _).mp ((bI_01 _).resolve_left h)))]
  have n31 : bI (tF (mT m) n) = 0 → ¬ tF (mT m) n = true := fun h => by rw [(bI_eq0 _).mp h]; decide
  have hM2 : RM w m := hM'
  have hcn : ∀ n, cntO m n ≤ 1000000 := fun n => Nat.le_trans List.countP_le_length (by rw [List.length_range', hNH]; omega)
  refine XE.aload_n d_Md_grant_0 rfl ?_
  refine g_Md_35 d_Md_grant_1 (by first | assumption | decide | omega) (by first | assumption | rfl) ?_
  refine XE.bipush (x := nI 6) d_Md_grant_4 (by decide) ?_
  refine XE.iload_n d_Md_grant_6 rfl ?_
  refine XE.imul d_Md_grant_7 (by first | exact pk_mul _ _ | rfl) ?_
  refine XE.iconst (x := nI 3) d_Md_grant_8 (by decide) ?_
  refine XE.iadd d_Md_grant_9 (by first | exact nI_add _ _ | rfl) ?_
  refine XE.iald d_Md_grant_10 (Or.inr ⟨by decide, rfl⟩) (by first | assumption | decide | omega) (by first | assumption | exact ixn2 (by assumption) (by omega) (by omega)) (by first | assumption | rfl) ?_
  refine XE.istore_n d_Md_grant_11 (by decide) ?_
  refine XE.aload_n d_Md_grant_12 rfl ?_
  refine g_Md_35 d_Md_grant_13 (by first | assumption | decide | omega) (by first | assumption | rfl) ?_
  refine XE.bipush (x := nI 6) d_Md_grant_16 (by decide) ?_
  refine XE.iload_n d_Md_grant_18 rfl ?_
  refine XE.imul d_Md_grant_19 (by first | exact pk_mul _ _ | rfl) ?_
  refine XE.iconst (x := nI 4) d_Md_grant_20 (by decide) ?_
  refine XE.iadd d_Md_grant_21 (by first | exact nI_add _ _ | rfl) ?_
  refine XE.iald d_Md_grant_22 (Or.inr ⟨by decide, rfl⟩) (by first | assumption | decide | omega) (by first | assumption | exact ixn2 (by assumption) (by omega) (by omega)) (by first | assumption | rfl) ?_
  refine XE.istore d_Md_grant_23 (by decide) ?_
  refine XE.aload_n d_Md_grant_25 rfl ?_
  refine g_Md_17 d_Md_grant_26 (by first | assumption | decide | omega) (by first | assumption | rfl) ?_
  refine XE.iload_n d_Md_grant_29 rfl ?_
  refine XE.zald d_Md_grant_30 (by decide) rfl (by first | assumption | decide | omega) (by first | assumption | exact ixn2 (by assumption) (by omega) (by omega)) (by first | assumption | rfl) ?_
  refine XE.if_ne 39 d_Md_grant_31 (by decide) (fun h31 => ?_) (fun h31 => ?_)
  · have q := e31 h31
    refine XE.iconst (x := nI 0) d_Md_grant_39 (by decide) ?_
    refine XE.goto 62 d_Md_grant_40 (by decide) ?_
    exact tail _ q
  · refine XE.iload d_Md_grant_34 rfl ?_
    refine XE.if_ne 43 d_Md_grant_36 (by decide) (fun h36 => ?_) (fun h36 => ?_)
    · refine XE.iload d_Md_grant_43 rfl ?_
      refine XE.iconst (x := nI 2) d_Md_grant_45 (by decide) ?_
      refine XE.icmp_ne 61 d_Md_grant_46 (by decide) (fun h46 => ?_) (fun h46 => ?_)
      · have q : grG m r n = nI 1 := by unfold grG; rw [if_neg (fun z => z.elim (n31 h31) h36), if_neg (fun z => h46 z.1)]
        refine XE.iconst (x := nI 1) d_Md_grant_61 (by decide) ?_
        exact tail _ q
      · refine XE.aload_n d_Md_grant_49 rfl ?_
        refine XE.iload_n d_Md_grant_50 rfl ?_
        refine k_Md_66 1 d_Md_grant_51 (by omega) (Nat.le_of_ble_eq_true rfl) (by first | assumption | decide | omega) (Md_openOf_n hM2 hB hn (by omega)) (fun r1 w1 hm1 hq1 => ?_)
        rw [hq1.1, hq1.2]
        clear hq1 hm1 r1 w1
        refine XE.if_ne 61 d_Md_grant_54 (by decide) (fun h54 => ?_) (fun h54 => ?_)
        · have q : grG m r n = nI 1 := by unfold grG; rw [if_neg (fun z => z.elim (n31 h31) h36), if_neg (fun z => h54 (by rw [z.2]; rfl))]
          refine XE.iconst (x := nI 1) d_Md_grant_61 (by decide) ?_
          exact tail _ q
        · have q : grG m r n = nI 2 := by unfold grG; rw [if_neg (fun z => z.elim (n31 h31) h36), if_pos ⟨h46, (eq_nI (b := 0) (hcn n) (by omega)).mp h54⟩]
          refine XE.iconst (x := nI 2) d_Md_grant_57 (by decide) ?_
          refine XE.goto 62 d_Md_grant_58 (by decide) ?_
          exact tail _ q
    · have q : grG m r n = nI 0 := if_pos (Or.inr h36)
      refine XE.iconst (x := nI 0) d_Md_grant_39 (by decide) ?_
      refine XE.goto 62 d_Md_grant_40 (by decide) ?_
      exact tail _ q
end
section
/-! the reference: attempt -/
def attM (m : MS) (r : Nat) : Int32 × MS :=
  if ¬ (tT (mT m) (qD (mq m r)) = true ∧ tF (mT m) (qD (mq m r)) = true) then (-3, m)
  else match atP (mT m) (nI (qD (mq m r))) (qN (mq m r)) with
    | none =>
      if hasM (qM (mq m r)) 64 = false then (-3, m)
      else if mM m (qD (mq m r)) = true then (-7, m)
      else if tG (mT m) = 24 ∨ nOpen m = 12 then (-2, m)
      else (nI (mH m + 1), grM (noteM m (1, tG (mT m) + 1, nI (qD (mq m r)), qN (mq m r), bI (hasM (qM (mq m r)) 256))) r (tG (mT m) + 1))
    | some n =>
      if hasM (qM (mq m r)) 64 = true ∧ hasM (qM (mq m r)) 128 = true then (-4, m)
      else if tF (mT m) n ≠ hasM (qM (mq m r)) 256 then (-5, m)
      else if brkA m n = true then (0, brkM m n)
      else if mM m n = true then (-7, m)
      else if shA m n (qM (mq m r)) = true then (-6, m)
      else if nOpen m = 12 then (-2, m)
      else (nI (mH m + 1), grM m r n)
theorem brkM_no {m : MS} {n : Nat} (h : brkA m n = false) : brkM m n = m := by
  have : (fun x => if (1 ≤ x ∧ x ≤ mH m) ∧ brkP m n x = true then hsG (mh m x) (nI 3) else mh m x) = mh m := by
    funext x
    rw [if_neg]
    rintro ⟨⟨h1, h2⟩, h3⟩
    have : brkA m n = true := List.any_eq_true.mpr ⟨x, List.mem_range'_1.mpr ⟨h1, by omega⟩, h3⟩
    rw [h] at this
    cases this
  unfold brkM
  rw [this]
  rfl
theorem atP_some {t : Tb} {v u : Int32} {n : Nat} (h : atP t v u = some n) : 1 ≤ n ∧ n ≤ tG t ∧ tT t n = true ∧ tD t n = v ∧ tN t n = u := by
  have h1 := List.mem_of_find?_eq_some h
  have h2 := List.find?_some h
  rw [List.mem_range'_1] at h1
  simp only [Bool.and_eq_true, beq_iff_eq] at h2
  exact ⟨h1.1, by omega, h2.1.1, h2.1.2, h2.2⟩
theorem tG_app1 (n : Nat) (a b e : Int32) (t : Tb) : tG (app (1, n, a, b, e) t) = n := rfl
theorem tT_app1 (n : Nat) (a b e : Int32) (t : Tb) (x : Nat) : tT (app (1, n, a, b, e) t) x = if x = n then true else tT t x := rfl
/-- the bounds after a node is made -/
theorem WB.made {m : MS} (hB : WB m) {n : Nat} {a b e : Int32} (hn : n ≤ 24) (h11 : mN m + 1 ≤ 1100) : WB (noteM m (1, n, a, b, e)) := by
  obtain ⟨b1, b2, b3, b4, b5, b6, b7, b8, b9, b10, b11, b12⟩ := hB
  refine ⟨b1, b2, h11, b4, ?_, b6, b7, b8, ?_, b10, ?_, ?_⟩
  · rw [mT_note, tG_app1]; exact hn
  · intro x h1 h2 h3
    rw [mT_note, tT_app1]
    split
    · rfl
    · exact b9 x h1 h2 h3
  · show (if mN m + 1 - mU m = 6 then mN m + 1 else mU m) ≤ mN m + 1
    split <;> omega
  · show mN m + 1 ≤ (if mN m + 1 - mU m = 6 then mN m + 1 else mU m) + 5
    split <;> omega
set_option maxHeartbeats 2000000 in
theorem Md_attempt_ok {w : WW} {m : MS} {d r : Nat} (hM : RM w m) (hB : WB m) (r1 : 1 ≤ r) (r2 : r ≤ mQ m) (hh512 : mH m < 512) (h11 : mN m + 1 ≤ 1100) (hd : 3 ≤ d) :
    E_Md_attempt d [.inr (7, 1), .inl (nI r)] w (fun q w' => q = some (.inl (attM m r).1) ∧ RM w' (attM m r).2 ∧ FM w w') := by
  refine S_Md_attempt ?_
  have hM' := hM
  obtain ⟨hS, c0, c1, hLg, hT, hDm, hh, hH, hq, hQ, hk4, hK, hs⟩ := hM
  have hS' := hS
  obtain ⟨s2, s4, s5, s6, s7, s8, s9, s11, s13, s15, l0, l1, l2, l3, l4, l5, l6, l7, l8, l9⟩ := hS
  have b2 := hB.2.1
  have hD24 := hB.d24 r1 r2
  have g24 := hB.g24
  have q1 : wI w 118 1 (6 * r + 1) = nI (qD (mq m r)) := hQ.1 r r1 r2 1 (by decide)
  have q2 : wI w 118 1 (6 * r + 2) = qN (mq m r) := hQ.1 r r1 r2 2 (by decide)
  have q3 : wI w 118 1 (6 * r + 3) = qM (mq m r) := hQ.1 r r1 r2 3 (by decide)
  have hth : wI w 111 1 (qD (mq m r)) = bI (tT (mT m) (qD (mq m r))) := hT.2.1 _ hD24
  have hdm : wI w 115 1 (qD (mq m r)) = bI (mM m (qD (mq m r))) := hDm _ hD24
  have hgv : wI w 7 1 3 = nI (tG (mT m)) := hT.1
  obtain ⟨md, hmd, emd⟩ := hB.md r1 r2
  have b8 := bit8 md hmd
  have b192 := bit192 md hmd
  rw [← emd] at b8 b192
  have a0 : ¬ (tT (mT m) (qD (mq m r)) = true ∧ tF (mT m) (qD (mq m r)) = true) → attM m r = (-3, m) := fun h => if_pos h
  have hno : nOpen m ≤ 1000000 := Nat.le_trans List.countP_le_length (by rw [List.length_range']; omega)
  have end0 : ∀ {x : Int32} {pc : Nat} {ls : List (Option VV)}, decode c_Md_attempt pc = .ok (.ireturn, 1) → attM m r = (x, m) → X_Md_attempt d pc ls [.inl x] w (fun q w' => q = some (.inl (attM m r).1) ∧ RM w' (attM m r).2 ∧ FM w w') := by
    intro x pc ls hd2 he
    exact XE.ri hd2 ⟨by rw [he], by rw [he]; exact hM', FM.rf⟩
  have te : ∀ b : Bool, ¬ bI b = 0 → b = true := fun b h => (bI_eq1 b).mp ((bI_01 b).resolve_left h)
  by_cases hx : tT (mT m) (qD (mq m r)) = true ∧ tF (mT m) (qD (mq m r)) = true
  · have hfo : wI w 112 1 (qD (mq m r)) = bI (tF (mT m) (qD (mq m r))) := (hT.2.2 _ hD24 hx.1).1
    have ea : attM m r = match atP (mT m) (nI (qD (mq m r))) (qN (mq m r)) with
        | none =>
          if hasM (qM (mq m r)) 64 = false then (-3, m)
          else if mM m (qD (mq m r)) = true then (-7, m)
          else if tG (mT m) = 24 ∨ nOpen m = 12 then (-2, m)
          else (nI (mH m + 1), grM (noteM m (1, tG (mT m) + 1, nI (qD (mq m r)), qN (mq m r), bI (hasM (qM (mq m r)) 256))) r (tG (mT m) + 1))
        | some n =>
          if hasM (qM (mq m r)) 64 = true ∧ hasM (qM (mq m r)) 128 = true then (-4, m)
          else if tF (mT m) n ≠ hasM (qM (mq m r)) 256 then (-5, m)
          else if brkA m n = true then (0, brkM m n)
          else if mM m n = true then (-7, m)
          else if shA m n (qM (mq m r)) = true then (-6, m)
          else if nOpen m = 12 then (-2, m)
          else (nI (mH m + 1), grM m r n) := by
      unfold attM
      rw [if_neg (fun h => h hx)]
    rw [hx.1] at hth
    rw [hx.2] at hfo
    cases hat : atP (mT m) (nI (qD (mq m r))) (qN (mq m r)) with
    | none =>
      rw [hat] at ea
      dsimp only at ea
      have o1 : ∀ {g : Nat}, tG (mT m) = g → ¬ tG (mT m) = 24 → g + 1 ≤ 24 := by omega
      have hnote : ¬ tG (mT m) = 24 → E_Md_note 2 [.inr (7, 1), .inl (nI 1), .inl (nI (tG (mT m) + 1)), .inl (nI (qD (mq m r))), .inl (qN (mq m r)), .inl (bI (hasM (qM (mq m r)) 256))] w (fun r' w' => r' = none ∧ RM w' (noteM m (1, tG (mT m) + 1, nI (qD (mq m r)), qN (mq m r), bI (hasM (qM (mq m r)) 256))) ∧ FM w w') := fun h =>
        Md_note_ok hM' (by omega) hB.un.1 (by decide) ⟨by show tG (mT m) + 1 ≤ 24; omega, Or.inl ⟨rfl, bI_01 _⟩⟩ (by omega)
      let m1 : MS := noteM m (1, tG (mT m) + 1, nI (qD (mq m r)), qN (mq m r), bI (hasM (qM (mq m r)) 256))
      have t1 : tT (mT m1) (tG (mT m) + 1) = true := by rw [mT_note, tT_app1, if_pos rfl]
      refine XE.aload_n d_Md_attempt_0 rfl ?_
      refine g_Md_35 d_Md_attempt_1 (by first | assumption | decide | omega) (by first | assumption | rfl) ?_
      refine XE.bipush (x := nI 6) d_Md_attempt_4 (by decide) ?_
      refine XE.iload_n d_Md_attempt_6 rfl ?_
      refine XE.imul d_Md_attempt_7 (by first | exact pk_mul _ _ | rfl) ?_
      refine XE.iconst (x := nI 1) d_Md_attempt_8 (by decide) ?_
      refine XE.iadd d_Md_attempt_9 (by first | exact nI_add _ _ | rfl) ?_
      refine XE.iald d_Md_attempt_10 (Or.inr ⟨by decide, rfl⟩) (by first | assumption | decide | omega) (by first | assumption | exact ixn2 (by assumption) (by omega) (by omega)) (by first | assumption | rfl) ?_
      refine XE.istore_n d_Md_attempt_11 (by decide) ?_
      refine XE.aload_n d_Md_attempt_12 rfl ?_
      refine g_Md_35 d_Md_attempt_13 (by first | assumption | decide | omega) (by first | assumption | rfl) ?_
      refine XE.bipush (x := nI 6) d_Md_attempt_16 (by decide) ?_
      refine XE.iload_n d_Md_attempt_18 rfl ?_
      refine XE.imul d_Md_attempt_19 (by first | exact pk_mul _ _ | rfl) ?_
      refine XE.iconst (x := nI 3) d_Md_attempt_20 (by decide) ?_
      refine XE.iadd d_Md_attempt_21 (by first | exact nI_add _ _ | rfl) ?_
      refine XE.iald d_Md_attempt_22 (Or.inr ⟨by decide, rfl⟩) (by first | assumption | decide | omega) (by first | assumption | exact ixn2 (by assumption) (by omega) (by omega)) (by first | assumption | rfl) ?_
      refine XE.istore_n d_Md_attempt_23 (by decide) ?_
      refine XE.aload_n d_Md_attempt_24 rfl ?_
      refine g_Md_13 d_Md_attempt_25 (by first | assumption | decide | omega) (by first | assumption | rfl) ?_
      refine XE.iload_n d_Md_attempt_28 rfl ?_
      refine XE.zald d_Md_attempt_29 (by decide) rfl (by first | assumption | decide | omega) (by first | assumption | exact ixn2 (by assumption) (by omega) (by omega)) (by first | assumption | rfl) ?_
      refine XE.if_eq 42 d_Md_attempt_30 (by decide) (fun h30 => absurd h30 ((by decide))) (fun h30 => ?_)
      refine XE.aload_n d_Md_attempt_33 rfl ?_
      refine g_Md_17 d_Md_attempt_34 (by first | assumption | decide | omega) (by first | assumption | rfl) ?_
      refine XE.iload_n d_Md_attempt_37 rfl ?_
      refine XE.zald d_Md_attempt_38 (by decide) rfl (by first | assumption | decide | omega) (by first | assumption | exact ixn2 (by assumption) (by omega) (by omega)) (by first | assumption | rfl) ?_
      refine XE.if_ne 45 d_Md_attempt_39 (by decide) (fun h39 => ?_) (fun h39 => absurd h39 ((by decide)))
      refine XE.aload_n d_Md_attempt_45 rfl ?_
      refine XE.iload_n d_Md_attempt_46 rfl ?_
      refine XE.aload_n d_Md_attempt_47 rfl ?_
      refine g_Md_35 d_Md_attempt_48 (by first | assumption | decide | omega) (by first | assumption | rfl) ?_
      refine XE.bipush (x := nI 6) d_Md_attempt_51 (by decide) ?_
      refine XE.iload_n d_Md_attempt_53 rfl ?_
      refine XE.imul d_Md_attempt_54 (by first | exact pk_mul _ _ | rfl) ?_
      refine XE.iconst (x := nI 2) d_Md_attempt_55 (by decide) ?_
      refine XE.iadd d_Md_attempt_56 (by first | exact nI_add _ _ | rfl) ?_
      refine XE.iald d_Md_attempt_57 (Or.inr ⟨by decide, rfl⟩) (by first | assumption | decide | omega) (by first | assumption | exact ixn2 (by assumption) (by omega) (by omega)) (by first | assumption | rfl) ?_
      refine k_Md_70 0 d_Md_attempt_58 (by omega) (Nat.le_of_ble_eq_true rfl) (by first | assumption | decide | omega) (Md_at_ok hS' hT g24 _ _) (fun r1 w1 hm1 hq1 => ?_)
      rw [hq1.1, hq1.2]
      clear hq1 hm1 r1 w1
      rw [hat]
      refine XE.istore d_Md_attempt_61 (by decide) ?_
      refine XE.iload d_Md_attempt_63 rfl ?_
      refine XE.if_ge 151 d_Md_attempt_65 (by decide) (fun h65 => absurd h65 ((by decide))) (fun h65 => ?_)
      refine XE.iload_n d_Md_attempt_68 rfl ?_
      refine XE.bipush (x := nI 64) d_Md_attempt_69 (by decide) ?_
      refine XE.iand d_Md_attempt_71 rfl ?_
      refine XE.if_ne 78 d_Md_attempt_72 (by decide) (fun h72 => ?_) (fun h72 => ?_)
      · have n64 : ¬ hasM (qM (mq m r)) 64 = false := fun z => h72 (hasM_f.mp z)
        refine XE.aload_n d_Md_attempt_78 rfl ?_
        refine g_Md_26 d_Md_attempt_79 (by first | assumption | decide | omega) (by first | assumption | rfl) ?_
        refine XE.iload_n d_Md_attempt_82 rfl ?_
        refine XE.zald d_Md_attempt_83 (by decide) rfl (by first | assumption | decide | omega) (by first | assumption | exact ixn2 (by assumption) (by omega) (by omega)) (by first | assumption | rfl) ?_
        refine XE.if_eq 90 d_Md_attempt_84 (by decide) (fun h84 => ?_) (fun h84 => ?_)
        · have nd : ¬ mM m (qD (mq m r)) = true := by rw [(bI_eq0 _).mp h84]; decide
          refine XE.aload_n d_Md_attempt_90 rfl ?_
          refine g_Md_53 d_Md_attempt_91 (by first | assumption | decide | omega) (by first | assumption | rfl) ?_
          refine XE.bipush (x := nI 24) d_Md_attempt_94 (by decide) ?_
          refine XE.icmp_eq 109 d_Md_attempt_96 (by decide) (fun h96 => ?_) (fun h96 => ?_)
          · have nf : tG (mT m) = 24 ∨ nOpen m = 12 := Or.inl ((eq_nI (by omega) (by omega)).mp h96)
            refine XE.bipush (x := (-2)) d_Md_attempt_109 (by decide) ?_
            exact end0 d_Md_attempt_111 (by rw [ea, if_neg n64, if_neg nd, if_pos nf])
          · refine XE.aload_n d_Md_attempt_99 rfl ?_
            refine XE.iconst (x := (-1)) d_Md_attempt_100 (by decide) ?_
            refine k_Md_66 1 d_Md_attempt_101 (by omega) (Nat.le_of_ble_eq_true rfl) (by first | assumption | decide | omega) (Md_openOf_all hM' hB (by omega)) (fun r1 w1 hm1 hq1 => ?_)
            rw [hq1.1, hq1.2]
            clear hq1 hm1 r1 w1
            refine XE.bipush (x := nI 12) d_Md_attempt_104 (by decide) ?_
            refine XE.icmp_ne 112 d_Md_attempt_106 (by decide) (fun h106 => ?_) (fun h106 => ?_)
            · have n24 : ¬ tG (mT m) = 24 := fun z => h96 (by rw [z])
              have nf : ¬ (tG (mT m) = 24 ∨ nOpen m = 12) := fun z => z.elim n24 (fun y => h106 (by rw [y]))
              refine XE.aload_n d_Md_attempt_112 rfl ?_
              refine XE.iconst (x := nI 1) d_Md_attempt_113 (by decide) ?_
              refine XE.aload_n d_Md_attempt_114 rfl ?_
              refine g_Md_53 d_Md_attempt_115 (by first | assumption | decide | omega) (by first | assumption | rfl) ?_
              refine XE.iconst (x := nI 1) d_Md_attempt_118 (by decide) ?_
              refine XE.iadd d_Md_attempt_119 (by first | exact nI_add _ _ | rfl) ?_
              refine XE.iload_n d_Md_attempt_120 rfl ?_
              refine XE.aload_n d_Md_attempt_121 rfl ?_
              refine g_Md_35 d_Md_attempt_122 (by first | assumption | decide | omega) (by first | assumption | rfl) ?_
              refine XE.bipush (x := nI 6) d_Md_attempt_125 (by decide) ?_
              refine XE.iload_n d_Md_attempt_127 rfl ?_
              refine XE.imul d_Md_attempt_128 (by first | exact pk_mul _ _ | rfl) ?_
              refine XE.iconst (x := nI 2) d_Md_attempt_129 (by decide) ?_
              refine XE.iadd d_Md_attempt_130 (by first | exact nI_add _ _ | rfl) ?_
              refine XE.iald d_Md_attempt_131 (Or.inr ⟨by decide, rfl⟩) (by first | assumption | decide | omega) (by first | assumption | exact ixn2 (by assumption) (by omega) (by omega)) (by first | assumption | rfl) ?_
              refine XE.iload_n d_Md_attempt_132 rfl ?_
              refine XE.bipush (x := nI 8) d_Md_attempt_133 (by decide) ?_
              refine XE.ishr d_Md_attempt_135 rfl ?_
              refine XE.iconst (x := nI 1) d_Md_attempt_136 (by decide) ?_
              refine XE.iand d_Md_attempt_137 b8 ?_
              refine k_Md_73 2 d_Md_attempt_138 (by omega) (Nat.le_of_ble_eq_true rfl) (by first | assumption | decide | omega) (hnote n24) (fun x1 w1 hm1 hq1 => ?_)
              obtain ⟨rfl, hM1, hF1⟩ := hq1
              have g1 : wI w1 7 1 3 = nI (tG (mT m) + 1) := by have := hM1.2.2.2.2.1.1; rw [mT_note] at this; exact this
              refine XE.aload_n d_Md_attempt_141 rfl ?_
              refine XE.iload_n d_Md_attempt_142 rfl ?_
              refine XE.aload_n d_Md_attempt_143 rfl ?_
              refine g_Md_53 d_Md_attempt_144 (by first | assumption | decide | omega) (by first | assumption | rfl) ?_
              refine k_Md_77 2 d_Md_attempt_147 (by omega) (Nat.le_of_ble_eq_true rfl) (by first | assumption | decide | omega) (Md_grant_ok (m := m1) hM1 (hB.made (by omega) h11) (by omega) t1 r1 r2 hh512 (by omega)) (fun x2 w2 hm2 hq2 => ?_)
              obtain ⟨rfl, hM2, hF2⟩ := hq2
              exact XE.ri d_Md_attempt_150 ⟨by rw [ea, if_neg n64, if_neg nd, if_neg nf]; rfl, by rw [ea, if_neg n64, if_neg nd, if_neg nf]; exact hM2, hF1.tr hF2⟩
            · have nf : tG (mT m) = 24 ∨ nOpen m = 12 := Or.inr ((eq_nI hno (by omega)).mp h106)
              refine XE.bipush (x := (-2)) d_Md_attempt_109 (by decide) ?_
              exact end0 d_Md_attempt_111 (by rw [ea, if_neg n64, if_neg nd, if_pos nf])
        · have nd := te _ h84
          refine XE.bipush (x := (-7)) d_Md_attempt_87 (by decide) ?_
          exact end0 d_Md_attempt_89 (by rw [ea, if_neg n64, if_pos nd])
      · have n64 := hasM_f.mpr h72
        refine XE.bipush (x := (-3)) d_Md_attempt_75 (by decide) ?_
        exact end0 d_Md_attempt_77 (by rw [ea, if_pos n64])
    | some n =>
      rw [hat] at ea
      dsimp only at ea
      obtain ⟨n1, n2, n3, n4, n5⟩ := atP_some hat
      have hfn : wI w 112 1 n = bI (tF (mT m) n) := (hT.2.2 n (by omega) n3).1
      have h64i : ¬ qM (mq m r) &&& nI 192 = nI 192 → ¬ (hasM (qM (mq m r)) 64 = true ∧ hasM (qM (mq m r)) 128 = true) := fun h z => h (b192.mpr z)
      have tail2 : ¬ (hasM (qM (mq m r)) 64 = true ∧ hasM (qM (mq m r)) 128 = true) → tF (mT m) n = hasM (qM (mq m r)) 256 → brkA m n = false → ∀ w1, RM w1 m → FM w w1 → X_Md_attempt d 202 [some (.inr (7, 1)), some (.inl (nI r)), some (.inl (nI (qD (mq m r)))), some (.inl (qM (mq m r))), some (.inl (nI n))] [] w1 (fun q w' => q = some (.inl (attM m r).1) ∧ RM w' (attM m r).2 ∧ FM w w') := by
        intro n64 q5 nb w1 hM1 hF1
        have hb1 : ¬ brkA m n = true := by rw [nb]; decide
        have e0 : ∀ {x : Int32} {pc : Nat} {ls : List (Option VV)}, decode c_Md_attempt pc = .ok (.ireturn, 1) → attM m r = (x, m) → X_Md_attempt d pc ls [.inl x] w1 (fun q w' => q = some (.inl (attM m r).1) ∧ RM w' (attM m r).2 ∧ FM w w') := by
          intro x pc ls hd2 he
          exact XE.ri hd2 ⟨by rw [he], by rw [he]; exact hM1, hF1⟩
        have z8 := hM1.1.2.2.2.2.2.1
        have k5 := hM1.1.2.2.2.2.2.2.2.2.2.2.2.2.2.2.2.1
        have hdn : wI w1 115 1 n = bI (mM m n) := hM1.2.2.2.2.2.1 n (by omega)
        refine XE.aload_n d_Md_attempt_202 rfl ?_
        refine g_Md_26 d_Md_attempt_203 (by first | assumption | decide | omega) (by first | assumption | rfl) ?_
        refine XE.iload d_Md_attempt_206 rfl ?_
        refine XE.zald d_Md_attempt_208 (by decide) rfl (by first | assumption | decide | omega) (by first | assumption | exact ixn2 (by assumption) (by omega) (by omega)) (by first | assumption | rfl) ?_
        refine XE.if_eq 215 d_Md_attempt_209 (by decide) (fun h209 => ?_) (fun h209 => ?_)
        · have nd : ¬ mM m n = true := by rw [(bI_eq0 _).mp h209]; decide
          refine XE.aload_n d_Md_attempt_215 rfl ?_
          refine XE.iload d_Md_attempt_216 rfl ?_
          refine XE.iload_n d_Md_attempt_218 rfl ?_
          refine k_Md_84 1 d_Md_attempt_219 (by omega) (Nat.le_of_ble_eq_true rfl) (by first | assumption | decide | omega) (Md_sharing_ok hM1 hB (by omega) (qM (mq m r)) (by omega)) (fun r1 w1 hm1 hq1 => ?_)
          rw [hq1.1, hq1.2]
          clear hq1 hm1 r1 w1
          refine XE.if_eq 228 d_Md_attempt_222 (by decide) (fun h222 => ?_) (fun h222 => ?_)
          · have ns : ¬ shA m n (qM (mq m r)) = true := by rw [(bI_eq0 _).mp h222]; decide
            refine XE.aload_n d_Md_attempt_228 rfl ?_
            refine XE.iconst (x := (-1)) d_Md_attempt_229 (by decide) ?_
            refine k_Md_66 1 d_Md_attempt_230 (by omega) (Nat.le_of_ble_eq_true rfl) (by first | assumption | decide | omega) (Md_openOf_all hM1 hB (by omega)) (fun r1 w1 hm1 hq1 => ?_)
            rw [hq1.1, hq1.2]
            clear hq1 hm1 r1 w1
            refine XE.bipush (x := nI 12) d_Md_attempt_233 (by decide) ?_
            refine XE.icmp_ne 243 d_Md_attempt_235 (by decide) (fun h235 => ?_) (fun h235 => ?_)
            · have nf : ¬ nOpen m = 12 := fun z => h235 (by rw [z])
              have EE : attM m r = (nI (mH m + 1), grM m r n) := by rw [ea, if_neg n64, if_neg (fun z => z q5), if_neg hb1, if_neg nd, if_neg ns, if_neg nf]
              refine XE.aload_n d_Md_attempt_243 rfl ?_
              refine XE.iload_n d_Md_attempt_244 rfl ?_
              refine XE.iload d_Md_attempt_245 rfl ?_
              refine k_Md_77 2 d_Md_attempt_247 (by omega) (Nat.le_of_ble_eq_true rfl) (by first | assumption | decide | omega) (Md_grant_ok hM1 hB (by omega) n3 r1 r2 hh512 (by omega)) (fun x2 w2 hm2 hq2 => ?_)
              obtain ⟨rfl, hM2, hF2⟩ := hq2
              first | exact e0 d_Md_attempt_250 EE | exact XE.ri d_Md_attempt_250 ⟨by rw [EE], by rw [EE]; exact hM2, hF1.tr hF2⟩
            · have nf : nOpen m = 12 := (eq_nI hno (by omega)).mp h235
              have EE : attM m r = (-2, m) := by rw [ea, if_neg n64, if_neg (fun z => z q5), if_neg hb1, if_neg nd, if_neg ns, if_pos nf]
              refine XE.bipush (x := (-2)) d_Md_attempt_238 (by decide) ?_
              refine XE.goto 250 d_Md_attempt_240 (by decide) ?_
              first | exact e0 d_Md_attempt_250 EE | exact XE.ri d_Md_attempt_250 ⟨by rw [EE], by rw [EE]; exact hM2, hF1.tr hF2⟩
          · have ns := te _ h222
            refine XE.bipush (x := (-6)) d_Md_attempt_225 (by decide) ?_
            exact e0 d_Md_attempt_227 (by rw [ea, if_neg n64, if_neg (fun z => z q5), if_neg hb1, if_neg nd, if_pos ns])
        · have nd := te _ h209
          refine XE.bipush (x := (-7)) d_Md_attempt_212 (by decide) ?_
          exact e0 d_Md_attempt_214 (by rw [ea, if_neg n64, if_neg (fun z => z q5), if_neg hb1, if_pos nd])
      have tail : ¬ (hasM (qM (mq m r)) 64 = true ∧ hasM (qM (mq m r)) 128 = true) → tF (mT m) n = hasM (qM (mq m r)) 256 → X_Md_attempt d 191 [some (.inr (7, 1)), some (.inl (nI r)), some (.inl (nI (qD (mq m r)))), some (.inl (qM (mq m r))), some (.inl (nI n))] [] w (fun q w' => q = some (.inl (attM m r).1) ∧ RM w' (attM m r).2 ∧ FM w w') := by
        intro n64 q5
        refine XE.aload_n d_Md_attempt_191 rfl ?_
        refine XE.iload d_Md_attempt_192 rfl ?_
        refine k_Md_80 1 d_Md_attempt_194 (by omega) (Nat.le_of_ble_eq_true rfl) (by first | assumption | decide | omega) (Md_breaks_ok hM' hB (by omega) (by omega)) (fun x1 w1 hm1 hq1 => ?_)
        obtain ⟨rfl, hM1, hF1⟩ := hq1
        refine XE.if_eq 202 d_Md_attempt_197 (by decide) (fun h197 => ?_) (fun h197 => ?_)
        · have nb := (bI_eq0 _).mp h197
          exact tail2 n64 q5 nb w1 (by rw [brkM_no nb] at hM1; exact hM1) hF1
        · have nb := te _ h197
          refine XE.iconst (x := nI 0) d_Md_attempt_200 (by decide) ?_
          exact XE.ri d_Md_attempt_201 ⟨by rw [ea, if_neg n64, if_neg (fun z => z q5), if_pos nb]; rfl, by rw [ea, if_neg n64, if_neg (fun z => z q5), if_pos nb]; exact hM1, hF1⟩
      refine XE.aload_n d_Md_attempt_0 rfl ?_
      refine g_Md_35 d_Md_attempt_1 (by first | assumption | decide | omega) (by first | assumption | rfl) ?_
      refine XE.bipush (x := nI 6) d_Md_attempt_4 (by decide) ?_
      refine XE.iload_n d_Md_attempt_6 rfl ?_
      refine XE.imul d_Md_attempt_7 (by first | exact pk_mul _ _ | rfl) ?_
      refine XE.iconst (x := nI 1) d_Md_attempt_8 (by decide) ?_
      refine XE.iadd d_Md_attempt_9 (by first | exact nI_add _ _ | rfl) ?_
      refine XE.iald d_Md_attempt_10 (Or.inr ⟨by decide, rfl⟩) (by first | assumption | decide | omega) (by first | assumption | exact ixn2 (by assumption) (by omega) (by omega)) (by first | assumption | rfl) ?_
      refine XE.istore_n d_Md_attempt_11 (by decide) ?_
      refine XE.aload_n d_Md_attempt_12 rfl ?_
      refine g_Md_35 d_Md_attempt_13 (by first | assumption | decide | omega) (by first | assumption | rfl) ?_
      refine XE.bipush (x := nI 6) d_Md_attempt_16 (by decide) ?_
      refine XE.iload_n d_Md_attempt_18 rfl ?_
      refine XE.imul d_Md_attempt_19 (by first | exact pk_mul _ _ | rfl) ?_
      refine XE.iconst (x := nI 3) d_Md_attempt_20 (by decide) ?_
      refine XE.iadd d_Md_attempt_21 (by first | exact nI_add _ _ | rfl) ?_
      refine XE.iald d_Md_attempt_22 (Or.inr ⟨by decide, rfl⟩) (by first | assumption | decide | omega) (by first | assumption | exact ixn2 (by assumption) (by omega) (by omega)) (by first | assumption | rfl) ?_
      refine XE.istore_n d_Md_attempt_23 (by decide) ?_
      refine XE.aload_n d_Md_attempt_24 rfl ?_
      refine g_Md_13 d_Md_attempt_25 (by first | assumption | decide | omega) (by first | assumption | rfl) ?_
      refine XE.iload_n d_Md_attempt_28 rfl ?_
      refine XE.zald d_Md_attempt_29 (by decide) rfl (by first | assumption | decide | omega) (by first | assumption | exact ixn2 (by assumption) (by omega) (by omega)) (by first | assumption | rfl) ?_
      refine XE.if_eq 42 d_Md_attempt_30 (by decide) (fun h30 => absurd h30 ((by decide))) (fun h30 => ?_)
      refine XE.aload_n d_Md_attempt_33 rfl ?_
      refine g_Md_17 d_Md_attempt_34 (by first | assumption | decide | omega) (by first | assumption | rfl) ?_
      refine XE.iload_n d_Md_attempt_37 rfl ?_
      refine XE.zald d_Md_attempt_38 (by decide) rfl (by first | assumption | decide | omega) (by first | assumption | exact ixn2 (by assumption) (by omega) (by omega)) (by first | assumption | rfl) ?_
      refine XE.if_ne 45 d_Md_attempt_39 (by decide) (fun h39 => ?_) (fun h39 => absurd h39 ((by decide)))
      refine XE.aload_n d_Md_attempt_45 rfl ?_
      refine XE.iload_n d_Md_attempt_46 rfl ?_
      refine XE.aload_n d_Md_attempt_47 rfl ?_
      refine g_Md_35 d_Md_attempt_48 (by first | assumption | decide | omega) (by first | assumption | rfl) ?_
      refine XE.bipush (x := nI 6) d_Md_attempt_51 (by decide) ?_
      refine XE.iload_n d_Md_attempt_53 rfl ?_
      refine XE.imul d_Md_attempt_54 (by first | exact pk_mul _ _ | rfl) ?_
      refine XE.iconst (x := nI 2) d_Md_attempt_55 (by decide) ?_
      refine XE.iadd d_Md_attempt_56 (by first | exact nI_add _ _ | rfl) ?_
      refine XE.iald d_Md_attempt_57 (Or.inr ⟨by decide, rfl⟩) (by first | assumption | decide | omega) (by first | assumption | exact ixn2 (by assumption) (by omega) (by omega)) (by first | assumption | rfl) ?_
      refine k_Md_70 0 d_Md_attempt_58 (by omega) (Nat.le_of_ble_eq_true rfl) (by first | assumption | decide | omega) (Md_at_ok hS' hT g24 _ _) (fun r1 w1 hm1 hq1 => ?_)
      rw [hq1.1, hq1.2]
      clear hq1 hm1 r1 w1
      rw [hat]
      refine XE.istore d_Md_attempt_61 (by decide) ?_
      refine XE.iload d_Md_attempt_63 rfl ?_
      refine XE.if_ge 151 d_Md_attempt_65 (by decide) (fun h65 => ?_) (fun h65 => absurd h65 ((fun z => z (nI_pos' (by omega)))))
      refine XE.iload_n d_Md_attempt_151 rfl ?_
      refine XE.sipush (x := nI 192) d_Md_attempt_152 (by decide) ?_
      refine XE.iand d_Md_attempt_155 rfl ?_
      refine XE.sipush (x := nI 192) d_Md_attempt_156 (by decide) ?_
      refine XE.icmp_ne 165 d_Md_attempt_159 (by decide) (fun h159 => ?_) (fun h159 => ?_)
      · have n64 := h64i h159
        refine XE.aload_n d_Md_attempt_165 rfl ?_
        refine g_Md_17 d_Md_attempt_166 (by first | assumption | decide | omega) (by first | assumption | rfl) ?_
        refine XE.iload d_Md_attempt_169 rfl ?_
        refine XE.zald d_Md_attempt_171 (by decide) rfl (by first | assumption | decide | omega) (by first | assumption | exact ixn2 (by assumption) (by omega) (by omega)) (by first | assumption | rfl) ?_
        refine XE.iload_n d_Md_attempt_172 rfl ?_
        refine XE.sipush (x := nI 256) d_Md_attempt_173 (by decide) ?_
        refine XE.iand d_Md_attempt_176 rfl ?_
        refine XE.if_eq 184 d_Md_attempt_177 (by decide) (fun h177 => ?_) (fun h177 => ?_)
        · have c256 := hasM_f.mpr h177
          refine XE.iconst (x := nI 0) d_Md_attempt_184 (by decide) ?_
          refine XE.icmp_eq 191 d_Md_attempt_185 (by decide) (fun h185 => ?_) (fun h185 => ?_)
          · have q5 : tF (mT m) n = hasM (qM (mq m r)) 256 := by rw [c256]; first | exact (bI_eq0 _).mp h185 | exact (bI_eq1 _).mp h185
            exact tail n64 q5
          · have q5 : tF (mT m) n ≠ hasM (qM (mq m r)) 256 := by rw [c256]; intro z; apply h185; rw [z]; rfl
            refine XE.bipush (x := (-5)) d_Md_attempt_188 (by decide) ?_
            exact end0 d_Md_attempt_190 (by rw [ea, if_neg n64, if_pos q5])
        · have c256 := hasM_t.mpr h177
          refine XE.iconst (x := nI 1) d_Md_attempt_180 (by decide) ?_
          refine XE.goto 185 d_Md_attempt_181 (by decide) ?_
          refine XE.icmp_eq 191 d_Md_attempt_185 (by decide) (fun h185 => ?_) (fun h185 => ?_)
          · have q5 : tF (mT m) n = hasM (qM (mq m r)) 256 := by rw [c256]; first | exact (bI_eq0 _).mp h185 | exact (bI_eq1 _).mp h185
            exact tail n64 q5
          · have q5 : tF (mT m) n ≠ hasM (qM (mq m r)) 256 := by rw [c256]; intro z; apply h185; rw [z]; rfl
            refine XE.bipush (x := (-5)) d_Md_attempt_188 (by decide) ?_
            exact end0 d_Md_attempt_190 (by rw [ea, if_neg n64, if_pos q5])
      · have n64 := b192.mp h159
        refine XE.bipush (x := (-4)) d_Md_attempt_162 (by decide) ?_
        exact end0 d_Md_attempt_164 (by rw [ea, if_pos n64])
  · have e := a0 hx
    by_cases hx1 : tT (mT m) (qD (mq m r)) = true
    · have hfo : wI w 112 1 (qD (mq m r)) = bI (tF (mT m) (qD (mq m r))) := (hT.2.2 _ hD24 hx1).1
      have hf2 : tF (mT m) (qD (mq m r)) = false := Bool.not_eq_true _ ▸ (fun z => hx ⟨hx1, z⟩)
      rw [hx1] at hth
      rw [hf2] at hfo
      refine XE.aload_n d_Md_attempt_0 rfl ?_
      refine g_Md_35 d_Md_attempt_1 (by first | assumption | decide | omega) (by first | assumption | rfl) ?_
      refine XE.bipush (x := nI 6) d_Md_attempt_4 (by decide) ?_
      refine XE.iload_n d_Md_attempt_6 rfl ?_
      refine XE.imul d_Md_attempt_7 (by first | exact pk_mul _ _ | rfl) ?_
      refine XE.iconst (x := nI 1) d_Md_attempt_8 (by decide) ?_
      refine XE.iadd d_Md_attempt_9 (by first | exact nI_add _ _ | rfl) ?_
      refine XE.iald d_Md_attempt_10 (Or.inr ⟨by decide, rfl⟩) (by first | assumption | decide | omega) (by first | assumption | exact ixn2 (by assumption) (by omega) (by omega)) (by first | assumption | rfl) ?_
      refine XE.istore_n d_Md_attempt_11 (by decide) ?_
      refine XE.aload_n d_Md_attempt_12 rfl ?_
      refine g_Md_35 d_Md_attempt_13 (by first | assumption | decide | omega) (by first | assumption | rfl) ?_
      refine XE.bipush (x := nI 6) d_Md_attempt_16 (by decide) ?_
      refine XE.iload_n d_Md_attempt_18 rfl ?_
      refine XE.imul d_Md_attempt_19 (by first | exact pk_mul _ _ | rfl) ?_
      refine XE.iconst (x := nI 3) d_Md_attempt_20 (by decide) ?_
      refine XE.iadd d_Md_attempt_21 (by first | exact nI_add _ _ | rfl) ?_
      refine XE.iald d_Md_attempt_22 (Or.inr ⟨by decide, rfl⟩) (by first | assumption | decide | omega) (by first | assumption | exact ixn2 (by assumption) (by omega) (by omega)) (by first | assumption | rfl) ?_
      refine XE.istore_n d_Md_attempt_23 (by decide) ?_
      refine XE.aload_n d_Md_attempt_24 rfl ?_
      refine g_Md_13 d_Md_attempt_25 (by first | assumption | decide | omega) (by first | assumption | rfl) ?_
      refine XE.iload_n d_Md_attempt_28 rfl ?_
      refine XE.zald d_Md_attempt_29 (by decide) rfl (by first | assumption | decide | omega) (by first | assumption | exact ixn2 (by assumption) (by omega) (by omega)) (by first | assumption | rfl) ?_
      refine XE.if_eq 42 d_Md_attempt_30 (by decide) (fun h30 => absurd h30 ((by decide))) (fun h30 => ?_)
      refine XE.aload_n d_Md_attempt_33 rfl ?_
      refine g_Md_17 d_Md_attempt_34 (by first | assumption | decide | omega) (by first | assumption | rfl) ?_
      refine XE.iload_n d_Md_attempt_37 rfl ?_
      refine XE.zald d_Md_attempt_38 (by decide) rfl (by first | assumption | decide | omega) (by first | assumption | exact ixn2 (by assumption) (by omega) (by omega)) (by first | assumption | rfl) ?_
      refine XE.if_ne 45 d_Md_attempt_39 (by decide) (fun h39 => absurd h39 ((by decide))) (fun h39 => ?_)
      refine XE.bipush (x := (-3)) d_Md_attempt_42 (by decide) ?_
      exact end0 d_Md_attempt_44 e
    · rw [Bool.not_eq_true] at hx1
      rw [hx1] at hth
      refine XE.aload_n d_Md_attempt_0 rfl ?_
      refine g_Md_35 d_Md_attempt_1 (by first | assumption | decide | omega) (by first | assumption | rfl) ?_
      refine XE.bipush (x := nI 6) d_Md_attempt_4 (by decide) ?_
      refine XE.iload_n d_Md_attempt_6 rfl ?_
      refine XE.imul d_Md_attempt_7 (by first | exact pk_mul _ _ | rfl) ?_
      refine XE.iconst (x := nI 1) d_Md_attempt_8 (by decide) ?_
      refine XE.iadd d_Md_attempt_9 (by first | exact nI_add _ _ | rfl) ?_
      refine XE.iald d_Md_attempt_10 (Or.inr ⟨by decide, rfl⟩) (by first | assumption | decide | omega) (by first | assumption | exact ixn2 (by assumption) (by omega) (by omega)) (by first | assumption | rfl) ?_
      refine XE.istore_n d_Md_attempt_11 (by decide) ?_
      refine XE.aload_n d_Md_attempt_12 rfl ?_
      refine g_Md_35 d_Md_attempt_13 (by first | assumption | decide | omega) (by first | assumption | rfl) ?_
      refine XE.bipush (x := nI 6) d_Md_attempt_16 (by decide) ?_
      refine XE.iload_n d_Md_attempt_18 rfl ?_
      refine XE.imul d_Md_attempt_19 (by first | exact pk_mul _ _ | rfl) ?_
      refine XE.iconst (x := nI 3) d_Md_attempt_20 (by decide) ?_
      refine XE.iadd d_Md_attempt_21 (by first | exact nI_add _ _ | rfl) ?_
      refine XE.iald d_Md_attempt_22 (Or.inr ⟨by decide, rfl⟩) (by first | assumption | decide | omega) (by first | assumption | exact ixn2 (by assumption) (by omega) (by omega)) (by first | assumption | rfl) ?_
      refine XE.istore_n d_Md_attempt_23 (by decide) ?_
      refine XE.aload_n d_Md_attempt_24 rfl ?_
      refine g_Md_13 d_Md_attempt_25 (by first | assumption | decide | omega) (by first | assumption | rfl) ?_
      refine XE.iload_n d_Md_attempt_28 rfl ?_
      refine XE.zald d_Md_attempt_29 (by decide) rfl (by first | assumption | decide | omega) (by first | assumption | exact ixn2 (by assumption) (by omega) (by omega)) (by first | assumption | rfl) ?_
      refine XE.if_eq 42 d_Md_attempt_30 (by decide) (fun h30 => ?_) (fun h30 => absurd h30 ((by decide)))
      refine XE.bipush (x := (-3)) d_Md_attempt_42 (by decide) ?_
      exact end0 d_Md_attempt_44 e
end
section
/-! the bounds kept by the steps of the model; trying again -/
def wtN (m : MS) : Nat := (List.range' 1 (mQ m)).countP (fun r => qO (mq m r) == 0)
/-- what bounds the arrays in the long run: handles and waiting requests together are at most the requests -/
def BD (c : Nat) (m : MS) : Prop := mH m + wtN m ≤ mQ m ∧ mN m ≤ mH m + c ∧ c ≤ 580
theorem cnt_upd {p p' : Nat → Bool} {r : Nat} (h1 : p r = true) (h2 : p' r = false) (h3 : ∀ x, x ≠ r → p' x = p x) : ∀ k s, s ≤ r → r < s + k → (List.range' s k).countP p = (List.range' s k).countP p' + 1 := by
  intro k
  induction k with
  | zero => intro s a b; omega
  | succ k ih =>
    intro s a b
    rw [List.range'_succ]
    by_cases e : s = r
    · subst e
      rw [List.countP_cons_of_pos h1, List.countP_cons_of_neg (by rw [h2]; decide)]
      congr 1
      refine (List.countP_congr (fun x hx => ?_)).symm ▸ rfl
      have : x ≠ s := by
        have := (List.mem_range'_1.mp hx).1
        omega
      rw [h3 x this]
    · have := ih (s + 1) (by omega) (by omega)
      by_cases q : p s = true
      · rw [List.countP_cons_of_pos q, List.countP_cons_of_pos (by rw [h3 s e]; exact q), this]
      · rw [List.countP_cons_of_neg q, List.countP_cons_of_neg (by rw [h3 s e]; exact q), this]
theorem cnt_mem {p : Nat → Bool} {r : Nat} (h1 : p r = true) : ∀ k s, s ≤ r → r < s + k → 1 ≤ (List.range' s k).countP p := by
  intro k s a b
  have := cnt_upd (p' := fun x => if x = r then false else p x) h1 (by simp) (fun x hx => by simp [hx]) k s a b
  omega
theorem WB.brk {m : MS} (hB : WB m) (n : Nat) : WB (brkM m n) := by
  have e : ∀ x, hN (mh (brkM m n) x) = hN (mh m x) ∧ hO (mh (brkM m n) x) = hO (mh m x) := fun x => by
    show hN (if _ then _ else _) = _ ∧ hO (if _ then _ else _) = _
    split
    · exact ⟨rfl, rfl⟩
    · exact ⟨rfl, rfl⟩
  obtain ⟨b1, b2, b3, b4, b5, b6, b7, b8, b9, b10⟩ := hB
  refine ⟨b1, b2, b3, b4, b5, fun x h1 h2 => ?_, b7, b8, fun x h1 h2 h3 => ?_, b10⟩
  · rw [(e x).1]; exact b6 x h1 h2
  · rw [(e x).1]
    rw [(e x).2] at h3
    exact b9 x h1 h2 h3
theorem WB.gr {m : MS} (hB : WB m) {r n : Nat} (hn : n ≤ 24) (ht : tT (mT m) n = true) (h5 : mH m < 512) : WB (grM m r n) := by
  obtain ⟨b1, b2, b3, b4, b5, b6, b7, b8, b9, b10⟩ := hB
  have e : ∀ x, x ≤ mH m → mh (grM m r n) x = mh m x := fun x h => uf_n _ _ (by omega)
  have e2 : mh (grM m r n) (mH m + 1) = (n, accM (qM (mq m r)), shrM (qM (mq m r)), grG m r n, qC (mq m r), hasM (qM (mq m r)) 512, true) := uf_s _ _ _
  refine ⟨by show mH m + 1 ≤ 512; omega, b2, b3, b4, b5, fun x h1 h2 => ?_, fun k hk => ?_, b8, fun x h1 h2 h3 => ?_, b10⟩
  · have h2 : x ≤ mH m + 1 := h2
    by_cases h : x = mH m + 1
    · rw [h, e2]; exact hn
    · rw [e x (by omega)]; exact b6 x h1 (by omega)
  · obtain ⟨a1, a2, a3⟩ := b7 k hk
    exact ⟨a1, by show k.1 ≤ mH m + 1; omega, a3⟩
  · have h2 : x ≤ mH m + 1 := h2
    by_cases h : x = mH m + 1
    · rw [h, e2]; exact ht
    · rw [e x (by omega)] at h3 ⊢
      exact b9 x h1 (by omega) h3
/-- the three ends of an attempt -/
theorem att_cases (m : MS) (hB : WB m) {r : Nat} (r1 : 1 ≤ r) (r2 : r ≤ mQ m) : (∃ v : Int32, attM m r = (v, m) ∧ v < 0) ∨ (∃ n, n ≤ 24 ∧ brkA m n = true ∧ attM m r = (0, brkM m n)) ∨
    (∃ n, n ≤ 24 ∧ tT (mT m) n = true ∧ nOpen m ≠ 12 ∧ brkA m n = false ∧ mM m n ≠ true ∧ attM m r = (nI (mH m + 1), grM m r n)) ∨
    (tG (mT m) < 24 ∧ nOpen m ≠ 12 ∧ tT (mT m) (qD (mq m r)) = true ∧ tF (mT m) (qD (mq m r)) = true ∧ atP (mT m) (nI (qD (mq m r))) (qN (mq m r)) = none ∧ mM m (qD (mq m r)) ≠ true ∧ attM m r = (nI (mH m + 1), grM (noteM m (1, tG (mT m) + 1, nI (qD (mq m r)), qN (mq m r), bI (hasM (qM (mq m r)) 256))) r (tG (mT m) + 1))) := by
  have g24 := hB.g24
  unfold attM
  split
  · exact Or.inl ⟨-3, rfl, by decide⟩
  · rename_i hx
    have hx : tT (mT m) (qD (mq m r)) = true ∧ tF (mT m) (qD (mq m r)) = true := Classical.not_not.mp hx
    split
    · rename_i hat
      split
      · exact Or.inl ⟨-3, rfl, by decide⟩
      · split
        · exact Or.inl ⟨-7, rfl, by decide⟩
        · rename_i hd
          split
          · exact Or.inl ⟨-2, rfl, by decide⟩
          · rename_i h
            exact Or.inr (Or.inr (Or.inr ⟨by omega, fun z => h (Or.inr z), hx.1, hx.2, hat, hd, rfl⟩))
    · rename_i n hat
      obtain ⟨n1, n2, n3, -⟩ := atP_some hat
      split
      · exact Or.inl ⟨-4, rfl, by decide⟩
      · split
        · exact Or.inl ⟨-5, rfl, by decide⟩
        · split
          · rename_i hb
            exact Or.inr (Or.inl ⟨n, by omega, hb, rfl⟩)
          · rename_i hb
            split
            · exact Or.inl ⟨-7, rfl, by decide⟩
            · rename_i hd
              split
              · exact Or.inl ⟨-6, rfl, by decide⟩
              · split
                · exact Or.inl ⟨-2, rfl, by decide⟩
                · rename_i h
                  exact Or.inr (Or.inr (Or.inl ⟨n, by omega, n3, h, Bool.not_eq_true _ ▸ hb, hd, rfl⟩))
def tryS (m : MS) (r : Nat) : MS := if qO (mq m r) = 0 then setQ (attM m r).2 (uf (mq m) r (qsO (mq m r) (attM m r).1)) else m
def tryL : Nat → Nat → MS → MS
  | 0, _, m => m
  | k + 1, i, m => tryL k (i + 1) (tryS m i)
def tryM (m : MS) : MS := tryL (mQ m) 1 m
/-- an attempt leaves the requests alone, keeps the bounds, and spends a waiting request for a handle -/
theorem att_inv {m : MS} (hB : WB m) {c : Nat} (hD : mH m < 512 ∧ mN m ≤ mH m + c ∧ c ≤ 580) {r : Nat} (r1 : 1 ≤ r) (r2 : r ≤ mQ m) : WB (attM m r).2 ∧ mQ (attM m r).2 = mQ m ∧ mq (attM m r).2 = mq m ∧ mN (attM m r).2 ≤ mH (attM m r).2 + c ∧ (((attM m r).1 = 0 ∨ (attM m r).1 < 0) ∧ mH (attM m r).2 = mH m ∨ (attM m r).1 = nI (mH m + 1) ∧ mH (attM m r).2 = mH m + 1) := by
  obtain ⟨d1, d2, d3⟩ := hD
  have b1 := hB.1
  rcases att_cases m hB r1 r2 with ⟨v, e, hv⟩ | ⟨n, hn, -, e⟩ | ⟨n, hn, ht, -, -, -, e⟩ | ⟨hg, -, -, -, -, -, e⟩
  · rw [e]; exact ⟨hB, rfl, rfl, d2, Or.inl ⟨Or.inr hv, rfl⟩⟩
  · rw [e]; exact ⟨hB.brk n, rfl, rfl, d2, Or.inl ⟨Or.inl rfl, rfl⟩⟩
  · rw [e]; exact ⟨hB.gr hn ht d1, rfl, rfl, by show mN m ≤ mH m + 1 + c; omega, Or.inr ⟨rfl, rfl⟩⟩
  · rw [e]
    refine ⟨(hB.made (by omega) (by omega)).gr (by omega) ?_ d1, rfl, rfl, by show mN m + 1 ≤ mH m + 1 + c; omega, Or.inr ⟨rfl, rfl⟩⟩
    rw [mT_note, tT_app1, if_pos rfl]
theorem WB.setq {m : MS} (hB : WB m) {f : Nat → QR} (h : ∀ r, 1 ≤ r → r ≤ mQ m → qD (f r) = qD (mq m r) ∧ qM (f r) = qM (mq m r)) : WB (setQ m f) := by
  obtain ⟨b1, b2, b3, b4, b5, b6, b7, b8, b9, b10, b11⟩ := hB
  refine ⟨b1, b2, b3, b4, b5, b6, b7, fun r h1 h2 => ?_, b9, fun r h1 h2 => ?_, b11⟩
  · show qD (f r) ≤ 24
    rw [(h r h1 h2).1]; exact b8 r h1 h2
  · show ∃ md, md < 1024 ∧ qM (f r) = nI md
    rw [(h r h1 h2).2]; exact b10 r h1 h2
theorem wait_lt {c : Nat} {m : MS} (hB : WB m) (hD : BD c m) {r : Nat} (r1 : 1 ≤ r) (r2 : r ≤ mQ m) (hq : qO (mq m r) = 0) : mH m < 512 := by
  have := cnt_mem (p := fun r => qO (mq m r) == 0) (r := r) (by simp [hq]) (mQ m) 1 r1 (by omega)
  have h1 := hD.1
  have h2 := hB.2.1
  unfold wtN at h1
  omega
theorem try_inv {c : Nat} {m : MS} (hB : WB m) (hD : BD c m) {r : Nat} (r1 : 1 ≤ r) (r2 : r ≤ mQ m) : WB (tryS m r) ∧ BD c (tryS m r) ∧ mQ (tryS m r) = mQ m := by
  unfold tryS
  split
  · rename_i hq
    have h5 := wait_lt hB hD r1 r2 hq
    obtain ⟨i1, i2, i3, i4, i5⟩ := att_inv hB ⟨h5, hD.2.1, hD.2.2⟩ r1 r2
    refine ⟨i1.setq (fun x h1 h2 => ?_), ⟨?_, i4, hD.2.2⟩, i2⟩
    · rw [i3]
      by_cases h : x = r
      · subst h; rw [uf_s]; exact ⟨rfl, rfl⟩
      · rw [uf_n _ _ h]; exact ⟨rfl, rfl⟩
    · show mH (attM m r).2 + (List.range' 1 (mQ (attM m r).2)).countP (fun x => qO (uf (mq m) r (qsO (mq m r) (attM m r).1) x) == 0) ≤ mQ (attM m r).2
      rw [i2]
      have h1 := hD.1
      unfold wtN at h1
      have c0 : (attM m r).1 = 0 → (List.range' 1 (mQ m)).countP (fun x => qO (uf (mq m) r (qsO (mq m r) (attM m r).1) x) == 0) = (List.range' 1 (mQ m)).countP (fun x => qO (mq m x) == 0) := fun h => by
        refine List.countP_congr (fun x _ => ?_)
        by_cases e : x = r
        · subst e; rw [uf_s, h]; simp [qsO, qO, hq]; exact hq
        · rw [uf_n _ _ e]
      have c1 : (attM m r).1 ≠ 0 → (List.range' 1 (mQ m)).countP (fun x => qO (mq m x) == 0) = (List.range' 1 (mQ m)).countP (fun x => qO (uf (mq m) r (qsO (mq m r) (attM m r).1) x) == 0) + 1 := fun h =>
        cnt_upd (r := r) (by simp [hq]) (by rw [uf_s]; simp [qsO, qO, h]) (fun x hx => by rw [uf_n _ _ hx]) _ _ r1 (by omega)
      rcases i5 with ⟨h | h, e⟩ | ⟨h, e⟩
      · rw [c0 h, e]; exact h1
      · have := c1 (fun z => by rw [z] at h; exact absurd h (by decide))
        omega
      · have := c1 (by rw [h]; exact nI_ne0 (by omega) (by omega))
        omega
  · exact ⟨hB, hD, rfl⟩
theorem tryL_inv {c : Nat} : ∀ (k i : Nat) (m : MS), WB m → BD c m → 1 ≤ i → i + k = mQ m + 1 → WB (tryL k i m) ∧ BD c (tryL k i m) ∧ mQ (tryL k i m) = mQ m := by
  intro k
  induction k with
  | zero => intro i m hB hD _ _; exact ⟨hB, hD, rfl⟩
  | succ k ih =>
    intro i m hB hD h1 h2
    obtain ⟨a, b, e⟩ := try_inv hB hD h1 (by omega : i ≤ mQ m)
    obtain ⟨a', b', e'⟩ := ih (i + 1) (tryS m i) a b (by omega) (by omega)
    exact ⟨a', b', e'.trans e⟩
theorem try_all {c : Nat} {m : MS} (hB : WB m) (hD : BD c m) : WB (tryM m) ∧ BD c (tryM m) ∧ mQ (tryM m) = mQ m := tryL_inv (mQ m) 1 m hB hD (by omega) (by omega)
end
section
/-! the reference: tryAgain, open, outcome, cancel, giveUp -/
theorem RM.qset {w : WW} {m : MS} (hM : RM w m) {r : Nat} {v : Int32} (r1 : 1 ≤ r) (r2 : r ≤ mQ m) : RM (sI w 118 1 (6 * r + 5) v) (setQ m (uf (mq m) r (qsO (mq m r) v))) := by
  obtain ⟨hS, c0, c1, hLg, hT, hDm, hh, hH, hq, hQ, hk4, hK, hs⟩ := hM
  refine ⟨hS, c0, c1, hLg, hT, hDm, hh, hH, hq, ⟨?_, ?_⟩, hk4, hK, hs⟩
  · intro y y1 y2 g hg
    show wI (sI w 118 1 (6 * r + 5) v) 118 1 (6 * y + g) = qrF (uf (mq m) r (qsO (mq m r) v) y) g
    by_cases h : y = r
    · subst h
      rw [uf_s, wI_sI]
      by_cases h2 : g = 5
      · rw [h2, if_pos ⟨rfl, rfl, rfl⟩]; rfl
      · rw [if_neg (by omega)]
        have := hQ.1 y y1 y2 g hg
        rw [this]
        match g, hg with
        | 0, _ => rfl
        | 1, _ => rfl
        | 2, _ => rfl
        | 3, _ => rfl
        | 4, _ => rfl
        | 5, _ => exact absurd rfl h2
    · rw [uf_n _ _ h, wI_sI, if_neg (by omega)]
      exact hQ.1 y y1 y2 g hg
  · intro y y1 y2
    have y1 : mQ m < y := y1
    show wI (sI w 118 1 (6 * r + 5) v) 118 1 (6 * y + 5) = 0
    rw [wI_sI, if_neg (by omega)]
    exact hQ.2 y y1 y2
theorem tryS_pos {m : MS} {r : Nat} (h : qO (mq m r) = 0) : tryS m r = setQ (attM m r).2 (uf (mq m) r (qsO (mq m r) (attM m r).1)) := if_pos h
theorem tryS_neg {m : MS} {r : Nat} (h : ¬ qO (mq m r) = 0) : tryS m r = m := if_neg h
/-- the attempt and the store behind it -/
theorem try_store {w1 : WW} {m : MS} {c r : Nat} (hB : WB m) (hD : BD c m) (r1 : 1 ≤ r) (r2 : r ≤ mQ m) (hq : qO (mq m r) = 0) (hM1 : RM w1 (attM m r).2) : RM (sI w1 118 1 (6 * r + 5) (attM m r).1) (tryS m r) := by
  obtain ⟨i1, i2, i3, i4, i5⟩ := att_inv hB ⟨wait_lt hB hD r1 r2 hq, hD.2.1, hD.2.2⟩ r1 r2
  have := hM1.qset (r := r) (v := (attM m r).1) r1 (by rw [i2]; exact r2)
  rw [i3] at this
  rw [tryS_pos hq]
  exact this
theorem Md_tryAgain_ok {w : WW} {m : MS} {c d : Nat} (hM : RM w m) (hB : WB m) (hD : BD c m) (hd : 4 ≤ d) :
    E_Md_tryAgain d [.inr (7, 1)] w (fun r w' => r = none ∧ RM w' (tryM m) ∧ FM w w') := by
  refine S_Md_tryAgain ?_
  have loop : ∀ k i m1 w1, RM w1 m1 → WB m1 → BD c m1 → FM w w1 → 1 ≤ i → i + k = mQ m1 + 1 → X_Md_tryAgain d 2 [some (.inr (7, 1)), some (.inl (nI i))] [] w1 (fun r w' => r = none ∧ RM w' (tryL k i m1) ∧ FM w w') := by
    intro k
    induction k with
    | zero =>
      intro i m1 w1 hM hB hD hF h1 h2
      have b2 := hB.2.1
      have hn : wI w1 7 1 12 = nI (mQ m1) := hM.2.2.2.2.2.2.2.2.1
      refine XE.iload_n d_Md_tryAgain_2 rfl ?_
      refine XE.aload_n d_Md_tryAgain_3 rfl ?_
      refine g_Md_88 d_Md_tryAgain_4 (by first | assumption | decide | omega) (by first | assumption | rfl) ?_
      refine XE.icmp_gt 46 d_Md_tryAgain_7 (by decide) (fun h7 => ?_) (fun h7 => absurd h7 ((by rw [lt_nI (by omega) (by omega)]; omega)))
      exact XE.rv d_Md_tryAgain_46 ⟨rfl, hM, hF⟩
    | succ k ih =>
      intro i m1 w1 hM hB hD hF h1 h2
      have b2 := hB.2.1
      have hn : wI w1 7 1 12 = nI (mQ m1) := hM.2.2.2.2.2.2.2.2.1
      have s13 := hM.1.2.2.2.2.2.2.2.2.1
      have l8 := hM.1.2.2.2.2.2.2.2.2.2.2.2.2.2.2.2.2.2.2.1
      have q5 : wI w1 118 1 (6 * i + 5) = qO (mq m1 i) := hM.2.2.2.2.2.2.2.2.2.1.1 i h1 (by omega) 5 (by decide)
      have b3 := hB.n11
      refine XE.iload_n d_Md_tryAgain_2 rfl ?_
      refine XE.aload_n d_Md_tryAgain_3 rfl ?_
      refine g_Md_88 d_Md_tryAgain_4 (by first | assumption | decide | omega) (by first | assumption | rfl) ?_
      refine XE.icmp_gt 46 d_Md_tryAgain_7 (by decide) (fun h7 => absurd h7 ((by rw [lt_nI (by omega) (by omega)]; omega))) (fun h7 => ?_)
      refine XE.aload_n d_Md_tryAgain_10 rfl ?_
      refine g_Md_35 d_Md_tryAgain_11 (by first | assumption | decide | omega) (by first | assumption | rfl) ?_
      refine XE.bipush (x := nI 6) d_Md_tryAgain_14 (by decide) ?_
      refine XE.iload_n d_Md_tryAgain_16 rfl ?_
      refine XE.imul d_Md_tryAgain_17 (by first | exact pk_mul _ _ | rfl) ?_
      refine XE.iconst (x := nI 5) d_Md_tryAgain_18 (by decide) ?_
      refine XE.iadd d_Md_tryAgain_19 (by first | exact nI_add _ _ | rfl) ?_
      refine XE.iald d_Md_tryAgain_20 (Or.inr ⟨by decide, rfl⟩) (by first | assumption | decide | omega) (by first | assumption | exact ixn2 (by assumption) (by omega) (by omega)) (by first | assumption | rfl) ?_
      refine XE.if_ne 40 d_Md_tryAgain_21 (by decide) (fun h21 => ?_) (fun h21 => ?_)
      · have z := ih (i + 1) m1 w1 hM hB hD hF (by omega) (by omega)
        refine XE.iinc d_Md_tryAgain_40 rfl (inc_nI _) ?_
        refine XE.goto 2 d_Md_tryAgain_43 (by decide) ?_
        first | (rw [show tryL (k + 1) i m1 = tryL k (i + 1) m1 by show tryL k (i + 1) (tryS m1 i) = _; rw [tryS_neg h21]]; exact z) | exact ih (i + 1) (tryS m1 i) _ (try_store hB hD h1 (by omega) h21 hM2) ti.1 ti.2.1 ((hF.tr hF2).tr (FM.sI (Or.inr (by decide)))) (by omega) (by rw [ti.2.2]; omega)
      · have ti := try_inv hB hD h1 (by omega : i ≤ mQ m1)
        refine XE.aload_n d_Md_tryAgain_24 rfl ?_
        refine g_Md_35 d_Md_tryAgain_25 (by first | assumption | decide | omega) (by first | assumption | rfl) ?_
        refine XE.bipush (x := nI 6) d_Md_tryAgain_28 (by decide) ?_
        refine XE.iload_n d_Md_tryAgain_30 rfl ?_
        refine XE.imul d_Md_tryAgain_31 (by first | exact pk_mul _ _ | rfl) ?_
        refine XE.iconst (x := nI 5) d_Md_tryAgain_32 (by decide) ?_
        refine XE.iadd d_Md_tryAgain_33 (by first | exact nI_add _ _ | rfl) ?_
        refine XE.aload_n d_Md_tryAgain_34 rfl ?_
        refine XE.iload_n d_Md_tryAgain_35 rfl ?_
        refine k_Md_91 3 d_Md_tryAgain_36 (by omega) (Nat.le_of_ble_eq_true rfl) (by first | assumption | decide | omega) (Md_attempt_ok hM hB h1 (by omega) (wait_lt hB hD h1 (by omega) h21) (by have := hD.2.1; have := hD.2.2; have := wait_lt hB hD h1 (by omega) h21; omega) (by omega)) (fun x1 w2 hm1 hq1 => ?_)
        obtain ⟨rfl, hM2, hF2⟩ := hq1
        have e2 := hF2.2.1
        have s13' : wR w2 7 1 13 = 1 := hM2.1.2.2.2.2.2.2.2.2.1
        have l8' : wL w2 118 1 = 3120 := hM2.1.2.2.2.2.2.2.2.2.2.2.2.2.2.2.2.2.2.2.1
        refine XE.iast d_Md_tryAgain_39 (by decide) rfl (by first | assumption | decide | omega) (by first | assumption | exact ixn2 (by assumption) (by omega) (by omega)) ?_
        refine XE.iinc d_Md_tryAgain_40 rfl (inc_nI _) ?_
        refine XE.goto 2 d_Md_tryAgain_43 (by decide) ?_
        first | (rw [show tryL (k + 1) i m1 = tryL k (i + 1) m1 by show tryL k (i + 1) (tryS m1 i) = _; rw [tryS_neg h21]]; exact z) | exact ih (i + 1) (tryS m1 i) _ (try_store hB hD h1 (by omega) h21 hM2) ti.1 ti.2.1 ((hF.tr hF2).tr (FM.sI (Or.inr (by decide)))) (by omega) (by rw [ti.2.2]; omega)
  refine XE.iconst (x := nI 1) d_Md_tryAgain_0 (by decide) ?_
  refine XE.istore_n d_Md_tryAgain_1 (by decide) ?_
  exact loop (mQ m) 1 m w hM hB hD FM.rf (by omega) (by omega)
end
section
/-! the reference: open, outcome, cancel, giveUp -/
theorem bI_and (a b : Prop) [Decidable a] [Decidable b] : bI (decide a && decide b) = 0 ↔ ¬ (a ∧ b) := by
  rw [bI_eq0, Bool.and_eq_false_iff, decide_eq_false_iff_not, decide_eq_false_iff_not]
  by_cases h : a <;> simp [h]
def addQ (m : MS) (q : QR) : MS := (m.1, m.2.1, m.2.2.1, m.2.2.2.1, m.2.2.2.2.1, m.2.2.2.2.2.1, mQ m + 1, uf (mq m) (mQ m + 1) q, m.2.2.2.2.2.2.2.2)
def opnOk (c d n md ws : Int32) : Prop := (nI 0 ≤ c ∧ c ≤ nI 3) ∧ (nI 0 ≤ d ∧ d ≤ nI 24) ∧ (nI 0 ≤ n ∧ n ≤ nI 15) ∧ (nI 0 ≤ md ∧ md ≤ nI 1023) ∧ (nI 0 ≤ ws ∧ ws ≤ nI 2) ∧ ¬ md &&& nI 7 = 0 ∧ ¬ md &&& nI 516 = nI 512
def opnS (m : MS) (c d n md ws : Int32) : MS := tryS (addQ m (c, d.toNatClampNeg, n, md, ws, 0)) (mQ m + 1)
theorem RM.qadd {w w' : WW} {m : MS} {q : QR} (hM : RM w m) (hF : w'.1 = w.1 ∧ w'.2.2 = w.2.2) (b : mQ m < 512) (hz : qO q = 0) (e0 : wI w' 7 1 12 = nI (mQ m + 1)) (e1 : ∀ f, f < 5 → wI w' 118 1 (6 * (mQ m + 1) + f) = qrF q f)
    (e2 : ∀ k o j, ¬ (k = 7 ∧ j = 12) → ¬ (k = 118 ∧ 6 * (mQ m + 1) ≤ j ∧ j < 6 * (mQ m + 1) + 5) → wI w' k o j = wI w k o j) : RM w' (addQ m q) := by
  obtain ⟨hS, c0, c1, hLg, hT, hDm, hh, hH, hq, hQ, hk4, hK, hs⟩ := hM
  refine ⟨?_, ?_, ?_, ?_, ?_, ?_, ?_, ?_, e0, ⟨?_, ?_⟩, ?_, ?_, ?_⟩
  · unfold MdS at hS ⊢
    unfold wR wL at hS ⊢
    rw [hF.2]
    exact hS
  · rw [e2 _ _ _ (by omega) (by omega)]; exact c0
  · rw [e2 _ _ _ (by omega) (by omega)]; exact c1
  · intro c hc f hf; rw [e2 _ _ _ (by omega) (by omega)]; exact hLg c hc f hf
  · obtain ⟨x1, x2, x3⟩ := hT
    refine ⟨by rw [e2 _ _ _ (by omega) (by omega)]; exact x1, fun x hx => by rw [e2 _ _ _ (by omega) (by omega)]; exact x2 x hx, fun x hx hx2 => ?_⟩
    obtain ⟨y1, y2, y3, y4⟩ := x3 x hx hx2
    exact ⟨by rw [e2 _ _ _ (by omega) (by omega)]; exact y1, by rw [e2 _ _ _ (by omega) (by omega)]; exact y2, by rw [e2 _ _ _ (by omega) (by omega)]; exact y3, fun i hi => by rw [e2 _ _ _ (by omega) (by omega)]; exact y4 i hi⟩
  · intro x hx; rw [e2 _ _ _ (by omega) (by omega)]; exact hDm x hx
  · rw [e2 _ _ _ (by omega) (by omega)]; exact hh
  · intro x h1 h2 f hf; rw [e2 _ _ _ (by omega) (by omega)]; exact hH x h1 h2 f hf
  · intro x h1 h2 f hf
    show wI w' 118 1 (6 * x + f) = qrF (uf (mq m) (mQ m + 1) q x) f
    have h2 : x ≤ mQ m + 1 := h2
    by_cases h : x = mQ m + 1
    · subst h
      rw [uf_s]
      by_cases hf5 : f = 5
      · subst hf5
        rw [e2 _ _ _ (by omega) (by omega), hQ.2 _ (by omega) (by omega)]
        exact hz.symm
      · exact e1 f (by omega)
    · rw [uf_n _ _ h, e2 _ _ _ (by omega) (by omega)]; exact hQ.1 x h1 (by omega) f hf
  · intro x h1 h2
    have h1 : mQ m + 1 < x := h1
    rw [e2 _ _ _ (by omega) (by omega)]
    exact hQ.2 x (by omega) h2
  · rw [e2 _ _ _ (by omega) (by omega)]; exact hk4
  · intro i hi f hf; rw [e2 _ _ _ (by omega) (by omega)]; exact hK i hi f hf
  · rw [e2 _ _ _ (by omega) (by omega)]; exact hs
theorem WB.addq {m : MS} (hB : WB m) {q : QR} (h5 : mQ m < 512) (hd : qD q ≤ 24) (hm : ∃ md, md < 1024 ∧ qM q = nI md) : WB (addQ m q) := by
  obtain ⟨b1, b2, b3, b4, b5, b6, b7, b8, b9, b10, b11⟩ := hB
  refine ⟨b1, by show mQ m + 1 ≤ 512; omega, b3, b4, b5, b6, b7, fun r h1 h2 => ?_, b9, fun r h1 h2 => ?_, b11⟩
  · show qD (uf (mq m) (mQ m + 1) q r) ≤ 24
    have h2 : r ≤ mQ m + 1 := h2
    by_cases h : r = mQ m + 1
    · rw [h, uf_s]; exact hd
    · rw [uf_n _ _ h]; exact b8 r h1 (by omega)
  · show ∃ md, md < 1024 ∧ qM (uf (mq m) (mQ m + 1) q r) = nI md
    have h2 : r ≤ mQ m + 1 := h2
    by_cases h : r = mQ m + 1
    · rw [h, uf_s]; exact hm
    · rw [uf_n _ _ h]; exact b10 r h1 (by omega)
theorem BD.addq {c : Nat} {m : MS} (hD : BD c m) {q : QR} (hz : qO q = 0) : BD c (addQ m q) := by
  obtain ⟨d1, d2, d3⟩ := hD
  refine ⟨?_, d2, d3⟩
  have : wtN (addQ m q) = wtN m + 1 := by
    show (List.range' 1 (mQ m + 1)).countP (fun r => qO (uf (mq m) (mQ m + 1) q r) == 0) = _
    rw [List.range'_1_concat, List.countP_append]
    congr 1
    · refine List.countP_congr (fun x hx => ?_)
      rw [uf_n _ _ (by have := (List.mem_range'_1.mp hx).2; omega)]
    · rw [show 1 + mQ m = mQ m + 1 by omega, List.countP_cons_of_pos (by rw [uf_s, hz]; rfl)]
      rfl
  rw [this]
  show mH m + (wtN m + 1) ≤ mQ m + 1
  omega
set_option maxHeartbeats 1000000 in
theorem Md_open_ok {w : WW} {m : MS} {c d : Nat} (hM : RM w m) (hB : WB m) (hD : BD c m) (h5 : mQ m < 512) (hd : 4 ≤ d) (cl di na md ws : Int32) :
    E_Md_open d [.inr (7, 1), .inl cl, .inl di, .inl na, .inl md, .inl ws] w (fun r w' => FM w w' ∧ (¬ opnOk cl di na md ws → r = some (.inl (-1)) ∧ RM w' m) ∧ (opnOk cl di na md ws → r = some (.inl (nI (mQ m + 1))) ∧ RM w' (opnS m cl di na md ws))) := by
  refine S_Md_open ?_
  have hM' := hM
  obtain ⟨hS, c0, c1, hLg, hT, hDm, hh, hH, hq, hQ, hk4, hK, hs⟩ := hM
  obtain ⟨s2, s4, s5, s6, s7, s8, s9, s11, s13, s15, l0, l1, l2, l3, l4, l5, l6, l7, l8, l9⟩ := hS
  have bad : ∀ {pc : Nat} {ls : List (Option VV)}, decode c_Md_open pc = .ok (.ireturn, 1) → ¬ opnOk cl di na md ws → X_Md_open d pc ls [.inl (-1)] w (fun r w' => FM w w' ∧ (¬ opnOk cl di na md ws → r = some (.inl (-1)) ∧ RM w' m) ∧ (opnOk cl di na md ws → r = some (.inl (nI (mQ m + 1))) ∧ RM w' (opnS m cl di na md ws))) := by
    intro pc ls hdc hn
    exact XE.ri hdc ⟨FM.rf, fun _ => ⟨rfl, hM'⟩, fun h => absurd h hn⟩
  have good : opnOk cl di na md ws → X_Md_open d 75 [some (.inr (7, 1)), some (.inl cl), some (.inl di), some (.inl na), some (.inl md), some (.inl ws), none] [] w (fun r w' => FM w w' ∧ (¬ opnOk cl di na md ws → r = some (.inl (-1)) ∧ RM w' m) ∧ (opnOk cl di na md ws → r = some (.inl (nI (mQ m + 1))) ∧ RM w' (opnS m cl di na md ws))) := by
    intro ok
    obtain ⟨-, o2, -, o4, -, -, -⟩ := id ok
    obtain ⟨dn, rfl, hdn, ec⟩ : ∃ x, di = nI x ∧ x ≤ 24 ∧ di.toNatClampNeg = x := by
      have h0 : ¬ di < 0 := Int32.not_lt.mpr o2.1
      obtain ⟨j, hj, rfl⟩ := nI_of h0
      exact ⟨j, rfl, (nI_leI hj (by omega)).mp o2.2, nI_clamp hj⟩
    obtain ⟨mdn, hmdn, emd⟩ : ∃ x, x < 1024 ∧ md = nI x := by
      have h0 : ¬ md < 0 := Int32.not_lt.mpr o4.1
      obtain ⟨j, hj, rfl⟩ := nI_of h0
      exact ⟨j, by have := (nI_leI hj (by omega)).mp o4.2; omega, rfl⟩
    let q : QR := (cl, dn, na, md, ws, 0)
    let m1 : MS := addQ m q
    let B := 6 * (mQ m + 1)
    let w6 : WW := sI (sI (sI (sI (sI (sI w 7 1 12 (nI (mQ m + 1))) 118 1 B cl) 118 1 (B + 1) (nI dn)) 118 1 (B + 2) na) 118 1 (B + 3) md) 118 1 (B + 4) ws
    have hM1 : RM w6 m1 := by
      refine hM'.qadd ⟨rfl, rfl⟩ h5 rfl ?_ ?_ ?_
      · simp [w6, wI_sI]
      · intro f hf
        match f, hf with
        | 0, _ => simp [w6, B, wI_sI, qrF, q, qC]
        | 1, _ => simp [w6, B, wI_sI, qrF, q, qD]
        | 2, _ => simp [w6, B, wI_sI, qrF, q, qN]
        | 3, _ => simp [w6, B, wI_sI, qrF, q, qM]
        | 4, _ => simp [w6, B, wI_sI, qrF, q, qW]
      · intro k o j h1 h2
        simp only [w6, wI_sI]
        rw [if_neg (by omega), if_neg (by omega), if_neg (by omega), if_neg (by omega), if_neg (by omega), if_neg (by omega)]
    have hF6 : FM w w6 := (((FM.sI (Or.inl rfl)).tr (FM.sI (Or.inr (by decide)))).tr ((FM.sI (Or.inr (by decide))).tr (FM.sI (Or.inr (by decide))))).tr ((FM.sI (Or.inr (by decide))).tr (FM.sI (Or.inr (by decide))))
    have hB1 : WB m1 := hB.addq h5 hdn ⟨mdn, hmdn, emd⟩
    have hD1 : BD c m1 := hD.addq rfl
    have qz : qO (mq m1 (mQ m + 1)) = 0 := by
      show qO (uf (mq m) (mQ m + 1) q (mQ m + 1)) = 0
      rw [uf_s]; rfl
    have r2 : mQ m + 1 ≤ mQ m1 := Nat.le_refl _
    have h51 := wait_lt hB1 hD1 (by omega : 1 ≤ mQ m + 1) r2 qz
    have eS : opnS m cl (nI dn) na md ws = tryS m1 (mQ m + 1) := by
      unfold opnS
      rw [ec]
    have hat : E_Md_attempt 3 [.inr (7, 1), .inl (nI (mQ m + 1))] w6 (fun q w' => q = some (.inl (attM m1 (mQ m + 1)).1) ∧ RM w' (attM m1 (mQ m + 1)).2 ∧ FM w6 w') :=
      Md_attempt_ok hM1 hB1 (by omega) r2 h51 (by have := hD1.2.1; have := hD1.2.2; omega) (by omega)
    refine XE.aload_n d_Md_open_75 rfl ?_
    refine XE.dup d_Md_open_76 ?_
    refine g_Md_88 d_Md_open_77 (by first | assumption | decide | omega) (by first | assumption | rfl) ?_
    refine XE.iconst (x := nI 1) d_Md_open_80 (by decide) ?_
    refine XE.iadd d_Md_open_81 (by first | exact nI_add _ _ | rfl) ?_
    refine p_Md_88 d_Md_open_82 (by first | assumption | decide | omega) ?_
    refine XE.bipush (x := nI 6) d_Md_open_85 (by decide) ?_
    refine XE.aload_n d_Md_open_87 rfl ?_
    refine g_Md_88 (x := nI (mQ m + 1)) d_Md_open_88 (by first | assumption | decide | omega) (by rw [wI_sI, if_pos ⟨rfl, rfl, rfl⟩]) ?_
    refine XE.imul d_Md_open_91 (by first | exact pk_mul _ _ | rfl) ?_
    refine XE.istore d_Md_open_92 (by decide) ?_
    refine XE.aload_n d_Md_open_94 rfl ?_
    refine g_Md_35 d_Md_open_95 (by first | assumption | decide | omega) (by first | assumption | rfl) ?_
    refine XE.iload d_Md_open_98 rfl ?_
    refine XE.iload_n d_Md_open_100 rfl ?_
    refine XE.iast d_Md_open_101 (by decide) rfl (by first | assumption | decide | omega) (by first | assumption | exact ixn2 (by assumption) (by omega) (by omega)) ?_
    refine XE.aload_n d_Md_open_102 rfl ?_
    refine g_Md_35 d_Md_open_103 (by first | assumption | decide | omega) (by first | assumption | rfl) ?_
    refine XE.iload d_Md_open_106 rfl ?_
    refine XE.iconst (x := nI 1) d_Md_open_108 (by decide) ?_
    refine XE.iadd d_Md_open_109 (by first | exact nI_add _ _ | rfl) ?_
    refine XE.iload_n d_Md_open_110 rfl ?_
    refine XE.iast d_Md_open_111 (by decide) rfl (by first | assumption | decide | omega) (by first | assumption | exact ixn2 (by assumption) (by omega) (by omega)) ?_
    refine XE.aload_n d_Md_open_112 rfl ?_
    refine g_Md_35 d_Md_open_113 (by first | assumption | decide | omega) (by first | assumption | rfl) ?_
    refine XE.iload d_Md_open_116 rfl ?_
    refine XE.iconst (x := nI 2) d_Md_open_118 (by decide) ?_
    refine XE.iadd d_Md_open_119 (by first | exact nI_add _ _ | rfl) ?_
    refine XE.iload_n d_Md_open_120 rfl ?_
    refine XE.iast d_Md_open_121 (by decide) rfl (by first | assumption | decide | omega) (by first | assumption | exact ixn2 (by assumption) (by omega) (by omega)) ?_
    refine XE.aload_n d_Md_open_122 rfl ?_
    refine g_Md_35 d_Md_open_123 (by first | assumption | decide | omega) (by first | assumption | rfl) ?_
    refine XE.iload d_Md_open_126 rfl ?_
    refine XE.iconst (x := nI 3) d_Md_open_128 (by decide) ?_
    refine XE.iadd d_Md_open_129 (by first | exact nI_add _ _ | rfl) ?_
    refine XE.iload d_Md_open_130 rfl ?_
    refine XE.iast d_Md_open_132 (by decide) rfl (by first | assumption | decide | omega) (by first | assumption | exact ixn2 (by assumption) (by omega) (by omega)) ?_
    refine XE.aload_n d_Md_open_133 rfl ?_
    refine g_Md_35 d_Md_open_134 (by first | assumption | decide | omega) (by first | assumption | rfl) ?_
    refine XE.iload d_Md_open_137 rfl ?_
    refine XE.iconst (x := nI 4) d_Md_open_139 (by decide) ?_
    refine XE.iadd d_Md_open_140 (by first | exact nI_add _ _ | rfl) ?_
    refine XE.iload d_Md_open_141 rfl ?_
    refine XE.iast d_Md_open_143 (by decide) rfl (by first | assumption | decide | omega) (by first | assumption | exact ixn2 (by assumption) (by omega) (by omega)) ?_
    refine XE.aload_n d_Md_open_144 rfl ?_
    refine g_Md_35 d_Md_open_145 (by first | assumption | decide | omega) (by first | assumption | rfl) ?_
    refine XE.iload d_Md_open_148 rfl ?_
    refine XE.iconst (x := nI 5) d_Md_open_150 (by decide) ?_
    refine XE.iadd d_Md_open_151 (by first | exact nI_add _ _ | rfl) ?_
    refine XE.aload_n d_Md_open_152 rfl ?_
    refine XE.aload_n d_Md_open_153 rfl ?_
    refine g_Md_88 (x := nI (mQ m + 1)) d_Md_open_154 (by first | assumption | decide | omega) rfl ?_
    refine k_Md_91 3 d_Md_open_157 (by omega) (Nat.le_of_ble_eq_true rfl) (by first | assumption | decide | omega) hat (fun x1 w2 hm1 hq1 => ?_)
    obtain ⟨rfl, hM2, hF2⟩ := hq1
    have s13' : wR w2 7 1 13 = 1 := hM2.1.2.2.2.2.2.2.2.2.1
    have l8' : wL w2 118 1 = 3120 := hM2.1.2.2.2.2.2.2.2.2.2.2.2.2.2.2.2.2.2.2.1
    have n2 : wI w2 7 1 12 = nI (mQ m + 1) := by have := hM2.2.2.2.2.2.2.2.2.1; rw [(att_inv hB1 ⟨h51, hD1.2.1, hD1.2.2⟩ (by omega) r2).2.1] at this; exact this
    refine XE.iast d_Md_open_160 (by decide) rfl (by first | assumption | decide | omega) (by first | assumption | exact ixn2 (by assumption) (by omega) (by omega)) ?_
    refine XE.aload_n d_Md_open_161 rfl ?_
    refine g_Md_88 d_Md_open_162 (by first | assumption | decide | omega) (by first | assumption | rfl) ?_
    exact XE.ri d_Md_open_165 ⟨(hF6.tr hF2).tr (FM.sI (Or.inr (by decide))), fun h => absurd ok h, fun _ => ⟨rfl, by rw [eS]; exact try_store hB1 hD1 (by omega) r2 qz hM2⟩⟩
  refine XE.iload_n d_Md_open_0 rfl ?_
  refine XE.iconst (x := nI 0) d_Md_open_1 (by decide) ?_
  refine XE.iconst (x := nI 3) d_Md_open_2 (by decide) ?_
  refine k_Md_45 0 d_Md_open_3 (by omega) (Nat.le_of_ble_eq_true rfl) (Md_in_ok cl (nI 0) (nI 3)) (fun r1 w1 hm1 hq1 => ?_)
  rw [hq1.1, hq1.2]
  clear hq1 hm1 r1 w1
  refine XE.if_eq 51 d_Md_open_6 (by decide) (fun h6 => ?_) (fun h6 => ?_)
  · have nk : ¬ opnOk cl di na md ws := fun z => (bI_and _ _).mp h6 z.1
    refine XE.iconst (x := (-1)) d_Md_open_51 (by decide) ?_
    exact bad d_Md_open_52 nk
  · refine XE.iload_n d_Md_open_9 rfl ?_
    refine XE.iconst (x := nI 0) d_Md_open_10 (by decide) ?_
    refine XE.bipush (x := nI 24) d_Md_open_11 (by decide) ?_
    refine k_Md_45 0 d_Md_open_13 (by omega) (Nat.le_of_ble_eq_true rfl) (Md_in_ok di (nI 0) (nI 24)) (fun r1 w1 hm1 hq1 => ?_)
    rw [hq1.1, hq1.2]
    clear hq1 hm1 r1 w1
    refine XE.if_eq 51 d_Md_open_16 (by decide) (fun h16 => ?_) (fun h16 => ?_)
    · have nk : ¬ opnOk cl di na md ws := fun z => (bI_and _ _).mp h16 z.2.1
      refine XE.iconst (x := (-1)) d_Md_open_51 (by decide) ?_
      exact bad d_Md_open_52 nk
    · refine XE.iload_n d_Md_open_19 rfl ?_
      refine XE.iconst (x := nI 0) d_Md_open_20 (by decide) ?_
      refine XE.bipush (x := nI 15) d_Md_open_21 (by decide) ?_
      refine k_Md_45 0 d_Md_open_23 (by omega) (Nat.le_of_ble_eq_true rfl) (Md_in_ok na (nI 0) (nI 15)) (fun r1 w1 hm1 hq1 => ?_)
      rw [hq1.1, hq1.2]
      clear hq1 hm1 r1 w1
      refine XE.if_eq 51 d_Md_open_26 (by decide) (fun h26 => ?_) (fun h26 => ?_)
      · have nk : ¬ opnOk cl di na md ws := fun z => (bI_and _ _).mp h26 z.2.2.1
        refine XE.iconst (x := (-1)) d_Md_open_51 (by decide) ?_
        exact bad d_Md_open_52 nk
      · refine XE.iload d_Md_open_29 rfl ?_
        refine XE.iconst (x := nI 0) d_Md_open_31 (by decide) ?_
        refine XE.sipush (x := nI 1023) d_Md_open_32 (by decide) ?_
        refine k_Md_45 0 d_Md_open_35 (by omega) (Nat.le_of_ble_eq_true rfl) (Md_in_ok md (nI 0) (nI 1023)) (fun r1 w1 hm1 hq1 => ?_)
        rw [hq1.1, hq1.2]
        clear hq1 hm1 r1 w1
        refine XE.if_eq 51 d_Md_open_38 (by decide) (fun h38 => ?_) (fun h38 => ?_)
        · have nk : ¬ opnOk cl di na md ws := fun z => (bI_and _ _).mp h38 z.2.2.2.1
          refine XE.iconst (x := (-1)) d_Md_open_51 (by decide) ?_
          exact bad d_Md_open_52 nk
        · refine XE.iload d_Md_open_41 rfl ?_
          refine XE.iconst (x := nI 0) d_Md_open_43 (by decide) ?_
          refine XE.iconst (x := nI 2) d_Md_open_44 (by decide) ?_
          refine k_Md_45 0 d_Md_open_45 (by omega) (Nat.le_of_ble_eq_true rfl) (Md_in_ok ws (nI 0) (nI 2)) (fun r1 w1 hm1 hq1 => ?_)
          rw [hq1.1, hq1.2]
          clear hq1 hm1 r1 w1
          refine XE.if_ne 53 d_Md_open_48 (by decide) (fun h48 => ?_) (fun h48 => ?_)
          · refine XE.iload d_Md_open_53 rfl ?_
            refine XE.bipush (x := nI 7) d_Md_open_55 (by decide) ?_
            refine XE.iand d_Md_open_57 rfl ?_
            refine XE.if_eq 73 d_Md_open_58 (by decide) (fun h58 => ?_) (fun h58 => ?_)
            · have nk : ¬ opnOk cl di na md ws := fun z => z.2.2.2.2.2.1 h58
              refine XE.iconst (x := (-1)) d_Md_open_73 (by decide) ?_
              exact bad d_Md_open_74 nk
            · refine XE.iload d_Md_open_61 rfl ?_
              refine XE.sipush (x := nI 516) d_Md_open_63 (by decide) ?_
              refine XE.iand d_Md_open_66 rfl ?_
              refine XE.sipush (x := nI 512) d_Md_open_67 (by decide) ?_
              refine XE.icmp_ne 75 d_Md_open_70 (by decide) (fun h70 => ?_) (fun h70 => ?_)
              · exact good ⟨Classical.not_not.mp (fun z => h6 ((bI_and _ _).mpr z)), Classical.not_not.mp (fun z => h16 ((bI_and _ _).mpr z)), Classical.not_not.mp (fun z => h26 ((bI_and _ _).mpr z)), Classical.not_not.mp (fun z => h38 ((bI_and _ _).mpr z)), Classical.not_not.mp (fun z => h48 ((bI_and _ _).mpr z)), h58, h70⟩
              · have nk : ¬ opnOk cl di na md ws := fun z => z.2.2.2.2.2.2 h70
                refine XE.iconst (x := (-1)) d_Md_open_73 (by decide) ?_
                exact bad d_Md_open_74 nk
          · have nk : ¬ opnOk cl di na md ws := fun z => (bI_and _ _).mp h48 z.2.2.2.2.1
            refine XE.iconst (x := (-1)) d_Md_open_51 (by decide) ?_
            exact bad d_Md_open_52 nk
end
