section
-- ===== PART A: goes FIRST, ahead of the names: the tables' words, and 'selects' of the private methods out of them =====
/-- a private method of a class that the tables say can be made, by its rows of tables_1 -/
def lw_okq (q : MethodName × Nat) : Prop := (q.1.cls ≠ "java/lang/invoke/MethodHandle" ∧ q.1.cls ≠ "java/lang/invoke/VarHandle") ∧ Cond.instantiable q.1.cls q.2 ∈ tables_1 ∧ Cond.privateMethod q.1 ∈ tables_1 ∧ Cond.instanceMethod q.1 ∈ tables_1
theorem lw_p0 : lw_okq (⟨"OneRankGrid$History", "pastAt", "(I)LOneRankGrid$Grid;"⟩, 3) := ⟨⟨by decide +kernel, by decide +kernel⟩, List.mem_of_getElem? (i := 159) (by decide +kernel), List.mem_of_getElem? (i := 259) (by decide +kernel), List.mem_of_getElem? (i := 260) (by decide +kernel)⟩
theorem lw_p1 : lw_okq (⟨"OneRankGrid", "errorOfTelling", "(III)I"⟩, 8) := ⟨⟨by decide +kernel, by decide +kernel⟩, List.mem_of_getElem? (i := 14) (by decide +kernel), List.mem_of_getElem? (i := 284) (by decide +kernel), List.mem_of_getElem? (i := 285) (by decide +kernel)⟩
theorem lw_p2 : lw_okq (⟨"OneRankGrid$Parts", "spread", "(LOneRankGrid$Grid;)V"⟩, 6) := ⟨⟨by decide +kernel, by decide +kernel⟩, List.mem_of_getElem? (i := 55) (by decide +kernel), List.mem_of_getElem? (i := 317) (by decide +kernel), List.mem_of_getElem? (i := 318) (by decide +kernel)⟩
theorem lw_p3 : lw_okq (⟨"OneRankGrid$Parts", "reachOver", "(LOneRankGrid$Grid;II)Z"⟩, 6) := ⟨⟨by decide +kernel, by decide +kernel⟩, List.mem_of_getElem? (i := 55) (by decide +kernel), List.mem_of_getElem? (i := 326) (by decide +kernel), List.mem_of_getElem? (i := 327) (by decide +kernel)⟩
theorem lw_p4 : lw_okq (⟨"OneRankGrid$Parts", "allToldAreProducts", "(LOneRankGrid$Grid;)Z"⟩, 6) := ⟨⟨by decide +kernel, by decide +kernel⟩, List.mem_of_getElem? (i := 55) (by decide +kernel), List.mem_of_getElem? (i := 338) (by decide +kernel), List.mem_of_getElem? (i := 339) (by decide +kernel)⟩
theorem lw_p5 : lw_okq (⟨"OneRankGrid", "countOfParts", "(I)I"⟩, 8) := ⟨⟨by decide +kernel, by decide +kernel⟩, List.mem_of_getElem? (i := 14) (by decide +kernel), List.mem_of_getElem? (i := 440) (by decide +kernel), List.mem_of_getElem? (i := 441) (by decide +kernel)⟩
theorem lw_p6 : lw_okq (⟨"OneRankGrid$Minors", "countBelow", "(LOneRankGrid$Grid;IIZ)I"⟩, 1) := ⟨⟨by decide +kernel, by decide +kernel⟩, List.mem_of_getElem? (i := 126) (by decide +kernel), List.mem_of_getElem? (i := 454) (by decide +kernel), List.mem_of_getElem? (i := 455) (by decide +kernel)⟩
theorem lw_p7 : lw_okq (⟨"OneRankGrid$Minors", "rankOf", "(LOneRankGrid$Grid;I)I"⟩, 1) := ⟨⟨by decide +kernel, by decide +kernel⟩, List.mem_of_getElem? (i := 126) (by decide +kernel), List.mem_of_getElem? (i := 466) (by decide +kernel), List.mem_of_getElem? (i := 467) (by decide +kernel)⟩
theorem lw_p8 : lw_okq (⟨"OneRankGrid$Minors", "bringUp", "(III)Z"⟩, 1) := ⟨⟨by decide +kernel, by decide +kernel⟩, List.mem_of_getElem? (i := 126) (by decide +kernel), List.mem_of_getElem? (i := 475) (by decide +kernel), List.mem_of_getElem? (i := 476) (by decide +kernel)⟩
theorem lw_p9 : lw_okq (⟨"OneRankGrid$Minors", "eliminate", "(LOneRankGrid$Grid;III)V"⟩, 1) := ⟨⟨by decide +kernel, by decide +kernel⟩, List.mem_of_getElem? (i := 126) (by decide +kernel), List.mem_of_getElem? (i := 485) (by decide +kernel), List.mem_of_getElem? (i := 486) (by decide +kernel)⟩
theorem lw_p10 : lw_okq (⟨"OneRankGrid$Rings", "walk", "(III)V"⟩, 11) := ⟨⟨by decide +kernel, by decide +kernel⟩, List.mem_of_getElem? (i := 82) (by decide +kernel), List.mem_of_getElem? (i := 517) (by decide +kernel), List.mem_of_getElem? (i := 518) (by decide +kernel)⟩
theorem lw_p11 : lw_okq (⟨"OneRankGrid$Rings", "lead", "(III)Z"⟩, 11) := ⟨⟨by decide +kernel, by decide +kernel⟩, List.mem_of_getElem? (i := 82) (by decide +kernel), List.mem_of_getElem? (i := 521) (by decide +kernel), List.mem_of_getElem? (i := 522) (by decide +kernel)⟩
theorem lw_p12 : lw_okq (⟨"OneRankGrid$Rings", "findRatios", "(III)V"⟩, 11) := ⟨⟨by decide +kernel, by decide +kernel⟩, List.mem_of_getElem? (i := 82) (by decide +kernel), List.mem_of_getElem? (i := 526) (by decide +kernel), List.mem_of_getElem? (i := 527) (by decide +kernel)⟩
theorem lw_p13 : lw_okq (⟨"OneRankGrid$Rings", "forgetSetsOf", "(I)V"⟩, 11) := ⟨⟨by decide +kernel, by decide +kernel⟩, List.mem_of_getElem? (i := 82) (by decide +kernel), List.mem_of_getElem? (i := 533) (by decide +kernel), List.mem_of_getElem? (i := 534) (by decide +kernel)⟩
theorem lw_p14 : lw_okq (⟨"OneRankGrid$Rings", "leadOn", "(II)Z"⟩, 11) := ⟨⟨by decide +kernel, by decide +kernel⟩, List.mem_of_getElem? (i := 82) (by decide +kernel), List.mem_of_getElem? (i := 538) (by decide +kernel), List.mem_of_getElem? (i := 539) (by decide +kernel)⟩
theorem lw_p15 : lw_okq (⟨"OneRankGrid$Rings", "collect", "(I)V"⟩, 11) := ⟨⟨by decide +kernel, by decide +kernel⟩, List.mem_of_getElem? (i := 82) (by decide +kernel), List.mem_of_getElem? (i := 543) (by decide +kernel), List.mem_of_getElem? (i := 544) (by decide +kernel)⟩
def lw_privs_1 : List (MethodName × Nat) := [(⟨"OneRankGrid$History", "pastAt", "(I)LOneRankGrid$Grid;"⟩, 3), (⟨"OneRankGrid", "errorOfTelling", "(III)I"⟩, 8), (⟨"OneRankGrid$Parts", "spread", "(LOneRankGrid$Grid;)V"⟩, 6), (⟨"OneRankGrid$Parts", "reachOver", "(LOneRankGrid$Grid;II)Z"⟩, 6), (⟨"OneRankGrid$Parts", "allToldAreProducts", "(LOneRankGrid$Grid;)Z"⟩, 6), (⟨"OneRankGrid", "countOfParts", "(I)I"⟩, 8), (⟨"OneRankGrid$Minors", "countBelow", "(LOneRankGrid$Grid;IIZ)I"⟩, 1), (⟨"OneRankGrid$Minors", "rankOf", "(LOneRankGrid$Grid;I)I"⟩, 1), (⟨"OneRankGrid$Minors", "bringUp", "(III)Z"⟩, 1), (⟨"OneRankGrid$Minors", "eliminate", "(LOneRankGrid$Grid;III)V"⟩, 1), (⟨"OneRankGrid$Rings", "walk", "(III)V"⟩, 11), (⟨"OneRankGrid$Rings", "lead", "(III)Z"⟩, 11), (⟨"OneRankGrid$Rings", "findRatios", "(III)V"⟩, 11), (⟨"OneRankGrid$Rings", "forgetSetsOf", "(I)V"⟩, 11), (⟨"OneRankGrid$Rings", "leadOn", "(II)Z"⟩, 11), (⟨"OneRankGrid$Rings", "collect", "(I)V"⟩, 11)]
theorem lw_r1 : ∀ q ∈ lw_privs_1, lw_okq q := List.forall_mem_cons.mpr ⟨lw_p0, List.forall_mem_cons.mpr ⟨lw_p1, List.forall_mem_cons.mpr ⟨lw_p2, List.forall_mem_cons.mpr ⟨lw_p3, List.forall_mem_cons.mpr ⟨lw_p4, List.forall_mem_cons.mpr ⟨lw_p5, List.forall_mem_cons.mpr ⟨lw_p6, List.forall_mem_cons.mpr ⟨lw_p7, List.forall_mem_cons.mpr ⟨lw_p8, List.forall_mem_cons.mpr ⟨lw_p9, List.forall_mem_cons.mpr ⟨lw_p10, List.forall_mem_cons.mpr ⟨lw_p11, List.forall_mem_cons.mpr ⟨lw_p12, List.forall_mem_cons.mpr ⟨lw_p13, List.forall_mem_cons.mpr ⟨lw_p14, List.forall_mem_cons.mpr ⟨lw_p15, fun _ h => absurd h List.not_mem_nil⟩⟩⟩⟩⟩⟩⟩⟩⟩⟩⟩⟩⟩⟩⟩⟩
theorem lw_p16 : lw_okq (⟨"OneRankGrid$Rings", "noteWrong", "(III)V"⟩, 11) := ⟨⟨by decide +kernel, by decide +kernel⟩, List.mem_of_getElem? (i := 82) (by decide +kernel), List.mem_of_getElem? (i := 547) (by decide +kernel), List.mem_of_getElem? (i := 548) (by decide +kernel)⟩
theorem lw_p17 : lw_okq (⟨"OneRankGrid", "shortestWrongTurns", "()I"⟩, 8) := ⟨⟨by decide +kernel, by decide +kernel⟩, List.mem_of_getElem? (i := 14) (by decide +kernel), List.mem_of_getElem? (i := 563) (by decide +kernel), List.mem_of_getElem? (i := 564) (by decide +kernel)⟩
theorem lw_p18 : lw_okq (⟨"OneRankGrid", "countCompletions", "()J"⟩, 8) := ⟨⟨by decide +kernel, by decide +kernel⟩, List.mem_of_getElem? (i := 14) (by decide +kernel), List.mem_of_getElem? (i := 579) (by decide +kernel), List.mem_of_getElem? (i := 580) (by decide +kernel)⟩
theorem lw_p19 : lw_okq (⟨"OneRankGrid", "factorOf", "(JI)I"⟩, 8) := ⟨⟨by decide +kernel, by decide +kernel⟩, List.mem_of_getElem? (i := 14) (by decide +kernel), List.mem_of_getElem? (i := 591) (by decide +kernel), List.mem_of_getElem? (i := 592) (by decide +kernel)⟩
theorem lw_p20 : lw_okq (⟨"OneRankGrid", "slotAt", "(I)LOneRankGrid$Slot;"⟩, 8) := ⟨⟨by decide +kernel, by decide +kernel⟩, List.mem_of_getElem? (i := 14) (by decide +kernel), List.mem_of_getElem? (i := 652) (by decide +kernel), List.mem_of_getElem? (i := 653) (by decide +kernel)⟩
theorem lw_p21 : lw_okq (⟨"OneRankGridModel", "toldMany", "()I"⟩, 22) := ⟨⟨by decide +kernel, by decide +kernel⟩, List.mem_of_getElem? (i := 673) (by decide +kernel), List.mem_of_getElem? (i := 759) (by decide +kernel), List.mem_of_getElem? (i := 760) (by decide +kernel)⟩
theorem lw_p22 : lw_okq (⟨"OneRankGridModel", "record", "()V"⟩, 22) := ⟨⟨by decide +kernel, by decide +kernel⟩, List.mem_of_getElem? (i := 673) (by decide +kernel), List.mem_of_getElem? (i := 767) (by decide +kernel), List.mem_of_getElem? (i := 768) (by decide +kernel)⟩
theorem lw_p23 : lw_okq (⟨"OneRankGridModel", "isEntry", "(II)Z"⟩, 22) := ⟨⟨by decide +kernel, by decide +kernel⟩, List.mem_of_getElem? (i := 673) (by decide +kernel), List.mem_of_getElem? (i := 779) (by decide +kernel), List.mem_of_getElem? (i := 780) (by decide +kernel)⟩
theorem lw_p24 : lw_okq (⟨"OneRankGridModel", "at", "(II)I"⟩, 22) := ⟨⟨by decide +kernel, by decide +kernel⟩, List.mem_of_getElem? (i := 673) (by decide +kernel), List.mem_of_getElem? (i := 783) (by decide +kernel), List.mem_of_getElem? (i := 784) (by decide +kernel)⟩
theorem lw_p25 : lw_okq (⟨"OneRankGridModel", "layParts", "()V"⟩, 22) := ⟨⟨by decide +kernel, by decide +kernel⟩, List.mem_of_getElem? (i := 673) (by decide +kernel), List.mem_of_getElem? (i := 791) (by decide +kernel), List.mem_of_getElem? (i := 792) (by decide +kernel)⟩
theorem lw_p26 : lw_okq (⟨"OneRankGridModel", "spread", "(I)V"⟩, 22) := ⟨⟨by decide +kernel, by decide +kernel⟩, List.mem_of_getElem? (i := 673) (by decide +kernel), List.mem_of_getElem? (i := 795) (by decide +kernel), List.mem_of_getElem? (i := 796) (by decide +kernel)⟩
theorem lw_p27 : lw_okq (⟨"OneRankGridModel", "over", "(I)I"⟩, 22) := ⟨⟨by decide +kernel, by decide +kernel⟩, List.mem_of_getElem? (i := 673) (by decide +kernel), List.mem_of_getElem? (i := 799) (by decide +kernel), List.mem_of_getElem? (i := 800) (by decide +kernel)⟩
theorem lw_p28 : lw_okq (⟨"OneRankGridModel", "times", "(II)I"⟩, 22) := ⟨⟨by decide +kernel, by decide +kernel⟩, List.mem_of_getElem? (i := 673) (by decide +kernel), List.mem_of_getElem? (i := 803) (by decide +kernel), List.mem_of_getElem? (i := 804) (by decide +kernel)⟩
theorem lw_p29 : lw_okq (⟨"OneRankGridModel", "follows", "(II)I"⟩, 22) := ⟨⟨by decide +kernel, by decide +kernel⟩, List.mem_of_getElem? (i := 673) (by decide +kernel), List.mem_of_getElem? (i := 811) (by decide +kernel), List.mem_of_getElem? (i := 812) (by decide +kernel)⟩
theorem lw_p30 : lw_okq (⟨"OneRankGridModel", "followsWithout", "(II)I"⟩, 22) := ⟨⟨by decide +kernel, by decide +kernel⟩, List.mem_of_getElem? (i := 673) (by decide +kernel), List.mem_of_getElem? (i := 815) (by decide +kernel), List.mem_of_getElem? (i := 816) (by decide +kernel)⟩
theorem lw_p31 : lw_okq (⟨"OneRankGridModel", "minorsWith", "(II)I"⟩, 22) := ⟨⟨by decide +kernel, by decide +kernel⟩, List.mem_of_getElem? (i := 673) (by decide +kernel), List.mem_of_getElem? (i := 819) (by decide +kernel), List.mem_of_getElem? (i := 820) (by decide +kernel)⟩
def lw_privs_2 : List (MethodName × Nat) := [(⟨"OneRankGrid$Rings", "noteWrong", "(III)V"⟩, 11), (⟨"OneRankGrid", "shortestWrongTurns", "()I"⟩, 8), (⟨"OneRankGrid", "countCompletions", "()J"⟩, 8), (⟨"OneRankGrid", "factorOf", "(JI)I"⟩, 8), (⟨"OneRankGrid", "slotAt", "(I)LOneRankGrid$Slot;"⟩, 8), (⟨"OneRankGridModel", "toldMany", "()I"⟩, 22), (⟨"OneRankGridModel", "record", "()V"⟩, 22), (⟨"OneRankGridModel", "isEntry", "(II)Z"⟩, 22), (⟨"OneRankGridModel", "at", "(II)I"⟩, 22), (⟨"OneRankGridModel", "layParts", "()V"⟩, 22), (⟨"OneRankGridModel", "spread", "(I)V"⟩, 22), (⟨"OneRankGridModel", "over", "(I)I"⟩, 22), (⟨"OneRankGridModel", "times", "(II)I"⟩, 22), (⟨"OneRankGridModel", "follows", "(II)I"⟩, 22), (⟨"OneRankGridModel", "followsWithout", "(II)I"⟩, 22), (⟨"OneRankGridModel", "minorsWith", "(II)I"⟩, 22)]
theorem lw_r2 : ∀ q ∈ lw_privs_2, lw_okq q := List.forall_mem_cons.mpr ⟨lw_p16, List.forall_mem_cons.mpr ⟨lw_p17, List.forall_mem_cons.mpr ⟨lw_p18, List.forall_mem_cons.mpr ⟨lw_p19, List.forall_mem_cons.mpr ⟨lw_p20, List.forall_mem_cons.mpr ⟨lw_p21, List.forall_mem_cons.mpr ⟨lw_p22, List.forall_mem_cons.mpr ⟨lw_p23, List.forall_mem_cons.mpr ⟨lw_p24, List.forall_mem_cons.mpr ⟨lw_p25, List.forall_mem_cons.mpr ⟨lw_p26, List.forall_mem_cons.mpr ⟨lw_p27, List.forall_mem_cons.mpr ⟨lw_p28, List.forall_mem_cons.mpr ⟨lw_p29, List.forall_mem_cons.mpr ⟨lw_p30, List.forall_mem_cons.mpr ⟨lw_p31, fun _ h => absurd h List.not_mem_nil⟩⟩⟩⟩⟩⟩⟩⟩⟩⟩⟩⟩⟩⟩⟩⟩
theorem lw_p32 : lw_okq (⟨"OneRankGridModel", "rowsOf", "(I)I"⟩, 22) := ⟨⟨by decide +kernel, by decide +kernel⟩, List.mem_of_getElem? (i := 673) (by decide +kernel), List.mem_of_getElem? (i := 827) (by decide +kernel), List.mem_of_getElem? (i := 828) (by decide +kernel)⟩
theorem lw_p33 : lw_okq (⟨"OneRankGridModel", "columnsOf", "(I)I"⟩, 22) := ⟨⟨by decide +kernel, by decide +kernel⟩, List.mem_of_getElem? (i := 673) (by decide +kernel), List.mem_of_getElem? (i := 831) (by decide +kernel), List.mem_of_getElem? (i := 832) (by decide +kernel)⟩
theorem lw_p34 : lw_okq (⟨"OneRankGridModel", "toldIn", "(I)I"⟩, 22) := ⟨⟨by decide +kernel, by decide +kernel⟩, List.mem_of_getElem? (i := 673) (by decide +kernel), List.mem_of_getElem? (i := 835) (by decide +kernel), List.mem_of_getElem? (i := 836) (by decide +kernel)⟩
theorem lw_p35 : lw_okq (⟨"OneRankGridModel", "inParts", "()I"⟩, 22) := ⟨⟨by decide +kernel, by decide +kernel⟩, List.mem_of_getElem? (i := 673) (by decide +kernel), List.mem_of_getElem? (i := 843) (by decide +kernel), List.mem_of_getElem? (i := 844) (by decide +kernel)⟩
theorem lw_p36 : lw_okq (⟨"OneRankGridModel", "minors", "(Z)I"⟩, 22) := ⟨⟨by decide +kernel, by decide +kernel⟩, List.mem_of_getElem? (i := 673) (by decide +kernel), List.mem_of_getElem? (i := 847) (by decide +kernel), List.mem_of_getElem? (i := 848) (by decide +kernel)⟩
theorem lw_p37 : lw_okq (⟨"OneRankGridModel", "rankBound", "()I"⟩, 22) := ⟨⟨by decide +kernel, by decide +kernel⟩, List.mem_of_getElem? (i := 673) (by decide +kernel), List.mem_of_getElem? (i := 851) (by decide +kernel), List.mem_of_getElem? (i := 852) (by decide +kernel)⟩
theorem lw_p38 : lw_okq (⟨"OneRankGridModel", "rankBy", "(I)I"⟩, 22) := ⟨⟨by decide +kernel, by decide +kernel⟩, List.mem_of_getElem? (i := 673) (by decide +kernel), List.mem_of_getElem? (i := 855) (by decide +kernel), List.mem_of_getElem? (i := 856) (by decide +kernel)⟩
theorem lw_p39 : lw_okq (⟨"OneRankGridModel", "areTold", "(II)Z"⟩, 22) := ⟨⟨by decide +kernel, by decide +kernel⟩, List.mem_of_getElem? (i := 673) (by decide +kernel), List.mem_of_getElem? (i := 859) (by decide +kernel), List.mem_of_getElem? (i := 860) (by decide +kernel)⟩
theorem lw_p40 : lw_okq (⟨"OneRankGridModel", "rankOf", "(II)I"⟩, 22) := ⟨⟨by decide +kernel, by decide +kernel⟩, List.mem_of_getElem? (i := 673) (by decide +kernel), List.mem_of_getElem? (i := 863) (by decide +kernel), List.mem_of_getElem? (i := 864) (by decide +kernel)⟩
theorem lw_p41 : lw_okq (⟨"OneRankGridModel", "exchange", "(III)V"⟩, 22) := ⟨⟨by decide +kernel, by decide +kernel⟩, List.mem_of_getElem? (i := 673) (by decide +kernel), List.mem_of_getElem? (i := 867) (by decide +kernel), List.mem_of_getElem? (i := 868) (by decide +kernel)⟩
theorem lw_p42 : lw_okq (⟨"OneRankGridModel", "clearBy", "(IIII)V"⟩, 22) := ⟨⟨by decide +kernel, by decide +kernel⟩, List.mem_of_getElem? (i := 673) (by decide +kernel), List.mem_of_getElem? (i := 871) (by decide +kernel), List.mem_of_getElem? (i := 872) (by decide +kernel)⟩
theorem lw_p43 : lw_okq (⟨"OneRankGridModel", "goCycles", "(I)V"⟩, 22) := ⟨⟨by decide +kernel, by decide +kernel⟩, List.mem_of_getElem? (i := 673) (by decide +kernel), List.mem_of_getElem? (i := 879) (by decide +kernel), List.mem_of_getElem? (i := 880) (by decide +kernel)⟩
theorem lw_p44 : lw_okq (⟨"OneRankGridModel", "canStand", "(II)Z"⟩, 22) := ⟨⟨by decide +kernel, by decide +kernel⟩, List.mem_of_getElem? (i := 673) (by decide +kernel), List.mem_of_getElem? (i := 883) (by decide +kernel), List.mem_of_getElem? (i := 884) (by decide +kernel)⟩
theorem lw_p45 : lw_okq (⟨"OneRankGridModel", "meet", "(I)V"⟩, 22) := ⟨⟨by decide +kernel, by decide +kernel⟩, List.mem_of_getElem? (i := 673) (by decide +kernel), List.mem_of_getElem? (i := 887) (by decide +kernel), List.mem_of_getElem? (i := 888) (by decide +kernel)⟩
theorem lw_p46 : lw_okq (⟨"OneRankGridModel", "isWrong", "(I)Z"⟩, 22) := ⟨⟨by decide +kernel, by decide +kernel⟩, List.mem_of_getElem? (i := 673) (by decide +kernel), List.mem_of_getElem? (i := 891) (by decide +kernel), List.mem_of_getElem? (i := 892) (by decide +kernel)⟩
theorem lw_p47 : lw_okq (⟨"OneRankGridModel", "factorOf", "(JI)I"⟩, 22) := ⟨⟨by decide +kernel, by decide +kernel⟩, List.mem_of_getElem? (i := 673) (by decide +kernel), List.mem_of_getElem? (i := 908) (by decide +kernel), List.mem_of_getElem? (i := 909) (by decide +kernel)⟩
def lw_privs_3 : List (MethodName × Nat) := [(⟨"OneRankGridModel", "rowsOf", "(I)I"⟩, 22), (⟨"OneRankGridModel", "columnsOf", "(I)I"⟩, 22), (⟨"OneRankGridModel", "toldIn", "(I)I"⟩, 22), (⟨"OneRankGridModel", "inParts", "()I"⟩, 22), (⟨"OneRankGridModel", "minors", "(Z)I"⟩, 22), (⟨"OneRankGridModel", "rankBound", "()I"⟩, 22), (⟨"OneRankGridModel", "rankBy", "(I)I"⟩, 22), (⟨"OneRankGridModel", "areTold", "(II)Z"⟩, 22), (⟨"OneRankGridModel", "rankOf", "(II)I"⟩, 22), (⟨"OneRankGridModel", "exchange", "(III)V"⟩, 22), (⟨"OneRankGridModel", "clearBy", "(IIII)V"⟩, 22), (⟨"OneRankGridModel", "goCycles", "(I)V"⟩, 22), (⟨"OneRankGridModel", "canStand", "(II)Z"⟩, 22), (⟨"OneRankGridModel", "meet", "(I)V"⟩, 22), (⟨"OneRankGridModel", "isWrong", "(I)Z"⟩, 22), (⟨"OneRankGridModel", "factorOf", "(JI)I"⟩, 22)]
theorem lw_r3 : ∀ q ∈ lw_privs_3, lw_okq q := List.forall_mem_cons.mpr ⟨lw_p32, List.forall_mem_cons.mpr ⟨lw_p33, List.forall_mem_cons.mpr ⟨lw_p34, List.forall_mem_cons.mpr ⟨lw_p35, List.forall_mem_cons.mpr ⟨lw_p36, List.forall_mem_cons.mpr ⟨lw_p37, List.forall_mem_cons.mpr ⟨lw_p38, List.forall_mem_cons.mpr ⟨lw_p39, List.forall_mem_cons.mpr ⟨lw_p40, List.forall_mem_cons.mpr ⟨lw_p41, List.forall_mem_cons.mpr ⟨lw_p42, List.forall_mem_cons.mpr ⟨lw_p43, List.forall_mem_cons.mpr ⟨lw_p44, List.forall_mem_cons.mpr ⟨lw_p45, List.forall_mem_cons.mpr ⟨lw_p46, List.forall_mem_cons.mpr ⟨lw_p47, fun _ h => absurd h List.not_mem_nil⟩⟩⟩⟩⟩⟩⟩⟩⟩⟩⟩⟩⟩⟩⟩⟩
theorem lw_p48 : lw_okq (⟨"OneRankGridModel", "isWellWith", "(II)Z"⟩, 22) := ⟨⟨by decide +kernel, by decide +kernel⟩, List.mem_of_getElem? (i := 673) (by decide +kernel), List.mem_of_getElem? (i := 916) (by decide +kernel), List.mem_of_getElem? (i := 917) (by decide +kernel)⟩
theorem lw_p49 : lw_okq (⟨"OneRankGridModel", "gain", "(II)I"⟩, 22) := ⟨⟨by decide +kernel, by decide +kernel⟩, List.mem_of_getElem? (i := 673) (by decide +kernel), List.mem_of_getElem? (i := 929) (by decide +kernel), List.mem_of_getElem? (i := 930) (by decide +kernel)⟩
theorem lw_p50 : lw_okq (⟨"OneRankGridModel", "readPad", "()I"⟩, 22) := ⟨⟨by decide +kernel, by decide +kernel⟩, List.mem_of_getElem? (i := 673) (by decide +kernel), List.mem_of_getElem? (i := 949) (by decide +kernel), List.mem_of_getElem? (i := 950) (by decide +kernel)⟩
def lw_privs_4 : List (MethodName × Nat) := [(⟨"OneRankGridModel", "isWellWith", "(II)Z"⟩, 22), (⟨"OneRankGridModel", "gain", "(II)I"⟩, 22), (⟨"OneRankGridModel", "readPad", "()I"⟩, 22)]
theorem lw_r4 : ∀ q ∈ lw_privs_4, lw_okq q := List.forall_mem_cons.mpr ⟨lw_p48, List.forall_mem_cons.mpr ⟨lw_p49, List.forall_mem_cons.mpr ⟨lw_p50, fun _ h => absurd h List.not_mem_nil⟩⟩⟩
def lw_privs : List (MethodName × Nat) := lw_privs_1 ++ (lw_privs_2 ++ (lw_privs_3 ++ (lw_privs_4)))
def lw_tbl : List Cond := k2_sels lw_privs ++ tables_1
theorem lw_privs_ok : ∀ q ∈ lw_privs, lw_okq q := by
  show ∀ q ∈ lw_privs_1 ++ (lw_privs_2 ++ (lw_privs_3 ++ (lw_privs_4))), lw_okq q
  exact List.forall_mem_append.mpr ⟨lw_r1, List.forall_mem_append.mpr ⟨lw_r2, List.forall_mem_append.mpr ⟨lw_r3, lw_r4⟩⟩⟩
-- ===== end of PART A; then your names; then what follows =====
end
section
def RX0 : String := "OneRankGrid$Grid"
def TX0 : u_T := fun k => match k with
  | 0 => ("OneRankGrid$Grid", "numbers", "LOneRankGrid$Numbers;", true)
  | 1 => ("OneRankGrid$Grid", "rows", "I", false)
  | 2 => ("OneRankGrid$Grid", "columns", "I", false)
  | _ => ("OneRankGrid$Grid", "modulus", "I", false)
def tyX0 : Nat → FieldType := fun k => match k with
  | 0 => .object "OneRankGrid$Numbers"
  | 1 => .int
  | 2 => .int
  | _ => .int
abbrev wsX00 : List Cond := u_ws RX0 TX0 4
theorem nmX0 : ∀ a, a < 4 → ∀ b, b < 4 → a ≠ b → (TX0 a).2.1 ≠ (TX0 b).2.1 := by decide +kernel
theorem tyX0_ok : ∀ k, k < 4 → parseFieldDescriptor (TX0 k).2.2.1 = some (tyX0 k) := by decide +kernel
abbrev cX0_init : ByteArray := prog_2_method_1_code
def yX0_init : MethodName := ⟨RX0, "<init>", "()V"⟩
abbrev cX0_rows : ByteArray := prog_2_method_2_code
def yX0_rows : MethodName := ⟨RX0, "rows", "()I"⟩
abbrev cX0_columns : ByteArray := prog_2_method_3_code
def yX0_columns : MethodName := ⟨RX0, "columns", "()I"⟩
abbrev cX0_modulus : ByteArray := prog_2_method_4_code
def yX0_modulus : MethodName := ⟨RX0, "modulus", "()I"⟩
abbrev cX0_clear : ByteArray := prog_2_method_5_code
def yX0_clear : MethodName := ⟨RX0, "clear", "(III)V"⟩
abbrev cX0_copyFrom : ByteArray := prog_2_method_6_code
def yX0_copyFrom : MethodName := ⟨RX0, "copyFrom", "(LOneRankGrid$Grid;)V"⟩
abbrev cX0_has : ByteArray := prog_2_method_7_code
def yX0_has : MethodName := ⟨RX0, "has", "(II)Z"⟩
abbrev cX0_number : ByteArray := prog_2_method_8_code
def yX0_number : MethodName := ⟨RX0, "number", "(II)I"⟩
abbrev cX0_setNumber : ByteArray := prog_2_method_9_code
def yX0_setNumber : MethodName := ⟨RX0, "setNumber", "(III)V"⟩
abbrev cX0_toldInRow : ByteArray := prog_2_method_10_code
def yX0_toldInRow : MethodName := ⟨RX0, "toldInRow", "(I)I"⟩
abbrev cX0_toldCount : ByteArray := prog_2_method_11_code
def yX0_toldCount : MethodName := ⟨RX0, "toldCount", "()I"⟩
abbrev cX0_product : ByteArray := prog_2_method_12_code
def yX0_product : MethodName := ⟨RX0, "product", "(II)I"⟩
abbrev cX0_remainder : ByteArray := prog_2_method_13_code
def yX0_remainder : MethodName := ⟨RX0, "remainder", "(I)I"⟩
abbrev cX0_quotient : ByteArray := prog_2_method_14_code
def yX0_quotient : MethodName := ⟨RX0, "quotient", "(II)I"⟩
def RX1 : String := "OneRankGrid$History"
def TX1 : u_T := fun k => match k with
  | 0 => ("OneRankGrid$History", "past", "[LOneRankGrid$Grid;", true)
  | 1 => ("OneRankGrid$History", "oldest", "I", false)
  | _ => ("OneRankGrid$History", "size", "I", false)
def tyX1 : Nat → FieldType := fun k => match k with
  | 0 => .array (.object "OneRankGrid$Grid")
  | 1 => .int
  | _ => .int
abbrev wsX10 : List Cond := u_ws RX1 TX1 3
theorem nmX1 : ∀ a, a < 3 → ∀ b, b < 3 → a ≠ b → (TX1 a).2.1 ≠ (TX1 b).2.1 := by decide +kernel
theorem tyX1_ok : ∀ k, k < 3 → parseFieldDescriptor (TX1 k).2.2.1 = some (tyX1 k) := by decide +kernel
abbrev cX1_init : ByteArray := prog_3_method_1_code
def yX1_init : MethodName := ⟨RX1, "<init>", "()V"⟩
abbrev cX1_size : ByteArray := prog_3_method_2_code
def yX1_size : MethodName := ⟨RX1, "size", "()I"⟩
abbrev cX1_record : ByteArray := prog_3_method_3_code
def yX1_record : MethodName := ⟨RX1, "record", "(LOneRankGrid$Grid;)V"⟩
abbrev cX1_takeLatest : ByteArray := prog_3_method_4_code
def yX1_takeLatest : MethodName := ⟨RX1, "takeLatest", "()LOneRankGrid$Grid;"⟩
abbrev cX1_pastAt : ByteArray := prog_3_method_5_code
def yX1_pastAt : MethodName := ⟨RX1, "pastAt", "(I)LOneRankGrid$Grid;"⟩
def RX2 : String := "OneRankGrid$Minors"
def TX2 : u_T := fun k => match k with
  | _ => ("OneRankGrid$Minors", "matrix", "LOneRankGrid$Numbers;", true)
def tyX2 : Nat → FieldType := fun k => match k with
  | _ => .object "OneRankGrid$Numbers"
abbrev wsX20 : List Cond := u_ws RX2 TX2 1
theorem nmX2 : ∀ a, a < 1 → ∀ b, b < 1 → a ≠ b → (TX2 a).2.1 ≠ (TX2 b).2.1 := by decide +kernel
theorem tyX2_ok : ∀ k, k < 1 → parseFieldDescriptor (TX2 k).2.2.1 = some (tyX2 k) := by decide +kernel
abbrev cX2_init : ByteArray := prog_4_method_1_code
def yX2_init : MethodName := ⟨RX2, "<init>", "()V"⟩
abbrev cX2_countAll : ByteArray := prog_4_method_2_code
def yX2_countAll : MethodName := ⟨RX2, "countAll", "(LOneRankGrid$Grid;Z)I"⟩
abbrev cX2_countBelow : ByteArray := prog_4_method_3_code
def yX2_countBelow : MethodName := ⟨RX2, "countBelow", "(LOneRankGrid$Grid;IIZ)I"⟩
abbrev cX2_countThrough : ByteArray := prog_4_method_4_code
def yX2_countThrough : MethodName := ⟨RX2, "countThrough", "(LOneRankGrid$Grid;II)I"⟩
abbrev cX2_isMinor : ByteArray := prog_4_method_5_code
def yX2_isMinor : MethodName := ⟨RX2, "isMinor", "(LOneRankGrid$Grid;IIII)Z"⟩
abbrev cX2_isZero : ByteArray := prog_4_method_6_code
def yX2_isZero : MethodName := ⟨RX2, "isZero", "(LOneRankGrid$Grid;IIII)Z"⟩
abbrev cX2_leastRank : ByteArray := prog_4_method_7_code
def yX2_leastRank : MethodName := ⟨RX2, "leastRank", "(LOneRankGrid$Grid;)I"⟩
abbrev cX2_rankOf : ByteArray := prog_4_method_8_code
def yX2_rankOf : MethodName := ⟨RX2, "rankOf", "(LOneRankGrid$Grid;I)I"⟩
abbrev cX2_bringUp : ByteArray := prog_4_method_9_code
def yX2_bringUp : MethodName := ⟨RX2, "bringUp", "(III)Z"⟩
abbrev cX2_eliminate : ByteArray := prog_4_method_10_code
def yX2_eliminate : MethodName := ⟨RX2, "eliminate", "(LOneRankGrid$Grid;III)V"⟩
def RX3 : String := "OneRankGrid$Numbers"
def TX3 : u_T := fun k => match k with
  | _ => ("OneRankGrid$Numbers", "numbers", "[I", true)
def tyX3 : Nat → FieldType := fun k => match k with
  | _ => .array .int
abbrev wsX30 : List Cond := u_ws RX3 TX3 1
theorem nmX3 : ∀ a, a < 1 → ∀ b, b < 1 → a ≠ b → (TX3 a).2.1 ≠ (TX3 b).2.1 := by decide +kernel
theorem tyX3_ok : ∀ k, k < 1 → parseFieldDescriptor (TX3 k).2.2.1 = some (tyX3 k) := by decide +kernel
abbrev cX3_init : ByteArray := prog_5_method_1_code
def yX3_init : MethodName := ⟨RX3, "<init>", "(I)V"⟩
abbrev cX3_get : ByteArray := prog_5_method_2_code
def yX3_get : MethodName := ⟨RX3, "get", "(I)I"⟩
abbrev cX3_set : ByteArray := prog_5_method_3_code
def yX3_set : MethodName := ⟨RX3, "set", "(II)V"⟩
abbrev cX3_setEach : ByteArray := prog_5_method_4_code
def yX3_setEach : MethodName := ⟨RX3, "setEach", "(I)V"⟩
abbrev cX3_copyFrom : ByteArray := prog_5_method_5_code
def yX3_copyFrom : MethodName := ⟨RX3, "copyFrom", "(LOneRankGrid$Numbers;)V"⟩
abbrev cX3_swap : ByteArray := prog_5_method_6_code
def yX3_swap : MethodName := ⟨RX3, "swap", "(II)V"⟩
def RX4 : String := "OneRankGrid$Pad"
def TX4 : u_T := fun k => match k with
  | 0 => ("OneRankGrid$Pad", "codes", "LOneRankGrid$Numbers;", true)
  | 1 => ("OneRankGrid$Pad", "length", "I", false)
  | 2 => ("OneRankGrid$Pad", "rows", "I", false)
  | _ => ("OneRankGrid$Pad", "columns", "I", false)
def tyX4 : Nat → FieldType := fun k => match k with
  | 0 => .object "OneRankGrid$Numbers"
  | 1 => .int
  | 2 => .int
  | _ => .int
abbrev wsX40 : List Cond := u_ws RX4 TX4 4
theorem nmX4 : ∀ a, a < 4 → ∀ b, b < 4 → a ≠ b → (TX4 a).2.1 ≠ (TX4 b).2.1 := by decide +kernel
theorem tyX4_ok : ∀ k, k < 4 → parseFieldDescriptor (TX4 k).2.2.1 = some (tyX4 k) := by decide +kernel
abbrev cX4_init : ByteArray := prog_6_method_1_code
def yX4_init : MethodName := ⟨RX4, "<init>", "()V"⟩
abbrev cX4_length : ByteArray := prog_6_method_2_code
def yX4_length : MethodName := ⟨RX4, "length", "()I"⟩
abbrev cX4_empty : ByteArray := prog_6_method_3_code
def yX4_empty : MethodName := ⟨RX4, "empty", "()V"⟩
abbrev cX4_append : ByteArray := prog_6_method_4_code
def yX4_append : MethodName := ⟨RX4, "append", "(I)V"⟩
abbrev cX4_scan : ByteArray := prog_6_method_5_code
def yX4_scan : MethodName := ⟨RX4, "scan", "()I"⟩
abbrev cX4_rows : ByteArray := prog_6_method_6_code
def yX4_rows : MethodName := ⟨RX4, "rows", "()I"⟩
abbrev cX4_columns : ByteArray := prog_6_method_7_code
def yX4_columns : MethodName := ⟨RX4, "columns", "()I"⟩
abbrev cX4_number : ByteArray := prog_6_method_8_code
def yX4_number : MethodName := ⟨RX4, "number", "(II)I"⟩
abbrev cX4_greatestNumber : ByteArray := prog_6_method_9_code
def yX4_greatestNumber : MethodName := ⟨RX4, "greatestNumber", "()I"⟩
abbrev cX4_signOf : ByteArray := prog_6_method_10_code
def yX4_signOf : MethodName := ⟨RX4, "signOf", "(I)I"⟩
def RX5 : String := "OneRankGrid$Parts"
def TX5 : u_T := fun k => match k with
  | 0 => ("OneRankGrid$Parts", "rowParts", "LOneRankGrid$Numbers;", true)
  | 1 => ("OneRankGrid$Parts", "columnParts", "LOneRankGrid$Numbers;", true)
  | 2 => ("OneRankGrid$Parts", "rowNumbers", "LOneRankGrid$Numbers;", true)
  | 3 => ("OneRankGrid$Parts", "columnNumbers", "LOneRankGrid$Numbers;", true)
  | 4 => ("OneRankGrid$Parts", "size", "I", false)
  | _ => ("OneRankGrid$Parts", "consistent", "Z", false)
def tyX5 : Nat → FieldType := fun k => match k with
  | 0 => .object "OneRankGrid$Numbers"
  | 1 => .object "OneRankGrid$Numbers"
  | 2 => .object "OneRankGrid$Numbers"
  | 3 => .object "OneRankGrid$Numbers"
  | 4 => .int
  | _ => .boolean
abbrev wsX50 : List Cond := u_ws RX5 TX5 6
theorem nmX5 : ∀ a, a < 6 → ∀ b, b < 6 → a ≠ b → (TX5 a).2.1 ≠ (TX5 b).2.1 := by decide +kernel
theorem tyX5_ok : ∀ k, k < 6 → parseFieldDescriptor (TX5 k).2.2.1 = some (tyX5 k) := by decide +kernel
abbrev cX5_init : ByteArray := prog_7_method_1_code
def yX5_init : MethodName := ⟨RX5, "<init>", "()V"⟩
abbrev cX5_find : ByteArray := prog_7_method_2_code
def yX5_find : MethodName := ⟨RX5, "find", "(LOneRankGrid$Grid;)V"⟩
abbrev cX5_spread : ByteArray := prog_7_method_3_code
def yX5_spread : MethodName := ⟨RX5, "spread", "(LOneRankGrid$Grid;)V"⟩
abbrev cX5_reachOver : ByteArray := prog_7_method_4_code
def yX5_reachOver : MethodName := ⟨RX5, "reachOver", "(LOneRankGrid$Grid;II)Z"⟩
abbrev cX5_allToldAreProducts : ByteArray := prog_7_method_5_code
def yX5_allToldAreProducts : MethodName := ⟨RX5, "allToldAreProducts", "(LOneRankGrid$Grid;)Z"⟩
abbrev cX5_size : ByteArray := prog_7_method_6_code
def yX5_size : MethodName := ⟨RX5, "size", "()I"⟩
abbrev cX5_isConsistent : ByteArray := prog_7_method_7_code
def yX5_isConsistent : MethodName := ⟨RX5, "isConsistent", "()Z"⟩
abbrev cX5_partOfRow : ByteArray := prog_7_method_8_code
def yX5_partOfRow : MethodName := ⟨RX5, "partOfRow", "(I)I"⟩
abbrev cX5_partOfColumn : ByteArray := prog_7_method_9_code
def yX5_partOfColumn : MethodName := ⟨RX5, "partOfColumn", "(I)I"⟩
abbrev cX5_areJoined : ByteArray := prog_7_method_10_code
def yX5_areJoined : MethodName := ⟨RX5, "areJoined", "(II)Z"⟩
abbrev cX5_product : ByteArray := prog_7_method_11_code
def yX5_product : MethodName := ⟨RX5, "product", "(LOneRankGrid$Grid;II)I"⟩
abbrev cX5_following : ByteArray := prog_7_method_12_code
def yX5_following : MethodName := ⟨RX5, "following", "(LOneRankGrid$Grid;II)I"⟩
abbrev cX5_rowsOf : ByteArray := prog_7_method_13_code
def yX5_rowsOf : MethodName := ⟨RX5, "rowsOf", "(I)I"⟩
abbrev cX5_columnsOf : ByteArray := prog_7_method_14_code
def yX5_columnsOf : MethodName := ⟨RX5, "columnsOf", "(I)I"⟩
abbrev cX5_membersOf : ByteArray := prog_7_method_15_code
def yX5_membersOf : MethodName := ⟨RX5, "membersOf", "(LOneRankGrid$Numbers;I)I"⟩
abbrev cX5_toldIn : ByteArray := prog_7_method_16_code
def yX5_toldIn : MethodName := ⟨RX5, "toldIn", "(LOneRankGrid$Grid;I)I"⟩
abbrev cX5_joinedEntries : ByteArray := prog_7_method_17_code
def yX5_joinedEntries : MethodName := ⟨RX5, "joinedEntries", "()I"⟩
abbrev cX5_gain : ByteArray := prog_7_method_18_code
def yX5_gain : MethodName := ⟨RX5, "gain", "(II)I"⟩
def RX6 : String := "OneRankGrid$Rings"
def TX6 : u_T := fun k => match k with
  | 0 => ("OneRankGrid$Rings", "grid", "LOneRankGrid$Grid;", true)
  | 1 => ("OneRankGrid$Rings", "toldInRow", "LOneRankGrid$Numbers;", true)
  | 2 => ("OneRankGrid$Rings", "ways", "LOneRankGrid$Numbers;", true)
  | 3 => ("OneRankGrid$Rings", "ratios", "LOneRankGrid$Numbers;", true)
  | 4 => ("OneRankGrid$Rings", "turns", "I", false)
  | 5 => ("OneRankGrid$Rings", "home", "I", false)
  | 6 => ("OneRankGrid$Rings", "greatestRatio", "I", false)
  | 7 => ("OneRankGrid$Rings", "all", "I", false)
  | 8 => ("OneRankGrid$Rings", "wrongOnes", "I", false)
  | 9 => ("OneRankGrid$Rings", "wrongRows", "I", false)
  | _ => ("OneRankGrid$Rings", "wrongColumns", "I", false)
def tyX6 : Nat → FieldType := fun k => match k with
  | 0 => .object "OneRankGrid$Grid"
  | 1 => .object "OneRankGrid$Numbers"
  | 2 => .object "OneRankGrid$Numbers"
  | 3 => .object "OneRankGrid$Numbers"
  | 4 => .int
  | 5 => .int
  | 6 => .int
  | 7 => .int
  | 8 => .int
  | 9 => .int
  | _ => .int
abbrev wsX60 : List Cond := u_ws RX6 TX6 11
theorem nmX6 : ∀ a, a < 11 → ∀ b, b < 11 → a ≠ b → (TX6 a).2.1 ≠ (TX6 b).2.1 := by decide +kernel
theorem tyX6_ok : ∀ k, k < 11 → parseFieldDescriptor (TX6 k).2.2.1 = some (tyX6 k) := by decide +kernel
abbrev cX6_init : ByteArray := prog_8_method_1_code
def yX6_init : MethodName := ⟨RX6, "<init>", "()V"⟩
abbrev cX6_search : ByteArray := prog_8_method_2_code
def yX6_search : MethodName := ⟨RX6, "search", "(LOneRankGrid$Grid;IZ)V"⟩
abbrev cX6_walk : ByteArray := prog_8_method_3_code
def yX6_walk : MethodName := ⟨RX6, "walk", "(III)V"⟩
abbrev cX6_lead : ByteArray := prog_8_method_4_code
def yX6_lead : MethodName := ⟨RX6, "lead", "(III)Z"⟩
abbrev cX6_findRatios : ByteArray := prog_8_method_5_code
def yX6_findRatios : MethodName := ⟨RX6, "findRatios", "(III)V"⟩
abbrev cX6_leadOn : ByteArray := prog_8_method_6_code
def yX6_leadOn : MethodName := ⟨RX6, "leadOn", "(II)Z"⟩
abbrev cX6_forgetSetsOf : ByteArray := prog_8_method_7_code
def yX6_forgetSetsOf : MethodName := ⟨RX6, "forgetSetsOf", "(I)V"⟩
abbrev cX6_collect : ByteArray := prog_8_method_8_code
def yX6_collect : MethodName := ⟨RX6, "collect", "(I)V"⟩
abbrev cX6_noteWrong : ByteArray := prog_8_method_9_code
def yX6_noteWrong : MethodName := ⟨RX6, "noteWrong", "(III)V"⟩
abbrev cX6_all : ByteArray := prog_8_method_10_code
def yX6_all : MethodName := ⟨RX6, "all", "()I"⟩
abbrev cX6_wrongOnes : ByteArray := prog_8_method_11_code
def yX6_wrongOnes : MethodName := ⟨RX6, "wrongOnes", "()I"⟩
abbrev cX6_wrongRows : ByteArray := prog_8_method_12_code
def yX6_wrongRows : MethodName := ⟨RX6, "wrongRows", "()I"⟩
abbrev cX6_wrongColumns : ByteArray := prog_8_method_13_code
def yX6_wrongColumns : MethodName := ⟨RX6, "wrongColumns", "()I"⟩
def RX7 : String := "OneRankGrid$Slot"
def TX7 : u_T := fun k => match k with
  | 0 => ("OneRankGrid$Slot", "saved", "LOneRankGrid$Grid;", true)
  | _ => ("OneRankGrid$Slot", "filled", "Z", false)
def tyX7 : Nat → FieldType := fun k => match k with
  | 0 => .object "OneRankGrid$Grid"
  | _ => .boolean
abbrev wsX70 : List Cond := u_ws RX7 TX7 2
theorem nmX7 : ∀ a, a < 2 → ∀ b, b < 2 → a ≠ b → (TX7 a).2.1 ≠ (TX7 b).2.1 := by decide +kernel
theorem tyX7_ok : ∀ k, k < 2 → parseFieldDescriptor (TX7 k).2.2.1 = some (tyX7 k) := by decide +kernel
abbrev cX7_init : ByteArray := prog_9_method_1_code
def yX7_init : MethodName := ⟨RX7, "<init>", "()V"⟩
abbrev cX7_isFilled : ByteArray := prog_9_method_2_code
def yX7_isFilled : MethodName := ⟨RX7, "isFilled", "()Z"⟩
abbrev cX7_keep : ByteArray := prog_9_method_3_code
def yX7_keep : MethodName := ⟨RX7, "keep", "(LOneRankGrid$Grid;)V"⟩
abbrev cX7_giveTo : ByteArray := prog_9_method_4_code
def yX7_giveTo : MethodName := ⟨RX7, "giveTo", "(LOneRankGrid$Grid;)V"⟩
def RX8 : String := "OneRankGrid"
def TX8 : u_T := fun k => match k with
  | 0 => ("OneRankGrid", "grid", "LOneRankGrid$Grid;", true)
  | 1 => ("OneRankGrid", "trial", "LOneRankGrid$Grid;", true)
  | 2 => ("OneRankGrid", "parts", "LOneRankGrid$Parts;", true)
  | 3 => ("OneRankGrid", "rings", "LOneRankGrid$Rings;", true)
  | 4 => ("OneRankGrid", "minors", "LOneRankGrid$Minors;", true)
  | 5 => ("OneRankGrid", "pad", "LOneRankGrid$Pad;", true)
  | 6 => ("OneRankGrid", "history", "LOneRankGrid$History;", true)
  | _ => ("OneRankGrid", "slots", "[LOneRankGrid$Slot;", true)
def tyX8 : Nat → FieldType := fun k => match k with
  | 0 => .object "OneRankGrid$Grid"
  | 1 => .object "OneRankGrid$Grid"
  | 2 => .object "OneRankGrid$Parts"
  | 3 => .object "OneRankGrid$Rings"
  | 4 => .object "OneRankGrid$Minors"
  | 5 => .object "OneRankGrid$Pad"
  | 6 => .object "OneRankGrid$History"
  | _ => .array (.object "OneRankGrid$Slot")
abbrev wsX80 : List Cond := u_ws RX8 TX8 8
theorem nmX8 : ∀ a, a < 8 → ∀ b, b < 8 → a ≠ b → (TX8 a).2.1 ≠ (TX8 b).2.1 := by decide +kernel
theorem tyX8_ok : ∀ k, k < 8 → parseFieldDescriptor (TX8 k).2.2.1 = some (tyX8 k) := by decide +kernel
abbrev cX8_init : ByteArray := prog_1_method_1_code
def yX8_init : MethodName := ⟨RX8, "<init>", "()V"⟩
abbrev cX8_begin : ByteArray := prog_1_method_2_code
def yX8_begin : MethodName := ⟨RX8, "begin", "(III)I"⟩
abbrev cX8_tell : ByteArray := prog_1_method_3_code
def yX8_tell : MethodName := ⟨RX8, "tell", "(III)I"⟩
abbrev cX8_tellAll : ByteArray := prog_1_method_4_code
def yX8_tellAll : MethodName := ⟨RX8, "tellAll", "()I"⟩
abbrev cX8_read : ByteArray := prog_1_method_5_code
def yX8_read : MethodName := ⟨RX8, "read", "()I"⟩
abbrev cX8_entry : ByteArray := prog_1_method_6_code
def yX8_entry : MethodName := ⟨RX8, "entry", "(III)I"⟩
abbrev cX8_part : ByteArray := prog_1_method_7_code
def yX8_part : MethodName := ⟨RX8, "part", "(II)I"⟩
abbrev cX8_count : ByteArray := prog_1_method_8_code
def yX8_count : MethodName := ⟨RX8, "count", "(I)I"⟩
abbrev cX8_countOfParts : ByteArray := prog_1_method_9_code
def yX8_countOfParts : MethodName := ⟨RX8, "countOfParts", "(I)I"⟩
abbrev cX8_cycles : ByteArray := prog_1_method_10_code
def yX8_cycles : MethodName := ⟨RX8, "cycles", "(II)I"⟩
abbrev cX8_wrong : ByteArray := prog_1_method_11_code
def yX8_wrong : MethodName := ⟨RX8, "wrong", "(I)I"⟩
abbrev cX8_shortestWrongTurns : ByteArray := prog_1_method_12_code
def yX8_shortestWrongTurns : MethodName := ⟨RX8, "shortestWrongTurns", "()I"⟩
abbrev cX8_completions : ByteArray := prog_1_method_13_code
def yX8_completions : MethodName := ⟨RX8, "completions", "()J"⟩
abbrev cX8_completed : ByteArray := prog_1_method_14_code
def yX8_completed : MethodName := ⟨RX8, "completed", "(JII)I"⟩
abbrev cX8_countCompletions : ByteArray := prog_1_method_15_code
def yX8_countCompletions : MethodName := ⟨RX8, "countCompletions", "()J"⟩
abbrev cX8_factorOf : ByteArray := prog_1_method_16_code
def yX8_factorOf : MethodName := ⟨RX8, "factorOf", "(JI)I"⟩
abbrev cX8_isWellIf : ByteArray := prog_1_method_17_code
def yX8_isWellIf : MethodName := ⟨RX8, "isWellIf", "(III)I"⟩
abbrev cX8_spoilers : ByteArray := prog_1_method_18_code
def yX8_spoilers : MethodName := ⟨RX8, "spoilers", "()J"⟩
abbrev cX8_bestEntry : ByteArray := prog_1_method_19_code
def yX8_bestEntry : MethodName := ⟨RX8, "bestEntry", "(I)I"⟩
abbrev cX8_put : ByteArray := prog_1_method_20_code
def yX8_put : MethodName := ⟨RX8, "put", "(J)I"⟩
abbrev cX8_wipe : ByteArray := prog_1_method_21_code
def yX8_wipe : MethodName := ⟨RX8, "wipe", "()I"⟩
abbrev cX8_fault : ByteArray := prog_1_method_22_code
def yX8_fault : MethodName := ⟨RX8, "fault", "()I"⟩
abbrev cX8_sizeOf : ByteArray := prog_1_method_23_code
def yX8_sizeOf : MethodName := ⟨RX8, "sizeOf", "(J)I"⟩
abbrev cX8_undo : ByteArray := prog_1_method_24_code
def yX8_undo : MethodName := ⟨RX8, "undo", "()I"⟩
abbrev cX8_save : ByteArray := prog_1_method_25_code
def yX8_save : MethodName := ⟨RX8, "save", "(I)I"⟩
abbrev cX8_restore : ByteArray := prog_1_method_26_code
def yX8_restore : MethodName := ⟨RX8, "restore", "(I)I"⟩
abbrev cX8_slotAt : ByteArray := prog_1_method_27_code
def yX8_slotAt : MethodName := ⟨RX8, "slotAt", "(I)LOneRankGrid$Slot;"⟩
abbrev cX8_errorOfTelling : ByteArray := prog_1_method_28_code
def yX8_errorOfTelling : MethodName := ⟨RX8, "errorOfTelling", "(III)I"⟩
abbrev cX8_isOutside : ByteArray := prog_1_method_29_code
def yX8_isOutside : MethodName := ⟨RX8, "isOutside", "(III)Z"⟩
abbrev cX8_isModulus : ByteArray := prog_1_method_30_code
def yX8_isModulus : MethodName := ⟨RX8, "isModulus", "(I)Z"⟩
abbrev cX8_holds : ByteArray := prog_1_method_31_code
def yX8_holds : MethodName := ⟨RX8, "holds", "(II)Z"⟩
def RX9 : String := "OneRankGridModel"
def TX9 : u_T := fun k => match k with
  | 0 => ("OneRankGridModel", "z", "[I", true)
  | 1 => ("OneRankGridModel", "past", "[I", true)
  | 2 => ("OneRankGridModel", "slots", "[I", true)
  | 3 => ("OneRankGridModel", "isSaved", "[Z", true)
  | 4 => ("OneRankGridModel", "pastMany", "I", false)
  | 5 => ("OneRankGridModel", "pad", "[C", true)
  | 6 => ("OneRankGridModel", "typed", "I", false)
  | 7 => ("OneRankGridModel", "rowPart", "[I", true)
  | 8 => ("OneRankGridModel", "columnPart", "[I", true)
  | 9 => ("OneRankGridModel", "rowNumber", "[I", true)
  | 10 => ("OneRankGridModel", "columnNumber", "[I", true)
  | 11 => ("OneRankGridModel", "partMany", "I", false)
  | 12 => ("OneRankGridModel", "isWell", "Z", false)
  | 13 => ("OneRankGridModel", "work", "[I", true)
  | 14 => ("OneRankGridModel", "ring", "[I", true)
  | 15 => ("OneRankGridModel", "allCycles", "I", false)
  | 16 => ("OneRankGridModel", "wrongCycles", "I", false)
  | 17 => ("OneRankGridModel", "wrongRows", "I", false)
  | 18 => ("OneRankGridModel", "wrongColumns", "I", false)
  | 19 => ("OneRankGridModel", "read", "[I", true)
  | 20 => ("OneRankGridModel", "readRows", "I", false)
  | _ => ("OneRankGridModel", "readColumns", "I", false)
def tyX9 : Nat → FieldType := fun k => match k with
  | 0 => .array .int
  | 1 => .array .int
  | 2 => .array .int
  | 3 => .array .boolean
  | 4 => .int
  | 5 => .array .char
  | 6 => .int
  | 7 => .array .int
  | 8 => .array .int
  | 9 => .array .int
  | 10 => .array .int
  | 11 => .int
  | 12 => .boolean
  | 13 => .array .int
  | 14 => .array .int
  | 15 => .int
  | 16 => .int
  | 17 => .int
  | 18 => .int
  | 19 => .array .int
  | 20 => .int
  | _ => .int
abbrev wsX90 : List Cond := u_ws RX9 TX9 22
theorem nmX9 : ∀ a, a < 22 → ∀ b, b < 22 → a ≠ b → (TX9 a).2.1 ≠ (TX9 b).2.1 := by decide +kernel
theorem tyX9_ok : ∀ k, k < 22 → parseFieldDescriptor (TX9 k).2.2.1 = some (tyX9 k) := by decide +kernel
abbrev cX9_init : ByteArray := prog_11_method_1_code
def yX9_init : MethodName := ⟨RX9, "<init>", "()V"⟩
abbrev cX9_in : ByteArray := prog_11_method_2_code
def yX9_in : MethodName := ⟨RX9, "in", "(III)Z"⟩
abbrev cX9_isEntry : ByteArray := prog_11_method_3_code
def yX9_isEntry : MethodName := ⟨RX9, "isEntry", "(II)Z"⟩
abbrev cX9_record : ByteArray := prog_11_method_4_code
def yX9_record : MethodName := ⟨RX9, "record", "()V"⟩
abbrev cX9_undo : ByteArray := prog_11_method_5_code
def yX9_undo : MethodName := ⟨RX9, "undo", "()I"⟩
abbrev cX9_toldMany : ByteArray := prog_11_method_6_code
def yX9_toldMany : MethodName := ⟨RX9, "toldMany", "()I"⟩
abbrev cX9_save : ByteArray := prog_11_method_7_code
def yX9_save : MethodName := ⟨RX9, "save", "(I)I"⟩
abbrev cX9_restore : ByteArray := prog_11_method_8_code
def yX9_restore : MethodName := ⟨RX9, "restore", "(I)I"⟩
abbrev cX9_times : ByteArray := prog_11_method_9_code
def yX9_times : MethodName := ⟨RX9, "times", "(II)I"⟩
abbrev cX9_over : ByteArray := prog_11_method_10_code
def yX9_over : MethodName := ⟨RX9, "over", "(I)I"⟩
abbrev cX9_at : ByteArray := prog_11_method_11_code
def yX9_at : MethodName := ⟨RX9, "at", "(II)I"⟩
abbrev cX9_spread : ByteArray := prog_11_method_12_code
def yX9_spread : MethodName := ⟨RX9, "spread", "(I)V"⟩
abbrev cX9_layParts : ByteArray := prog_11_method_13_code
def yX9_layParts : MethodName := ⟨RX9, "layParts", "()V"⟩
abbrev cX9_isWellWith : ByteArray := prog_11_method_14_code
def yX9_isWellWith : MethodName := ⟨RX9, "isWellWith", "(II)Z"⟩
abbrev cX9_begin : ByteArray := prog_11_method_15_code
def yX9_begin : MethodName := ⟨RX9, "begin", "(III)I"⟩
abbrev cX9_tell : ByteArray := prog_11_method_16_code
def yX9_tell : MethodName := ⟨RX9, "tell", "(III)I"⟩
abbrev cX9_tellAll : ByteArray := prog_11_method_17_code
def yX9_tellAll : MethodName := ⟨RX9, "tellAll", "()I"⟩
abbrev cX9_follows : ByteArray := prog_11_method_18_code
def yX9_follows : MethodName := ⟨RX9, "follows", "(II)I"⟩
abbrev cX9_followsWithout : ByteArray := prog_11_method_19_code
def yX9_followsWithout : MethodName := ⟨RX9, "followsWithout", "(II)I"⟩
abbrev cX9_minorsWith : ByteArray := prog_11_method_20_code
def yX9_minorsWith : MethodName := ⟨RX9, "minorsWith", "(II)I"⟩
abbrev cX9_entry : ByteArray := prog_11_method_21_code
def yX9_entry : MethodName := ⟨RX9, "entry", "(III)I"⟩
abbrev cX9_rowsOf : ByteArray := prog_11_method_22_code
def yX9_rowsOf : MethodName := ⟨RX9, "rowsOf", "(I)I"⟩
abbrev cX9_columnsOf : ByteArray := prog_11_method_23_code
def yX9_columnsOf : MethodName := ⟨RX9, "columnsOf", "(I)I"⟩
abbrev cX9_toldIn : ByteArray := prog_11_method_24_code
def yX9_toldIn : MethodName := ⟨RX9, "toldIn", "(I)I"⟩
abbrev cX9_part : ByteArray := prog_11_method_25_code
def yX9_part : MethodName := ⟨RX9, "part", "(II)I"⟩
abbrev cX9_inParts : ByteArray := prog_11_method_26_code
def yX9_inParts : MethodName := ⟨RX9, "inParts", "()I"⟩
abbrev cX9_minors : ByteArray := prog_11_method_27_code
def yX9_minors : MethodName := ⟨RX9, "minors", "(Z)I"⟩
abbrev cX9_areTold : ByteArray := prog_11_method_28_code
def yX9_areTold : MethodName := ⟨RX9, "areTold", "(II)Z"⟩
abbrev cX9_clearBy : ByteArray := prog_11_method_29_code
def yX9_clearBy : MethodName := ⟨RX9, "clearBy", "(IIII)V"⟩
abbrev cX9_exchange : ByteArray := prog_11_method_30_code
def yX9_exchange : MethodName := ⟨RX9, "exchange", "(III)V"⟩
abbrev cX9_rankOf : ByteArray := prog_11_method_31_code
def yX9_rankOf : MethodName := ⟨RX9, "rankOf", "(II)I"⟩
abbrev cX9_rankBy : ByteArray := prog_11_method_32_code
def yX9_rankBy : MethodName := ⟨RX9, "rankBy", "(I)I"⟩
abbrev cX9_rankBound : ByteArray := prog_11_method_33_code
def yX9_rankBound : MethodName := ⟨RX9, "rankBound", "()I"⟩
abbrev cX9_count : ByteArray := prog_11_method_34_code
def yX9_count : MethodName := ⟨RX9, "count", "(I)I"⟩
abbrev cX9_isWrong : ByteArray := prog_11_method_35_code
def yX9_isWrong : MethodName := ⟨RX9, "isWrong", "(I)Z"⟩
abbrev cX9_meet : ByteArray := prog_11_method_36_code
def yX9_meet : MethodName := ⟨RX9, "meet", "(I)V"⟩
abbrev cX9_canStand : ByteArray := prog_11_method_37_code
def yX9_canStand : MethodName := ⟨RX9, "canStand", "(II)Z"⟩
abbrev cX9_goCycles : ByteArray := prog_11_method_38_code
def yX9_goCycles : MethodName := ⟨RX9, "goCycles", "(I)V"⟩
abbrev cX9_cycles : ByteArray := prog_11_method_39_code
def yX9_cycles : MethodName := ⟨RX9, "cycles", "(II)I"⟩
abbrev cX9_wrong : ByteArray := prog_11_method_40_code
def yX9_wrong : MethodName := ⟨RX9, "wrong", "(I)I"⟩
abbrev cX9_completions : ByteArray := prog_11_method_41_code
def yX9_completions : MethodName := ⟨RX9, "completions", "()J"⟩
abbrev cX9_factorOf : ByteArray := prog_11_method_42_code
def yX9_factorOf : MethodName := ⟨RX9, "factorOf", "(JI)I"⟩
abbrev cX9_completed : ByteArray := prog_11_method_43_code
def yX9_completed : MethodName := ⟨RX9, "completed", "(JII)I"⟩
abbrev cX9_isWellIf : ByteArray := prog_11_method_44_code
def yX9_isWellIf : MethodName := ⟨RX9, "isWellIf", "(III)I"⟩
abbrev cX9_spoilers : ByteArray := prog_11_method_45_code
def yX9_spoilers : MethodName := ⟨RX9, "spoilers", "()J"⟩
abbrev cX9_bits : ByteArray := prog_11_method_46_code
def yX9_bits : MethodName := ⟨RX9, "bits", "(I)I"⟩
abbrev cX9_gain : ByteArray := prog_11_method_47_code
def yX9_gain : MethodName := ⟨RX9, "gain", "(II)I"⟩
abbrev cX9_bestEntry : ByteArray := prog_11_method_48_code
def yX9_bestEntry : MethodName := ⟨RX9, "bestEntry", "(I)I"⟩
abbrev cX9_put : ByteArray := prog_11_method_49_code
def yX9_put : MethodName := ⟨RX9, "put", "(J)I"⟩
abbrev cX9_wipe : ByteArray := prog_11_method_50_code
def yX9_wipe : MethodName := ⟨RX9, "wipe", "()I"⟩
abbrev cX9_numberOf : ByteArray := prog_11_method_51_code
def yX9_numberOf : MethodName := ⟨RX9, "numberOf", "(I)I"⟩
abbrev cX9_readPad : ByteArray := prog_11_method_52_code
def yX9_readPad : MethodName := ⟨RX9, "readPad", "()I"⟩
abbrev cX9_fault : ByteArray := prog_11_method_53_code
def yX9_fault : MethodName := ⟨RX9, "fault", "()I"⟩
abbrev cX9_read : ByteArray := prog_11_method_54_code
def yX9_read : MethodName := ⟨RX9, "read", "()I"⟩
def RJ6 : String := "java/lang/Integer"
def TJ6 : u_T := fun k => match k with
  | _ => ("", "", "", false)
def tyJ6 : Nat → FieldType := fun k => match k with
  | _ => .int
abbrev wsJ60 : List Cond := u_ws RJ6 TJ6 0
theorem nmJ6 : ∀ a, a < 0 → ∀ b, b < 0 → a ≠ b → (TJ6 a).2.1 ≠ (TJ6 b).2.1 := by decide +kernel
theorem tyJ6_ok : ∀ k, k < 0 → parseFieldDescriptor (TJ6 k).2.2.1 = some (tyJ6 k) := by decide +kernel
abbrev cJ6_bitCount_0f7a4 : ByteArray := prog_12_method_49_code
def yJ6_bitCount_0f7a4 : MethodName := ⟨RJ6, "bitCount", "(I)I"⟩
def RJ9 : String := "java/lang/Math"
def TJ9 : u_T := fun k => match k with
  | _ => ("", "", "", false)
def tyJ9 : Nat → FieldType := fun k => match k with
  | _ => .int
abbrev wsJ90 : List Cond := u_ws RJ9 TJ9 0
theorem nmJ9 : ∀ a, a < 0 → ∀ b, b < 0 → a ≠ b → (TJ9 a).2.1 ≠ (TJ9 b).2.1 := by decide +kernel
theorem tyJ9_ok : ∀ k, k < 0 → parseFieldDescriptor (TJ9 k).2.2.1 = some (tyJ9 k) := by decide +kernel
abbrev cJ9_max_7cf53 : ByteArray := prog_13_method_65_code
def yJ9_max_7cf53 : MethodName := ⟨RJ9, "max", "(II)I"⟩
def RL : String := "OneRankGridLaw"
abbrev cL_law : ByteArray := code
def yL_law : MethodName := ⟨RL, "law", "([I)Z"⟩
abbrev vwCl : List vw_C := [(RX0, TX0, 4), (RX1, TX1, 3), (RX2, TX2, 1), (RX3, TX3, 1), (RX4, TX4, 4), (RX5, TX5, 6), (RX6, TX6, 11), (RX7, TX7, 2), (RX8, TX8, 8), (RX9, TX9, 22)]
end
section
/-! ===== the engine: abstract frames over relative addresses; one judgement, one rule an instruction ===== -/
abbrev sM : Type := MethodName × ByteArray × Nat × Option FieldType
abbrev sC : Type := (Nat × Nat × (Nat → Int32)) ⊕ ((Nat × Nat × (Nat → Option Nat)) ⊕ (Nat × List Value))
abbrev sH : Type := Nat × (Nat → sC)
abbrev sG : Type := Nat × va_G × (Nat → ClassId)
abbrev sB : Type := Nat × Nat × Nat × Nat
/-- a relative address stands for base + address; 'retAddr a' stands for the absolute reference a (the law's script) -/
def sTr (b : Nat) : Value → Value
  | .ref a => .ref (b + a)
  | .retAddr a => .ref a
  | v => v
def sE (G : sG) : sC → va_E
  | .inl x => .inl (G.2.2 x.1, (x.2.1, .inl x.2.2))
  | .inr (.inl x) => .inl (G.2.2 x.1, (x.2.1, .inr (.inr (.inr (.inr (fun j => (x.2.2 j).map (fun a => G.1 + a)))))))
  | .inr (.inr x) => .inr (x.1, x.2.map (sTr G.1))
def sW (G : sG) (h : sH) : va_W := (List.range h.1).map fun i => (G.1 + i, sE G (h.2 i))
def sJ : sC := .inr (.inr (99, []))
def sR (G : sG) (h : sH) (H : Heap) : Prop := va_P G.2.1 vwCl (sW G h) H ∧ H.size = G.1 + h.1 ∧ ∀ i, h.1 ≤ i → h.2 i = sJ
def sUp (h : sH) (k : Nat) (c : sC) : sH := (h.1, fun j => if j = k then c else h.2 j)
def sPush (h : sH) (c : sC) : sH := (h.1 + 1, fun j => if j = h.1 then c else h.2 j)
theorem sW_get {G : sG} {h : sH} {i : Nat} (hi : i < h.1) : (sW G h)[i]? = some (G.1 + i, sE G (h.2 i)) := by simp [sW, hi]
theorem sW_len {G : sG} {h : sH} : (sW G h).length = h.1 := by simp [sW]
theorem sW_of {G : sG} {h : sH} {i : Nat} {q : Nat × va_E} (hq : (sW G h)[i]? = some q) : i < h.1 ∧ q = (G.1 + i, sE G (h.2 i)) := by
  have hi : i < h.1 := by
    have := (List.getElem?_eq_some_iff.mp hq).1
    rwa [sW_len] at this
  exact ⟨hi, (Option.some.inj (hq.symm.trans (sW_get hi)))⟩
theorem sW_set {G : sG} {h : sH} {k : Nat} {c : sC} : (sW G h).set k (G.1 + k, sE G c) = sW G (sUp h k c) := by
  apply List.ext_getElem?
  intro i
  rw [List.getElem?_set]
  by_cases hk : k = i
  · subst hk
    rw [if_pos rfl, sW_len]
    by_cases hi : k < h.1
    · rw [if_pos hi, sW_get (h := sUp h k c) hi]
      simp [sUp]
    · rw [if_neg hi]
      exact (List.getElem?_eq_none (by rw [sW_len]; exact Nat.not_lt.mp hi)).symm
  · rw [if_neg hk]
    by_cases hi : i < h.1
    · rw [sW_get hi, sW_get (h := sUp h k c) hi]
      simp [sUp, Ne.symm hk]
    · rw [List.getElem?_eq_none (by rw [sW_len]; exact Nat.not_lt.mp hi), List.getElem?_eq_none (by rw [sW_len]; exact Nat.not_lt.mp hi)]
theorem sD (G : sG) (h : sH) : va_D (fun q => G.1 ≤ q) (sW G h) := by
  refine ⟨fun i j p q hi hj hpq => ?_, fun k q hk => ?_⟩
  · obtain ⟨-, rfl⟩ := sW_of hi
    obtain ⟨-, rfl⟩ := sW_of hj
    exact Nat.add_left_cancel hpq
  · obtain ⟨-, rfl⟩ := sW_of hk
    exact Nat.le_add_right _ _
theorem sR_lt {G : sG} {h : sH} {H : Heap} (hR : sR G h H) {a : Nat} (hc : h.2 a ≠ sJ) : a < h.1 := by
  rcases Nat.lt_or_ge a h.1 with q | q
  · exact q
  · exact absurd (hR.2.2 a q) hc
theorem sR_upd {G : sG} {h : sH} {H H1 : Heap} (hR : sR G h H) {a : Nat} (ha : a < h.1) {c : sC} (he : va_at G.2.1 vwCl (G.1 + a, sE G c) H1) (z : H1.size = H.size) (oq : ∀ q : Nat, q ≠ G.1 + a → H1[q]? = H[q]?) : sR G (sUp h a c) H1 := by
  refine ⟨?_, z.trans hR.2.1, fun i hi => ?_⟩
  · rw [← sW_set]
    exact hR.1.set (sD G h) (sW_get ha) he oq
  · show (if i = a then c else h.2 i) = sJ
    rw [if_neg (by have : h.1 ≤ i := hi; omega)]
    exact hR.2.2 i hi
theorem sR_push {G : sG} {h : sH} {H H1 : Heap} (hR : sR G h H) {c : sC} (he : va_at G.2.1 vwCl (G.1 + h.1, sE G c) H1) (z : H1.size = H.size + 1) (oq : ∀ q : Nat, q < H.size → H1[q]? = H[q]?) : sR G (sPush h c) H1 := by
  refine ⟨fun k q hq => ?_, ?_, fun i hi => ?_⟩
  · obtain ⟨hk, rfl⟩ := sW_of hq
    have hk' : k < h.1 + 1 := hk
    by_cases e : k = h.1
    · subst e
      simpa [sPush] using he
    · have hlt : k < h.1 := by omega
      have h1 := hR.1 k _ (sW_get hlt)
      have h2 : (sPush h c).2 k = h.2 k := by simp [sPush, e]
      rw [h2]
      exact h1.kept (oq (G.1 + k) (by rw [hR.2.1]; omega))
  · rw [z, hR.2.1]
    show _ = G.1 + (h.1 + 1)
    omega
  · have hi' : h.1 + 1 ≤ i := hi
    show (if i = h.1 then c else h.2 i) = sJ
    rw [if_neg (by omega)]
    exact hR.2.2 i (by omega)
-- what holds of the tables at every state
def sTys (G : sG) : List (ClassId × FieldType) := [(G.2.2 0, .int), (G.2.2 1, .char), (G.2.2 2, .boolean), (G.2.2 3, .object "OneRankGrid$Grid"), (G.2.2 4, .object "OneRankGrid$Slot")]
def sTyOf : Nat → FieldType
  | 0 => .int
  | 1 => .char
  | 2 => .boolean
  | 3 => .object "OneRankGrid$Grid"
  | _ => .object "OneRankGrid$Slot"
theorem sTys_get (G : sG) {t : Nat} (h : t < 5) : (sTys G)[t]? = some (G.2.2 t, sTyOf t) := by
  match t, h with
  | 0, _ => rfl
  | 1, _ => rfl
  | 2, _ => rfl
  | 3, _ => rfl
  | 4, _ => rfl
def sNest : List Cond := [
  .methodLinkNest RX8 9 yX0_init RX8, .methodLinkNest RX8 21 yX5_init RX8, .methodLinkNest RX8 28 yX6_init RX8, .methodLinkNest RX8 35 yX2_init RX8, .methodLinkNest RX8 42 yX4_init RX8, .methodLinkNest RX8 60 yX7_init RX8,
  .methodLinkNest RX1 17 yX0_init RX8, .methodLinkNest RX2 56 yX8_holds RX8, .methodLinkNest RX6 11 yX0_init RX8, .methodLinkNest RX6 84 yX8_holds RX8, .methodLinkNest RX7 9 yX0_init RX8]
def sNestW (w : Cond) : Prop := ∃ a i x h, w = Cond.methodLinkNest a i x h
def sBase (G : sG) (U : State) : Prop := va_K G.2.1 vwCl (sTys G) U ∧ (va_AO "OneRankGrid$Grid" U ∧ va_AO "OneRankGrid$Slot" U) ∧ ∀ w ∈ sNest, sNestW w ∧ va_Nw w U
theorem sBase.warm {G : sG} {s U : State} (hW : s.WarmedH U.vm) (h : sBase G s) : sBase G U := by
  refine ⟨va_K.moved hW.alike h.1, ⟨va_AO.moved hW.alike h.2.1.1, va_AO.moved hW.alike h.2.1.2⟩, fun w hw => ?_⟩
  obtain ⟨⟨a, i, x, hh, rfl⟩, h2⟩ := h.2.2 w hw
  exact ⟨⟨a, i, x, hh, rfl⟩, va_Nw.warmM hW h2⟩
theorem sBase.blind {G : sG} {U : State} {g : JFrame} {mk : MethodId} {a : Array Value} (h : sBase G U) : sBase G (U.calling g mk a) := by
  refine ⟨va_K.moved (u := U) (U := U.calling g mk a) (Vm.Alike.refl U.vm) h.1, ⟨va_AO.moved (u := U) (U := U.calling g mk a) (Vm.Alike.refl U.vm) h.2.1.1, va_AO.moved (u := U) (U := U.calling g mk a) (Vm.Alike.refl U.vm) h.2.1.2⟩, fun w hw => ?_⟩
  obtain ⟨⟨b, i, x, hh, rfl⟩, h2⟩ := h.2.2 w hw
  exact ⟨⟨b, i, x, hh, rfl⟩, va_Nw.same rfl (u := U) (U := U.calling g mk a) rfl h2⟩
def lw_good : List Cond := lw_tbl.filter goodWord
theorem lw_goodIn {w : Cond} (h : w ∈ lw_tbl) (hg : goodWord w = true) : w ∈ lw_good := List.mem_filter.mpr ⟨h, hg⟩
theorem lw_good_tbl {w : Cond} (h : w ∈ lw_good) : w ∈ lw_tbl := (List.mem_filter.mp h).1
theorem lw_good_word {w : Cond} (h : w ∈ lw_good) : goodWord w = true := (List.mem_filter.mp h).2
-- the locals: a list by slot, 'none' where nothing is known
def sLv (b : Nat) (lv : List (Option Value)) : List (Nat × Value) := (List.range lv.length).filterMap fun i => match lv[i]? with
  | some (some v) => some (i, sTr b v)
  | _ => none
theorem sLv_mem {b : Nat} {lv : List (Option Value)} {q : Nat × Value} : q ∈ sLv b lv ↔ ∃ v, lv[q.1]? = some (some v) ∧ q.2 = sTr b v := by
  obtain ⟨i, w⟩ := q
  unfold sLv
  rw [List.mem_filterMap]
  constructor
  · rintro ⟨j, hj, h⟩
    cases hl : lv[j]? with
    | none => rw [hl] at h; cases h
    | some o =>
      cases o with
      | none => rw [hl] at h; cases h
      | some v =>
        rw [hl] at h
        cases h
        exact ⟨v, hl, rfl⟩
  · rintro ⟨v, h1, h2⟩
    dsimp only at h1 h2
    subst h2
    refine ⟨i, List.mem_range.mpr (List.getElem?_eq_some_iff.mp h1).1, ?_⟩
    rw [h1]
def sL (b nL : Nat) (lv : List (Option Value)) (ls : Array Slot) : Prop := lv_has ls nL (sLv b lv)
theorem sL_at {b nL : Nat} {lv : List (Option Value)} {ls : Array Slot} (h : sL b nL lv ls) {i : Nat} {v : Value} (hi : lv[i]? = some (some v)) : ls[i]? = some (.val (sTr b v)) := h.2.2 (i, sTr b v) (sLv_mem.mpr ⟨v, hi, rfl⟩)
theorem sTr_cat (b : Nat) (v : Value) : (sTr b v).category = v.category := by cases v <;> rfl
theorem sTr_sum (b : Nat) (st : List Value) : ((st.map (sTr b)).map fun v => v.category).sum = (st.map fun v => v.category).sum := by
  congr 1
  rw [List.map_map]
  exact List.map_congr_left fun v _ => sTr_cat b v
/-- the slot below a store holds no long -/
def sNoL (lv : List (Option Value)) (i : Nat) : Prop := ∀ j v, j + 1 = i → lv[j]? = some (some v) → v.category = 1
theorem sL_set1 {b nL : Nat} {lv : List (Option Value)} {ls' : Array Slot} {i : Nat} {v : Value} (hn : sNoL lv i) (h : lv_has ls' nL ((i, sTr b v) :: (sLv b lv).filter (fun q => !(q.1 == i) && !(q.1 + 1 == i && q.2.category == 2)))) : sL b nL (lv.set i (some v)) ls' := by
  refine ⟨h.1, h.2.1, fun q hq => ?_⟩
  obtain ⟨w, h1, h2⟩ := sLv_mem.mp hq
  by_cases hi : i = q.1
  · rw [List.getElem?_set, if_pos hi] at h1
    split at h1
    · cases h1
      exact h.2.2 q (by rw [show q = (i, sTr b v) from Prod.ext hi.symm h2]; exact List.mem_cons_self)
    · cases h1
  · rw [List.getElem?_set, if_neg hi] at h1
    refine h.2.2 q (List.mem_cons_of_mem _ (List.mem_filter.mpr ⟨sLv_mem.mpr ⟨w, h1, h2⟩, ?_⟩))
    have hi' : ¬ q.1 = i := fun e => hi e.symm
    by_cases h3 : q.1 + 1 = i
    · have := hn q.1 w h3 h1
      rw [h2, sTr_cat, this]
      simp [hi']
    · simp [hi', h3]
theorem sL_set2 {b nL : Nat} {lv : List (Option Value)} {ls' : Array Slot} {i : Nat} {v : Value} (hn : sNoL lv i) (h : lv_has ls' nL ((i, sTr b v) :: (sLv b lv).filter (fun q => !(q.1 == i) && (!(q.1 == i + 1) && !(q.1 + 1 == i && q.2.category == 2))))) : sL b nL ((lv.set i (some v)).set (i + 1) none) ls' := by
  refine ⟨h.1, h.2.1, fun q hq => ?_⟩
  obtain ⟨w, h1, h2⟩ := sLv_mem.mp hq
  by_cases hj : i + 1 = q.1
  · rw [List.getElem?_set, if_pos hj] at h1
    split at h1 <;> cases h1
  · rw [List.getElem?_set, if_neg hj] at h1
    by_cases hi : i = q.1
    · rw [List.getElem?_set, if_pos hi] at h1
      split at h1
      · cases h1
        exact h.2.2 q (by rw [show q = (i, sTr b v) from Prod.ext hi.symm h2]; exact List.mem_cons_self)
      · cases h1
    · rw [List.getElem?_set, if_neg hi] at h1
      refine h.2.2 q (List.mem_cons_of_mem _ (List.mem_filter.mpr ⟨sLv_mem.mpr ⟨w, h1, h2⟩, ?_⟩))
      have hi' : ¬ q.1 = i := fun e => hi e.symm
      have hj' : ¬ q.1 = i + 1 := fun e => hj e.symm
      by_cases h3 : q.1 + 1 = i
      · have := hn q.1 w h3 h1
        rw [h2, sTr_cat, this]
        simp [hi', hj']
      · simp [hi', hj', h3]
-- the judgement
abbrev sK : Type := (sG → State → Array Value → Method → Prop) × (sG → State → Array Value → List Frame → State → Prop)
def sCtx (l : Launch) (M : sM) (d : Nat) (B : sB) (K : sK) (G : sG) (p : Program) (R : Room) (s : State) (m : MethodId) (args : Array Value) (meth : Method) (c : Code) : Prop :=
  p.tables.exec = Jvm.exec ∧ c.code = M.2.1 ∧ c.maxLocals = M.2.2.1 ∧ meth.sig.returnType = M.2.2.2 ∧ meth.locks = false ∧ s.vm.findClass M.1.cls = some m.cls ∧ (M.1.name = "<init>" → meth.name = "<init>") ∧ (∀ w ∈ lw_good, w.before args s = true) ∧ sBase G s ∧
    (d ≤ R.frames ∧ 60 * d ≤ R.locals ∧ B.2.2.1 ≤ R.cells ∧ B.2.2.2 ≤ R.slots) ∧ G.1 ≤ s.heap.size ∧ K.1 G s args meth
def sEv (l : Launch) (M : sM) (d : Nat) (B : sB) (K : sK) (pc : Nat) (lv : List (Option Value)) (st : List Value) (h : sH) : Prop :=
  ∀ (G : sG) (p : Program) (e : Env) (R : Room) (s : State) (m : MethodId) (args : Array Value) (below : List Frame) (meth : Method) (c : Code) (H : Heap) (locs : List Loc) (ls : Array Slot),
    sCtx l M d B K G p R s m args meth c → sR G h H → va_S (fun q => G.1 ≤ q) s.heap H locs → sL G.1 M.2.2.1 lv ls →
    W p l e R s m args below meth c H locs B.1 B.2.1 (K.2 G s args below) (F0 m pc ls (st.map (sTr G.1)))
-- contracts
def sQ (G : sG) (Q : Option Value → sH → Prop) : Array Value → State → Outcome → State → Prop := fun _ st oc t => (∃ (r : Option Value) (h' : sH), oc = .returned (r.map (sTr G.1)) ∧ Q r h' ∧ sR G h' t.heap) ∧ va_F (fun q => G.1 ≤ q) st t
def sWs (M : sM) : List Cond := Cond.code M.1 M.2.1 M.2.2.1 M.2.2.2 :: lw_good
def sRm (d mc ms : Nat) : Room := { frames := d, cells := mc, slots := ms, locals := 60 * d }
def sPc (G : sG) (as : List Value) (h : sH) : Array Value → State → Prop := va_Pc (as.map (sTr G.1)) (fun U => sR G h U.heap ∧ sBase G U)
def sCall (l : Launch) (M : sM) (d mc ms : Nat) (as : List Value) (h : sH) (Q : Option Value → sH → Prop) : Prop :=
  ∀ G : sG, Met l M.1 (sWs M) (sRm d mc ms) (sPc G as h) (sQ G Q) mc ms (fun q => G.1 ≤ q)
/-- a method's own end: what it answers, and the heap behind it -/
def sKm (mc ms : Nat) (Q : Option Value → sH → Prop) : sK := (fun _ _ _ _ => True, fun G s args below => MQ below (sQ G Q) args s mc ms (fun q => G.1 ≤ q))
def sArgs : List Value → List (Option Value)
  | [] => []
  | v :: vs => if v.category = 2 then some v :: none :: sArgs vs else some v :: sArgs vs
theorem sArgs_mem (b : Nat) (vs : List Value) (k : Nat) (i : Nat) (v : Value) (h : (sArgs vs)[i]? = some (some v)) : (k + i, sTr b v) ∈ lv_args k (vs.map (sTr b)) := by
  induction vs generalizing k i with
  | nil => simp [sArgs] at h
  | cons w vs ih =>
    rw [List.map_cons, lv_args]
    unfold sArgs at h
    rw [sTr_cat]
    split at h
    · rename_i hc
      rw [if_pos hc]
      match i with
      | 0 => cases h; exact List.mem_cons_self
      | 1 => cases h
      | i + 2 =>
        have h' : (sArgs vs)[i]? = some (some v) := h
        have := ih (k + 2) i h'
        rw [show k + (i + 2) = k + 2 + i by omega]
        exact List.mem_cons_of_mem _ this
    · rename_i hc
      rw [if_neg hc]
      match i with
      | 0 => cases h; exact List.mem_cons_self
      | i + 1 =>
        have h' : (sArgs vs)[i]? = some (some v) := h
        have := ih (k + 1) i h'
        rw [show k + (i + 1) = k + 1 + i by omega]
        exact List.mem_cons_of_mem _ this
theorem sLg_len (b : Nat) (vs : List Value) : (lg_sl (vs.map (sTr b))).length = (sArgs vs).length := by
  induction vs with
  | nil => rfl
  | cons v vs ih =>
    have : lg_sl ((v :: vs).map (sTr b)) = (if (sTr b v).category = 2 then [.val (sTr b v), .second] else [.val (sTr b v)]) ++ lg_sl (vs.map (sTr b)) := rfl
    rw [this, sTr_cat]
    unfold sArgs
    split <;> simp [ih]
theorem sArgs_pad {as : List Value} {n i : Nat} {v : Value} (h : (sArgs as ++ List.replicate n none)[i]? = some (some v)) : (sArgs as)[i]? = some (some v) := by
  rw [List.getElem?_append] at h
  split at h
  · exact h
  · rw [List.getElem?_replicate] at h
    split at h <;> cases h
theorem sCall_of {l : Launch} {M : sM} {d mc ms : Nat} {as : List Value} {h : sH} {Q : Option Value → sH → Prop} (n : Nat) (hpl : plainName M.1.cls = true) (hle : (sArgs as).length ≤ M.2.2.1)
    (k : sEv l M d (0, 0, mc, ms) (sKm mc ms Q) 0 (sArgs as ++ List.replicate n none) [] h) : sCall l M d mc ms as h Q := by
  intro G
  refine Met.ofW (cc := M.2.1) (maxL := M.2.2.1) (ret := M.2.2.2) hpl rfl ?_
  intro p e s m args below meth c s₁ B hml hv
  obtain ⟨rfl, hR, hB⟩ := hv
  have hts := atoms_spec (ws := sWs M) B.pre
  have hl := lv_entry (as.map (sTr G.1)) (n := M.2.2.1) (by rw [sLg_len]; exact hle)
  rw [lg_entry_eq]
  refine k G p e (sRm d mc ms) s m _ below meth c s.heap [] _ ⟨B.exec, B.bytes, hml, B.returns, B.notSynchronized, findClass_of_methodNamed B.named, fun hi => ?_, fun w hw => hts w (List.mem_cons_of_mem _ hw), hB, ⟨Nat.le_refl _, Nat.le_refl _, Nat.le_refl _, Nat.le_refl _⟩, ?_, trivial⟩ hR va_S.rf ⟨hl.1, hl.2.1, fun q hq => ?_⟩
  · exact (name_of_methodNamed B.named B.method).1.trans hi
  · rw [hR.2.1]; exact Nat.le_add_right _ _
  · obtain ⟨w, h1, h2⟩ := sLv_mem.mp hq
    have h3 := sArgs_mem G.1 as 0 q.1 w (sArgs_pad h1)
    rw [Nat.zero_add, ← h2] at h3
    exact hl.2.2 q h3
end
section
/-! ===== the rules: one an instruction ===== -/
theorem nI_subN {a b : Nat} (h : b ≤ a) : nI a - nI b = nI (a - b) := pk_sub h
theorem sI_zero : (0 : Int32) = nI 0 := rfl
def sBo : Bool → Int32
  | true => nI 1
  | false => nI 0
theorem sBo_0 {b : Bool} : sBo b = 0 ↔ b = false := by cases b <;> decide
def sN1 : Option Value → Bool
  | some (.long _) => false
  | some (.double _) => false
  | _ => true
theorem sN1_ok {lv : List (Option Value)} {j : Nat} {o : Option Value} (hj : lv[j]? = some o) (h : sN1 o = true) : sNoL lv (j + 1) := by
  intro k v hk hv
  have hk' : k = j := by omega
  subst hk'
  rw [hj] at hv
  have ho : o = some v := Option.some.inj hv
  rw [ho] at h
  cases v <;> first | rfl | cases h
theorem sNoL_0 {lv : List (Option Value)} : sNoL lv 0 := fun j _ h => absurd h (by omega)
section RULES
variable {l : Launch} {M : sM} {d : Nat} {B : sB} {K : sK} {pc p' : Nat} {lv : List (Option Value)} {st : List Value} {h : sH}
theorem e_of {q : Nat} {st' : List Value} (f : ∀ (b : Nat) (p : Program) (e : Env) (R : Room) (s : State) (m : MethodId) (args : Array Value) (below : List Frame) (meth : Method) (c : Code) (H : Heap) (locs : List Loc) (ls : Array Slot) (cells slots : Nat) (Q : State → Prop), p.tables.exec = Jvm.exec → c.code = M.2.1 →
    W p l e R s m args below meth c H locs cells slots Q (F0 m q ls (st'.map (sTr b))) → W p l e R s m args below meth c H locs cells slots Q (F0 m pc ls (st.map (sTr b)))) (kk : sEv l M d B K q lv st' h) : sEv l M d B K pc lv st h := by
  intro G p e R s m args below meth c H locs ls C hR hS hL
  exact f G.1 p e R s m args below meth c H locs ls _ _ _ C.1 C.2.1 (kk G p e R s m args below meth c H locs ls C hR hS hL)
theorem e_ld {q i : Nat} {v : Value} (hi : lv[i]? = some (some v)) (f : ∀ (b : Nat) (p : Program) (e : Env) (R : Room) (s : State) (m : MethodId) (args : Array Value) (below : List Frame) (meth : Method) (c : Code) (H : Heap) (locs : List Loc) (ls : Array Slot) (cells slots : Nat) (Q : State → Prop), p.tables.exec = Jvm.exec → c.code = M.2.1 → ls[i]? = some (.val (sTr b v)) →
    W p l e R s m args below meth c H locs cells slots Q (F0 m q ls ((v :: st).map (sTr b))) → W p l e R s m args below meth c H locs cells slots Q (F0 m pc ls (st.map (sTr b)))) (kk : sEv l M d B K q lv (v :: st) h) : sEv l M d B K pc lv st h := by
  intro G p e R s m args below meth c H locs ls C hR hS hL
  exact f G.1 p e R s m args below meth c H locs ls _ _ _ C.1 C.2.1 (sL_at hL hi) (kk G p e R s m args below meth c H locs ls C hR hS hL)
theorem e_st1 {q i : Nat} {v : Value} (hno : sNoL lv i) (f : ∀ (b : Nat) (p : Program) (e : Env) (R : Room) (s : State) (m : MethodId) (args : Array Value) (below : List Frame) (meth : Method) (c : Code) (H : Heap) (locs : List Loc) (ls : Array Slot) (cells slots : Nat) (Q : State → Prop), p.tables.exec = Jvm.exec → c.code = M.2.1 → lv_has ls M.2.2.1 (sLv b lv) →
    (∀ ls' : Array Slot, lv_has ls' M.2.2.1 ((i, sTr b v) :: (sLv b lv).filter (fun q => !(q.1 == i) && !(q.1 + 1 == i && q.2.category == 2))) → W p l e R s m args below meth c H locs cells slots Q (F0 m q ls' (st.map (sTr b)))) → W p l e R s m args below meth c H locs cells slots Q (F0 m pc ls ((v :: st).map (sTr b)))) (kk : sEv l M d B K q (lv.set i (some v)) st h) : sEv l M d B K pc lv (v :: st) h := by
  intro G p e R s m args below meth c H locs ls C hR hS hL
  exact f G.1 p e R s m args below meth c H locs ls _ _ _ C.1 C.2.1 hL (fun ls' hl' => kk G p e R s m args below meth c H locs ls' C hR hS (sL_set1 hno hl'))
theorem e_st2 {q i : Nat} {v : Value} (hno : sNoL lv i) (f : ∀ (b : Nat) (p : Program) (e : Env) (R : Room) (s : State) (m : MethodId) (args : Array Value) (below : List Frame) (meth : Method) (c : Code) (H : Heap) (locs : List Loc) (ls : Array Slot) (cells slots : Nat) (Q : State → Prop), p.tables.exec = Jvm.exec → c.code = M.2.1 → lv_has ls M.2.2.1 (sLv b lv) →
    (∀ ls' : Array Slot, lv_has ls' M.2.2.1 ((i, sTr b v) :: (sLv b lv).filter (fun q => !(q.1 == i) && (!(q.1 == i + 1) && !(q.1 + 1 == i && q.2.category == 2)))) → W p l e R s m args below meth c H locs cells slots Q (F0 m q ls' (st.map (sTr b)))) → W p l e R s m args below meth c H locs cells slots Q (F0 m pc ls ((v :: st).map (sTr b)))) (kk : sEv l M d B K q ((lv.set i (some v)).set (i + 1) none) st h) : sEv l M d B K pc lv (v :: st) h := by
  intro G p e R s m args below meth c H locs ls C hR hS hL
  exact f G.1 p e R s m args below meth c H locs ls _ _ _ C.1 C.2.1 hL (fun ls' hl' => kk G p e R s m args below meth c H locs ls' C hR hS (sL_set2 hno hl'))
theorem e_inc {q i : Nat} {x : Int32} {v : Int32} (hi : lv[i]? = some (some (.int x))) (hno : sNoL lv i) (f : ∀ (b : Nat) (p : Program) (e : Env) (R : Room) (s : State) (m : MethodId) (args : Array Value) (below : List Frame) (meth : Method) (c : Code) (H : Heap) (locs : List Loc) (ls : Array Slot) (cells slots : Nat) (Q : State → Prop) (k : Nat), p.tables.exec = Jvm.exec → c.code = M.2.1 → lv_has ls M.2.2.1 (sLv b lv) → (sLv b lv)[k]? = some (i, .int x) →
    (∀ ls' : Array Slot, lv_has ls' M.2.2.1 ((i, .int v) :: (sLv b lv).filter (fun q => !(q.1 == i) && !(q.1 + 1 == i && q.2.category == 2))) → W p l e R s m args below meth c H locs cells slots Q (F0 m q ls' (st.map (sTr b)))) → W p l e R s m args below meth c H locs cells slots Q (F0 m pc ls (st.map (sTr b)))) (kk : sEv l M d B K q (lv.set i (some (.int v))) st h) : sEv l M d B K pc lv st h := by
  intro G p e R s m args below meth c H locs ls C hR hS hL
  obtain ⟨k, hk⟩ := List.getElem?_of_mem (sLv_mem (b := G.1) (q := (i, .int x)).mpr ⟨.int x, hi, rfl⟩)
  exact f G.1 p e R s m args below meth c H locs ls _ _ _ k C.1 C.2.1 hL hk (fun ls' hl' => kk G p e R s m args below meth c H locs ls' C hR hS (sL_set1 (v := .int v) hno hl'))

theorem e_iconst {n : Int} {v : Int32} (hd : decode M.2.1 pc = .ok (.iconst n, 1)) (hv : Int32.ofInt n = v) (hp : pc + 1 = p') (kk : sEv l M d B K p' lv (.int v :: st) h) : sEv l M d B K pc lv (st) h := by
  subst hp
  exact e_of (fun b p e R s m args below meth c H locs ls cells slots Q hx hb k => lv_iconst hx hb hd hv k) kk
theorem e_bipush {n : Int} {v : Int32} (hd : decode M.2.1 pc = .ok (.bipush n, 2)) (hv : (Int8.ofInt n).toInt32 = v) (hp : pc + 2 = p') (kk : sEv l M d B K p' lv (.int v :: st) h) : sEv l M d B K pc lv (st) h := by
  subst hp
  exact e_of (fun b p e R s m args below meth c H locs ls cells slots Q hx hb k => lv_bipush hx hb hd hv k) kk
theorem e_sipush {n : Int} {v : Int32} (hd : decode M.2.1 pc = .ok (.sipush n, 3)) (hv : (Int16.ofInt n).toInt32 = v) (hp : pc + 3 = p') (kk : sEv l M d B K p' lv (.int v :: st) h) : sEv l M d B K pc lv (st) h := by
  subst hp
  exact e_of (fun b p e R s m args below meth c H locs ls cells slots Q hx hb k => lv_sipush hx hb hd hv k) kk
theorem e_lconst {n : Fin 2} {v : Int64} (hd : decode M.2.1 pc = .ok (.lconst n, 1)) (hv : Int64.ofNat (n : Nat) = v) (hp : pc + 1 = p') (kk : sEv l M d B K p' lv (.long v :: st) h) : sEv l M d B K pc lv (st) h := by
  subst hp
  exact e_of (fun b p e R s m args below meth c H locs ls cells slots Q hx hb k => lv_lconst hx hb hd hv k) kk
theorem e_aconst_null (hd : decode M.2.1 pc = .ok (.aconst_null, 1)) (hp : pc + 1 = p') (kk : sEv l M d B K p' lv (.null :: st) h) : sEv l M d B K pc lv (st) h := by
  subst hp
  exact e_of (fun b p e R s m args below meth c H locs ls cells slots Q hx hb k => lv_null hx hb hd k) kk
theorem e_dup {v : Value} (hd : decode M.2.1 pc = .ok (.dup, 1)) (hv : v.category = 1) (hp : pc + 1 = p') (kk : sEv l M d B K p' lv (v :: v :: st) h) : sEv l M d B K pc lv (v :: st) h := by
  subst hp
  exact e_of (fun b p e R s m args below meth c H locs ls cells slots Q hx hb k => lv_dup hx hb hd (by rw [sTr_cat]; exact hv) k) kk
theorem e_dup2 {v w : Value} (hd : decode M.2.1 pc = .ok (.dup2, 1)) (hv : v.category = 1) (hw : w.category = 1) (hp : pc + 1 = p') (kk : sEv l M d B K p' lv (v :: w :: v :: w :: st) h) : sEv l M d B K pc lv (v :: w :: st) h := by
  subst hp
  exact e_of (fun b p e R s m args below meth c H locs ls cells slots Q hx hb k => lv_dup2_11 hx hb hd (by rw [sTr_cat]; exact hv) (by rw [sTr_cat]; exact hw) k) kk
theorem e_iadd {x y : Int32} (hd : decode M.2.1 pc = .ok (.iadd, 1)) (hp : pc + 1 = p') (kk : sEv l M d B K p' lv (.int (x + y) :: st) h) : sEv l M d B K pc lv (.int y :: .int x :: st) h := by
  subst hp
  exact e_of (fun b p e R s m args below meth c H locs ls cells slots Q hx hb k => lv_iadd hx hb hd k) kk
theorem e_isub {x y : Int32} (hd : decode M.2.1 pc = .ok (.isub, 1)) (hp : pc + 1 = p') (kk : sEv l M d B K p' lv (.int (x - y) :: st) h) : sEv l M d B K pc lv (.int y :: .int x :: st) h := by
  subst hp
  exact e_of (fun b p e R s m args below meth c H locs ls cells slots Q hx hb k => lv_isub hx hb hd k) kk
theorem e_imul {x y : Int32} (hd : decode M.2.1 pc = .ok (.imul, 1)) (hp : pc + 1 = p') (kk : sEv l M d B K p' lv (.int (x * y) :: st) h) : sEv l M d B K pc lv (.int y :: .int x :: st) h := by
  subst hp
  exact e_of (fun b p e R s m args below meth c H locs ls cells slots Q hx hb k => lv_imul hx hb hd k) kk
theorem e_iand {x y : Int32} (hd : decode M.2.1 pc = .ok (.iand, 1)) (hp : pc + 1 = p') (kk : sEv l M d B K p' lv (.int (x &&& y) :: st) h) : sEv l M d B K pc lv (.int y :: .int x :: st) h := by
  subst hp
  exact e_of (fun b p e R s m args below meth c H locs ls cells slots Q hx hb k => lv_iand hx hb hd k) kk
theorem e_ior {x y : Int32} (hd : decode M.2.1 pc = .ok (.ior, 1)) (hp : pc + 1 = p') (kk : sEv l M d B K p' lv (.int (x ||| y) :: st) h) : sEv l M d B K pc lv (.int y :: .int x :: st) h := by
  subst hp
  exact e_of (fun b p e R s m args below meth c H locs ls cells slots Q hx hb k => lv_ior hx hb hd k) kk
theorem e_ixor {x y : Int32} (hd : decode M.2.1 pc = .ok (.ixor, 1)) (hp : pc + 1 = p') (kk : sEv l M d B K p' lv (.int (x ^^^ y) :: st) h) : sEv l M d B K pc lv (.int y :: .int x :: st) h := by
  subst hp
  exact e_of (fun b p e R s m args below meth c H locs ls cells slots Q hx hb k => lv_ixor hx hb hd k) kk
theorem e_ishl {x y : Int32} (hd : decode M.2.1 pc = .ok (.ishl, 1)) (hp : pc + 1 = p') (kk : sEv l M d B K p' lv (.int (x <<< (y &&& 31)) :: st) h) : sEv l M d B K pc lv (.int y :: .int x :: st) h := by
  subst hp
  exact e_of (fun b p e R s m args below meth c H locs ls cells slots Q hx hb k => lv_ishl hx hb hd k) kk
theorem e_ishr {x y : Int32} (hd : decode M.2.1 pc = .ok (.ishr, 1)) (hp : pc + 1 = p') (kk : sEv l M d B K p' lv (.int (x >>> (y &&& 31)) :: st) h) : sEv l M d B K pc lv (.int y :: .int x :: st) h := by
  subst hp
  exact e_of (fun b p e R s m args below meth c H locs ls cells slots Q hx hb k => lv_ishr hx hb hd k) kk
theorem e_iushr {x y v : Int32} (hd : decode M.2.1 pc = .ok (.iushr, 1)) (hv : (x.toUInt32 >>> (y.toUInt32 &&& Int32.toUInt32 31)).toInt32 = v) (hp : pc + 1 = p') (kk : sEv l M d B K p' lv (.int v :: st) h) : sEv l M d B K pc lv (.int y :: .int x :: st) h := by
  subst hp
  exact e_of (fun b p e R s m args below meth c H locs ls cells slots Q hx hb k => lv_iushr hx hb hd hv k) kk
theorem e_idiv {x y : Int32} (hd : decode M.2.1 pc = .ok (.idiv, 1)) (hne : ¬ y = 0) (hp : pc + 1 = p') (kk : sEv l M d B K p' lv (.int (x / y) :: st) h) : sEv l M d B K pc lv (.int y :: .int x :: st) h := by
  subst hp
  exact e_of (fun b p e R s m args below meth c H locs ls cells slots Q hx hb k => lv_idiv hx hb hd hne k) kk
theorem e_irem {x y : Int32} (hd : decode M.2.1 pc = .ok (.irem, 1)) (hne : ¬ y = 0) (hp : pc + 1 = p') (kk : sEv l M d B K p' lv (.int (x - x / y * y) :: st) h) : sEv l M d B K pc lv (.int y :: .int x :: st) h := by
  subst hp
  exact e_of (fun b p e R s m args below meth c H locs ls cells slots Q hx hb k => lv_irem hx hb hd hne k) kk
theorem e_lmul {x y : Int64} (hd : decode M.2.1 pc = .ok (.lmul, 1)) (hp : pc + 1 = p') (kk : sEv l M d B K p' lv (.long (x * y) :: st) h) : sEv l M d B K pc lv (.long y :: .long x :: st) h := by
  subst hp
  exact e_of (fun b p e R s m args below meth c H locs ls cells slots Q hx hb k => lv_lmul hx hb hd k) kk
theorem e_land {x y : Int64} (hd : decode M.2.1 pc = .ok (.land, 1)) (hp : pc + 1 = p') (kk : sEv l M d B K p' lv (.long (x &&& y) :: st) h) : sEv l M d B K pc lv (.long y :: .long x :: st) h := by
  subst hp
  exact e_of (fun b p e R s m args below meth c H locs ls cells slots Q hx hb k => lv_land hx hb hd k) kk
theorem e_lor {x y : Int64} (hd : decode M.2.1 pc = .ok (.lor, 1)) (hp : pc + 1 = p') (kk : sEv l M d B K p' lv (.long (x ||| y) :: st) h) : sEv l M d B K pc lv (.long y :: .long x :: st) h := by
  subst hp
  exact e_of (fun b p e R s m args below meth c H locs ls cells slots Q hx hb k => lv_lor hx hb hd k) kk
theorem e_ldiv {x y : Int64} (hd : decode M.2.1 pc = .ok (.ldiv, 1)) (hne : ¬ y = 0) (hp : pc + 1 = p') (kk : sEv l M d B K p' lv (.long (x / y) :: st) h) : sEv l M d B K pc lv (.long y :: .long x :: st) h := by
  subst hp
  exact e_of (fun b p e R s m args below meth c H locs ls cells slots Q hx hb k => lv_ldiv hx hb hd hne k) kk
theorem e_lrem {x y : Int64} (hd : decode M.2.1 pc = .ok (.lrem, 1)) (hne : ¬ y = 0) (hp : pc + 1 = p') (kk : sEv l M d B K p' lv (.long (x - x / y * y) :: st) h) : sEv l M d B K pc lv (.long y :: .long x :: st) h := by
  subst hp
  exact e_of (fun b p e R s m args below meth c H locs ls cells slots Q hx hb k => lv_lrem hx hb hd hne k) kk
theorem e_lushr {x v : Int64} {y : Int32} (hd : decode M.2.1 pc = .ok (.lushr, 1)) (hv : (x.toUInt64 >>> (y.toInt64.toUInt64 &&& Int64.toUInt64 63)).toInt64 = v) (hp : pc + 1 = p') (kk : sEv l M d B K p' lv (.long v :: st) h) : sEv l M d B K pc lv (.int y :: .long x :: st) h := by
  subst hp
  exact e_of (fun b p e R s m args below meth c H locs ls cells slots Q hx hb k => lv_lushr hx hb hd hv k) kk
theorem e_lshl {x v : Int64} {y : Int32} (hd : decode M.2.1 pc = .ok (.lshl, 1)) (hv : x <<< (y.toInt64 &&& 63) = v) (hp : pc + 1 = p') (kk : sEv l M d B K p' lv (.long v :: st) h) : sEv l M d B K pc lv (.int y :: .long x :: st) h := by
  subst hp
  exact e_of (fun b p e R s m args below meth c H locs ls cells slots Q hx hb k => lv_lshl hx hb hd hv k) kk
theorem e_i2l {x : Int32} {v : Int64} (hd : decode M.2.1 pc = .ok (.i2l, 1)) (hv : x.toInt64 = v) (hp : pc + 1 = p') (kk : sEv l M d B K p' lv (.long v :: st) h) : sEv l M d B K pc lv (.int x :: st) h := by
  subst hp
  exact e_of (fun b p e R s m args below meth c H locs ls cells slots Q hx hb k => lv_i2l hx hb hd hv k) kk
theorem e_l2i {x : Int64} {v : Int32} (hd : decode M.2.1 pc = .ok (.l2i, 1)) (hv : x.toInt32 = v) (hp : pc + 1 = p') (kk : sEv l M d B K p' lv (.int v :: st) h) : sEv l M d B K pc lv (.long x :: st) h := by
  subst hp
  exact e_of (fun b p e R s m args below meth c H locs ls cells slots Q hx hb k => lv_l2i hx hb hd hv k) kk
theorem e_i2c {x v : Int32} (hd : decode M.2.1 pc = .ok (.i2c, 1)) (hv : (x.toUInt32 % 65536).toInt32 = v) (hp : pc + 1 = p') (kk : sEv l M d B K p' lv (.int v :: st) h) : sEv l M d B K pc lv (.int x :: st) h := by
  subst hp
  exact e_of (fun b p e R s m args below meth c H locs ls cells slots Q hx hb k => lv_i2c hx hb hd hv k) kk
theorem e_lcmp {x y : Int64} (hd : decode M.2.1 pc = .ok (.lcmp, 1)) (hp : pc + 1 = p') (kk : sEv l M d B K p' lv (.int (lg_cmp x y) :: st) h) : sEv l M d B K pc lv (.long y :: .long x :: st) h := by
  subst hp
  exact e_of (fun b p e R s m args below meth c H locs ls cells slots Q hx hb k => W.lcmp hx hb hd k) kk
theorem e_iaddN {a b : Nat} (hd : decode M.2.1 pc = .ok (.iadd, 1)) (hp : pc + 1 = p') (kk : sEv l M d B K p' lv (.int (nI (a + b)) :: st) h) : sEv l M d B K pc lv (.int (nI b) :: .int (nI a) :: st) h := e_iadd hd hp (by rw [nI_add]; exact kk)
theorem e_imulN {a b : Nat} (hd : decode M.2.1 pc = .ok (.imul, 1)) (hp : pc + 1 = p') (kk : sEv l M d B K p' lv (.int (nI (a * b)) :: st) h) : sEv l M d B K pc lv (.int (nI b) :: .int (nI a) :: st) h := e_imul hd hp (by rw [pk_mul]; exact kk)
theorem e_isubN {a b : Nat} (hd : decode M.2.1 pc = .ok (.isub, 1)) (hab : b ≤ a) (hp : pc + 1 = p') (kk : sEv l M d B K p' lv (.int (nI (a - b)) :: st) h) : sEv l M d B K pc lv (.int (nI b) :: .int (nI a) :: st) h := e_isub hd hp (by rw [pk_sub hab]; exact kk)
theorem e_iremN {a b : Nat} (hd : decode M.2.1 pc = .ok (.irem, 1)) (ha : a < 2 ^ 31) (h0 : 0 < b) (hb : b < 2 ^ 31) (hp : pc + 1 = p') (kk : sEv l M d B K p' lv (.int (nI (a % b)) :: st) h) : sEv l M d B K pc lv (.int (nI b) :: .int (nI a) :: st) h := e_irem hd (nI_ne0 h0 hb) hp (by rw [pk_rem ha h0 hb]; exact kk)
theorem e_idivN {a b : Nat} (hd : decode M.2.1 pc = .ok (.idiv, 1)) (ha : a < 2 ^ 31) (h0 : 0 < b) (hb : b < 2 ^ 31) (hp : pc + 1 = p') (kk : sEv l M d B K p' lv (.int (nI (a / b)) :: st) h) : sEv l M d B K pc lv (.int (nI b) :: .int (nI a) :: st) h := e_idiv hd (nI_ne0 h0 hb) hp (by rw [pk_div ha h0 hb]; exact kk)
theorem e_i2lN {a : Nat} (hd : decode M.2.1 pc = .ok (.i2l, 1)) (ha : a < 2 ^ 31) (hp : pc + 1 = p') (kk : sEv l M d B K p' lv (.long (lN a) :: st) h) : sEv l M d B K pc lv (.int (nI a) :: st) h := e_i2l hd (nI_l ha) hp kk

theorem e_iload_0 {r : List (Option Value)} {x : Int32} (hd : decode M.2.1 pc = .ok (.iload_n 0, 1)) (hp : pc + 1 = p') (kk : sEv l M d B K p' (some (.int x) :: r) (.int x :: st) h) : sEv l M d B K pc (some (.int x) :: r) st h := by
  subst hp
  exact e_ld (i := 0) rfl (fun b p e R s m args below meth c H locs ls cells slots Q hx hb hl k => lv_iload_n hx hb hd rfl hl k) kk
theorem e_lload_0 {r : List (Option Value)} {x : Int64} (hd : decode M.2.1 pc = .ok (.lload_n 0, 1)) (hp : pc + 1 = p') (kk : sEv l M d B K p' (some (.long x) :: r) (.long x :: st) h) : sEv l M d B K pc (some (.long x) :: r) st h := by
  subst hp
  exact e_ld (i := 0) rfl (fun b p e R s m args below meth c H locs ls cells slots Q hx hb hl k => lv_lload_n hx hb hd rfl hl k) kk
theorem e_aload_0 {r : List (Option Value)} {x : Nat} (hd : decode M.2.1 pc = .ok (.aload_n 0, 1)) (hp : pc + 1 = p') (kk : sEv l M d B K p' (some (.ref x) :: r) (.ref x :: st) h) : sEv l M d B K pc (some (.ref x) :: r) st h := by
  subst hp
  exact e_ld (i := 0) rfl (fun b p e R s m args below meth c H locs ls cells slots Q hx hb hl k => lv_aload_n hx hb hd rfl hl k) kk
theorem e_istore_0 {a0 : Option Value} {r : List (Option Value)} {x : Int32} (hd : decode M.2.1 pc = .ok (.istore_n 0, 1)) (hn : 0 < M.2.2.1) (hp : pc + 1 = p') (kk : sEv l M d B K p' (some (.int x) :: r) st h) : sEv l M d B K pc (a0 :: r) (.int x :: st) h := by
  subst hp
  exact e_st1 (i := 0) sNoL_0 (fun b p e R s m args below meth c H locs ls cells slots Q hx hb hl k => lv_istore_n hx hb hd rfl hl hn rfl k) kk
theorem e_astore_0 {a0 : Option Value} {r : List (Option Value)} {x : Nat} (hd : decode M.2.1 pc = .ok (.astore_n 0, 1)) (hn : 0 < M.2.2.1) (hp : pc + 1 = p') (kk : sEv l M d B K p' (some (.ref x) :: r) st h) : sEv l M d B K pc (a0 :: r) (.ref x :: st) h := by
  subst hp
  exact e_st1 (i := 0) sNoL_0 (fun b p e R s m args below meth c H locs ls cells slots Q hx hb hl k => lv_astore_n hx hb hd rfl hl hn rfl k) kk
theorem e_lstore_0 {a0 a1 : Option Value} {r : List (Option Value)} {x : Int64} (hd : decode M.2.1 pc = .ok (.lstore_n 0, 1)) (hn : 1 < M.2.2.1) (hp : pc + 1 = p') (kk : sEv l M d B K p' (some (.long x) :: none :: r) st h) : sEv l M d B K pc (a0 :: a1 :: r) (.long x :: st) h := by
  subst hp
  exact e_st2 (i := 0) sNoL_0 (fun b p e R s m args below meth c H locs ls cells slots Q hx hb hl k => lv_lstore_n hx hb hd rfl hl hn rfl k) kk
theorem e_iinc_0 {r : List (Option Value)} {x v : Int32} {n : Int} (hd : decode M.2.1 pc = .ok (.iinc 0 n, 3)) (hn : 0 < M.2.2.1) (hv : x + Int32.ofInt n = v) (hp : pc + 3 = p') (kk : sEv l M d B K p' (some (.int v) :: r) st h) : sEv l M d B K pc (some (.int x) :: r) st h := by
  subst hp
  exact e_inc (i := 0) rfl sNoL_0 (fun b p e R s m args below meth c H locs ls cells slots Q k0 hx hb hl hk k => lv_iinc hx hb hd hl hk hv hn rfl k) kk
theorem e_iincN_0 {r : List (Option Value)} {a n : Nat} (hd : decode M.2.1 pc = .ok (.iinc 0 (n : Int), 3)) (hn : 0 < M.2.2.1) (hp : pc + 3 = p') (kk : sEv l M d B K p' (some (.int (nI (a + n))) :: r) st h) : sEv l M d B K pc (some (.int (nI a)) :: r) st h := e_iinc_0 hd hn (by rw [← nI_add]; rfl) hp kk
theorem e_iload_1 {a0 : Option Value} {r : List (Option Value)} {x : Int32} (hd : decode M.2.1 pc = .ok (.iload_n 1, 1)) (hp : pc + 1 = p') (kk : sEv l M d B K p' (a0 :: some (.int x) :: r) (.int x :: st) h) : sEv l M d B K pc (a0 :: some (.int x) :: r) st h := by
  subst hp
  exact e_ld (i := 1) rfl (fun b p e R s m args below meth c H locs ls cells slots Q hx hb hl k => lv_iload_n hx hb hd rfl hl k) kk
theorem e_lload_1 {a0 : Option Value} {r : List (Option Value)} {x : Int64} (hd : decode M.2.1 pc = .ok (.lload_n 1, 1)) (hp : pc + 1 = p') (kk : sEv l M d B K p' (a0 :: some (.long x) :: r) (.long x :: st) h) : sEv l M d B K pc (a0 :: some (.long x) :: r) st h := by
  subst hp
  exact e_ld (i := 1) rfl (fun b p e R s m args below meth c H locs ls cells slots Q hx hb hl k => lv_lload_n hx hb hd rfl hl k) kk
theorem e_aload_1 {a0 : Option Value} {r : List (Option Value)} {x : Nat} (hd : decode M.2.1 pc = .ok (.aload_n 1, 1)) (hp : pc + 1 = p') (kk : sEv l M d B K p' (a0 :: some (.ref x) :: r) (.ref x :: st) h) : sEv l M d B K pc (a0 :: some (.ref x) :: r) st h := by
  subst hp
  exact e_ld (i := 1) rfl (fun b p e R s m args below meth c H locs ls cells slots Q hx hb hl k => lv_aload_n hx hb hd rfl hl k) kk
theorem e_istore_1 {a0 a1 : Option Value} {r : List (Option Value)} {x : Int32} (hd : decode M.2.1 pc = .ok (.istore_n 1, 1)) (hn : 1 < M.2.2.1) (hno : sN1 a0 = true) (hp : pc + 1 = p') (kk : sEv l M d B K p' (a0 :: some (.int x) :: r) st h) : sEv l M d B K pc (a0 :: a1 :: r) (.int x :: st) h := by
  subst hp
  exact e_st1 (i := 1) (sN1_ok (j := 0) (o := a0) rfl hno) (fun b p e R s m args below meth c H locs ls cells slots Q hx hb hl k => lv_istore_n hx hb hd rfl hl hn rfl k) kk
theorem e_astore_1 {a0 a1 : Option Value} {r : List (Option Value)} {x : Nat} (hd : decode M.2.1 pc = .ok (.astore_n 1, 1)) (hn : 1 < M.2.2.1) (hno : sN1 a0 = true) (hp : pc + 1 = p') (kk : sEv l M d B K p' (a0 :: some (.ref x) :: r) st h) : sEv l M d B K pc (a0 :: a1 :: r) (.ref x :: st) h := by
  subst hp
  exact e_st1 (i := 1) (sN1_ok (j := 0) (o := a0) rfl hno) (fun b p e R s m args below meth c H locs ls cells slots Q hx hb hl k => lv_astore_n hx hb hd rfl hl hn rfl k) kk
theorem e_lstore_1 {a0 a1 a2 : Option Value} {r : List (Option Value)} {x : Int64} (hd : decode M.2.1 pc = .ok (.lstore_n 1, 1)) (hn : 2 < M.2.2.1) (hno : sN1 a0 = true) (hp : pc + 1 = p') (kk : sEv l M d B K p' (a0 :: some (.long x) :: none :: r) st h) : sEv l M d B K pc (a0 :: a1 :: a2 :: r) (.long x :: st) h := by
  subst hp
  exact e_st2 (i := 1) (sN1_ok (j := 0) (o := a0) rfl hno) (fun b p e R s m args below meth c H locs ls cells slots Q hx hb hl k => lv_lstore_n hx hb hd rfl hl hn rfl k) kk
theorem e_iinc_1 {a0 : Option Value} {r : List (Option Value)} {x v : Int32} {n : Int} (hd : decode M.2.1 pc = .ok (.iinc 1 n, 3)) (hn : 1 < M.2.2.1) (hno : sN1 a0 = true) (hv : x + Int32.ofInt n = v) (hp : pc + 3 = p') (kk : sEv l M d B K p' (a0 :: some (.int v) :: r) st h) : sEv l M d B K pc (a0 :: some (.int x) :: r) st h := by
  subst hp
  exact e_inc (i := 1) rfl (sN1_ok (j := 0) (o := a0) rfl hno) (fun b p e R s m args below meth c H locs ls cells slots Q k0 hx hb hl hk k => lv_iinc hx hb hd hl hk hv hn rfl k) kk
theorem e_iincN_1 {a0 : Option Value} {r : List (Option Value)} {a n : Nat} (hd : decode M.2.1 pc = .ok (.iinc 1 (n : Int), 3)) (hn : 1 < M.2.2.1) (hno : sN1 a0 = true) (hp : pc + 3 = p') (kk : sEv l M d B K p' (a0 :: some (.int (nI (a + n))) :: r) st h) : sEv l M d B K pc (a0 :: some (.int (nI a)) :: r) st h := e_iinc_1 hd hn hno (by rw [← nI_add]; rfl) hp kk
theorem e_iload_2 {a0 a1 : Option Value} {r : List (Option Value)} {x : Int32} (hd : decode M.2.1 pc = .ok (.iload_n 2, 1)) (hp : pc + 1 = p') (kk : sEv l M d B K p' (a0 :: a1 :: some (.int x) :: r) (.int x :: st) h) : sEv l M d B K pc (a0 :: a1 :: some (.int x) :: r) st h := by
  subst hp
  exact e_ld (i := 2) rfl (fun b p e R s m args below meth c H locs ls cells slots Q hx hb hl k => lv_iload_n hx hb hd rfl hl k) kk
theorem e_lload_2 {a0 a1 : Option Value} {r : List (Option Value)} {x : Int64} (hd : decode M.2.1 pc = .ok (.lload_n 2, 1)) (hp : pc + 1 = p') (kk : sEv l M d B K p' (a0 :: a1 :: some (.long x) :: r) (.long x :: st) h) : sEv l M d B K pc (a0 :: a1 :: some (.long x) :: r) st h := by
  subst hp
  exact e_ld (i := 2) rfl (fun b p e R s m args below meth c H locs ls cells slots Q hx hb hl k => lv_lload_n hx hb hd rfl hl k) kk
theorem e_aload_2 {a0 a1 : Option Value} {r : List (Option Value)} {x : Nat} (hd : decode M.2.1 pc = .ok (.aload_n 2, 1)) (hp : pc + 1 = p') (kk : sEv l M d B K p' (a0 :: a1 :: some (.ref x) :: r) (.ref x :: st) h) : sEv l M d B K pc (a0 :: a1 :: some (.ref x) :: r) st h := by
  subst hp
  exact e_ld (i := 2) rfl (fun b p e R s m args below meth c H locs ls cells slots Q hx hb hl k => lv_aload_n hx hb hd rfl hl k) kk
theorem e_istore_2 {a0 a1 a2 : Option Value} {r : List (Option Value)} {x : Int32} (hd : decode M.2.1 pc = .ok (.istore_n 2, 1)) (hn : 2 < M.2.2.1) (hno : sN1 a1 = true) (hp : pc + 1 = p') (kk : sEv l M d B K p' (a0 :: a1 :: some (.int x) :: r) st h) : sEv l M d B K pc (a0 :: a1 :: a2 :: r) (.int x :: st) h := by
  subst hp
  exact e_st1 (i := 2) (sN1_ok (j := 1) (o := a1) rfl hno) (fun b p e R s m args below meth c H locs ls cells slots Q hx hb hl k => lv_istore_n hx hb hd rfl hl hn rfl k) kk
theorem e_astore_2 {a0 a1 a2 : Option Value} {r : List (Option Value)} {x : Nat} (hd : decode M.2.1 pc = .ok (.astore_n 2, 1)) (hn : 2 < M.2.2.1) (hno : sN1 a1 = true) (hp : pc + 1 = p') (kk : sEv l M d B K p' (a0 :: a1 :: some (.ref x) :: r) st h) : sEv l M d B K pc (a0 :: a1 :: a2 :: r) (.ref x :: st) h := by
  subst hp
  exact e_st1 (i := 2) (sN1_ok (j := 1) (o := a1) rfl hno) (fun b p e R s m args below meth c H locs ls cells slots Q hx hb hl k => lv_astore_n hx hb hd rfl hl hn rfl k) kk
theorem e_lstore_2 {a0 a1 a2 a3 : Option Value} {r : List (Option Value)} {x : Int64} (hd : decode M.2.1 pc = .ok (.lstore_n 2, 1)) (hn : 3 < M.2.2.1) (hno : sN1 a1 = true) (hp : pc + 1 = p') (kk : sEv l M d B K p' (a0 :: a1 :: some (.long x) :: none :: r) st h) : sEv l M d B K pc (a0 :: a1 :: a2 :: a3 :: r) (.long x :: st) h := by
  subst hp
  exact e_st2 (i := 2) (sN1_ok (j := 1) (o := a1) rfl hno) (fun b p e R s m args below meth c H locs ls cells slots Q hx hb hl k => lv_lstore_n hx hb hd rfl hl hn rfl k) kk
theorem e_iinc_2 {a0 a1 : Option Value} {r : List (Option Value)} {x v : Int32} {n : Int} (hd : decode M.2.1 pc = .ok (.iinc 2 n, 3)) (hn : 2 < M.2.2.1) (hno : sN1 a1 = true) (hv : x + Int32.ofInt n = v) (hp : pc + 3 = p') (kk : sEv l M d B K p' (a0 :: a1 :: some (.int v) :: r) st h) : sEv l M d B K pc (a0 :: a1 :: some (.int x) :: r) st h := by
  subst hp
  exact e_inc (i := 2) rfl (sN1_ok (j := 1) (o := a1) rfl hno) (fun b p e R s m args below meth c H locs ls cells slots Q k0 hx hb hl hk k => lv_iinc hx hb hd hl hk hv hn rfl k) kk
theorem e_iincN_2 {a0 a1 : Option Value} {r : List (Option Value)} {a n : Nat} (hd : decode M.2.1 pc = .ok (.iinc 2 (n : Int), 3)) (hn : 2 < M.2.2.1) (hno : sN1 a1 = true) (hp : pc + 3 = p') (kk : sEv l M d B K p' (a0 :: a1 :: some (.int (nI (a + n))) :: r) st h) : sEv l M d B K pc (a0 :: a1 :: some (.int (nI a)) :: r) st h := e_iinc_2 hd hn hno (by rw [← nI_add]; rfl) hp kk
theorem e_iload_3 {a0 a1 a2 : Option Value} {r : List (Option Value)} {x : Int32} (hd : decode M.2.1 pc = .ok (.iload_n 3, 1)) (hp : pc + 1 = p') (kk : sEv l M d B K p' (a0 :: a1 :: a2 :: some (.int x) :: r) (.int x :: st) h) : sEv l M d B K pc (a0 :: a1 :: a2 :: some (.int x) :: r) st h := by
  subst hp
  exact e_ld (i := 3) rfl (fun b p e R s m args below meth c H locs ls cells slots Q hx hb hl k => lv_iload_n hx hb hd rfl hl k) kk
theorem e_lload_3 {a0 a1 a2 : Option Value} {r : List (Option Value)} {x : Int64} (hd : decode M.2.1 pc = .ok (.lload_n 3, 1)) (hp : pc + 1 = p') (kk : sEv l M d B K p' (a0 :: a1 :: a2 :: some (.long x) :: r) (.long x :: st) h) : sEv l M d B K pc (a0 :: a1 :: a2 :: some (.long x) :: r) st h := by
  subst hp
  exact e_ld (i := 3) rfl (fun b p e R s m args below meth c H locs ls cells slots Q hx hb hl k => lv_lload_n hx hb hd rfl hl k) kk
theorem e_aload_3 {a0 a1 a2 : Option Value} {r : List (Option Value)} {x : Nat} (hd : decode M.2.1 pc = .ok (.aload_n 3, 1)) (hp : pc + 1 = p') (kk : sEv l M d B K p' (a0 :: a1 :: a2 :: some (.ref x) :: r) (.ref x :: st) h) : sEv l M d B K pc (a0 :: a1 :: a2 :: some (.ref x) :: r) st h := by
  subst hp
  exact e_ld (i := 3) rfl (fun b p e R s m args below meth c H locs ls cells slots Q hx hb hl k => lv_aload_n hx hb hd rfl hl k) kk
theorem e_istore_3 {a0 a1 a2 a3 : Option Value} {r : List (Option Value)} {x : Int32} (hd : decode M.2.1 pc = .ok (.istore_n 3, 1)) (hn : 3 < M.2.2.1) (hno : sN1 a2 = true) (hp : pc + 1 = p') (kk : sEv l M d B K p' (a0 :: a1 :: a2 :: some (.int x) :: r) st h) : sEv l M d B K pc (a0 :: a1 :: a2 :: a3 :: r) (.int x :: st) h := by
  subst hp
  exact e_st1 (i := 3) (sN1_ok (j := 2) (o := a2) rfl hno) (fun b p e R s m args below meth c H locs ls cells slots Q hx hb hl k => lv_istore_n hx hb hd rfl hl hn rfl k) kk
theorem e_astore_3 {a0 a1 a2 a3 : Option Value} {r : List (Option Value)} {x : Nat} (hd : decode M.2.1 pc = .ok (.astore_n 3, 1)) (hn : 3 < M.2.2.1) (hno : sN1 a2 = true) (hp : pc + 1 = p') (kk : sEv l M d B K p' (a0 :: a1 :: a2 :: some (.ref x) :: r) st h) : sEv l M d B K pc (a0 :: a1 :: a2 :: a3 :: r) (.ref x :: st) h := by
  subst hp
  exact e_st1 (i := 3) (sN1_ok (j := 2) (o := a2) rfl hno) (fun b p e R s m args below meth c H locs ls cells slots Q hx hb hl k => lv_astore_n hx hb hd rfl hl hn rfl k) kk
theorem e_lstore_3 {a0 a1 a2 a3 a4 : Option Value} {r : List (Option Value)} {x : Int64} (hd : decode M.2.1 pc = .ok (.lstore_n 3, 1)) (hn : 4 < M.2.2.1) (hno : sN1 a2 = true) (hp : pc + 1 = p') (kk : sEv l M d B K p' (a0 :: a1 :: a2 :: some (.long x) :: none :: r) st h) : sEv l M d B K pc (a0 :: a1 :: a2 :: a3 :: a4 :: r) (.long x :: st) h := by
  subst hp
  exact e_st2 (i := 3) (sN1_ok (j := 2) (o := a2) rfl hno) (fun b p e R s m args below meth c H locs ls cells slots Q hx hb hl k => lv_lstore_n hx hb hd rfl hl hn rfl k) kk
theorem e_iinc_3 {a0 a1 a2 : Option Value} {r : List (Option Value)} {x v : Int32} {n : Int} (hd : decode M.2.1 pc = .ok (.iinc 3 n, 3)) (hn : 3 < M.2.2.1) (hno : sN1 a2 = true) (hv : x + Int32.ofInt n = v) (hp : pc + 3 = p') (kk : sEv l M d B K p' (a0 :: a1 :: a2 :: some (.int v) :: r) st h) : sEv l M d B K pc (a0 :: a1 :: a2 :: some (.int x) :: r) st h := by
  subst hp
  exact e_inc (i := 3) rfl (sN1_ok (j := 2) (o := a2) rfl hno) (fun b p e R s m args below meth c H locs ls cells slots Q k0 hx hb hl hk k => lv_iinc hx hb hd hl hk hv hn rfl k) kk
theorem e_iincN_3 {a0 a1 a2 : Option Value} {r : List (Option Value)} {a n : Nat} (hd : decode M.2.1 pc = .ok (.iinc 3 (n : Int), 3)) (hn : 3 < M.2.2.1) (hno : sN1 a2 = true) (hp : pc + 3 = p') (kk : sEv l M d B K p' (a0 :: a1 :: a2 :: some (.int (nI (a + n))) :: r) st h) : sEv l M d B K pc (a0 :: a1 :: a2 :: some (.int (nI a)) :: r) st h := e_iinc_3 hd hn hno (by rw [← nI_add]; rfl) hp kk
theorem e_iload_4 {a0 a1 a2 a3 : Option Value} {r : List (Option Value)} {x : Int32} (hd : decode M.2.1 pc = .ok (.iload 4, 2)) (hp : pc + 2 = p') (kk : sEv l M d B K p' (a0 :: a1 :: a2 :: a3 :: some (.int x) :: r) (.int x :: st) h) : sEv l M d B K pc (a0 :: a1 :: a2 :: a3 :: some (.int x) :: r) st h := by
  subst hp
  exact e_ld (i := 4) rfl (fun b p e R s m args below meth c H locs ls cells slots Q hx hb hl k => lv_iload hx hb hd hl k) kk
theorem e_lload_4 {a0 a1 a2 a3 : Option Value} {r : List (Option Value)} {x : Int64} (hd : decode M.2.1 pc = .ok (.lload 4, 2)) (hp : pc + 2 = p') (kk : sEv l M d B K p' (a0 :: a1 :: a2 :: a3 :: some (.long x) :: r) (.long x :: st) h) : sEv l M d B K pc (a0 :: a1 :: a2 :: a3 :: some (.long x) :: r) st h := by
  subst hp
  exact e_ld (i := 4) rfl (fun b p e R s m args below meth c H locs ls cells slots Q hx hb hl k => lv_lload hx hb hd hl k) kk
theorem e_aload_4 {a0 a1 a2 a3 : Option Value} {r : List (Option Value)} {x : Nat} (hd : decode M.2.1 pc = .ok (.aload 4, 2)) (hp : pc + 2 = p') (kk : sEv l M d B K p' (a0 :: a1 :: a2 :: a3 :: some (.ref x) :: r) (.ref x :: st) h) : sEv l M d B K pc (a0 :: a1 :: a2 :: a3 :: some (.ref x) :: r) st h := by
  subst hp
  exact e_ld (i := 4) rfl (fun b p e R s m args below meth c H locs ls cells slots Q hx hb hl k => lv_aload hx hb hd hl k) kk
theorem e_istore_4 {a0 a1 a2 a3 a4 : Option Value} {r : List (Option Value)} {x : Int32} (hd : decode M.2.1 pc = .ok (.istore 4, 2)) (hn : 4 < M.2.2.1) (hno : sN1 a3 = true) (hp : pc + 2 = p') (kk : sEv l M d B K p' (a0 :: a1 :: a2 :: a3 :: some (.int x) :: r) st h) : sEv l M d B K pc (a0 :: a1 :: a2 :: a3 :: a4 :: r) (.int x :: st) h := by
  subst hp
  exact e_st1 (i := 4) (sN1_ok (j := 3) (o := a3) rfl hno) (fun b p e R s m args below meth c H locs ls cells slots Q hx hb hl k => lv_istore hx hb hd hl hn rfl k) kk
theorem e_astore_4 {a0 a1 a2 a3 a4 : Option Value} {r : List (Option Value)} {x : Nat} (hd : decode M.2.1 pc = .ok (.astore 4, 2)) (hn : 4 < M.2.2.1) (hno : sN1 a3 = true) (hp : pc + 2 = p') (kk : sEv l M d B K p' (a0 :: a1 :: a2 :: a3 :: some (.ref x) :: r) st h) : sEv l M d B K pc (a0 :: a1 :: a2 :: a3 :: a4 :: r) (.ref x :: st) h := by
  subst hp
  exact e_st1 (i := 4) (sN1_ok (j := 3) (o := a3) rfl hno) (fun b p e R s m args below meth c H locs ls cells slots Q hx hb hl k => lv_astore hx hb hd hl hn rfl k) kk
theorem e_lstore_4 {a0 a1 a2 a3 a4 a5 : Option Value} {r : List (Option Value)} {x : Int64} (hd : decode M.2.1 pc = .ok (.lstore 4, 2)) (hn : 5 < M.2.2.1) (hno : sN1 a3 = true) (hp : pc + 2 = p') (kk : sEv l M d B K p' (a0 :: a1 :: a2 :: a3 :: some (.long x) :: none :: r) st h) : sEv l M d B K pc (a0 :: a1 :: a2 :: a3 :: a4 :: a5 :: r) (.long x :: st) h := by
  subst hp
  exact e_st2 (i := 4) (sN1_ok (j := 3) (o := a3) rfl hno) (fun b p e R s m args below meth c H locs ls cells slots Q hx hb hl k => lv_lstore hx hb hd hl hn rfl k) kk
theorem e_iinc_4 {a0 a1 a2 a3 : Option Value} {r : List (Option Value)} {x v : Int32} {n : Int} (hd : decode M.2.1 pc = .ok (.iinc 4 n, 3)) (hn : 4 < M.2.2.1) (hno : sN1 a3 = true) (hv : x + Int32.ofInt n = v) (hp : pc + 3 = p') (kk : sEv l M d B K p' (a0 :: a1 :: a2 :: a3 :: some (.int v) :: r) st h) : sEv l M d B K pc (a0 :: a1 :: a2 :: a3 :: some (.int x) :: r) st h := by
  subst hp
  exact e_inc (i := 4) rfl (sN1_ok (j := 3) (o := a3) rfl hno) (fun b p e R s m args below meth c H locs ls cells slots Q k0 hx hb hl hk k => lv_iinc hx hb hd hl hk hv hn rfl k) kk
theorem e_iincN_4 {a0 a1 a2 a3 : Option Value} {r : List (Option Value)} {a n : Nat} (hd : decode M.2.1 pc = .ok (.iinc 4 (n : Int), 3)) (hn : 4 < M.2.2.1) (hno : sN1 a3 = true) (hp : pc + 3 = p') (kk : sEv l M d B K p' (a0 :: a1 :: a2 :: a3 :: some (.int (nI (a + n))) :: r) st h) : sEv l M d B K pc (a0 :: a1 :: a2 :: a3 :: some (.int (nI a)) :: r) st h := e_iinc_4 hd hn hno (by rw [← nI_add]; rfl) hp kk
theorem e_iload_5 {a0 a1 a2 a3 a4 : Option Value} {r : List (Option Value)} {x : Int32} (hd : decode M.2.1 pc = .ok (.iload 5, 2)) (hp : pc + 2 = p') (kk : sEv l M d B K p' (a0 :: a1 :: a2 :: a3 :: a4 :: some (.int x) :: r) (.int x :: st) h) : sEv l M d B K pc (a0 :: a1 :: a2 :: a3 :: a4 :: some (.int x) :: r) st h := by
  subst hp
  exact e_ld (i := 5) rfl (fun b p e R s m args below meth c H locs ls cells slots Q hx hb hl k => lv_iload hx hb hd hl k) kk
theorem e_lload_5 {a0 a1 a2 a3 a4 : Option Value} {r : List (Option Value)} {x : Int64} (hd : decode M.2.1 pc = .ok (.lload 5, 2)) (hp : pc + 2 = p') (kk : sEv l M d B K p' (a0 :: a1 :: a2 :: a3 :: a4 :: some (.long x) :: r) (.long x :: st) h) : sEv l M d B K pc (a0 :: a1 :: a2 :: a3 :: a4 :: some (.long x) :: r) st h := by
  subst hp
  exact e_ld (i := 5) rfl (fun b p e R s m args below meth c H locs ls cells slots Q hx hb hl k => lv_lload hx hb hd hl k) kk
theorem e_aload_5 {a0 a1 a2 a3 a4 : Option Value} {r : List (Option Value)} {x : Nat} (hd : decode M.2.1 pc = .ok (.aload 5, 2)) (hp : pc + 2 = p') (kk : sEv l M d B K p' (a0 :: a1 :: a2 :: a3 :: a4 :: some (.ref x) :: r) (.ref x :: st) h) : sEv l M d B K pc (a0 :: a1 :: a2 :: a3 :: a4 :: some (.ref x) :: r) st h := by
  subst hp
  exact e_ld (i := 5) rfl (fun b p e R s m args below meth c H locs ls cells slots Q hx hb hl k => lv_aload hx hb hd hl k) kk
theorem e_istore_5 {a0 a1 a2 a3 a4 a5 : Option Value} {r : List (Option Value)} {x : Int32} (hd : decode M.2.1 pc = .ok (.istore 5, 2)) (hn : 5 < M.2.2.1) (hno : sN1 a4 = true) (hp : pc + 2 = p') (kk : sEv l M d B K p' (a0 :: a1 :: a2 :: a3 :: a4 :: some (.int x) :: r) st h) : sEv l M d B K pc (a0 :: a1 :: a2 :: a3 :: a4 :: a5 :: r) (.int x :: st) h := by
  subst hp
  exact e_st1 (i := 5) (sN1_ok (j := 4) (o := a4) rfl hno) (fun b p e R s m args below meth c H locs ls cells slots Q hx hb hl k => lv_istore hx hb hd hl hn rfl k) kk
theorem e_astore_5 {a0 a1 a2 a3 a4 a5 : Option Value} {r : List (Option Value)} {x : Nat} (hd : decode M.2.1 pc = .ok (.astore 5, 2)) (hn : 5 < M.2.2.1) (hno : sN1 a4 = true) (hp : pc + 2 = p') (kk : sEv l M d B K p' (a0 :: a1 :: a2 :: a3 :: a4 :: some (.ref x) :: r) st h) : sEv l M d B K pc (a0 :: a1 :: a2 :: a3 :: a4 :: a5 :: r) (.ref x :: st) h := by
  subst hp
  exact e_st1 (i := 5) (sN1_ok (j := 4) (o := a4) rfl hno) (fun b p e R s m args below meth c H locs ls cells slots Q hx hb hl k => lv_astore hx hb hd hl hn rfl k) kk
theorem e_lstore_5 {a0 a1 a2 a3 a4 a5 a6 : Option Value} {r : List (Option Value)} {x : Int64} (hd : decode M.2.1 pc = .ok (.lstore 5, 2)) (hn : 6 < M.2.2.1) (hno : sN1 a4 = true) (hp : pc + 2 = p') (kk : sEv l M d B K p' (a0 :: a1 :: a2 :: a3 :: a4 :: some (.long x) :: none :: r) st h) : sEv l M d B K pc (a0 :: a1 :: a2 :: a3 :: a4 :: a5 :: a6 :: r) (.long x :: st) h := by
  subst hp
  exact e_st2 (i := 5) (sN1_ok (j := 4) (o := a4) rfl hno) (fun b p e R s m args below meth c H locs ls cells slots Q hx hb hl k => lv_lstore hx hb hd hl hn rfl k) kk
theorem e_iinc_5 {a0 a1 a2 a3 a4 : Option Value} {r : List (Option Value)} {x v : Int32} {n : Int} (hd : decode M.2.1 pc = .ok (.iinc 5 n, 3)) (hn : 5 < M.2.2.1) (hno : sN1 a4 = true) (hv : x + Int32.ofInt n = v) (hp : pc + 3 = p') (kk : sEv l M d B K p' (a0 :: a1 :: a2 :: a3 :: a4 :: some (.int v) :: r) st h) : sEv l M d B K pc (a0 :: a1 :: a2 :: a3 :: a4 :: some (.int x) :: r) st h := by
  subst hp
  exact e_inc (i := 5) rfl (sN1_ok (j := 4) (o := a4) rfl hno) (fun b p e R s m args below meth c H locs ls cells slots Q k0 hx hb hl hk k => lv_iinc hx hb hd hl hk hv hn rfl k) kk
theorem e_iincN_5 {a0 a1 a2 a3 a4 : Option Value} {r : List (Option Value)} {a n : Nat} (hd : decode M.2.1 pc = .ok (.iinc 5 (n : Int), 3)) (hn : 5 < M.2.2.1) (hno : sN1 a4 = true) (hp : pc + 3 = p') (kk : sEv l M d B K p' (a0 :: a1 :: a2 :: a3 :: a4 :: some (.int (nI (a + n))) :: r) st h) : sEv l M d B K pc (a0 :: a1 :: a2 :: a3 :: a4 :: some (.int (nI a)) :: r) st h := e_iinc_5 hd hn hno (by rw [← nI_add]; rfl) hp kk
theorem e_iload_6 {a0 a1 a2 a3 a4 a5 : Option Value} {r : List (Option Value)} {x : Int32} (hd : decode M.2.1 pc = .ok (.iload 6, 2)) (hp : pc + 2 = p') (kk : sEv l M d B K p' (a0 :: a1 :: a2 :: a3 :: a4 :: a5 :: some (.int x) :: r) (.int x :: st) h) : sEv l M d B K pc (a0 :: a1 :: a2 :: a3 :: a4 :: a5 :: some (.int x) :: r) st h := by
  subst hp
  exact e_ld (i := 6) rfl (fun b p e R s m args below meth c H locs ls cells slots Q hx hb hl k => lv_iload hx hb hd hl k) kk
theorem e_lload_6 {a0 a1 a2 a3 a4 a5 : Option Value} {r : List (Option Value)} {x : Int64} (hd : decode M.2.1 pc = .ok (.lload 6, 2)) (hp : pc + 2 = p') (kk : sEv l M d B K p' (a0 :: a1 :: a2 :: a3 :: a4 :: a5 :: some (.long x) :: r) (.long x :: st) h) : sEv l M d B K pc (a0 :: a1 :: a2 :: a3 :: a4 :: a5 :: some (.long x) :: r) st h := by
  subst hp
  exact e_ld (i := 6) rfl (fun b p e R s m args below meth c H locs ls cells slots Q hx hb hl k => lv_lload hx hb hd hl k) kk
theorem e_aload_6 {a0 a1 a2 a3 a4 a5 : Option Value} {r : List (Option Value)} {x : Nat} (hd : decode M.2.1 pc = .ok (.aload 6, 2)) (hp : pc + 2 = p') (kk : sEv l M d B K p' (a0 :: a1 :: a2 :: a3 :: a4 :: a5 :: some (.ref x) :: r) (.ref x :: st) h) : sEv l M d B K pc (a0 :: a1 :: a2 :: a3 :: a4 :: a5 :: some (.ref x) :: r) st h := by
  subst hp
  exact e_ld (i := 6) rfl (fun b p e R s m args below meth c H locs ls cells slots Q hx hb hl k => lv_aload hx hb hd hl k) kk
theorem e_istore_6 {a0 a1 a2 a3 a4 a5 a6 : Option Value} {r : List (Option Value)} {x : Int32} (hd : decode M.2.1 pc = .ok (.istore 6, 2)) (hn : 6 < M.2.2.1) (hno : sN1 a5 = true) (hp : pc + 2 = p') (kk : sEv l M d B K p' (a0 :: a1 :: a2 :: a3 :: a4 :: a5 :: some (.int x) :: r) st h) : sEv l M d B K pc (a0 :: a1 :: a2 :: a3 :: a4 :: a5 :: a6 :: r) (.int x :: st) h := by
  subst hp
  exact e_st1 (i := 6) (sN1_ok (j := 5) (o := a5) rfl hno) (fun b p e R s m args below meth c H locs ls cells slots Q hx hb hl k => lv_istore hx hb hd hl hn rfl k) kk
theorem e_astore_6 {a0 a1 a2 a3 a4 a5 a6 : Option Value} {r : List (Option Value)} {x : Nat} (hd : decode M.2.1 pc = .ok (.astore 6, 2)) (hn : 6 < M.2.2.1) (hno : sN1 a5 = true) (hp : pc + 2 = p') (kk : sEv l M d B K p' (a0 :: a1 :: a2 :: a3 :: a4 :: a5 :: some (.ref x) :: r) st h) : sEv l M d B K pc (a0 :: a1 :: a2 :: a3 :: a4 :: a5 :: a6 :: r) (.ref x :: st) h := by
  subst hp
  exact e_st1 (i := 6) (sN1_ok (j := 5) (o := a5) rfl hno) (fun b p e R s m args below meth c H locs ls cells slots Q hx hb hl k => lv_astore hx hb hd hl hn rfl k) kk
theorem e_lstore_6 {a0 a1 a2 a3 a4 a5 a6 a7 : Option Value} {r : List (Option Value)} {x : Int64} (hd : decode M.2.1 pc = .ok (.lstore 6, 2)) (hn : 7 < M.2.2.1) (hno : sN1 a5 = true) (hp : pc + 2 = p') (kk : sEv l M d B K p' (a0 :: a1 :: a2 :: a3 :: a4 :: a5 :: some (.long x) :: none :: r) st h) : sEv l M d B K pc (a0 :: a1 :: a2 :: a3 :: a4 :: a5 :: a6 :: a7 :: r) (.long x :: st) h := by
  subst hp
  exact e_st2 (i := 6) (sN1_ok (j := 5) (o := a5) rfl hno) (fun b p e R s m args below meth c H locs ls cells slots Q hx hb hl k => lv_lstore hx hb hd hl hn rfl k) kk
theorem e_iinc_6 {a0 a1 a2 a3 a4 a5 : Option Value} {r : List (Option Value)} {x v : Int32} {n : Int} (hd : decode M.2.1 pc = .ok (.iinc 6 n, 3)) (hn : 6 < M.2.2.1) (hno : sN1 a5 = true) (hv : x + Int32.ofInt n = v) (hp : pc + 3 = p') (kk : sEv l M d B K p' (a0 :: a1 :: a2 :: a3 :: a4 :: a5 :: some (.int v) :: r) st h) : sEv l M d B K pc (a0 :: a1 :: a2 :: a3 :: a4 :: a5 :: some (.int x) :: r) st h := by
  subst hp
  exact e_inc (i := 6) rfl (sN1_ok (j := 5) (o := a5) rfl hno) (fun b p e R s m args below meth c H locs ls cells slots Q k0 hx hb hl hk k => lv_iinc hx hb hd hl hk hv hn rfl k) kk
theorem e_iincN_6 {a0 a1 a2 a3 a4 a5 : Option Value} {r : List (Option Value)} {a n : Nat} (hd : decode M.2.1 pc = .ok (.iinc 6 (n : Int), 3)) (hn : 6 < M.2.2.1) (hno : sN1 a5 = true) (hp : pc + 3 = p') (kk : sEv l M d B K p' (a0 :: a1 :: a2 :: a3 :: a4 :: a5 :: some (.int (nI (a + n))) :: r) st h) : sEv l M d B K pc (a0 :: a1 :: a2 :: a3 :: a4 :: a5 :: some (.int (nI a)) :: r) st h := e_iinc_6 hd hn hno (by rw [← nI_add]; rfl) hp kk
theorem e_iload_7 {a0 a1 a2 a3 a4 a5 a6 : Option Value} {r : List (Option Value)} {x : Int32} (hd : decode M.2.1 pc = .ok (.iload 7, 2)) (hp : pc + 2 = p') (kk : sEv l M d B K p' (a0 :: a1 :: a2 :: a3 :: a4 :: a5 :: a6 :: some (.int x) :: r) (.int x :: st) h) : sEv l M d B K pc (a0 :: a1 :: a2 :: a3 :: a4 :: a5 :: a6 :: some (.int x) :: r) st h := by
  subst hp
  exact e_ld (i := 7) rfl (fun b p e R s m args below meth c H locs ls cells slots Q hx hb hl k => lv_iload hx hb hd hl k) kk
theorem e_lload_7 {a0 a1 a2 a3 a4 a5 a6 : Option Value} {r : List (Option Value)} {x : Int64} (hd : decode M.2.1 pc = .ok (.lload 7, 2)) (hp : pc + 2 = p') (kk : sEv l M d B K p' (a0 :: a1 :: a2 :: a3 :: a4 :: a5 :: a6 :: some (.long x) :: r) (.long x :: st) h) : sEv l M d B K pc (a0 :: a1 :: a2 :: a3 :: a4 :: a5 :: a6 :: some (.long x) :: r) st h := by
  subst hp
  exact e_ld (i := 7) rfl (fun b p e R s m args below meth c H locs ls cells slots Q hx hb hl k => lv_lload hx hb hd hl k) kk
theorem e_aload_7 {a0 a1 a2 a3 a4 a5 a6 : Option Value} {r : List (Option Value)} {x : Nat} (hd : decode M.2.1 pc = .ok (.aload 7, 2)) (hp : pc + 2 = p') (kk : sEv l M d B K p' (a0 :: a1 :: a2 :: a3 :: a4 :: a5 :: a6 :: some (.ref x) :: r) (.ref x :: st) h) : sEv l M d B K pc (a0 :: a1 :: a2 :: a3 :: a4 :: a5 :: a6 :: some (.ref x) :: r) st h := by
  subst hp
  exact e_ld (i := 7) rfl (fun b p e R s m args below meth c H locs ls cells slots Q hx hb hl k => lv_aload hx hb hd hl k) kk
theorem e_istore_7 {a0 a1 a2 a3 a4 a5 a6 a7 : Option Value} {r : List (Option Value)} {x : Int32} (hd : decode M.2.1 pc = .ok (.istore 7, 2)) (hn : 7 < M.2.2.1) (hno : sN1 a6 = true) (hp : pc + 2 = p') (kk : sEv l M d B K p' (a0 :: a1 :: a2 :: a3 :: a4 :: a5 :: a6 :: some (.int x) :: r) st h) : sEv l M d B K pc (a0 :: a1 :: a2 :: a3 :: a4 :: a5 :: a6 :: a7 :: r) (.int x :: st) h := by
  subst hp
  exact e_st1 (i := 7) (sN1_ok (j := 6) (o := a6) rfl hno) (fun b p e R s m args below meth c H locs ls cells slots Q hx hb hl k => lv_istore hx hb hd hl hn rfl k) kk
theorem e_astore_7 {a0 a1 a2 a3 a4 a5 a6 a7 : Option Value} {r : List (Option Value)} {x : Nat} (hd : decode M.2.1 pc = .ok (.astore 7, 2)) (hn : 7 < M.2.2.1) (hno : sN1 a6 = true) (hp : pc + 2 = p') (kk : sEv l M d B K p' (a0 :: a1 :: a2 :: a3 :: a4 :: a5 :: a6 :: some (.ref x) :: r) st h) : sEv l M d B K pc (a0 :: a1 :: a2 :: a3 :: a4 :: a5 :: a6 :: a7 :: r) (.ref x :: st) h := by
  subst hp
  exact e_st1 (i := 7) (sN1_ok (j := 6) (o := a6) rfl hno) (fun b p e R s m args below meth c H locs ls cells slots Q hx hb hl k => lv_astore hx hb hd hl hn rfl k) kk
theorem e_lstore_7 {a0 a1 a2 a3 a4 a5 a6 a7 a8 : Option Value} {r : List (Option Value)} {x : Int64} (hd : decode M.2.1 pc = .ok (.lstore 7, 2)) (hn : 8 < M.2.2.1) (hno : sN1 a6 = true) (hp : pc + 2 = p') (kk : sEv l M d B K p' (a0 :: a1 :: a2 :: a3 :: a4 :: a5 :: a6 :: some (.long x) :: none :: r) st h) : sEv l M d B K pc (a0 :: a1 :: a2 :: a3 :: a4 :: a5 :: a6 :: a7 :: a8 :: r) (.long x :: st) h := by
  subst hp
  exact e_st2 (i := 7) (sN1_ok (j := 6) (o := a6) rfl hno) (fun b p e R s m args below meth c H locs ls cells slots Q hx hb hl k => lv_lstore hx hb hd hl hn rfl k) kk
theorem e_iinc_7 {a0 a1 a2 a3 a4 a5 a6 : Option Value} {r : List (Option Value)} {x v : Int32} {n : Int} (hd : decode M.2.1 pc = .ok (.iinc 7 n, 3)) (hn : 7 < M.2.2.1) (hno : sN1 a6 = true) (hv : x + Int32.ofInt n = v) (hp : pc + 3 = p') (kk : sEv l M d B K p' (a0 :: a1 :: a2 :: a3 :: a4 :: a5 :: a6 :: some (.int v) :: r) st h) : sEv l M d B K pc (a0 :: a1 :: a2 :: a3 :: a4 :: a5 :: a6 :: some (.int x) :: r) st h := by
  subst hp
  exact e_inc (i := 7) rfl (sN1_ok (j := 6) (o := a6) rfl hno) (fun b p e R s m args below meth c H locs ls cells slots Q k0 hx hb hl hk k => lv_iinc hx hb hd hl hk hv hn rfl k) kk
theorem e_iincN_7 {a0 a1 a2 a3 a4 a5 a6 : Option Value} {r : List (Option Value)} {a n : Nat} (hd : decode M.2.1 pc = .ok (.iinc 7 (n : Int), 3)) (hn : 7 < M.2.2.1) (hno : sN1 a6 = true) (hp : pc + 3 = p') (kk : sEv l M d B K p' (a0 :: a1 :: a2 :: a3 :: a4 :: a5 :: a6 :: some (.int (nI (a + n))) :: r) st h) : sEv l M d B K pc (a0 :: a1 :: a2 :: a3 :: a4 :: a5 :: a6 :: some (.int (nI a)) :: r) st h := e_iinc_7 hd hn hno (by rw [← nI_add]; rfl) hp kk
theorem e_iload_8 {a0 a1 a2 a3 a4 a5 a6 a7 : Option Value} {r : List (Option Value)} {x : Int32} (hd : decode M.2.1 pc = .ok (.iload 8, 2)) (hp : pc + 2 = p') (kk : sEv l M d B K p' (a0 :: a1 :: a2 :: a3 :: a4 :: a5 :: a6 :: a7 :: some (.int x) :: r) (.int x :: st) h) : sEv l M d B K pc (a0 :: a1 :: a2 :: a3 :: a4 :: a5 :: a6 :: a7 :: some (.int x) :: r) st h := by
  subst hp
  exact e_ld (i := 8) rfl (fun b p e R s m args below meth c H locs ls cells slots Q hx hb hl k => lv_iload hx hb hd hl k) kk
theorem e_lload_8 {a0 a1 a2 a3 a4 a5 a6 a7 : Option Value} {r : List (Option Value)} {x : Int64} (hd : decode M.2.1 pc = .ok (.lload 8, 2)) (hp : pc + 2 = p') (kk : sEv l M d B K p' (a0 :: a1 :: a2 :: a3 :: a4 :: a5 :: a6 :: a7 :: some (.long x) :: r) (.long x :: st) h) : sEv l M d B K pc (a0 :: a1 :: a2 :: a3 :: a4 :: a5 :: a6 :: a7 :: some (.long x) :: r) st h := by
  subst hp
  exact e_ld (i := 8) rfl (fun b p e R s m args below meth c H locs ls cells slots Q hx hb hl k => lv_lload hx hb hd hl k) kk
theorem e_aload_8 {a0 a1 a2 a3 a4 a5 a6 a7 : Option Value} {r : List (Option Value)} {x : Nat} (hd : decode M.2.1 pc = .ok (.aload 8, 2)) (hp : pc + 2 = p') (kk : sEv l M d B K p' (a0 :: a1 :: a2 :: a3 :: a4 :: a5 :: a6 :: a7 :: some (.ref x) :: r) (.ref x :: st) h) : sEv l M d B K pc (a0 :: a1 :: a2 :: a3 :: a4 :: a5 :: a6 :: a7 :: some (.ref x) :: r) st h := by
  subst hp
  exact e_ld (i := 8) rfl (fun b p e R s m args below meth c H locs ls cells slots Q hx hb hl k => lv_aload hx hb hd hl k) kk
theorem e_istore_8 {a0 a1 a2 a3 a4 a5 a6 a7 a8 : Option Value} {r : List (Option Value)} {x : Int32} (hd : decode M.2.1 pc = .ok (.istore 8, 2)) (hn : 8 < M.2.2.1) (hno : sN1 a7 = true) (hp : pc + 2 = p') (kk : sEv l M d B K p' (a0 :: a1 :: a2 :: a3 :: a4 :: a5 :: a6 :: a7 :: some (.int x) :: r) st h) : sEv l M d B K pc (a0 :: a1 :: a2 :: a3 :: a4 :: a5 :: a6 :: a7 :: a8 :: r) (.int x :: st) h := by
  subst hp
  exact e_st1 (i := 8) (sN1_ok (j := 7) (o := a7) rfl hno) (fun b p e R s m args below meth c H locs ls cells slots Q hx hb hl k => lv_istore hx hb hd hl hn rfl k) kk
theorem e_astore_8 {a0 a1 a2 a3 a4 a5 a6 a7 a8 : Option Value} {r : List (Option Value)} {x : Nat} (hd : decode M.2.1 pc = .ok (.astore 8, 2)) (hn : 8 < M.2.2.1) (hno : sN1 a7 = true) (hp : pc + 2 = p') (kk : sEv l M d B K p' (a0 :: a1 :: a2 :: a3 :: a4 :: a5 :: a6 :: a7 :: some (.ref x) :: r) st h) : sEv l M d B K pc (a0 :: a1 :: a2 :: a3 :: a4 :: a5 :: a6 :: a7 :: a8 :: r) (.ref x :: st) h := by
  subst hp
  exact e_st1 (i := 8) (sN1_ok (j := 7) (o := a7) rfl hno) (fun b p e R s m args below meth c H locs ls cells slots Q hx hb hl k => lv_astore hx hb hd hl hn rfl k) kk
theorem e_lstore_8 {a0 a1 a2 a3 a4 a5 a6 a7 a8 a9 : Option Value} {r : List (Option Value)} {x : Int64} (hd : decode M.2.1 pc = .ok (.lstore 8, 2)) (hn : 9 < M.2.2.1) (hno : sN1 a7 = true) (hp : pc + 2 = p') (kk : sEv l M d B K p' (a0 :: a1 :: a2 :: a3 :: a4 :: a5 :: a6 :: a7 :: some (.long x) :: none :: r) st h) : sEv l M d B K pc (a0 :: a1 :: a2 :: a3 :: a4 :: a5 :: a6 :: a7 :: a8 :: a9 :: r) (.long x :: st) h := by
  subst hp
  exact e_st2 (i := 8) (sN1_ok (j := 7) (o := a7) rfl hno) (fun b p e R s m args below meth c H locs ls cells slots Q hx hb hl k => lv_lstore hx hb hd hl hn rfl k) kk
theorem e_iinc_8 {a0 a1 a2 a3 a4 a5 a6 a7 : Option Value} {r : List (Option Value)} {x v : Int32} {n : Int} (hd : decode M.2.1 pc = .ok (.iinc 8 n, 3)) (hn : 8 < M.2.2.1) (hno : sN1 a7 = true) (hv : x + Int32.ofInt n = v) (hp : pc + 3 = p') (kk : sEv l M d B K p' (a0 :: a1 :: a2 :: a3 :: a4 :: a5 :: a6 :: a7 :: some (.int v) :: r) st h) : sEv l M d B K pc (a0 :: a1 :: a2 :: a3 :: a4 :: a5 :: a6 :: a7 :: some (.int x) :: r) st h := by
  subst hp
  exact e_inc (i := 8) rfl (sN1_ok (j := 7) (o := a7) rfl hno) (fun b p e R s m args below meth c H locs ls cells slots Q k0 hx hb hl hk k => lv_iinc hx hb hd hl hk hv hn rfl k) kk
theorem e_iincN_8 {a0 a1 a2 a3 a4 a5 a6 a7 : Option Value} {r : List (Option Value)} {a n : Nat} (hd : decode M.2.1 pc = .ok (.iinc 8 (n : Int), 3)) (hn : 8 < M.2.2.1) (hno : sN1 a7 = true) (hp : pc + 3 = p') (kk : sEv l M d B K p' (a0 :: a1 :: a2 :: a3 :: a4 :: a5 :: a6 :: a7 :: some (.int (nI (a + n))) :: r) st h) : sEv l M d B K pc (a0 :: a1 :: a2 :: a3 :: a4 :: a5 :: a6 :: a7 :: some (.int (nI a)) :: r) st h := e_iinc_8 hd hn hno (by rw [← nI_add]; rfl) hp kk
theorem e_aloadS_0 {r : List (Option Value)} {x : Nat} (hd : decode M.2.1 pc = .ok (.aload_n 0, 1)) (hp : pc + 1 = p') (kk : sEv l M d B K p' (some (.retAddr x) :: r) (.retAddr x :: st) h) : sEv l M d B K pc (some (.retAddr x) :: r) st h := by
  subst hp
  exact e_ld (i := 0) rfl (fun b p e R s m args below meth c H locs ls cells slots Q hx hb hl k => lv_aload_n hx hb hd rfl hl k) kk
theorem e_goto {off : Int} (hd : decode M.2.1 pc = .ok (.goto off, 3)) (hp : (pc : Int) + off = (p' : Int)) (kk : sEv l M d B K p' lv st h) : sEv l M d B K pc lv st h :=
  e_of (fun b p e R s m args below meth c H locs ls cells slots Q hx hb k => lv_goto hx hb hd hp k) kk
theorem e_tsOut {dflt lo hi : Int} {offs : Array Int} {len : Nat} {x : Int32} (hd : decode M.2.1 pc = .ok (.tableswitch dflt lo hi offs, len)) (hx0 : x.toInt < lo ∨ hi < x.toInt) (hp : (pc : Int) + dflt = (p' : Int)) (kk : sEv l M d B K p' lv st h) : sEv l M d B K pc lv (.int x :: st) h :=
  e_of (fun b p e R s m args below meth c H locs ls cells slots Q hx hb k => lv_tableOut hx hb hd hx0 hp k) kk
theorem e_tsIn {dflt lo hi : Int} {offs : Array Int} {len : Nat} {x : Int32} {off : Int} (hd : decode M.2.1 pc = .ok (.tableswitch dflt lo hi offs, len)) (h1 : ¬ x.toInt < lo) (h2 : ¬ hi < x.toInt) (ho : offs[(x.toInt - lo).toNat]? = some off) (hp : (pc : Int) + off = (p' : Int)) (kk : sEv l M d B K p' lv st h) : sEv l M d B K pc lv (.int x :: st) h :=
  e_of (fun b p e R s m args below meth c H locs ls cells slots Q hx hb k => lv_tableIn hx hb hd h1 h2 ho hp k) kk
theorem e_ifnonnull {a : Nat} {off : Int} (hd : decode M.2.1 pc = .ok (.ifnonnull off, 3)) (hp : (pc : Int) + off = (p' : Int)) (kk : sEv l M d B K p' lv st h) : sEv l M d B K pc lv (.ref a :: st) h :=
  e_of (fun b p e R s m args below meth c H locs ls cells slots Q hx hb k => lv_ifnonnull hx hb hd hp k) kk
theorem e_ifnonnullN {off : Int} (hd : decode M.2.1 pc = .ok (.ifnonnull off, 3)) (hp : pc + 3 = p') (kk : sEv l M d B K p' lv st h) : sEv l M d B K pc lv (.null :: st) h := by
  subst hp
  exact e_of (fun b p e R s m args below meth c H locs ls cells slots Q hx hb k => lv_ifnonnullN hx hb hd k) kk
theorem e_ifnull {a : Nat} {off : Int} (hd : decode M.2.1 pc = .ok (.ifnull off, 3)) (hp : pc + 3 = p') (kk : sEv l M d B K p' lv st h) : sEv l M d B K pc lv (.ref a :: st) h := by
  subst hp
  exact e_of (fun b p e R s m args below meth c H locs ls cells slots Q hx hb k => lv_ifnull hx hb hd k) kk
theorem e_ifnullN {off : Int} (hd : decode M.2.1 pc = .ok (.ifnull off, 3)) (hp : (pc : Int) + off = (p' : Int)) (kk : sEv l M d B K p' lv st h) : sEv l M d B K pc lv (.null :: st) h :=
  e_of (fun b p e R s m args below meth c H locs ls cells slots Q hx hb k => lv_ifnullN hx hb hd hp k) kk

theorem e_icmp_eq {x y : Int32} {off : Int} {q : Nat} (hd : decode M.2.1 pc = .ok (.if_icmp .eq off, 3)) (hq : (pc : Int) + off = (q : Int)) (hp : pc + 3 = p') (kt : x = y → sEv l M d B K q lv st h) (kf : ¬ (x = y) → sEv l M d B K p' lv st h) : sEv l M d B K pc lv (.int y :: .int x :: st) h := by
  subst hp
  intro G p e R s m args below meth c H locs ls C hR hS hL
  exact lv_icmp_eq C.1 C.2.1 hd hq (fun hc => kt hc G p e R s m args below meth c H locs ls C hR hS hL) (fun hc => kf hc G p e R s m args below meth c H locs ls C hR hS hL)
theorem e_icmpN_eq {a b : Nat} {off : Int} {q : Nat} (hd : decode M.2.1 pc = .ok (.if_icmp .eq off, 3)) (ha : a < 2 ^ 31) (hb : b < 2 ^ 31) (hq : (pc : Int) + off = (q : Int)) (hp : pc + 3 = p') (kt : a = b → sEv l M d B K q lv st h) (kf : ¬ (a = b) → sEv l M d B K p' lv st h) : sEv l M d B K pc lv (.int (nI b) :: .int (nI a) :: st) h := by
  have hi : (nI a = nI b) ↔ (a = b) := nI_eq ha hb
  exact e_icmp_eq hd hq hp (fun hc => kt (hi.mp hc)) (fun hc => kf (fun z => hc (hi.mpr z)))
theorem e_if_eq {x : Int32} {off : Int} {q : Nat} (hd : decode M.2.1 pc = .ok (.ifCond .eq off, 3)) (hq : (pc : Int) + off = (q : Int)) (hp : pc + 3 = p') (kt : x = 0 → sEv l M d B K q lv st h) (kf : ¬ (x = 0) → sEv l M d B K p' lv st h) : sEv l M d B K pc lv (.int x :: st) h := by
  subst hp
  intro G p e R s m args below meth c H locs ls C hR hS hL
  exact lv_if_eq C.1 C.2.1 hd hq (fun hc => kt hc G p e R s m args below meth c H locs ls C hR hS hL) (fun hc => kf hc G p e R s m args below meth c H locs ls C hR hS hL)
theorem e_ifN_eq {a : Nat} {off : Int} {q : Nat} (hd : decode M.2.1 pc = .ok (.ifCond .eq off, 3)) (ha : a < 2 ^ 31) (hq : (pc : Int) + off = (q : Int)) (hp : pc + 3 = p') (kt : a = 0 → sEv l M d B K q lv st h) (kf : ¬ (a = 0) → sEv l M d B K p' lv st h) : sEv l M d B K pc lv (.int (nI a) :: st) h := by
  have hi : (nI a = 0) ↔ (a = 0) := by rw [sI_zero]; exact nI_eq ha (by decide)
  exact e_if_eq hd hq hp (fun hc => kt (hi.mp hc)) (fun hc => kf (fun z => hc (hi.mpr z)))
theorem e_icmp_ne {x y : Int32} {off : Int} {q : Nat} (hd : decode M.2.1 pc = .ok (.if_icmp .ne off, 3)) (hq : (pc : Int) + off = (q : Int)) (hp : pc + 3 = p') (kt : ¬ x = y → sEv l M d B K q lv st h) (kf : x = y → sEv l M d B K p' lv st h) : sEv l M d B K pc lv (.int y :: .int x :: st) h := by
  subst hp
  intro G p e R s m args below meth c H locs ls C hR hS hL
  exact lv_icmp_ne C.1 C.2.1 hd hq (fun hc => kt hc G p e R s m args below meth c H locs ls C hR hS hL) (fun hc => kf hc G p e R s m args below meth c H locs ls C hR hS hL)
theorem e_icmpN_ne {a b : Nat} {off : Int} {q : Nat} (hd : decode M.2.1 pc = .ok (.if_icmp .ne off, 3)) (ha : a < 2 ^ 31) (hb : b < 2 ^ 31) (hq : (pc : Int) + off = (q : Int)) (hp : pc + 3 = p') (kt : ¬ a = b → sEv l M d B K q lv st h) (kf : a = b → sEv l M d B K p' lv st h) : sEv l M d B K pc lv (.int (nI b) :: .int (nI a) :: st) h := by
  have hi : (¬ nI a = nI b) ↔ (¬ a = b) := not_congr (nI_eq ha hb)
  exact e_icmp_ne hd hq hp (fun hc => kt (hi.mp hc)) (fun hc => kf (by rw [← Decidable.not_not (p := (a = b))]; exact fun z => (hi.mpr z) hc))
theorem e_if_ne {x : Int32} {off : Int} {q : Nat} (hd : decode M.2.1 pc = .ok (.ifCond .ne off, 3)) (hq : (pc : Int) + off = (q : Int)) (hp : pc + 3 = p') (kt : ¬ x = 0 → sEv l M d B K q lv st h) (kf : x = 0 → sEv l M d B K p' lv st h) : sEv l M d B K pc lv (.int x :: st) h := by
  subst hp
  intro G p e R s m args below meth c H locs ls C hR hS hL
  exact lv_if_ne C.1 C.2.1 hd hq (fun hc => kt hc G p e R s m args below meth c H locs ls C hR hS hL) (fun hc => kf hc G p e R s m args below meth c H locs ls C hR hS hL)
theorem e_ifN_ne {a : Nat} {off : Int} {q : Nat} (hd : decode M.2.1 pc = .ok (.ifCond .ne off, 3)) (ha : a < 2 ^ 31) (hq : (pc : Int) + off = (q : Int)) (hp : pc + 3 = p') (kt : ¬ a = 0 → sEv l M d B K q lv st h) (kf : a = 0 → sEv l M d B K p' lv st h) : sEv l M d B K pc lv (.int (nI a) :: st) h := by
  have hi : (¬ nI a = 0) ↔ (¬ a = 0) := by rw [sI_zero]; exact not_congr (nI_eq ha (by decide))
  exact e_if_ne hd hq hp (fun hc => kt (hi.mp hc)) (fun hc => kf (by rw [← Decidable.not_not (p := (a = 0))]; exact fun z => (hi.mpr z) hc))
theorem e_icmp_lt {x y : Int32} {off : Int} {q : Nat} (hd : decode M.2.1 pc = .ok (.if_icmp .lt off, 3)) (hq : (pc : Int) + off = (q : Int)) (hp : pc + 3 = p') (kt : x < y → sEv l M d B K q lv st h) (kf : ¬ (x < y) → sEv l M d B K p' lv st h) : sEv l M d B K pc lv (.int y :: .int x :: st) h := by
  subst hp
  intro G p e R s m args below meth c H locs ls C hR hS hL
  exact lv_icmp_lt C.1 C.2.1 hd hq (fun hc => kt hc G p e R s m args below meth c H locs ls C hR hS hL) (fun hc => kf hc G p e R s m args below meth c H locs ls C hR hS hL)
theorem e_icmpN_lt {a b : Nat} {off : Int} {q : Nat} (hd : decode M.2.1 pc = .ok (.if_icmp .lt off, 3)) (ha : a < 2 ^ 31) (hb : b < 2 ^ 31) (hq : (pc : Int) + off = (q : Int)) (hp : pc + 3 = p') (kt : a < b → sEv l M d B K q lv st h) (kf : ¬ (a < b) → sEv l M d B K p' lv st h) : sEv l M d B K pc lv (.int (nI b) :: .int (nI a) :: st) h := by
  have hi : (nI a < nI b) ↔ (a < b) := nI_ltI ha hb
  exact e_icmp_lt hd hq hp (fun hc => kt (hi.mp hc)) (fun hc => kf (fun z => hc (hi.mpr z)))
theorem e_if_lt {x : Int32} {off : Int} {q : Nat} (hd : decode M.2.1 pc = .ok (.ifCond .lt off, 3)) (hq : (pc : Int) + off = (q : Int)) (hp : pc + 3 = p') (kt : x < 0 → sEv l M d B K q lv st h) (kf : ¬ (x < 0) → sEv l M d B K p' lv st h) : sEv l M d B K pc lv (.int x :: st) h := by
  subst hp
  intro G p e R s m args below meth c H locs ls C hR hS hL
  exact lv_if_lt C.1 C.2.1 hd hq (fun hc => kt hc G p e R s m args below meth c H locs ls C hR hS hL) (fun hc => kf hc G p e R s m args below meth c H locs ls C hR hS hL)
theorem e_ifN_lt {a : Nat} {off : Int} {q : Nat} (hd : decode M.2.1 pc = .ok (.ifCond .lt off, 3)) (ha : a < 2 ^ 31) (hq : (pc : Int) + off = (q : Int)) (hp : pc + 3 = p') (kt : a < 0 → sEv l M d B K q lv st h) (kf : ¬ (a < 0) → sEv l M d B K p' lv st h) : sEv l M d B K pc lv (.int (nI a) :: st) h := by
  have hi : (nI a < 0) ↔ (a < 0) := by rw [sI_zero]; exact nI_ltI ha (by decide)
  exact e_if_lt hd hq hp (fun hc => kt (hi.mp hc)) (fun hc => kf (fun z => hc (hi.mpr z)))
theorem e_icmp_ge {x y : Int32} {off : Int} {q : Nat} (hd : decode M.2.1 pc = .ok (.if_icmp .ge off, 3)) (hq : (pc : Int) + off = (q : Int)) (hp : pc + 3 = p') (kt : y ≤ x → sEv l M d B K q lv st h) (kf : ¬ (y ≤ x) → sEv l M d B K p' lv st h) : sEv l M d B K pc lv (.int y :: .int x :: st) h := by
  subst hp
  intro G p e R s m args below meth c H locs ls C hR hS hL
  exact lv_icmp_ge C.1 C.2.1 hd hq (fun hc => kt hc G p e R s m args below meth c H locs ls C hR hS hL) (fun hc => kf hc G p e R s m args below meth c H locs ls C hR hS hL)
theorem e_icmpN_ge {a b : Nat} {off : Int} {q : Nat} (hd : decode M.2.1 pc = .ok (.if_icmp .ge off, 3)) (ha : a < 2 ^ 31) (hb : b < 2 ^ 31) (hq : (pc : Int) + off = (q : Int)) (hp : pc + 3 = p') (kt : b ≤ a → sEv l M d B K q lv st h) (kf : ¬ (b ≤ a) → sEv l M d B K p' lv st h) : sEv l M d B K pc lv (.int (nI b) :: .int (nI a) :: st) h := by
  have hi : (nI b ≤ nI a) ↔ (b ≤ a) := nI_leI hb ha
  exact e_icmp_ge hd hq hp (fun hc => kt (hi.mp hc)) (fun hc => kf (fun z => hc (hi.mpr z)))
theorem e_if_ge {x : Int32} {off : Int} {q : Nat} (hd : decode M.2.1 pc = .ok (.ifCond .ge off, 3)) (hq : (pc : Int) + off = (q : Int)) (hp : pc + 3 = p') (kt : 0 ≤ x → sEv l M d B K q lv st h) (kf : ¬ (0 ≤ x) → sEv l M d B K p' lv st h) : sEv l M d B K pc lv (.int x :: st) h := by
  subst hp
  intro G p e R s m args below meth c H locs ls C hR hS hL
  exact lv_if_ge C.1 C.2.1 hd hq (fun hc => kt hc G p e R s m args below meth c H locs ls C hR hS hL) (fun hc => kf hc G p e R s m args below meth c H locs ls C hR hS hL)
theorem e_ifN_ge {a : Nat} {off : Int} {q : Nat} (hd : decode M.2.1 pc = .ok (.ifCond .ge off, 3)) (ha : a < 2 ^ 31) (hq : (pc : Int) + off = (q : Int)) (hp : pc + 3 = p') (kt : 0 ≤ a → sEv l M d B K q lv st h) (kf : ¬ (0 ≤ a) → sEv l M d B K p' lv st h) : sEv l M d B K pc lv (.int (nI a) :: st) h := by
  have hi : (0 ≤ nI a) ↔ (0 ≤ a) := by rw [sI_zero]; exact nI_leI (by decide) ha
  exact e_if_ge hd hq hp (fun hc => kt (hi.mp hc)) (fun hc => kf (fun z => hc (hi.mpr z)))
theorem e_icmp_gt {x y : Int32} {off : Int} {q : Nat} (hd : decode M.2.1 pc = .ok (.if_icmp .gt off, 3)) (hq : (pc : Int) + off = (q : Int)) (hp : pc + 3 = p') (kt : y < x → sEv l M d B K q lv st h) (kf : ¬ (y < x) → sEv l M d B K p' lv st h) : sEv l M d B K pc lv (.int y :: .int x :: st) h := by
  subst hp
  intro G p e R s m args below meth c H locs ls C hR hS hL
  exact lv_icmp_gt C.1 C.2.1 hd hq (fun hc => kt hc G p e R s m args below meth c H locs ls C hR hS hL) (fun hc => kf hc G p e R s m args below meth c H locs ls C hR hS hL)
theorem e_icmpN_gt {a b : Nat} {off : Int} {q : Nat} (hd : decode M.2.1 pc = .ok (.if_icmp .gt off, 3)) (ha : a < 2 ^ 31) (hb : b < 2 ^ 31) (hq : (pc : Int) + off = (q : Int)) (hp : pc + 3 = p') (kt : b < a → sEv l M d B K q lv st h) (kf : ¬ (b < a) → sEv l M d B K p' lv st h) : sEv l M d B K pc lv (.int (nI b) :: .int (nI a) :: st) h := by
  have hi : (nI b < nI a) ↔ (b < a) := nI_ltI hb ha
  exact e_icmp_gt hd hq hp (fun hc => kt (hi.mp hc)) (fun hc => kf (fun z => hc (hi.mpr z)))
theorem e_if_gt {x : Int32} {off : Int} {q : Nat} (hd : decode M.2.1 pc = .ok (.ifCond .gt off, 3)) (hq : (pc : Int) + off = (q : Int)) (hp : pc + 3 = p') (kt : 0 < x → sEv l M d B K q lv st h) (kf : ¬ (0 < x) → sEv l M d B K p' lv st h) : sEv l M d B K pc lv (.int x :: st) h := by
  subst hp
  intro G p e R s m args below meth c H locs ls C hR hS hL
  exact lv_if_gt C.1 C.2.1 hd hq (fun hc => kt hc G p e R s m args below meth c H locs ls C hR hS hL) (fun hc => kf hc G p e R s m args below meth c H locs ls C hR hS hL)
theorem e_ifN_gt {a : Nat} {off : Int} {q : Nat} (hd : decode M.2.1 pc = .ok (.ifCond .gt off, 3)) (ha : a < 2 ^ 31) (hq : (pc : Int) + off = (q : Int)) (hp : pc + 3 = p') (kt : 0 < a → sEv l M d B K q lv st h) (kf : ¬ (0 < a) → sEv l M d B K p' lv st h) : sEv l M d B K pc lv (.int (nI a) :: st) h := by
  have hi : (0 < nI a) ↔ (0 < a) := by rw [sI_zero]; exact nI_ltI (by decide) ha
  exact e_if_gt hd hq hp (fun hc => kt (hi.mp hc)) (fun hc => kf (fun z => hc (hi.mpr z)))
theorem e_icmp_le {x y : Int32} {off : Int} {q : Nat} (hd : decode M.2.1 pc = .ok (.if_icmp .le off, 3)) (hq : (pc : Int) + off = (q : Int)) (hp : pc + 3 = p') (kt : x ≤ y → sEv l M d B K q lv st h) (kf : ¬ (x ≤ y) → sEv l M d B K p' lv st h) : sEv l M d B K pc lv (.int y :: .int x :: st) h := by
  subst hp
  intro G p e R s m args below meth c H locs ls C hR hS hL
  exact lv_icmp_le C.1 C.2.1 hd hq (fun hc => kt hc G p e R s m args below meth c H locs ls C hR hS hL) (fun hc => kf hc G p e R s m args below meth c H locs ls C hR hS hL)
theorem e_icmpN_le {a b : Nat} {off : Int} {q : Nat} (hd : decode M.2.1 pc = .ok (.if_icmp .le off, 3)) (ha : a < 2 ^ 31) (hb : b < 2 ^ 31) (hq : (pc : Int) + off = (q : Int)) (hp : pc + 3 = p') (kt : a ≤ b → sEv l M d B K q lv st h) (kf : ¬ (a ≤ b) → sEv l M d B K p' lv st h) : sEv l M d B K pc lv (.int (nI b) :: .int (nI a) :: st) h := by
  have hi : (nI a ≤ nI b) ↔ (a ≤ b) := nI_leI ha hb
  exact e_icmp_le hd hq hp (fun hc => kt (hi.mp hc)) (fun hc => kf (fun z => hc (hi.mpr z)))
theorem e_if_le {x : Int32} {off : Int} {q : Nat} (hd : decode M.2.1 pc = .ok (.ifCond .le off, 3)) (hq : (pc : Int) + off = (q : Int)) (hp : pc + 3 = p') (kt : x ≤ 0 → sEv l M d B K q lv st h) (kf : ¬ (x ≤ 0) → sEv l M d B K p' lv st h) : sEv l M d B K pc lv (.int x :: st) h := by
  subst hp
  intro G p e R s m args below meth c H locs ls C hR hS hL
  exact lv_if_le C.1 C.2.1 hd hq (fun hc => kt hc G p e R s m args below meth c H locs ls C hR hS hL) (fun hc => kf hc G p e R s m args below meth c H locs ls C hR hS hL)
theorem e_ifN_le {a : Nat} {off : Int} {q : Nat} (hd : decode M.2.1 pc = .ok (.ifCond .le off, 3)) (ha : a < 2 ^ 31) (hq : (pc : Int) + off = (q : Int)) (hp : pc + 3 = p') (kt : a ≤ 0 → sEv l M d B K q lv st h) (kf : ¬ (a ≤ 0) → sEv l M d B K p' lv st h) : sEv l M d B K pc lv (.int (nI a) :: st) h := by
  have hi : (nI a ≤ 0) ↔ (a ≤ 0) := by rw [sI_zero]; exact nI_leI ha (by decide)
  exact e_if_le hd hq hp (fun hc => kt (hi.mp hc)) (fun hc => kf (fun z => hc (hi.mpr z)))
theorem e_ifB_eq {b : Bool} {off : Int} {q : Nat} (hd : decode M.2.1 pc = .ok (.ifCond .eq off, 3)) (hq : (pc : Int) + off = (q : Int)) (hp : pc + 3 = p') (kt : b = false → sEv l M d B K q lv st h) (kf : b = true → sEv l M d B K p' lv st h) : sEv l M d B K pc lv (.int (sBo b) :: st) h :=
  e_if_eq hd hq hp (fun hc => kt (sBo_0.mp hc)) (fun hc => kf (by cases b with | true => rfl | false => exact absurd rfl hc))
theorem e_ifB_ne {b : Bool} {off : Int} {q : Nat} (hd : decode M.2.1 pc = .ok (.ifCond .ne off, 3)) (hq : (pc : Int) + off = (q : Int)) (hp : pc + 3 = p') (kt : b = true → sEv l M d B K q lv st h) (kf : b = false → sEv l M d B K p' lv st h) : sEv l M d B K pc lv (.int (sBo b) :: st) h :=
  e_if_ne hd hq hp (fun hc => kt (by cases b with | true => rfl | false => exact absurd rfl hc)) (fun hc => kf (sBo_0.mp hc))
end RULES
end
section
/-! ===== rules of the heap, of calls and of ends ===== -/
/-- a field by its place in the constant pool of 'own': field k of class ci -/
def sFL (own : String) (idx ci k : Nat) (fin : Bool) (ty : FieldType) : Prop := ∃ (C : String) (T : u_T) (N : Nat) (ty0 : Nat → FieldType), vwCl[ci]? = some (C, T, N) ∧ k < N ∧ Cond.fieldLink own idx (T k).1 (T k).2.1 (T k).2.2.1 ∈ lw_good ∧ (∀ w ∈ u_ws C T N, w ∈ lw_good) ∧ ty0 k = ty ∧ (T k).2.2.2 = fin ∧ (T k).1 = own ∧
  (∀ j, j < N → parseFieldDescriptor (T j).2.2.1 = some (ty0 j)) ∧ (∀ a, a < N → ∀ b, b < N → a ≠ b → (T a).2.1 ≠ (T b).2.1)
theorem vwCl_99 : vwCl[99]? = none := rfl
theorem sJ_obj {ci : Nat} {fs : List Value} {q : vw_C} (hq : vwCl[ci]? = some q) : (.inr (.inr (ci, fs)) : sC) ≠ sJ := by
  intro e
  have : ci = 99 := (Prod.mk.inj (Sum.inr.inj (Sum.inr.inj e))).1
  rw [this, vwCl_99] at hq
  cases hq
theorem sJ_arr {x : Nat × Nat × (Nat → Int32)} : (.inl x : sC) ≠ sJ := fun e => by cases e
theorem sJ_arq {x : Nat × Nat × (Nat → Option Nat)} : (.inr (.inl x) : sC) ≠ sJ := fun e => by cases (Sum.inr.inj e)
section HEAP
variable {l : Launch} {M : sM} {d : Nat} {B : sB} {K : sK} {pc p' : Nat} {lv : List (Option Value)} {st : List Value} {h : sH}
theorem e_getfield {idx ci k a : Nat} {fin : Bool} {ty : FieldType} {fs : List Value} {v : Value} (hd : decode M.2.1 pc = .ok (.getfield idx, 3)) (F : sFL M.1.cls idx ci k fin ty) (hc : h.2 a = .inr (.inr (ci, fs))) (hv : fs[k]? = some v) (hp : pc + 3 = p') (kk : sEv l M d B K p' lv (v :: st) h) : sEv l M d B K pc lv (.ref a :: st) h := by
  subst hp
  intro G p e R s m args below meth c H locs ls C hR hS hL
  have k2 := kk G p e R s m args below meth c H locs ls C hR hS hL
  obtain ⟨hx, hb, hml, hrt, hlk, hown, hin, hts, hB, hrm, hG, hK⟩ := C
  obtain ⟨Cn, T, N, ty0, h1, h2, h3, h4, h5, h6, h7, h8, h9⟩ := F
  have ha : a < h.1 := sR_lt hR (by rw [hc]; exact sJ_obj h1)
  exact va_get (D := G.2.1) (Ts := lw_good) hx hb hts h4 hown hB.1 hR.1 a (by rw [sW_get ha, hc]; rfl) h1 k h2 (hts _ h3) (fun _ h => h) (by simp [hv]) hd k2
theorem e_putfield {idx ci k a : Nat} {fin : Bool} {ty : FieldType} {fs fs' : List Value} {v : Value} (hd : decode M.2.1 pc = .ok (.putfield idx, 3)) (F : sFL M.1.cls idx ci k fin ty) (hfi : fin = false ∨ M.1.name = "<init>") (hc : h.2 a = .inr (.inr (ci, fs))) (hty : ∀ b, narrow ty (sTr b v) = sTr b v ∧ fits ty (sTr b v) = true) (hl : k < fs.length) (hfs : fs.set k v = fs') (hp : pc + 3 = p')
    (kk : sEv l M d B K p' lv st (sUp h a (.inr (.inr (ci, fs'))))) : sEv l M d B K pc lv (v :: .ref a :: st) h := by
  subst hp
  subst hfs
  intro G p e R s m args below meth c H locs ls C hR hS hL
  have C0 := C
  obtain ⟨hx, hb, hml, hrt, hlk, hown, hin, hts, hB, hrm, hG, hK⟩ := C
  obtain ⟨Cn, T, N, ty0, h1, h2, h3, h4, h5, h6, h7, h8, h9⟩ := F
  have ha : a < h.1 := sR_lt hR (by rw [hc]; exact sJ_obj h1)
  have he : (sW G h)[a]? = some (G.1 + a, .inr (ci, fs.map (sTr G.1))) := by rw [sW_get ha, hc]; rfl
  have hap := va_apart (own := M.1.cls) hts h4 ty0 h8 h9 hB.1 h1
  obtain ⟨r, g1, cell, q1, q2, q3, q4⟩ := hR.1 a _ he
  have hr : r = (Cn, T, N) := Option.some.inj (g1.symm.trans h1)
  subst hr
  obtain ⟨hSl, hfc, kC, hkC, hkind⟩ := hB.1.1 ci _ h1
  obtain ⟨cf, kf, fi, f, hi, hsl⟩ := hSl k h2
  have hlay := u_lays hts h4 h2
  have hst := (u_facts hfc hkC hlay hi).1
  obtain ⟨hn, hfit⟩ := hty G.1
  have hd2 : parseFieldDescriptor (T k).2.2.1 = some ty := by rw [h8 k h2, h5]
  have go : ∀ H' : Heap, H'[G.1 + a]? = some (cell.setSlot f.slot (sTr G.1 v)) → H'.size = H.size → (∀ q, q ≠ G.1 + a → H'[q]? = H[q]?) → W p l e R s m args below meth c H' (locs ++ [⟨G.1 + a, f.slot⟩]) B.1 B.2.1 (K.2 G s args below) (F0 m (pc + 3) ls (st.map (sTr G.1))) := by
    intro H' e1 e2 e3
    rw [hsl] at e1 ⊢
    refine kk G p e R s m args below meth c H' _ ls C0 (sR_upd hR ha ?_ e2 e3) (hS.put e2 e3 (Nat.le_add_right _ _)) hL
    have e4 : (sE G (.inr (.inr (ci, fs.set k v)))) = .inr (ci, (fs.map (sTr G.1)).set k (sTr G.1 v)) := by
      show (Sum.inr (ci, (fs.set k v).map (sTr G.1)) : va_E) = _
      rw [List.map_set]
    rw [e4]
    exact ⟨_, h1, t_OB.to (V := updV (vp_V (fs.map (sTr G.1))) k (sTr G.1 v)) ⟨_, e1, q2, q3, t_set q4 hap h2 _⟩ (fun j _ => vp_updV_set (by simpa using hl) _ j)⟩
  have hlink : (Cond.fieldLink M.1.cls idx (T k).1 (T k).2.1 (T k).2.2.1).before args s = true := hts _ h3
  by_cases hf : (T k).2.2.2 = true
  · have hin2 : meth.name = "<init>" := by
      rcases hfi with z | z
      · rw [← h6, hf] at z; cases z
      · exact hin z
    have hlayF := hts _ (h4 _ (u_in_lay h2))
    unfold u_lay at hlayF
    rw [if_pos hf] at hlayF
    have hcf : m.cls = cf := by
      obtain ⟨_, _, c', _, _, _, -, -, hf', -, -, -, hown2, -⟩ := Cond.laysFinal_spec hlayF
      have e1 : c' = cf := by have := hi.symm.trans hf'; simp at this; exact this.1.symm
      rw [h7] at hown2
      rw [← e1]; exact Option.some.inj (hown.symm.trans hown2)
    have h6' := u_fits hfc hkC hkind (Or.inr hlayF) hi hd2 hn hfit
    exact W.putFinK hx hb hown hlink hi hst hcf hin2 (by rw [q2]; exact h6') q1 q3 (by rw [hsl]; exact k2_hasslot (q4 k h2)) rfl rfl hd go
  · have hlayN := hts _ (h4 _ (u_in_lay h2))
    unfold u_lay at hlayN
    rw [if_neg hf] at hlayN
    have h6' := u_store hfc hkC hkind hlayN hi hd2 hn hfit
    exact W.putK hx hb (f := f) ⟨hown, hlink, ⟨_, _, _, hi⟩, hst⟩ (by rw [q2]; exact h6') q1 q3 (by rw [hsl]; exact k2_hasslot (q4 k h2)) rfl rfl hd go
theorem sIn {i n : Nat} (hi : i < n) (hn : n < 2 ^ 31) : vp_in (nI i) n := vp_in_nI hi hn
theorem e_iaload {a i n : Nat} {f : Nat → Int32} {x : Int32} (hd : decode M.2.1 pc = .ok (.iaload, 1)) (hc : h.2 a = .inl (0, n, f)) (hi : i < n) (hn : n < 2 ^ 31) (hx : f i = x) (hp : pc + 1 = p') (kk : sEv l M d B K p' lv (.int x :: st) h) : sEv l M d B K pc lv (.int (nI i) :: .ref a :: st) h := by
  subst hp
  subst hx
  intro G p e R s m args below meth c H locs ls C hR hS hL
  have k2 := kk G p e R s m args below meth c H locs ls C hR hS hL
  have ha : a < h.1 := sR_lt hR (by rw [hc]; exact sJ_arr)
  have hcl : (nI i).toNatClampNeg = i := nI_clamp (by omega)
  refine va_iald C.1 C.2.1 C.2.2.2.2.2.2.2.2.1.1 hR.1 a 0 (f := f) (n := n) (cA := G.2.2 0) (by rw [sW_get ha, hc]; rfl) rfl (sIn hi hn) hd ?_
  rw [hcl]
  exact k2
theorem e_caload {a i n : Nat} {f : Nat → Int32} {x : Int32} (hd : decode M.2.1 pc = .ok (.caload, 1)) (hc : h.2 a = .inl (1, n, f)) (hi : i < n) (hn : n < 2 ^ 31) (hx : f i = x) (hp : pc + 1 = p') (kk : sEv l M d B K p' lv (.int x :: st) h) : sEv l M d B K pc lv (.int (nI i) :: .ref a :: st) h := by
  subst hp
  subst hx
  intro G p e R s m args below meth c H locs ls C hR hS hL
  have k2 := kk G p e R s m args below meth c H locs ls C hR hS hL
  have ha : a < h.1 := sR_lt hR (by rw [hc]; exact sJ_arr)
  have hcl : (nI i).toNatClampNeg = i := nI_clamp (by omega)
  refine va_cald C.1 C.2.1 C.2.2.2.2.2.2.2.2.1.1 hR.1 a 1 (f := f) (n := n) (cA := G.2.2 1) (by rw [sW_get ha, hc]; rfl) rfl (sIn hi hn) hd ?_
  rw [hcl]
  exact k2
theorem e_baload {a i n : Nat} {f : Nat → Int32} {x : Int32} (hd : decode M.2.1 pc = .ok (.baload, 1)) (hc : h.2 a = .inl (2, n, f)) (hi : i < n) (hn : n < 2 ^ 31) (hx : f i = x) (hp : pc + 1 = p') (kk : sEv l M d B K p' lv (.int x :: st) h) : sEv l M d B K pc lv (.int (nI i) :: .ref a :: st) h := by
  subst hp
  subst hx
  intro G p e R s m args below meth c H locs ls C hR hS hL
  have k2 := kk G p e R s m args below meth c H locs ls C hR hS hL
  have ha : a < h.1 := sR_lt hR (by rw [hc]; exact sJ_arr)
  have hcl : (nI i).toNatClampNeg = i := nI_clamp (by omega)
  refine va_zald C.1 C.2.1 C.2.2.2.2.2.2.2.2.1.1 hR.1 a 2 (f := f) (n := n) (cA := G.2.2 2) (by rw [sW_get ha, hc]; rfl) rfl (sIn hi hn) hd ?_
  rw [hcl]
  exact k2
theorem e_aaload {a i n t r : Nat} {f : Nat → Option Nat} (hd : decode M.2.1 pc = .ok (.aaload, 1)) (ht : t = 3 ∨ t = 4) (hc : h.2 a = .inr (.inl (t, n, f))) (hi : i < n) (hn : n < 2 ^ 31) (hx : f i = some r) (hp : pc + 1 = p') (kk : sEv l M d B K p' lv (.ref r :: st) h) : sEv l M d B K pc lv (.int (nI i) :: .ref a :: st) h := by
  subst hp
  intro G p e R s m args below meth c H locs ls C hR hS hL
  have k2 := kk G p e R s m args below meth c H locs ls C hR hS hL
  have ha : a < h.1 := sR_lt hR (by rw [hc]; exact sJ_arq)
  have hcl : (nI i).toNatClampNeg = i := nI_clamp (by omega)
  have he : (sW G h)[a]? = some (G.1 + a, .inl (G.2.2 t, n, .inr (.inr (.inr (.inr (fun j => (f j).map (fun a => G.1 + a))))))) := by rw [sW_get ha, hc]; rfl
  rcases ht with rfl | rfl
  · refine va_aldq C.1 C.2.1 C.2.2.2.2.2.2.2.2.1.1 hR.1 a 3 (C := "OneRankGrid$Grid") he rfl (sIn hi hn) hd ?_
    rw [hcl, hx]
    exact k2
  · refine va_aldq C.1 C.2.1 C.2.2.2.2.2.2.2.2.1.1 hR.1 a 4 (C := "OneRankGrid$Slot") he rfl (sIn hi hn) hd ?_
    rw [hcl, hx]
    exact k2
theorem e_alen {a n t : Nat} {f : Nat → Int32} (hd : decode M.2.1 pc = .ok (.arraylength, 1)) (hc : h.2 a = .inl (t, n, f)) (ht : t < 5) (hp : pc + 1 = p') (kk : sEv l M d B K p' lv (.int (nI n) :: st) h) : sEv l M d B K pc lv (.ref a :: st) h := by
  subst hp
  intro G p e R s m args below meth c H locs ls C hR hS hL
  have k2 := kk G p e R s m args below meth c H locs ls C hR hS hL
  have ha : a < h.1 := sR_lt hR (by rw [hc]; exact sJ_arr)
  exact va_alen C.1 C.2.1 C.2.2.2.2.2.2.2.2.1.1 hR.1 a t (x := (n, .inl f)) (cA := G.2.2 t) (by rw [sW_get ha, hc]; rfl) (sTys_get G ht) rfl hd k2
theorem e_alenq {a n t : Nat} {f : Nat → Option Nat} (hd : decode M.2.1 pc = .ok (.arraylength, 1)) (hc : h.2 a = .inr (.inl (t, n, f))) (ht : t < 5) (hp : pc + 1 = p') (kk : sEv l M d B K p' lv (.int (nI n) :: st) h) : sEv l M d B K pc lv (.ref a :: st) h := by
  subst hp
  intro G p e R s m args below meth c H locs ls C hR hS hL
  have k2 := kk G p e R s m args below meth c H locs ls C hR hS hL
  have ha : a < h.1 := sR_lt hR (by rw [hc]; exact sJ_arq)
  exact va_alen C.1 C.2.1 C.2.2.2.2.2.2.2.2.1.1 hR.1 a t (x := (n, .inr (.inr (.inr (.inr (fun j => (f j).map (fun a => G.1 + a))))))) (cA := G.2.2 t) (by rw [sW_get ha, hc]; rfl) (sTys_get G ht) rfl hd k2
theorem sUpd_arr {cA : ClassId} {n i : Nat} {f : Nat → Int32} {x : Int32} : arrV cA n (updV (fun j => .int (f j)) i (.int x)) = vp_cell cA (n, .inl (upd f i x)) := by
  rw [vp_cell_i]
  congr 1
  funext q
  by_cases hq : q = i
  · subst hq
    simp [updV, upd]
  · simp [updV, upd, hq]
theorem e_iastore {a i n : Nat} {f : Nat → Int32} {x : Int32} (hd : decode M.2.1 pc = .ok (.iastore, 1)) (hc : h.2 a = .inl (0, n, f)) (hi : i < n) (hn : n < 2 ^ 31) (hp : pc + 1 = p') (kk : sEv l M d B K p' lv st (sUp h a (.inl (0, n, upd f i x)))) : sEv l M d B K pc lv (.int x :: .int (nI i) :: .ref a :: st) h := by
  subst hp
  intro G p e R s m args below meth c H locs ls C hR hS hL
  have ha : a < h.1 := sR_lt hR (by rw [hc]; exact sJ_arr)
  have hcl : (nI i).toNatClampNeg = i := nI_clamp (by omega)
  have he : (sW G h)[a]? = some (G.1 + a, .inl (G.2.2 0, n, .inl f)) := by rw [sW_get ha, hc]; rfl
  refine W.iast C.1 C.2.1 (hR.1 a _ he) ((C.2.2.2.2.2.2.2.2.1.1.2 0 _ rfl).1 n (fun j => .int (f j))) (fun q => by cases q) (by show ¬ (nI i < 0 ∨ (arrV _ _ _).slots.size ≤ _); rw [arrV_size]; exact sIn hi hn) rfl rfl hd fun H1 e1 z oq => ?_
  refine kk G p e R s m args below meth c H1 _ ls C (sR_upd hR ha ?_ z oq) (hS.put z oq (Nat.le_add_right _ _)) hL
  show H1[G.1 + a]? = some (vp_cell (G.2.2 0) (n, .inl (upd f i x)))
  rw [e1, ← sUpd_arr, hcl]
  exact congrArg some (arrV_store _ _ _ _ _)
theorem e_castore {a i n : Nat} {f : Nat → Int32} {x : Int32} (hd : decode M.2.1 pc = .ok (.castore, 1)) (hc : h.2 a = .inl (1, n, f)) (hi : i < n) (hn : n < 2 ^ 31) (hx : narrow .char (.int x) = .int x) (hp : pc + 1 = p') (kk : sEv l M d B K p' lv st (sUp h a (.inl (1, n, upd f i x)))) : sEv l M d B K pc lv (.int x :: .int (nI i) :: .ref a :: st) h := by
  subst hp
  intro G p e R s m args below meth c H locs ls C hR hS hL
  have ha : a < h.1 := sR_lt hR (by rw [hc]; exact sJ_arr)
  have hcl : (nI i).toNatClampNeg = i := nI_clamp (by omega)
  have he : (sW G h)[a]? = some (G.1 + a, .inl (G.2.2 1, n, .inl f)) := by rw [sW_get ha, hc]; rfl
  refine W.cast C.1 C.2.1 (hR.1 a _ he) ((C.2.2.2.2.2.2.2.2.1.1.2 1 _ rfl).1 n (fun j => .int (f j))) (fun q => by cases q) (by show ¬ (nI i < 0 ∨ (arrV _ _ _).slots.size ≤ _); rw [arrV_size]; exact sIn hi hn) rfl rfl hd fun H1 e1 z oq => ?_
  refine kk G p e R s m args below meth c H1 _ ls C (sR_upd hR ha ?_ z oq) (hS.put z oq (Nat.le_add_right _ _)) hL
  show H1[G.1 + a]? = some (vp_cell (G.2.2 1) (n, .inl (upd f i x)))
  rw [hx] at e1
  rw [e1, ← sUpd_arr, hcl]
  exact congrArg some (arrV_store _ _ _ _ _)
theorem e_bastore {a i n : Nat} {f : Nat → Int32} {x : Int32} (hd : decode M.2.1 pc = .ok (.bastore, 1)) (hc : h.2 a = .inl (2, n, f)) (hi : i < n) (hn : n < 2 ^ 31) (hx : narrow .boolean (.int x) = .int x) (hp : pc + 1 = p') (kk : sEv l M d B K p' lv st (sUp h a (.inl (2, n, upd f i x)))) : sEv l M d B K pc lv (.int x :: .int (nI i) :: .ref a :: st) h := by
  subst hp
  intro G p e R s m args below meth c H locs ls C hR hS hL
  have ha : a < h.1 := sR_lt hR (by rw [hc]; exact sJ_arr)
  have hcl : (nI i).toNatClampNeg = i := nI_clamp (by omega)
  have he : (sW G h)[a]? = some (G.1 + a, .inl (G.2.2 2, n, .inl f)) := by rw [sW_get ha, hc]; rfl
  refine W.zast C.1 C.2.1 (hR.1 a _ he) ((C.2.2.2.2.2.2.2.2.1.1.2 2 _ rfl).1 n (fun j => .int (f j))) (fun q => by cases q) (by show ¬ (nI i < 0 ∨ (arrV _ _ _).slots.size ≤ _); rw [arrV_size]; exact sIn hi hn) rfl rfl hd fun H1 e1 z oq => ?_
  refine kk G p e R s m args below meth c H1 _ ls C (sR_upd hR ha ?_ z oq) (hS.put z oq (Nat.le_add_right _ _)) hL
  show H1[G.1 + a]? = some (vp_cell (G.2.2 2) (n, .inl (upd f i x)))
  rw [hx] at e1
  rw [e1, ← sUpd_arr, hcl]
  exact congrArg some (arrV_store _ _ _ _ _)
theorem e_aastore {a i n t r ci : Nat} {f : Nat → Option Nat} {fs : List Value} {Cn : String} {T : u_T} {N : Nat} (hd : decode M.2.1 pc = .ok (.aastore, 1)) (ht : t < 5) (hty : sTyOf t = .object Cn) (hc : h.2 a = .inr (.inl (t, n, f))) (hr : h.2 r = .inr (.inr (ci, fs))) (hcl : vwCl[ci]? = some (Cn, T, N)) (hi : i < n) (hn : n < 2 ^ 31) (hp : pc + 1 = p') (kk : sEv l M d B K p' lv st (sUp h a (.inr (.inl (t, n, va_up f i (some r)))))) : sEv l M d B K pc lv (.ref r :: .int (nI i) :: .ref a :: st) h := by
  subst hp
  intro G p e R s m args below meth c H locs ls C hR hS hL
  have ha : a < h.1 := sR_lt hR (by rw [hc]; exact sJ_arq)
  have hr1 : r < h.1 := sR_lt hR (by rw [hr]; exact sJ_obj hcl)
  have hci : (nI i).toNatClampNeg = i := nI_clamp (by omega)
  have he : (sW G h)[a]? = some (G.1 + a, .inl (G.2.2 t, n, .inr (.inr (.inr (.inr (fun j => (f j).map (fun a => G.1 + a))))))) := by rw [sW_get ha, hc]; rfl
  have hv : (sW G h)[r]? = some (G.1 + r, .inr (ci, fs.map (sTr G.1))) := by rw [sW_get hr1, hr]; rfl
  have hB := C.2.2.2.2.2.2.2.2.1.1
  have htt : (sTys G)[t]? = some (G.2.2 t, .object Cn) := by rw [sTys_get G ht, hty]
  have hlt : i < n := hi
  obtain ⟨r', hr', cellV, g1, g2, g3, -⟩ := hR.1 r _ hv
  have hcls := (hB.1 ci _ hcl).2
  obtain ⟨kA, comp, k1, k2, k3, -⟩ := (hB.2 t _ htt).2
  have hcomp : comp = G.2.1.1 ci := Option.some.inj (k3.symm.trans hcls.1)
  subst hcomp
  obtain ⟨kC, hkC, -⟩ := hcls.2
  refine W.aast C.1 C.2.1 (hR.1 a _ he) (fun q h => by cases h) (fun h => by cases h) k1 k2 rfl hkC ⟨nI_pos (by omega), by show _ < (arrV _ _ _).slots.size; rw [arrV_size, hci]; exact hlt⟩ g1 (fun q h => by rw [g3] at h; cases h) (by rw [g2]; exact hkC) (by rw [g2]; exact va_assign hcls) rfl rfl hd fun H1 e1 z oq => ?_
  refine kk G p e R s m args below meth c H1 _ ls C (sR_upd hR ha ?_ z oq) (hS.put z oq (Nat.le_add_right _ _)) hL
  show H1[G.1 + a]? = some (vp_cell (G.2.2 t) (n, .inr (.inr (.inr (.inr (fun j => (va_up f i (some r) j).map (fun a => G.1 + a)))))))
  rw [e1, vp_cell_q, vp_cell_q, arrV_store, hci]
  congr 2
  funext q
  by_cases hq : q = i
  · subst hq
    simp [updV, va_up, va_rf]
  · simp [updV, va_up, hq]
end HEAP
end
section
/-! ===== new cells, calls, ends ===== -/
def sNL (own : String) (idx ci : Nat) (fs : List Value) : Prop := ∃ (C : String) (T : u_T) (N : Nat) (ty0 : Nat → FieldType), vwCl[ci]? = some (C, T, N) ∧ Cond.classLink own idx C ∈ lw_good ∧ Cond.instantiable C N ∈ lw_good ∧ Cond.initialized C ∈ lw_good ∧ (∀ w ∈ u_ws C T N, w ∈ lw_good) ∧
  (∀ j, j < N → parseFieldDescriptor (T j).2.2.1 = some (ty0 j)) ∧ (∀ j, j < N → defaultValue (ty0 j) = vp_V fs j) ∧ (∀ b, fs.map (sTr b) = fs) ∧ fs.length = N
/-- a method that may be called: its words -/
def sML (M : sM) (n : Nat) : Prop := Cond.code M.1 M.2.1 M.2.2.1 M.2.2.2 ∈ lw_good ∧ Cond.initialized M.1.cls ∈ lw_good ∧ (M.1.cls ≠ "java/lang/invoke/MethodHandle" ∧ M.1.cls ≠ "java/lang/invoke/VarHandle") ∧ (parseMethodDescriptor M.1.desc).map (fun d => d.parameters.length) = some n ∧ M.2.2.1 ≤ 40
def sVL (own : String) (idx ci : Nat) (M : sM) (n : Nat) : Prop := sML M n ∧ Cond.methodLink own idx M.1 ∈ lw_good ∧ Cond.instanceMethod M.1 ∈ lw_good ∧ Cond.selects M.1.cls M.1 M.1 ∈ lw_good ∧ ∃ T N, vwCl[ci]? = some (M.1.cls, T, N)
def sSL (own : String) (idx : Nat) (M : sM) (n : Nat) : Prop := sML M n ∧ Cond.methodLink own idx M.1 ∈ lw_good ∧ Cond.static M.1 ∈ lw_good
def sSNL (own : String) (idx : Nat) (M : sM) (n : Nat) : Prop := sML M n ∧ (∃ host, Cond.methodLinkNest own idx M.1 host ∈ sNest) ∧ Cond.static M.1 ∈ lw_good
def sIL (own : String) (idx : Nat) (M : sM) (n : Nat) : Prop := sML M n ∧ Cond.methodLink own idx M.1 ∈ lw_good ∧ Cond.instanceMethod M.1 ∈ lw_good ∧ M.1.name = "<init>" ∧ M.2.2.2 = none
def sINL (own : String) (idx : Nat) (M : sM) (n : Nat) : Prop := sML M n ∧ (∃ host, Cond.methodLinkNest own idx M.1 host ∈ sNest) ∧ Cond.instanceMethod M.1 ∈ lw_good ∧ M.1.name = "<init>" ∧ M.2.2.2 = none
theorem sGoodWs {M : sM} {n : Nat} (h : sML M n) : GoodIn lw_good (sWs M) := by
  intro w hw
  rcases List.mem_cons.mp hw with rfl | hw
  · exact ⟨h.1, good_of_word (lw_good_word h.1)⟩
  · exact ⟨hw, good_of_word (lw_good_word hw)⟩
theorem sPc_blind {G : sG} {as : List Value} {h : sH} : FrameBlind (sPc G as h) := fun a U g mk q => ⟨q.1, q.2.1, q.2.2.blind⟩
section CALLS
variable {l : Launch} {M : sM} {d : Nat} {B : sB} {K : sK} {pc p' : Nat} {lv : List (Option Value)} {st : List Value} {h : sH}
theorem e_new {idx ci : Nat} {fs : List Value} (hd : decode M.2.1 pc = .ok (.new idx, 3)) (F : sNL M.1.cls idx ci fs) (hB : B.1 + 1 ≤ B.2.2.1 ∧ B.2.1 + fs.length ≤ B.2.2.2) (hp : pc + 3 = p') (kk : sEv l M d (B.1 + 1, B.2.1 + fs.length, B.2.2) K p' lv (.ref h.1 :: st) (sPush h (.inr (.inr (ci, fs))))) : sEv l M d B K pc lv st h := by
  subst hp
  intro G p e R s m args below meth c H locs ls C hR hS hL
  have C0 := C
  obtain ⟨hx, hb, hml, hrt, hlk, hown, hin, hts, hBa, hrm, hG, hK⟩ := C
  obtain ⟨Cn, T, N, ty0, h1, h2, h3, h4, h5, h6, h7, h8, h9⟩ := F
  have hKn := hBa.1.1 ci _ h1
  subst h9
  refine W.newcK (g := F0 m pc ls (st.map (sTr G.1))) hx hb hown (hts _ h2) (hts _ h3) (hts _ h4) rfl hd (Nat.le_trans hB.1 hrm.2.2.1) (Nat.le_trans hB.2 hrm.2.2.2) hKn.2.1 (h := G.1 + h.1) hR.2.1 fun H1 kC hkC e1 z1 o1 => ?_
  refine kk G p e R s m args below meth c H1 locs ls C0 (sR_push hR ?_ (by rw [z1, hR.2.1]) (fun q hq => o1 q (by rw [← hR.2.1]; exact hq))) ⟨Nat.le_trans hS.1 (by rw [z1, hR.2.1]; omega), fun q q1 q2 => (o1 q (by rw [← hR.2.1]; exact Nat.lt_of_lt_of_le q1 hS.1)).trans (hS.2.1 q q1 q2), hS.2.2⟩ hL
  show va_at _ _ (_, .inr (ci, fs.map (sTr G.1))) _
  rw [h8]
  exact ⟨_, h1, (u_born ty0 hts h5 hKn hkC e1 h6).to h7⟩
theorem e_newarr {t N : Nat} {at' : ArrayType} {ty : FieldType} (hd : decode M.2.1 pc = .ok (.newarray at', 2)) (ht : t < 3) (hty : newarray.typeOf at' = ty) (ht2 : sTyOf t = ty) (hdv : defaultValue ty = .int 0) (F : Cond.arrayClass ty ∈ lw_good) (hN : N * componentBytes ty ≤ 536870912) (hN2 : N < 2 ^ 31) (hB : B.1 + 1 ≤ B.2.2.1 ∧ B.2.1 + N ≤ B.2.2.2) (hp : pc + 2 = p')
    (kk : sEv l M d (B.1 + 1, B.2.1 + N, B.2.2) K p' lv (.ref h.1 :: st) (sPush h (.inl (t, N, fun _ => 0)))) : sEv l M d B K pc lv (.int (nI N) :: st) h := by
  subst hp
  subst hty
  intro G p e R s m args below meth c H locs ls C hR hS hL
  have C0 := C
  obtain ⟨hx, hb, hml, hrt, hlk, hown, hin, hts, hBa, hrm, hG, hK⟩ := C
  have hcl : (nI N).toNatClampNeg = N := nI_clamp hN2
  refine va_newaK (g := F0 m pc ls (.int (nI N) :: st.map (sTr G.1))) hx hb (hts _ F) rfl hd rfl (nI_pos hN2) hcl hN (Nat.le_trans hB.1 hrm.2.2.1) (Nat.le_trans hB.2 hrm.2.2.2) (h := G.1 + h.1) hR.2.1 fun H1 cA e1 z1 o1 hAr hNm => ?_
  refine kk G p e R s m args below meth c H1 locs ls C0 (sR_push hR ?_ (by rw [z1, hR.2.1]) (fun q hq => o1 q (by rw [← hR.2.1]; exact hq))) ⟨Nat.le_trans hS.1 (by rw [z1, hR.2.1]; omega), fun q q1 q2 => (o1 q (by rw [← hR.2.1]; exact Nat.lt_of_lt_of_le q1 hS.1)).trans (hS.2.1 q q1 q2), hS.2.2⟩ hL
  have hra := (hBa.1.2 t _ (sTys_get G (by omega))).2
  rw [ht2] at hra
  have hcA : G.2.2 t = cA := by
    have : s.vm.findClass ("[" ++ (newarray.typeOf at').toString) = some (G.2.2 t) := by
      rw [← ht2] at hra ⊢
      match t, ht, hra with
      | 0, _, hra => exact hra
      | 1, _, hra => exact hra
      | 2, _, hra => exact hra
    exact Option.some.inj (this.symm.trans hNm)
  show H1[G.1 + h.1]? = some (vp_cell (G.2.2 t) (N, .inl (fun _ => 0)))
  rw [e1, vp_cell_i, hcA, hdv]
theorem e_anewarr {idx t N : Nat} {Cn : String} (hd : decode M.2.1 pc = .ok (.anewarray idx, 3)) (ht : t = 3 ∧ Cn = "OneRankGrid$Grid" ∨ t = 4 ∧ Cn = "OneRankGrid$Slot") (F : Cond.classLink M.1.cls idx Cn ∈ lw_good) (hN : N * 4 ≤ 536870912) (hN2 : N < 2 ^ 31) (hB : B.1 + 1 ≤ B.2.2.1 ∧ B.2.1 + N ≤ B.2.2.2) (hp : pc + 3 = p')
    (kk : sEv l M d (B.1 + 1, B.2.1 + N, B.2.2) K p' lv (.ref h.1 :: st) (sPush h (.inr (.inl (t, N, fun _ => none))))) : sEv l M d B K pc lv (.int (nI N) :: st) h := by
  subst hp
  intro G p e R s m args below meth c H locs ls C hR hS hL
  have C0 := C
  obtain ⟨hx, hb, hml, hrt, hlk, hown, hin, hts, hBa, hrm, hG, hK⟩ := C
  have hcl : (nI N).toNatClampNeg = N := nI_clamp hN2
  have hov : va_AO Cn s := by
    rcases ht with ⟨-, rfl⟩ | ⟨-, rfl⟩
    · exact hBa.2.1.1
    · exact hBa.2.1.2
  refine W.anew (g := F0 m pc ls (.int (nI N) :: st.map (sTr G.1))) hx hb hown (hts _ F) (va_AO.use hov) rfl hd rfl (nI_pos hN2) (by rw [hcl]; exact hN) (Nat.le_trans hB.1 hrm.2.2.1) (by rw [hcl]; exact Nat.le_trans hB.2 hrm.2.2.2) fun cA kA comp f1 f2 f3 f4 => ?_
  rw [hcl, hR.2.1]
  refine kk G p e R s m args below meth c _ locs ls C0 (sR_push hR ?_ (Array.size_push ..) (fun q hq => by rw [Array.getElem?_push, if_neg (Nat.ne_of_lt hq)])) ⟨Nat.le_trans hS.1 (by rw [Array.size_push]; omega), fun q q1 q2 => by rw [Array.getElem?_push, if_neg (Nat.ne_of_lt (Nat.lt_of_lt_of_le q1 hS.1))]; exact hS.2.1 q q1 q2, hS.2.2⟩ hL
  have hcA : G.2.2 t = cA := by
    rcases ht with ⟨rfl, rfl⟩ | ⟨rfl, rfl⟩
    · obtain ⟨_, _, _, _, _, g4⟩ := (hBa.1.2 3 _ rfl).2
      exact Option.some.inj (g4.symm.trans f1)
    · obtain ⟨_, _, _, _, _, g4⟩ := (hBa.1.2 4 _ rfl).2
      exact Option.some.inj (g4.symm.trans f1)
  show _ = some (vp_cell (G.2.2 t) (N, .inr (.inr (.inr (.inr (fun j => (none : Option Nat).map (fun a => G.1 + a)))))))
  rw [← hR.2.1, Array.getElem?_push_size, vp_cell_q, hcA, arrV_new]
  rfl
theorem e_objInit {idx a : Nat} (hd : decode M.2.1 pc = .ok (.invokespecial idx, 3)) (F : Cond.methodLink M.1.cls idx Lib.objectInit ∈ lw_good) (F2 : Cond.instanceMethod Lib.objectInit ∈ lw_good) (F3 : Cond.code Lib.objectInit ⟨#[0xb1]⟩ 1 none ∈ lw_good) (hst : (st.map fun v => v.category).sum ≤ 8) (hdp : 1 ≤ d) (hp : pc + 3 = p') (kk : sEv l M d B K p' lv st h) : sEv l M d B K pc lv (.ref a :: st) h := by
  subst hp
  intro G p e R s m args below meth c H locs ls C hR hS hL
  have k2 := kk G p e R s m args below meth c H locs ls C hR hS hL
  obtain ⟨hx, hb, hml, hrt, hlk, hown, hin, hts, hBa, hrm, hG, hK⟩ := C
  refine W.objInit (g := F0 m pc ls (.ref (G.1 + a) :: st.map (sTr G.1))) hx hb hown (hts _ F) (hts _ F2) (hts _ F3) rfl ?_ rfl hd (by omega) ?_ k2
  · rw [hml]; exact hL.1
  · have h1 := hrm.2.1
    show 2 * 0 + _ + 12 ≤ _
    rw [sTr_sum]
    omega
/-- a callee's run, taken into the caller's judgement -/
theorem e_run {rest : List Value} {mc ms : Nat} {st0 : List Value} {Q' : Option Value → sH → Prop}
    (hr : ∀ (G : sG) (p : Program) (e : Env) (R : Room) (s : State) (m : MethodId) (args : Array Value) (below : List Frame) (meth : Method) (c : Code) (H : Heap) (locs : List Loc) (ls : Array Slot), sCtx l M d B K G p R s m args meth c → sR G h H → sL G.1 M.2.2.1 lv ls →
      ∃ a, va_Run p l e R s m args below meth c H locs B.1 B.2.1 mc ms (F0 m pc ls (st0.map (sTr G.1))) (rest.map (sTr G.1)) (sQ G Q' a) (fun q => G.1 ≤ q))
    (kk : ∀ r h', Q' r h' → sEv l M d (B.1 + mc, B.2.1 + ms, B.2.2) K (pc + 3) lv (r.toList ++ rest) h') : sEv l M d B K pc lv st0 h := by
  intro G p e R s m args below meth c H locs ls C hR hS hL
  obtain ⟨a, hrun⟩ := hr G p e R s m args below meth c H locs ls C hR hL
  intro T hT X
  obtain ⟨v, st₀, t, T', L, h0, X', hL2, e1, e2, ⟨⟨r, h', hv, hq, hR'⟩, hz, hk⟩, stp⟩ := hrun T hT X
  have hv2 : v = r.map (sTr G.1) := by cases hv; rfl
  subst hv2
  rw [h0] at hz hk
  have hS' : va_S (fun q => G.1 ≤ q) s.heap T'.heap (locs ++ L) := by
    refine ⟨Nat.le_trans hS.1 (by rw [e1]; exact hz), fun q h1 h2 => ?_, fun q hq => ?_⟩
    · rw [e1, hk q (Nat.lt_of_lt_of_le h1 hS.1) h2]
      exact hS.2.1 q h1 h2
    · rcases List.mem_append.mp hq with h | h
      · exact hS.2.2 q h
      · exact hL2 q h
  obtain ⟨t2, a1, b1⟩ := kk r h' hq G p e R s m args below meth c T'.heap (locs ++ L) ls C (by rw [e1]; exact hR') hS' hL T' rfl X'
  refine ⟨t2, stp t2 ?_, b1⟩
  have e3 : (r.map (sTr G.1)).toList ++ rest.map (sTr G.1) = (r.toList ++ rest).map (sTr G.1) := by cases r <;> rfl
  show Steps p.tables e below (T'.setTop { F0 m pc ls (st0.map (sTr G.1)) with pc := pc + 3, stack := (r.map (sTr G.1)).toList ++ rest.map (sTr G.1) }) t2
  rw [e3]
  exact a1
theorem sRest {G : sG} {st : List Value} {m : MethodId} {ls : Array Slot} {x : List Value} (h : (st.map fun v => v.category).sum ≤ 8) : 2 * (F0 m pc ls x).monitorRoom + ((st.map (sTr G.1)).map fun v => v.category).sum ≤ 8 := by
  rw [sTr_sum]
  exact lv_room h
variable {M' : sM} {n d' mc ms idx : Nat} {As st0 : List Value} {Q' : Option Value → sH → Prop}
theorem sRoom {R : Room} (h1 : d ≤ R.frames) (h2 : 60 * d ≤ R.locals) (hd : d' + 1 ≤ d) (hm : M'.2.2.1 ≤ 40) : (sRm d' mc ms).frames + 1 ≤ R.frames ∧ 8 + (M'.2.2.1 + 11) + (sRm d' mc ms).locals ≤ R.locals := by
  refine ⟨Nat.le_trans hd h1, ?_⟩
  show 8 + (M'.2.2.1 + 11) + 60 * d' ≤ R.locals
  omega
theorem e_callV {a ci : Nat} {fs : List Value} (hd : decode M.2.1 pc = .ok (.invokevirtual idx, 3)) (F : sVL M.1.cls idx ci M' n) (hc : sCall l M' d' mc ms (.ref a :: As) h Q') (hn : As.length = n) (hr : h.2 a = .inr (.inr (ci, fs))) (hst : st0 = As.reverse ++ .ref a :: st) (hcat : (st.map fun v => v.category).sum ≤ 8) (hdp : d' + 1 ≤ d) (hB : B.1 + mc ≤ B.2.2.1 ∧ B.2.1 + ms ≤ B.2.2.2) (hp : pc + 3 = p')
    (kk : ∀ r h', Q' r h' → sEv l M d (B.1 + mc, B.2.1 + ms, B.2.2) K p' lv (r.toList ++ st) h') : sEv l M d B K pc lv st0 h := by
  subst hp
  subst hst
  refine e_run (rest := st) (Q' := Q') (mc := mc) (ms := ms) (fun G p e R s m args below meth c H locs ls C hR hL => ?_) kk
  obtain ⟨hx, hb, hml, hrt, hlk, hown, hin, hts, hBa, hrm, hG, hK⟩ := C
  obtain ⟨F1, F2, F3, F4, T, N, F5⟩ := F
  have ha : a < h.1 := sR_lt hR (by rw [hr]; exact sJ_obj F5)
  have cw : CallW R s args M.1.cls M'.1.cls idx M'.1 M'.2.1 M'.2.2.1 M'.2.2.2 (sWs M') (sRm d' mc ms) mc ms n :=
    ⟨callB_of n hts (sGoodWs F1) rfl rfl rfl (hts _ F1.2.1) (hts _ F2) ⟨F1.2.2.1.1, F1.2.2.1.2, F1.2.2.2.1⟩ (sRoom hrm.1 hrm.2.1 hdp F1.2.2.2.2), hts _ F3, hts _ F4⟩
  refine ⟨_, va_runV (As := As.map (sTr G.1)) (rest := st.map (sTr G.1)) (b := G.1 + a) ⟨hx, hb, hml, hown, hts⟩ (hc G) cw ⟨sPc_blind, ?_, fun U hU hW => ⟨rfl, by rw [hU]; exact hR, hBa.warm hW⟩⟩ rfl (by rw [List.length_map]; exact hn) hL.1 ?_ (sRest hcat) hd ⟨Nat.le_trans hB.1 hrm.2.2.1, Nat.le_trans hB.2 hrm.2.2.2⟩⟩
  · exact va_recv hBa.1 hR.1 (ci := ci) (q0 := a) F5 (by rw [sW_get ha, hr]; rfl)
  · show (As.reverse ++ .ref a :: st).map (sTr G.1) = (As.map (sTr G.1)).reverse ++ .ref (G.1 + a) :: st.map (sTr G.1)
    rw [List.map_append, List.map_reverse]
    rfl
theorem e_callS (hd : decode M.2.1 pc = .ok (.invokestatic idx, 3)) (F : sSL M.1.cls idx M' n) (hc : sCall l M' d' mc ms As h Q') (hn : As.length = n) (hst : st0 = As.reverse ++ st) (hcat : (st.map fun v => v.category).sum ≤ 8) (hdp : d' + 1 ≤ d) (hB : B.1 + mc ≤ B.2.2.1 ∧ B.2.1 + ms ≤ B.2.2.2) (hp : pc + 3 = p')
    (kk : ∀ r h', Q' r h' → sEv l M d (B.1 + mc, B.2.1 + ms, B.2.2) K p' lv (r.toList ++ st) h') : sEv l M d B K pc lv st0 h := by
  subst hp
  subst hst
  refine e_run (rest := st) (Q' := Q') (mc := mc) (ms := ms) (fun G p e R s m args below meth c H locs ls C hR hL => ?_) kk
  obtain ⟨hx, hb, hml, hrt, hlk, hown, hin, hts, hBa, hrm, hG, hK⟩ := C
  obtain ⟨F1, F2, F3⟩ := F
  refine ⟨_, va_runS (As := As.map (sTr G.1)) (rest := st.map (sTr G.1)) ⟨hx, hb, hml, hown, hts⟩ (hc G) ⟨callB_of n hts (sGoodWs F1) rfl rfl rfl (hts _ F1.2.1) (hts _ F2) ⟨F1.2.2.1.1, F1.2.2.1.2, F1.2.2.2.1⟩ (sRoom hrm.1 hrm.2.1 hdp F1.2.2.2.2), hts _ F3⟩ ⟨sPc_blind, fun U hU hW => ⟨rfl, by rw [hU]; exact hR, hBa.warm hW⟩⟩ rfl (by rw [List.length_map]; exact hn) hL.1 ?_ (sRest hcat) hd ⟨Nat.le_trans hB.1 hrm.2.2.1, Nat.le_trans hB.2 hrm.2.2.2⟩⟩
  show (As.reverse ++ st).map (sTr G.1) = _
  rw [List.map_append, List.map_reverse]
theorem e_callSN (hd : decode M.2.1 pc = .ok (.invokestatic idx, 3)) (F : sSNL M.1.cls idx M' n) (hc : sCall l M' d' mc ms As h Q') (hn : As.length = n) (hst : st0 = As.reverse ++ st) (hcat : (st.map fun v => v.category).sum ≤ 8) (hdp : d' + 1 ≤ d) (hB : B.1 + mc ≤ B.2.2.1 ∧ B.2.1 + ms ≤ B.2.2.2) (hp : pc + 3 = p')
    (kk : ∀ r h', Q' r h' → sEv l M d (B.1 + mc, B.2.1 + ms, B.2.2) K p' lv (r.toList ++ st) h') : sEv l M d B K pc lv st0 h := by
  subst hp
  subst hst
  refine e_run (rest := st) (Q' := Q') (mc := mc) (ms := ms) (fun G p e R s m args below meth c H locs ls C hR hL => ?_) kk
  obtain ⟨hx, hb, hml, hrt, hlk, hown, hin, hts, hBa, hrm, hG, hK⟩ := C
  obtain ⟨F1, ⟨host, F2⟩, F3⟩ := F
  refine ⟨_, va_runSN (As := As.map (sTr G.1)) (rest := st.map (sTr G.1)) ⟨hx, hb, hml, hown, hts⟩ (hc G) ⟨va_cnB n hts (sGoodWs F1) rfl rfl rfl (hBa.2.2 _ F2).2 (hts _ F1.2.1) ⟨F1.2.2.1.1, F1.2.2.1.2, F1.2.2.2.1⟩ (sRoom hrm.1 hrm.2.1 hdp F1.2.2.2.2), hts _ F3, trivial⟩ ⟨sPc_blind, fun U hU hW => ⟨rfl, by rw [hU]; exact hR, hBa.warm hW⟩⟩ rfl (by rw [List.length_map]; exact hn) hL.1 ?_ (sRest hcat) hd ⟨Nat.le_trans hB.1 hrm.2.2.1, Nat.le_trans hB.2 hrm.2.2.2⟩⟩
  show (As.reverse ++ st).map (sTr G.1) = _
  rw [List.map_append, List.map_reverse]
theorem e_callI {a : Nat} (hd : decode M.2.1 pc = .ok (.invokespecial idx, 3)) (F : sIL M.1.cls idx M' n) (hc : sCall l M' d' mc ms (.ref a :: As) h Q') (hn : As.length = n) (hst : st0 = As.reverse ++ .ref a :: st) (hcat : (st.map fun v => v.category).sum ≤ 8) (hdp : d' + 1 ≤ d) (hB : B.1 + mc ≤ B.2.2.1 ∧ B.2.1 + ms ≤ B.2.2.2) (hp : pc + 3 = p')
    (kk : ∀ r h', Q' r h' → sEv l M d (B.1 + mc, B.2.1 + ms, B.2.2) K p' lv (r.toList ++ st) h') : sEv l M d B K pc lv st0 h := by
  subst hp
  subst hst
  refine e_run (rest := st) (Q' := Q') (mc := mc) (ms := ms) (fun G p e R s m args below meth c H locs ls C hR hL => ?_) kk
  obtain ⟨hx, hb, hml, hrt, hlk, hown, hin, hts, hBa, hrm, hG, hK⟩ := C
  obtain ⟨F1, F2, F3, F4, F5⟩ := F
  refine ⟨_, va_runI (As := As.map (sTr G.1)) (rest := st.map (sTr G.1)) (b := G.1 + a) ⟨hx, hb, hml, hown, hts⟩ (hc G) (maxL := M'.2.2.1) (bytes := M'.2.1) ⟨callB_of (ws' := lw_good) n hts (sGoodWs F1) (by rw [← F5]; rfl) rfl rfl (hts _ F1.2.1) (hts _ F2) ⟨F1.2.2.1.1, F1.2.2.1.2, F1.2.2.2.1⟩ (sRoom hrm.1 hrm.2.1 hdp F1.2.2.2.2), F4, hts _ F3⟩ ⟨sPc_blind, fun U hU hW => ⟨rfl, by rw [hU]; exact hR, hBa.warm hW⟩⟩ rfl (by rw [List.length_map]; exact hn) hL.1 ?_ (sRest hcat) hd ⟨Nat.le_trans hB.1 hrm.2.2.1, Nat.le_trans hB.2 hrm.2.2.2⟩⟩
  show (As.reverse ++ .ref a :: st).map (sTr G.1) = (As.map (sTr G.1)).reverse ++ .ref (G.1 + a) :: st.map (sTr G.1)
  rw [List.map_append, List.map_reverse]
  rfl
theorem e_callIN {a : Nat} (hd : decode M.2.1 pc = .ok (.invokespecial idx, 3)) (F : sINL M.1.cls idx M' n) (hc : sCall l M' d' mc ms (.ref a :: As) h Q') (hn : As.length = n) (hst : st0 = As.reverse ++ .ref a :: st) (hcat : (st.map fun v => v.category).sum ≤ 8) (hdp : d' + 1 ≤ d) (hB : B.1 + mc ≤ B.2.2.1 ∧ B.2.1 + ms ≤ B.2.2.2) (hp : pc + 3 = p')
    (kk : ∀ r h', Q' r h' → sEv l M d (B.1 + mc, B.2.1 + ms, B.2.2) K p' lv (r.toList ++ st) h') : sEv l M d B K pc lv st0 h := by
  subst hp
  subst hst
  refine e_run (rest := st) (Q' := Q') (mc := mc) (ms := ms) (fun G p e R s m args below meth c H locs ls C hR hL => ?_) kk
  obtain ⟨hx, hb, hml, hrt, hlk, hown, hin, hts, hBa, hrm, hG, hK⟩ := C
  obtain ⟨F1, ⟨host, F2⟩, F3, F4, F5⟩ := F
  refine ⟨_, va_runIN (As := As.map (sTr G.1)) (rest := st.map (sTr G.1)) (b := G.1 + a) ⟨hx, hb, hml, hown, hts⟩ (hc G) (maxL := M'.2.2.1) (bytes := M'.2.1) ⟨va_cnB (ws' := lw_good) n hts (sGoodWs F1) (by rw [← F5]; rfl) rfl rfl (hBa.2.2 _ F2).2 (hts _ F1.2.1) ⟨F1.2.2.1.1, F1.2.2.1.2, F1.2.2.2.1⟩ (sRoom hrm.1 hrm.2.1 hdp F1.2.2.2.2), F4, hts _ F3⟩ ⟨sPc_blind, fun U hU hW => ⟨rfl, by rw [hU]; exact hR, hBa.warm hW⟩⟩ rfl (by rw [List.length_map]; exact hn) hL.1 ?_ (sRest hcat) hd ⟨Nat.le_trans hB.1 hrm.2.2.1, Nat.le_trans hB.2 hrm.2.2.2⟩⟩
  show (As.reverse ++ .ref a :: st).map (sTr G.1) = (As.map (sTr G.1)).reverse ++ .ref (G.1 + a) :: st.map (sTr G.1)
  rw [List.map_append, List.map_reverse]
  rfl
-- ends
variable {Q : Option Value → sH → Prop}
theorem e_ireturn {x : Int32} {ty : FieldType} (hd : decode M.2.1 pc = .ok (.ireturn, 1)) (hr : M.2.2.2 = some ty) (hn : narrow ty (.int x) = .int x) (hB : B.1 ≤ B.2.2.1 ∧ B.2.1 ≤ B.2.2.2) (hq : Q (some (.int x)) h) : sEv l M d B (sKm B.2.2.1 B.2.2.2 Q) pc lv [.int x] h := by
  intro G p e R s m args below meth c H locs ls C hR hS hL
  obtain ⟨hx, hb, hml, hrt, hlk, hown, hin, hts, hBa, hrm, hG, hK⟩ := C
  exact W.widen hB.1 hB.2 (W.zret hx hb (hrt.trans hr) hn (fun t ht hW => ⟨⟨some (.int x), h, rfl, hq, by rw [ht]; exact hR⟩, hS.F ht⟩) hS.2.2 hd hlk)
theorem e_lreturn {x : Int64} (hd : decode M.2.1 pc = .ok (.lreturn, 1)) (hr : M.2.2.2 = some .long) (hB : B.1 ≤ B.2.2.1 ∧ B.2.1 ≤ B.2.2.2) (hq : Q (some (.long x)) h) : sEv l M d B (sKm B.2.2.1 B.2.2.2 Q) pc lv [.long x] h := by
  intro G p e R s m args below meth c H locs ls C hR hS hL
  obtain ⟨hx, hb, hml, hrt, hlk, hown, hin, hts, hBa, hrm, hG, hK⟩ := C
  exact W.widen hB.1 hB.2 (W.lret hx hb (hrt.trans hr) (fun t ht hW => ⟨⟨some (.long x), h, rfl, hq, by rw [ht]; exact hR⟩, hS.F ht⟩) hS.2.2 hd hlk)
theorem e_areturn {v : Value} {C0 : String} (hd : decode M.2.1 pc = .ok (.areturn, 1)) (hr : M.2.2.2 = some (.object C0)) (hv : v = .null ∨ ∃ a, v = .ref a) (hB : B.1 ≤ B.2.2.1 ∧ B.2.1 ≤ B.2.2.2) (hq : Q (some v) h) : sEv l M d B (sKm B.2.2.1 B.2.2.2 Q) pc lv [v] h := by
  intro G p e R s m args below meth c H locs ls C hR hS hL
  obtain ⟨hx, hb, hml, hrt, hlk, hown, hin, hts, hBa, hrm, hG, hK⟩ := C
  refine W.widen hB.1 hB.2 (W.aret (v := sTr G.1 v) hx hb (hrt.trans hr) (Or.inl ⟨_, rfl⟩) ?_ (fun t ht hW => ⟨⟨some v, h, rfl, hq, by rw [ht]; exact hR⟩, hS.F ht⟩) hS.2.2 hd hlk)
  rcases hv with rfl | ⟨a, rfl⟩
  · exact Or.inl rfl
  · exact Or.inr ⟨_, rfl⟩
theorem e_return (hd : decode M.2.1 pc = .ok (.return_, 1)) (hr : M.2.2.2 = none) (hB : B.1 ≤ B.2.2.1 ∧ B.2.1 ≤ B.2.2.2) (hq : Q none h) : sEv l M d B (sKm B.2.2.1 B.2.2.2 Q) pc lv [] h := by
  intro G p e R s m args below meth c H locs ls C hR hS hL
  obtain ⟨hx, hb, hml, hrt, hlk, hown, hin, hts, hBa, hrm, hG, hK⟩ := C
  exact W.widen hB.1 hB.2 (W.vret hx hb (hrt.trans hr) (fun t ht hW => ⟨⟨none, h, rfl, hq, by rw [ht]; exact hR⟩, hS.F ht⟩) hS.2.2 hd hlk)
theorem e_ldc2 {v : Int64} (hd : decode M.2.1 pc = .ok (.ldc2_w idx, 3)) (F : Cond.constantLong M.1.cls idx v ∈ lw_good) (hp : pc + 3 = p') (kk : sEv l M d B K p' lv (.long v :: st) h) : sEv l M d B K pc lv st h := by
  subst hp
  intro G p e R s m args below meth c H locs ls C hR hS hL
  exact lv_ldc2 C.1 C.2.1 C.2.2.2.2.2.1 (C.2.2.2.2.2.2.2.1 _ F) hd (kk G p e R s m args below meth c H locs ls C hR hS hL)
theorem e_ldcw {v : Int32} (hd : decode M.2.1 pc = .ok (.ldc_w idx, 3)) (F : Cond.constant M.1.cls idx v ∈ lw_good) (hp : pc + 3 = p') (kk : sEv l M d B K p' lv (.int v :: st) h) : sEv l M d B K pc lv st h := by
  subst hp
  intro G p e R s m args below meth c H locs ls C hR hS hL
  exact lv_ldcw C.1 C.2.1 C.2.2.2.2.2.1 (C.2.2.2.2.2.2.2.1 _ F) hd (kk G p e R s m args below meth c H locs ls C hR hS hL)
end CALLS
end
section
/-! ===== printed by wip/whole/links.py: the methods, and what each place of the constant pools links ===== -/
theorem lw_goodL {ws : List Cond} (is : List Nat) (h : ws = is.filterMap (fun i => lw_tbl[i]?)) (hg : ws.all goodWord = true) : ∀ w ∈ ws, w ∈ lw_good := by
  intro w hw
  have h1 := List.all_eq_true.mp hg w hw
  rw [h] at hw
  obtain ⟨i, -, hi⟩ := List.mem_filterMap.mp hw
  exact lw_goodIn (List.mem_of_getElem? hi) h1
theorem lw_goodI {w : Cond} (i : Nat) (h : lw_tbl[i]? = some w) (hg : goodWord w = true) : w ∈ lw_good := lw_goodIn (List.mem_of_getElem? h) hg
def m_Grid_init : sM := (yX0_init, prog_2_method_1_code, 1, none)
def m_Grid_rows : sM := (yX0_rows, prog_2_method_2_code, 1, some .int)
def m_Grid_columns : sM := (yX0_columns, prog_2_method_3_code, 1, some .int)
def m_Grid_modulus : sM := (yX0_modulus, prog_2_method_4_code, 1, some .int)
def m_Grid_clear : sM := (yX0_clear, prog_2_method_5_code, 4, none)
def m_Grid_copyFrom : sM := (yX0_copyFrom, prog_2_method_6_code, 2, none)
def m_Grid_has : sM := (yX0_has, prog_2_method_7_code, 3, some .boolean)
def m_Grid_number : sM := (yX0_number, prog_2_method_8_code, 3, some .int)
def m_Grid_setNumber : sM := (yX0_setNumber, prog_2_method_9_code, 4, none)
def m_Grid_toldInRow : sM := (yX0_toldInRow, prog_2_method_10_code, 4, some .int)
def m_Grid_toldCount : sM := (yX0_toldCount, prog_2_method_11_code, 3, some .int)
def m_Grid_product : sM := (yX0_product, prog_2_method_12_code, 3, some .int)
def m_Grid_remainder : sM := (yX0_remainder, prog_2_method_13_code, 2, some .int)
def m_Grid_quotient : sM := (yX0_quotient, prog_2_method_14_code, 4, some .int)
def m_Hist_init : sM := (yX1_init, prog_3_method_1_code, 2, none)
def m_Hist_size : sM := (yX1_size, prog_3_method_2_code, 1, some .int)
def m_Hist_record : sM := (yX1_record, prog_3_method_3_code, 3, none)
def m_Hist_takeLatest : sM := (yX1_takeLatest, prog_3_method_4_code, 1, some (.object "OneRankGrid$Grid"))
def m_Hist_pastAt : sM := (yX1_pastAt, prog_3_method_5_code, 3, some (.object "OneRankGrid$Grid"))
def m_Min_init : sM := (yX2_init, prog_4_method_1_code, 1, none)
def m_Min_countAll : sM := (yX2_countAll, prog_4_method_2_code, 6, some .int)
def m_Min_countBelow : sM := (yX2_countBelow, prog_4_method_3_code, 8, some .int)
def m_Min_countThrough : sM := (yX2_countThrough, prog_4_method_4_code, 7, some .int)
def m_Min_isMinor : sM := (yX2_isMinor, prog_4_method_5_code, 5, some .boolean)
def m_Min_isZero : sM := (yX2_isZero, prog_4_method_6_code, 5, some .boolean)
def m_Min_leastRank : sM := (yX2_leastRank, prog_4_method_7_code, 4, some .int)
def m_Min_rankOf : sM := (yX2_rankOf, prog_4_method_8_code, 8, some .int)
def m_Min_bringUp : sM := (yX2_bringUp, prog_4_method_9_code, 6, some .boolean)
def m_Min_eliminate : sM := (yX2_eliminate, prog_4_method_10_code, 9, none)
def m_Num_init : sM := (yX3_init, prog_5_method_1_code, 2, none)
def m_Num_get : sM := (yX3_get, prog_5_method_2_code, 2, some .int)
def m_Num_set : sM := (yX3_set, prog_5_method_3_code, 3, none)
def m_Num_setEach : sM := (yX3_setEach, prog_5_method_4_code, 3, none)
def m_Num_copyFrom : sM := (yX3_copyFrom, prog_5_method_5_code, 3, none)
def m_Num_swap : sM := (yX3_swap, prog_5_method_6_code, 4, none)
def m_Pad_init : sM := (yX4_init, prog_6_method_1_code, 1, none)
def m_Pad_length : sM := (yX4_length, prog_6_method_2_code, 1, some .int)
def m_Pad_empty : sM := (yX4_empty, prog_6_method_3_code, 1, none)
def m_Pad_append : sM := (yX4_append, prog_6_method_4_code, 2, none)
def m_Pad_scan : sM := (yX4_scan, prog_6_method_5_code, 6, some .int)
def m_Pad_rows : sM := (yX4_rows, prog_6_method_6_code, 1, some .int)
def m_Pad_columns : sM := (yX4_columns, prog_6_method_7_code, 1, some .int)
def m_Pad_number : sM := (yX4_number, prog_6_method_8_code, 3, some .int)
def m_Pad_greatestNumber : sM := (yX4_greatestNumber, prog_6_method_9_code, 3, some .int)
def m_Pad_signOf : sM := (yX4_signOf, prog_6_method_10_code, 1, some .int)
def m_Parts_init : sM := (yX5_init, prog_7_method_1_code, 1, none)
def m_Parts_find : sM := (yX5_find, prog_7_method_2_code, 3, none)
def m_Parts_spread : sM := (yX5_spread, prog_7_method_3_code, 6, none)
def m_Parts_reachOver : sM := (yX5_reachOver, prog_7_method_4_code, 7, some .boolean)
def m_Parts_allToldAreProducts : sM := (yX5_allToldAreProducts, prog_7_method_5_code, 5, some .boolean)
def m_Parts_size : sM := (yX5_size, prog_7_method_6_code, 1, some .int)
def m_Parts_isConsistent : sM := (yX5_isConsistent, prog_7_method_7_code, 1, some .boolean)
def m_Parts_partOfRow : sM := (yX5_partOfRow, prog_7_method_8_code, 2, some .int)
def m_Parts_partOfColumn : sM := (yX5_partOfColumn, prog_7_method_9_code, 2, some .int)
def m_Parts_areJoined : sM := (yX5_areJoined, prog_7_method_10_code, 3, some .boolean)
def m_Parts_product : sM := (yX5_product, prog_7_method_11_code, 4, some .int)
def m_Parts_following : sM := (yX5_following, prog_7_method_12_code, 4, some .int)
def m_Parts_rowsOf : sM := (yX5_rowsOf, prog_7_method_13_code, 2, some .int)
def m_Parts_columnsOf : sM := (yX5_columnsOf, prog_7_method_14_code, 2, some .int)
def m_Parts_membersOf : sM := (yX5_membersOf, prog_7_method_15_code, 4, some .int)
def m_Parts_toldIn : sM := (yX5_toldIn, prog_7_method_16_code, 5, some .int)
def m_Parts_joinedEntries : sM := (yX5_joinedEntries, prog_7_method_17_code, 3, some .int)
def m_Parts_gain : sM := (yX5_gain, prog_7_method_18_code, 5, some .int)
def m_Rings_init : sM := (yX6_init, prog_8_method_1_code, 1, none)
def m_Rings_search : sM := (yX6_search, prog_8_method_2_code, 5, none)
def m_Rings_walk : sM := (yX6_walk, prog_8_method_3_code, 5, none)
def m_Rings_lead : sM := (yX6_lead, prog_8_method_4_code, 9, some .boolean)
def m_Rings_findRatios : sM := (yX6_findRatios, prog_8_method_5_code, 5, none)
def m_Rings_leadOn : sM := (yX6_leadOn, prog_8_method_6_code, 9, some .boolean)
def m_Rings_forgetSetsOf : sM := (yX6_forgetSetsOf, prog_8_method_7_code, 4, none)
def m_Rings_collect : sM := (yX6_collect, prog_8_method_8_code, 4, none)
def m_Rings_noteWrong : sM := (yX6_noteWrong, prog_8_method_9_code, 5, none)
def m_Rings_all : sM := (yX6_all, prog_8_method_10_code, 1, some .int)
def m_Rings_wrongOnes : sM := (yX6_wrongOnes, prog_8_method_11_code, 1, some .int)
def m_Rings_wrongRows : sM := (yX6_wrongRows, prog_8_method_12_code, 1, some .int)
def m_Rings_wrongColumns : sM := (yX6_wrongColumns, prog_8_method_13_code, 1, some .int)
def m_Slot_init : sM := (yX7_init, prog_9_method_1_code, 1, none)
def m_Slot_isFilled : sM := (yX7_isFilled, prog_9_method_2_code, 1, some .boolean)
def m_Slot_keep : sM := (yX7_keep, prog_9_method_3_code, 2, none)
def m_Slot_giveTo : sM := (yX7_giveTo, prog_9_method_4_code, 2, none)
def m_O_init : sM := (yX8_init, prog_1_method_1_code, 2, none)
def m_O_begin : sM := (yX8_begin, prog_1_method_2_code, 5, some .int)
def m_O_tell : sM := (yX8_tell, prog_1_method_3_code, 6, some .int)
def m_O_tellAll : sM := (yX8_tellAll, prog_1_method_4_code, 4, some .int)
def m_O_read : sM := (yX8_read, prog_1_method_5_code, 3, some .int)
def m_O_entry : sM := (yX8_entry, prog_1_method_6_code, 4, some .int)
def m_O_part : sM := (yX8_part, prog_1_method_7_code, 3, some .int)
def m_O_count : sM := (yX8_count, prog_1_method_8_code, 2, some .int)
def m_O_countOfParts : sM := (yX8_countOfParts, prog_1_method_9_code, 2, some .int)
def m_O_cycles : sM := (yX8_cycles, prog_1_method_10_code, 3, some .int)
def m_O_wrong : sM := (yX8_wrong, prog_1_method_11_code, 3, some .int)
def m_O_shortestWrongTurns : sM := (yX8_shortestWrongTurns, prog_1_method_12_code, 2, some .int)
def m_O_completions : sM := (yX8_completions, prog_1_method_13_code, 1, some .long)
def m_O_completed : sM := (yX8_completed, prog_1_method_14_code, 8, some .int)
def m_O_countCompletions : sM := (yX8_countCompletions, prog_1_method_15_code, 4, some .long)
def m_O_factorOf : sM := (yX8_factorOf, prog_1_method_16_code, 8, some .int)
def m_O_isWellIf : sM := (yX8_isWellIf, prog_1_method_17_code, 5, some .int)
def m_O_spoilers : sM := (yX8_spoilers, prog_1_method_18_code, 5, some .long)
def m_O_bestEntry : sM := (yX8_bestEntry, prog_1_method_19_code, 8, some .int)
def m_O_put : sM := (yX8_put, prog_1_method_20_code, 5, some .int)
def m_O_wipe : sM := (yX8_wipe, prog_1_method_21_code, 2, some .int)
def m_O_fault : sM := (yX8_fault, prog_1_method_22_code, 1, some .int)
def m_O_sizeOf : sM := (yX8_sizeOf, prog_1_method_23_code, 6, some .int)
def m_O_undo : sM := (yX8_undo, prog_1_method_24_code, 2, some .int)
def m_O_save : sM := (yX8_save, prog_1_method_25_code, 3, some .int)
def m_O_restore : sM := (yX8_restore, prog_1_method_26_code, 3, some .int)
def m_O_slotAt : sM := (yX8_slotAt, prog_1_method_27_code, 2, some (.object "OneRankGrid$Slot"))
def m_O_errorOfTelling : sM := (yX8_errorOfTelling, prog_1_method_28_code, 4, some .int)
def m_O_isOutside : sM := (yX8_isOutside, prog_1_method_29_code, 3, some .boolean)
def m_O_isModulus : sM := (yX8_isModulus, prog_1_method_30_code, 1, some .boolean)
def m_O_holds : sM := (yX8_holds, prog_1_method_31_code, 2, some .boolean)
def m_M_init : sM := (yX9_init, prog_11_method_1_code, 1, none)
def m_M_in : sM := (yX9_in, prog_11_method_2_code, 3, some .boolean)
def m_M_isEntry : sM := (yX9_isEntry, prog_11_method_3_code, 3, some .boolean)
def m_M_record : sM := (yX9_record, prog_11_method_4_code, 2, none)
def m_M_undo : sM := (yX9_undo, prog_11_method_5_code, 2, some .int)
def m_M_toldMany : sM := (yX9_toldMany, prog_11_method_6_code, 3, some .int)
def m_M_save : sM := (yX9_save, prog_11_method_7_code, 3, some .int)
def m_M_restore : sM := (yX9_restore, prog_11_method_8_code, 3, some .int)
def m_M_times : sM := (yX9_times, prog_11_method_9_code, 3, some .int)
def m_M_over : sM := (yX9_over, prog_11_method_10_code, 4, some .int)
def m_M_at : sM := (yX9_at, prog_11_method_11_code, 3, some .int)
def m_M_spread : sM := (yX9_spread, prog_11_method_12_code, 5, none)
def m_M_layParts : sM := (yX9_layParts, prog_11_method_13_code, 3, none)
def m_M_isWellWith : sM := (yX9_isWellWith, prog_11_method_14_code, 4, some .boolean)
def m_M_begin : sM := (yX9_begin, prog_11_method_15_code, 7, some .int)
def m_M_tell : sM := (yX9_tell, prog_11_method_16_code, 5, some .int)
def m_M_tellAll : sM := (yX9_tellAll, prog_11_method_17_code, 4, some .int)
def m_M_follows : sM := (yX9_follows, prog_11_method_18_code, 3, some .int)
def m_M_followsWithout : sM := (yX9_followsWithout, prog_11_method_19_code, 5, some .int)
def m_M_minorsWith : sM := (yX9_minorsWith, prog_11_method_20_code, 6, some .int)
def m_M_entry : sM := (yX9_entry, prog_11_method_21_code, 4, some .int)
def m_M_rowsOf : sM := (yX9_rowsOf, prog_11_method_22_code, 4, some .int)
def m_M_columnsOf : sM := (yX9_columnsOf, prog_11_method_23_code, 4, some .int)
def m_M_toldIn : sM := (yX9_toldIn, prog_11_method_24_code, 5, some .int)
def m_M_part : sM := (yX9_part, prog_11_method_25_code, 3, some .int)
def m_M_inParts : sM := (yX9_inParts, prog_11_method_26_code, 4, some .int)
def m_M_minors : sM := (yX9_minors, prog_11_method_27_code, 9, some .int)
def m_M_areTold : sM := (yX9_areTold, prog_11_method_28_code, 5, some .boolean)
def m_M_clearBy : sM := (yX9_clearBy, prog_11_method_29_code, 8, none)
def m_M_exchange : sM := (yX9_exchange, prog_11_method_30_code, 6, none)
def m_M_rankOf : sM := (yX9_rankOf, prog_11_method_31_code, 7, some .int)
def m_M_rankBy : sM := (yX9_rankBy, prog_11_method_32_code, 6, some .int)
def m_M_rankBound : sM := (yX9_rankBound, prog_11_method_33_code, 4, some .int)
def m_M_count : sM := (yX9_count, prog_11_method_34_code, 2, some .int)
def m_M_isWrong : sM := (yX9_isWrong, prog_11_method_35_code, 6, some .boolean)
def m_M_meet : sM := (yX9_meet, prog_11_method_36_code, 5, none)
def m_M_canStand : sM := (yX9_canStand, prog_11_method_37_code, 5, some .boolean)
def m_M_goCycles : sM := (yX9_goCycles, prog_11_method_38_code, 4, none)
def m_M_cycles : sM := (yX9_cycles, prog_11_method_39_code, 3, some .int)
def m_M_wrong : sM := (yX9_wrong, prog_11_method_40_code, 3, some .int)
def m_M_completions : sM := (yX9_completions, prog_11_method_41_code, 4, some .long)
def m_M_factorOf : sM := (yX9_factorOf, prog_11_method_42_code, 7, some .int)
def m_M_completed : sM := (yX9_completed, prog_11_method_43_code, 7, some .int)
def m_M_isWellIf : sM := (yX9_isWellIf, prog_11_method_44_code, 4, some .int)
def m_M_spoilers : sM := (yX9_spoilers, prog_11_method_45_code, 5, some .long)
def m_M_bits : sM := (yX9_bits, prog_11_method_46_code, 3, some .int)
def m_M_gain : sM := (yX9_gain, prog_11_method_47_code, 3, some .int)
def m_M_bestEntry : sM := (yX9_bestEntry, prog_11_method_48_code, 7, some .int)
def m_M_put : sM := (yX9_put, prog_11_method_49_code, 8, some .int)
def m_M_wipe : sM := (yX9_wipe, prog_11_method_50_code, 2, some .int)
def m_M_numberOf : sM := (yX9_numberOf, prog_11_method_51_code, 1, some .int)
def m_M_readPad : sM := (yX9_readPad, prog_11_method_52_code, 5, some .int)
def m_M_fault : sM := (yX9_fault, prog_11_method_53_code, 1, some .int)
def m_M_read : sM := (yX9_read, prog_11_method_54_code, 3, some .int)
def m_Int_bitCount : sM := (yJ6_bitCount_0f7a4, prog_12_method_49_code, 1, some .int)
def m_Math_max : sM := (yJ9_max_7cf53, prog_13_method_65_code, 2, some .int)
def m_Law_law : sM := (yL_law, code, 4, ret)
theorem uw_0 : ∀ w ∈ u_ws RX0 TX0 4, w ∈ lw_good := lw_goodL [96, 98, 100, 102] (by decide +kernel) (by decide +kernel)
theorem uw_1 : ∀ w ∈ u_ws RX1 TX1 3, w ∈ lw_good := lw_goodL [221, 223, 225] (by decide +kernel) (by decide +kernel)
theorem uw_2 : ∀ w ∈ u_ws RX2 TX2 1, w ∈ lw_good := lw_goodL [185] (by decide +kernel) (by decide +kernel)
theorem uw_3 : ∀ w ∈ u_ws RX3 TX3 1, w ∈ lw_good := lw_goodL [88] (by decide +kernel) (by decide +kernel)
theorem uw_4 : ∀ w ∈ u_ws RX4 TX4 4, w ∈ lw_good := lw_goodL [200, 202, 204, 206] (by decide +kernel) (by decide +kernel)
theorem uw_5 : ∀ w ∈ u_ws RX5 TX5 6, w ∈ lw_good := lw_goodL [119, 121, 123, 125, 127, 129] (by decide +kernel) (by decide +kernel)
theorem uw_6 : ∀ w ∈ u_ws RX6 TX6 11, w ∈ lw_good := lw_goodL [153, 155, 157, 159, 161, 163, 165, 167, 169, 171, 173] (by decide +kernel) (by decide +kernel)
theorem uw_7 : ∀ w ∈ u_ws RX7 TX7 2, w ∈ lw_good := lw_goodL [239, 241] (by decide +kernel) (by decide +kernel)
theorem uw_8 : ∀ w ∈ u_ws RX8 TX8 8, w ∈ lw_good := lw_goodL [252, 254, 256, 258, 260, 262, 264, 266] (by decide +kernel) (by decide +kernel)
theorem uw_9 : ∀ w ∈ u_ws RX9 TX9 22, w ∈ lw_good := lw_goodL [751, 753, 755, 757, 759, 761, 763, 765, 767, 769, 771, 773, 775, 777, 779, 781, 783, 785, 787, 789, 791, 793] (by decide +kernel) (by decide +kernel)
theorem ml_Grid_init : sML m_Grid_init 0 := ⟨lw_goodI 76 (by decide +kernel) (by decide +kernel), lw_goodI 53 (by decide +kernel) (by decide +kernel), ⟨by decide +kernel, by decide +kernel⟩, by decide +kernel, by decide +kernel⟩
theorem ml_Grid_rows : sML m_Grid_rows 0 := ⟨lw_goodI 364 (by decide +kernel) (by decide +kernel), lw_goodI 53 (by decide +kernel) (by decide +kernel), ⟨by decide +kernel, by decide +kernel⟩, by decide +kernel, by decide +kernel⟩
theorem ml_Grid_columns : sML m_Grid_columns 0 := ⟨lw_goodI 374 (by decide +kernel) (by decide +kernel), lw_goodI 53 (by decide +kernel) (by decide +kernel), ⟨by decide +kernel, by decide +kernel⟩, by decide +kernel, by decide +kernel⟩
theorem ml_Grid_modulus : sML m_Grid_modulus 0 := ⟨lw_goodI 342 (by decide +kernel) (by decide +kernel), lw_goodI 53 (by decide +kernel) (by decide +kernel), ⟨by decide +kernel, by decide +kernel⟩, by decide +kernel, by decide +kernel⟩
theorem ml_Grid_clear : sML m_Grid_clear 3 := ⟨lw_goodI 325 (by decide +kernel) (by decide +kernel), lw_goodI 53 (by decide +kernel) (by decide +kernel), ⟨by decide +kernel, by decide +kernel⟩, by decide +kernel, by decide +kernel⟩
theorem ml_Grid_copyFrom : sML m_Grid_copyFrom 1 := ⟨lw_goodI 316 (by decide +kernel) (by decide +kernel), lw_goodI 53 (by decide +kernel) (by decide +kernel), ⟨by decide +kernel, by decide +kernel⟩, by decide +kernel, by decide +kernel⟩
theorem ml_Grid_has : sML m_Grid_has 2 := ⟨lw_goodI 294 (by decide +kernel) (by decide +kernel), lw_goodI 53 (by decide +kernel) (by decide +kernel), ⟨by decide +kernel, by decide +kernel⟩, by decide +kernel, by decide +kernel⟩
theorem ml_Grid_number : sML m_Grid_number 2 := ⟨lw_goodI 290 (by decide +kernel) (by decide +kernel), lw_goodI 53 (by decide +kernel) (by decide +kernel), ⟨by decide +kernel, by decide +kernel⟩, by decide +kernel, by decide +kernel⟩
theorem ml_Grid_setNumber : sML m_Grid_setNumber 3 := ⟨lw_goodI 347 (by decide +kernel) (by decide +kernel), lw_goodI 53 (by decide +kernel) (by decide +kernel), ⟨by decide +kernel, by decide +kernel⟩, by decide +kernel, by decide +kernel⟩
theorem ml_Grid_toldInRow : sML m_Grid_toldInRow 1 := ⟨lw_goodI 286 (by decide +kernel) (by decide +kernel), lw_goodI 53 (by decide +kernel) (by decide +kernel), ⟨by decide +kernel, by decide +kernel⟩, by decide +kernel, by decide +kernel⟩
theorem ml_Grid_toldCount : sML m_Grid_toldCount 0 := ⟨lw_goodI 282 (by decide +kernel) (by decide +kernel), lw_goodI 53 (by decide +kernel) (by decide +kernel), ⟨by decide +kernel, by decide +kernel⟩, by decide +kernel, by decide +kernel⟩
theorem ml_Grid_product : sML m_Grid_product 2 := ⟨lw_goodI 387 (by decide +kernel) (by decide +kernel), lw_goodI 53 (by decide +kernel) (by decide +kernel), ⟨by decide +kernel, by decide +kernel⟩, by decide +kernel, by decide +kernel⟩
theorem ml_Grid_remainder : sML m_Grid_remainder 1 := ⟨lw_goodI 544 (by decide +kernel) (by decide +kernel), lw_goodI 53 (by decide +kernel) (by decide +kernel), ⟨by decide +kernel, by decide +kernel⟩, by decide +kernel, by decide +kernel⟩
theorem ml_Grid_quotient : sML m_Grid_quotient 2 := ⟨lw_goodI 383 (by decide +kernel) (by decide +kernel), lw_goodI 53 (by decide +kernel) (by decide +kernel), ⟨by decide +kernel, by decide +kernel⟩, by decide +kernel, by decide +kernel⟩
theorem ml_Hist_init : sML m_Hist_init 0 := ⟨lw_goodI 213 (by decide +kernel) (by decide +kernel), lw_goodI 60 (by decide +kernel) (by decide +kernel), ⟨by decide +kernel, by decide +kernel⟩, by decide +kernel, by decide +kernel⟩
theorem ml_Hist_size : sML m_Hist_size 0 := ⟨lw_goodI 553 (by decide +kernel) (by decide +kernel), lw_goodI 60 (by decide +kernel) (by decide +kernel), ⟨by decide +kernel, by decide +kernel⟩, by decide +kernel, by decide +kernel⟩
theorem ml_Hist_record : sML m_Hist_record 1 := ⟨lw_goodI 308 (by decide +kernel) (by decide +kernel), lw_goodI 60 (by decide +kernel) (by decide +kernel), ⟨by decide +kernel, by decide +kernel⟩, by decide +kernel, by decide +kernel⟩
theorem ml_Hist_takeLatest : sML m_Hist_takeLatest 0 := ⟨lw_goodI 697 (by decide +kernel) (by decide +kernel), lw_goodI 60 (by decide +kernel) (by decide +kernel), ⟨by decide +kernel, by decide +kernel⟩, by decide +kernel, by decide +kernel⟩
theorem ml_Hist_pastAt : sML m_Hist_pastAt 1 := ⟨lw_goodI 312 (by decide +kernel) (by decide +kernel), lw_goodI 60 (by decide +kernel) (by decide +kernel), ⟨by decide +kernel, by decide +kernel⟩, by decide +kernel, by decide +kernel⟩
theorem ml_Min_init : sML m_Min_init 0 := ⟨lw_goodI 180 (by decide +kernel) (by decide +kernel), lw_goodI 58 (by decide +kernel) (by decide +kernel), ⟨by decide +kernel, by decide +kernel⟩, by decide +kernel, by decide +kernel⟩
theorem ml_Min_countAll : sML m_Min_countAll 2 := ⟨lw_goodI 503 (by decide +kernel) (by decide +kernel), lw_goodI 58 (by decide +kernel) (by decide +kernel), ⟨by decide +kernel, by decide +kernel⟩, by decide +kernel, by decide +kernel⟩
theorem ml_Min_countBelow : sML m_Min_countBelow 4 := ⟨lw_goodI 507 (by decide +kernel) (by decide +kernel), lw_goodI 58 (by decide +kernel) (by decide +kernel), ⟨by decide +kernel, by decide +kernel⟩, by decide +kernel, by decide +kernel⟩
theorem ml_Min_countThrough : sML m_Min_countThrough 3 := ⟨lw_goodI 454 (by decide +kernel) (by decide +kernel), lw_goodI 58 (by decide +kernel) (by decide +kernel), ⟨by decide +kernel, by decide +kernel⟩, by decide +kernel, by decide +kernel⟩
theorem ml_Min_isMinor : sML m_Min_isMinor 5 := ⟨lw_goodI 459 (by decide +kernel) (by decide +kernel), lw_goodI 58 (by decide +kernel) (by decide +kernel), ⟨by decide +kernel, by decide +kernel⟩, by decide +kernel, by decide +kernel⟩
theorem ml_Min_isZero : sML m_Min_isZero 5 := ⟨lw_goodI 510 (by decide +kernel) (by decide +kernel), lw_goodI 58 (by decide +kernel) (by decide +kernel), ⟨by decide +kernel, by decide +kernel⟩, by decide +kernel, by decide +kernel⟩
theorem ml_Min_leastRank : sML m_Min_leastRank 1 := ⟨lw_goodI 515 (by decide +kernel) (by decide +kernel), lw_goodI 58 (by decide +kernel) (by decide +kernel), ⟨by decide +kernel, by decide +kernel⟩, by decide +kernel, by decide +kernel⟩
theorem ml_Min_rankOf : sML m_Min_rankOf 2 := ⟨lw_goodI 519 (by decide +kernel) (by decide +kernel), lw_goodI 58 (by decide +kernel) (by decide +kernel), ⟨by decide +kernel, by decide +kernel⟩, by decide +kernel, by decide +kernel⟩
theorem ml_Min_bringUp : sML m_Min_bringUp 3 := ⟨lw_goodI 528 (by decide +kernel) (by decide +kernel), lw_goodI 58 (by decide +kernel) (by decide +kernel), ⟨by decide +kernel, by decide +kernel⟩, by decide +kernel, by decide +kernel⟩
theorem ml_Min_eliminate : sML m_Min_eliminate 4 := ⟨lw_goodI 538 (by decide +kernel) (by decide +kernel), lw_goodI 58 (by decide +kernel) (by decide +kernel), ⟨by decide +kernel, by decide +kernel⟩, by decide +kernel, by decide +kernel⟩
theorem ml_Num_init : sML m_Num_init 1 := ⟨lw_goodI 82 (by decide +kernel) (by decide +kernel), lw_goodI 54 (by decide +kernel) (by decide +kernel), ⟨by decide +kernel, by decide +kernel⟩, by decide +kernel, by decide +kernel⟩
theorem ml_Num_get : sML m_Num_get 1 := ⟨lw_goodI 298 (by decide +kernel) (by decide +kernel), lw_goodI 54 (by decide +kernel) (by decide +kernel), ⟨by decide +kernel, by decide +kernel⟩, by decide +kernel, by decide +kernel⟩
theorem ml_Num_set : sML m_Num_set 2 := ⟨lw_goodI 351 (by decide +kernel) (by decide +kernel), lw_goodI 54 (by decide +kernel) (by decide +kernel), ⟨by decide +kernel, by decide +kernel⟩, by decide +kernel, by decide +kernel⟩
theorem ml_Num_setEach : sML m_Num_setEach 1 := ⟨lw_goodI 329 (by decide +kernel) (by decide +kernel), lw_goodI 54 (by decide +kernel) (by decide +kernel), ⟨by decide +kernel, by decide +kernel⟩, by decide +kernel, by decide +kernel⟩
theorem ml_Num_copyFrom : sML m_Num_copyFrom 1 := ⟨lw_goodI 320 (by decide +kernel) (by decide +kernel), lw_goodI 54 (by decide +kernel) (by decide +kernel), ⟨by decide +kernel, by decide +kernel⟩, by decide +kernel, by decide +kernel⟩
theorem ml_Num_swap : sML m_Num_swap 2 := ⟨lw_goodI 533 (by decide +kernel) (by decide +kernel), lw_goodI 54 (by decide +kernel) (by decide +kernel), ⟨by decide +kernel, by decide +kernel⟩, by decide +kernel, by decide +kernel⟩
theorem ml_Pad_init : sML m_Pad_init 0 := ⟨lw_goodI 192 (by decide +kernel) (by decide +kernel), lw_goodI 59 (by decide +kernel) (by decide +kernel), ⟨by decide +kernel, by decide +kernel⟩, by decide +kernel, by decide +kernel⟩
theorem ml_Pad_length : sML m_Pad_length 0 := ⟨lw_goodI 549 (by decide +kernel) (by decide +kernel), lw_goodI 59 (by decide +kernel) (by decide +kernel), ⟨by decide +kernel, by decide +kernel⟩, by decide +kernel, by decide +kernel⟩
theorem ml_Pad_empty : sML m_Pad_empty 0 := ⟨lw_goodI 440 (by decide +kernel) (by decide +kernel), lw_goodI 59 (by decide +kernel) (by decide +kernel), ⟨by decide +kernel, by decide +kernel⟩, by decide +kernel, by decide +kernel⟩
theorem ml_Pad_append : sML m_Pad_append 1 := ⟨lw_goodI 680 (by decide +kernel) (by decide +kernel), lw_goodI 59 (by decide +kernel) (by decide +kernel), ⟨by decide +kernel, by decide +kernel⟩, by decide +kernel, by decide +kernel⟩
theorem ml_Pad_scan : sML m_Pad_scan 0 := ⟨lw_goodI 415 (by decide +kernel) (by decide +kernel), lw_goodI 59 (by decide +kernel) (by decide +kernel), ⟨by decide +kernel, by decide +kernel⟩, by decide +kernel, by decide +kernel⟩
theorem ml_Pad_rows : sML m_Pad_rows 0 := ⟨lw_goodI 428 (by decide +kernel) (by decide +kernel), lw_goodI 59 (by decide +kernel) (by decide +kernel), ⟨by decide +kernel, by decide +kernel⟩, by decide +kernel, by decide +kernel⟩
theorem ml_Pad_columns : sML m_Pad_columns 0 := ⟨lw_goodI 432 (by decide +kernel) (by decide +kernel), lw_goodI 59 (by decide +kernel) (by decide +kernel), ⟨by decide +kernel, by decide +kernel⟩, by decide +kernel, by decide +kernel⟩
theorem ml_Pad_number : sML m_Pad_number 2 := ⟨lw_goodI 436 (by decide +kernel) (by decide +kernel), lw_goodI 59 (by decide +kernel) (by decide +kernel), ⟨by decide +kernel, by decide +kernel⟩, by decide +kernel, by decide +kernel⟩
theorem ml_Pad_greatestNumber : sML m_Pad_greatestNumber 0 := ⟨lw_goodI 423 (by decide +kernel) (by decide +kernel), lw_goodI 59 (by decide +kernel) (by decide +kernel), ⟨by decide +kernel, by decide +kernel⟩, by decide +kernel, by decide +kernel⟩
theorem ml_Pad_signOf : sML m_Pad_signOf 1 := ⟨lw_goodI 419 (by decide +kernel) (by decide +kernel), lw_goodI 59 (by decide +kernel) (by decide +kernel), ⟨by decide +kernel, by decide +kernel⟩, by decide +kernel, by decide +kernel⟩
theorem ml_Parts_init : sML m_Parts_init 0 := ⟨lw_goodI 109 (by decide +kernel) (by decide +kernel), lw_goodI 56 (by decide +kernel) (by decide +kernel), ⟨by decide +kernel, by decide +kernel⟩, by decide +kernel, by decide +kernel⟩
theorem ml_Parts_find : sML m_Parts_find 1 := ⟨lw_goodI 359 (by decide +kernel) (by decide +kernel), lw_goodI 56 (by decide +kernel) (by decide +kernel), ⟨by decide +kernel, by decide +kernel⟩, by decide +kernel, by decide +kernel⟩
theorem ml_Parts_spread : sML m_Parts_spread 1 := ⟨lw_goodI 370 (by decide +kernel) (by decide +kernel), lw_goodI 56 (by decide +kernel) (by decide +kernel), ⟨by decide +kernel, by decide +kernel⟩, by decide +kernel, by decide +kernel⟩
theorem ml_Parts_reachOver : sML m_Parts_reachOver 3 := ⟨lw_goodI 379 (by decide +kernel) (by decide +kernel), lw_goodI 56 (by decide +kernel) (by decide +kernel), ⟨by decide +kernel, by decide +kernel⟩, by decide +kernel, by decide +kernel⟩
theorem ml_Parts_allToldAreProducts : sML m_Parts_allToldAreProducts 1 := ⟨lw_goodI 391 (by decide +kernel) (by decide +kernel), lw_goodI 56 (by decide +kernel) (by decide +kernel), ⟨by decide +kernel, by decide +kernel⟩, by decide +kernel, by decide +kernel⟩
theorem ml_Parts_size : sML m_Parts_size 0 := ⟨lw_goodI 468 (by decide +kernel) (by decide +kernel), lw_goodI 56 (by decide +kernel) (by decide +kernel), ⟨by decide +kernel, by decide +kernel⟩, by decide +kernel, by decide +kernel⟩
theorem ml_Parts_isConsistent : sML m_Parts_isConsistent 0 := ⟨lw_goodI 400 (by decide +kernel) (by decide +kernel), lw_goodI 56 (by decide +kernel) (by decide +kernel), ⟨by decide +kernel, by decide +kernel⟩, by decide +kernel, by decide +kernel⟩
theorem ml_Parts_partOfRow : sML m_Parts_partOfRow 1 := ⟨lw_goodI 640 (by decide +kernel) (by decide +kernel), lw_goodI 56 (by decide +kernel) (by decide +kernel), ⟨by decide +kernel, by decide +kernel⟩, by decide +kernel, by decide +kernel⟩
theorem ml_Parts_partOfColumn : sML m_Parts_partOfColumn 1 := ⟨lw_goodI 648 (by decide +kernel) (by decide +kernel), lw_goodI 56 (by decide +kernel) (by decide +kernel), ⟨by decide +kernel, by decide +kernel⟩, by decide +kernel, by decide +kernel⟩
theorem ml_Parts_areJoined : sML m_Parts_areJoined 2 := ⟨lw_goodI 406 (by decide +kernel) (by decide +kernel), lw_goodI 56 (by decide +kernel) (by decide +kernel), ⟨by decide +kernel, by decide +kernel⟩, by decide +kernel, by decide +kernel⟩
theorem ml_Parts_product : sML m_Parts_product 3 := ⟨lw_goodI 395 (by decide +kernel) (by decide +kernel), lw_goodI 56 (by decide +kernel) (by decide +kernel), ⟨by decide +kernel, by decide +kernel⟩, by decide +kernel, by decide +kernel⟩
theorem ml_Parts_following : sML m_Parts_following 3 := ⟨lw_goodI 448 (by decide +kernel) (by decide +kernel), lw_goodI 56 (by decide +kernel) (by decide +kernel), ⟨by decide +kernel, by decide +kernel⟩, by decide +kernel, by decide +kernel⟩
theorem ml_Parts_rowsOf : sML m_Parts_rowsOf 1 := ⟨lw_goodI 472 (by decide +kernel) (by decide +kernel), lw_goodI 56 (by decide +kernel) (by decide +kernel), ⟨by decide +kernel, by decide +kernel⟩, by decide +kernel, by decide +kernel⟩
theorem ml_Parts_columnsOf : sML m_Parts_columnsOf 1 := ⟨lw_goodI 479 (by decide +kernel) (by decide +kernel), lw_goodI 56 (by decide +kernel) (by decide +kernel), ⟨by decide +kernel, by decide +kernel⟩, by decide +kernel, by decide +kernel⟩
theorem ml_Parts_membersOf : sML m_Parts_membersOf 2 := ⟨lw_goodI 475 (by decide +kernel) (by decide +kernel), lw_goodI 56 (by decide +kernel) (by decide +kernel), ⟨by decide +kernel, by decide +kernel⟩, by decide +kernel, by decide +kernel⟩
theorem ml_Parts_toldIn : sML m_Parts_toldIn 2 := ⟨lw_goodI 483 (by decide +kernel) (by decide +kernel), lw_goodI 56 (by decide +kernel) (by decide +kernel), ⟨by decide +kernel, by decide +kernel⟩, by decide +kernel, by decide +kernel⟩
theorem ml_Parts_joinedEntries : sML m_Parts_joinedEntries 0 := ⟨lw_goodI 497 (by decide +kernel) (by decide +kernel), lw_goodI 56 (by decide +kernel) (by decide +kernel), ⟨by decide +kernel, by decide +kernel⟩, by decide +kernel, by decide +kernel⟩
theorem ml_Parts_gain : sML m_Parts_gain 2 := ⟨lw_goodI 668 (by decide +kernel) (by decide +kernel), lw_goodI 56 (by decide +kernel) (by decide +kernel), ⟨by decide +kernel, by decide +kernel⟩, by decide +kernel, by decide +kernel⟩
theorem ml_Rings_init : sML m_Rings_init 0 := ⟨lw_goodI 136 (by decide +kernel) (by decide +kernel), lw_goodI 57 (by decide +kernel) (by decide +kernel), ⟨by decide +kernel, by decide +kernel⟩, by decide +kernel, by decide +kernel⟩
theorem ml_Rings_search : sML m_Rings_search 3 := ⟨lw_goodI 561 (by decide +kernel) (by decide +kernel), lw_goodI 57 (by decide +kernel) (by decide +kernel), ⟨by decide +kernel, by decide +kernel⟩, by decide +kernel, by decide +kernel⟩
theorem ml_Rings_walk : sML m_Rings_walk 3 := ⟨lw_goodI 570 (by decide +kernel) (by decide +kernel), lw_goodI 57 (by decide +kernel) (by decide +kernel), ⟨by decide +kernel, by decide +kernel⟩, by decide +kernel, by decide +kernel⟩
theorem ml_Rings_lead : sML m_Rings_lead 3 := ⟨lw_goodI 574 (by decide +kernel) (by decide +kernel), lw_goodI 57 (by decide +kernel) (by decide +kernel), ⟨by decide +kernel, by decide +kernel⟩, by decide +kernel, by decide +kernel⟩
theorem ml_Rings_findRatios : sML m_Rings_findRatios 3 := ⟨lw_goodI 579 (by decide +kernel) (by decide +kernel), lw_goodI 57 (by decide +kernel) (by decide +kernel), ⟨by decide +kernel, by decide +kernel⟩, by decide +kernel, by decide +kernel⟩
theorem ml_Rings_leadOn : sML m_Rings_leadOn 2 := ⟨lw_goodI 591 (by decide +kernel) (by decide +kernel), lw_goodI 57 (by decide +kernel) (by decide +kernel), ⟨by decide +kernel, by decide +kernel⟩, by decide +kernel, by decide +kernel⟩
theorem ml_Rings_forgetSetsOf : sML m_Rings_forgetSetsOf 1 := ⟨lw_goodI 586 (by decide +kernel) (by decide +kernel), lw_goodI 57 (by decide +kernel) (by decide +kernel), ⟨by decide +kernel, by decide +kernel⟩, by decide +kernel, by decide +kernel⟩
theorem ml_Rings_collect : sML m_Rings_collect 1 := ⟨lw_goodI 596 (by decide +kernel) (by decide +kernel), lw_goodI 57 (by decide +kernel) (by decide +kernel), ⟨by decide +kernel, by decide +kernel⟩, by decide +kernel, by decide +kernel⟩
theorem ml_Rings_noteWrong : sML m_Rings_noteWrong 3 := ⟨lw_goodI 600 (by decide +kernel) (by decide +kernel), lw_goodI 57 (by decide +kernel) (by decide +kernel), ⟨by decide +kernel, by decide +kernel⟩, by decide +kernel, by decide +kernel⟩
theorem ml_Rings_all : sML m_Rings_all 0 := ⟨lw_goodI 604 (by decide +kernel) (by decide +kernel), lw_goodI 57 (by decide +kernel) (by decide +kernel), ⟨by decide +kernel, by decide +kernel⟩, by decide +kernel, by decide +kernel⟩
theorem ml_Rings_wrongOnes : sML m_Rings_wrongOnes 0 := ⟨lw_goodI 608 (by decide +kernel) (by decide +kernel), lw_goodI 57 (by decide +kernel) (by decide +kernel), ⟨by decide +kernel, by decide +kernel⟩, by decide +kernel, by decide +kernel⟩
theorem ml_Rings_wrongRows : sML m_Rings_wrongRows 0 := ⟨lw_goodI 620 (by decide +kernel) (by decide +kernel), lw_goodI 57 (by decide +kernel) (by decide +kernel), ⟨by decide +kernel, by decide +kernel⟩, by decide +kernel, by decide +kernel⟩
theorem ml_Rings_wrongColumns : sML m_Rings_wrongColumns 0 := ⟨lw_goodI 624 (by decide +kernel) (by decide +kernel), lw_goodI 57 (by decide +kernel) (by decide +kernel), ⟨by decide +kernel, by decide +kernel⟩, by decide +kernel, by decide +kernel⟩
theorem ml_Slot_init : sML m_Slot_init 0 := ⟨lw_goodI 233 (by decide +kernel) (by decide +kernel), lw_goodI 61 (by decide +kernel) (by decide +kernel), ⟨by decide +kernel, by decide +kernel⟩, by decide +kernel, by decide +kernel⟩
theorem ml_Slot_isFilled : sML m_Slot_isFilled 0 := ⟨lw_goodI 718 (by decide +kernel) (by decide +kernel), lw_goodI 61 (by decide +kernel) (by decide +kernel), ⟨by decide +kernel, by decide +kernel⟩, by decide +kernel, by decide +kernel⟩
theorem ml_Slot_keep : sML m_Slot_keep 1 := ⟨lw_goodI 709 (by decide +kernel) (by decide +kernel), lw_goodI 61 (by decide +kernel) (by decide +kernel), ⟨by decide +kernel, by decide +kernel⟩, by decide +kernel, by decide +kernel⟩
theorem ml_Slot_giveTo : sML m_Slot_giveTo 1 := ⟨lw_goodI 722 (by decide +kernel) (by decide +kernel), lw_goodI 61 (by decide +kernel) (by decide +kernel), ⟨by decide +kernel, by decide +kernel⟩, by decide +kernel, by decide +kernel⟩
theorem ml_O_init : sML m_O_init 0 := ⟨lw_goodI 68 (by decide +kernel) (by decide +kernel), lw_goodI 52 (by decide +kernel) (by decide +kernel), ⟨by decide +kernel, by decide +kernel⟩, by decide +kernel, by decide +kernel⟩
theorem ml_O_begin : sML m_O_begin 3 := ⟨lw_goodI 272 (by decide +kernel) (by decide +kernel), lw_goodI 52 (by decide +kernel) (by decide +kernel), ⟨by decide +kernel, by decide +kernel⟩, by decide +kernel, by decide +kernel⟩
theorem ml_O_tell : sML m_O_tell 3 := ⟨lw_goodI 333 (by decide +kernel) (by decide +kernel), lw_goodI 52 (by decide +kernel) (by decide +kernel), ⟨by decide +kernel, by decide +kernel⟩, by decide +kernel, by decide +kernel⟩
theorem ml_O_tellAll : sML m_O_tellAll 0 := ⟨lw_goodI 355 (by decide +kernel) (by decide +kernel), lw_goodI 52 (by decide +kernel) (by decide +kernel), ⟨by decide +kernel, by decide +kernel⟩, by decide +kernel, by decide +kernel⟩
theorem ml_O_read : sML m_O_read 0 := ⟨lw_goodI 411 (by decide +kernel) (by decide +kernel), lw_goodI 52 (by decide +kernel) (by decide +kernel), ⟨by decide +kernel, by decide +kernel⟩, by decide +kernel, by decide +kernel⟩
theorem ml_O_entry : sML m_O_entry 3 := ⟨lw_goodI 444 (by decide +kernel) (by decide +kernel), lw_goodI 52 (by decide +kernel) (by decide +kernel), ⟨by decide +kernel, by decide +kernel⟩, by decide +kernel, by decide +kernel⟩
theorem ml_O_part : sML m_O_part 2 := ⟨lw_goodI 464 (by decide +kernel) (by decide +kernel), lw_goodI 52 (by decide +kernel) (by decide +kernel), ⟨by decide +kernel, by decide +kernel⟩, by decide +kernel, by decide +kernel⟩
theorem ml_O_count : sML m_O_count 1 := ⟨lw_goodI 489 (by decide +kernel) (by decide +kernel), lw_goodI 52 (by decide +kernel) (by decide +kernel), ⟨by decide +kernel, by decide +kernel⟩, by decide +kernel, by decide +kernel⟩
theorem ml_O_countOfParts : sML m_O_countOfParts 1 := ⟨lw_goodI 493 (by decide +kernel) (by decide +kernel), lw_goodI 52 (by decide +kernel) (by decide +kernel), ⟨by decide +kernel, by decide +kernel⟩, by decide +kernel, by decide +kernel⟩
theorem ml_O_cycles : sML m_O_cycles 2 := ⟨lw_goodI 557 (by decide +kernel) (by decide +kernel), lw_goodI 52 (by decide +kernel) (by decide +kernel), ⟨by decide +kernel, by decide +kernel⟩, by decide +kernel, by decide +kernel⟩
theorem ml_O_wrong : sML m_O_wrong 1 := ⟨lw_goodI 612 (by decide +kernel) (by decide +kernel), lw_goodI 52 (by decide +kernel) (by decide +kernel), ⟨by decide +kernel, by decide +kernel⟩, by decide +kernel, by decide +kernel⟩
theorem ml_O_shortestWrongTurns : sML m_O_shortestWrongTurns 0 := ⟨lw_goodI 616 (by decide +kernel) (by decide +kernel), lw_goodI 52 (by decide +kernel) (by decide +kernel), ⟨by decide +kernel, by decide +kernel⟩, by decide +kernel, by decide +kernel⟩
theorem ml_O_completions : sML m_O_completions 0 := ⟨lw_goodI 628 (by decide +kernel) (by decide +kernel), lw_goodI 52 (by decide +kernel) (by decide +kernel), ⟨by decide +kernel, by decide +kernel⟩, by decide +kernel, by decide +kernel⟩
theorem ml_O_completed : sML m_O_completed 3 := ⟨lw_goodI 636 (by decide +kernel) (by decide +kernel), lw_goodI 52 (by decide +kernel) (by decide +kernel), ⟨by decide +kernel, by decide +kernel⟩, by decide +kernel, by decide +kernel⟩
theorem ml_O_countCompletions : sML m_O_countCompletions 0 := ⟨lw_goodI 632 (by decide +kernel) (by decide +kernel), lw_goodI 52 (by decide +kernel) (by decide +kernel), ⟨by decide +kernel, by decide +kernel⟩, by decide +kernel, by decide +kernel⟩
theorem ml_O_factorOf : sML m_O_factorOf 2 := ⟨lw_goodI 644 (by decide +kernel) (by decide +kernel), lw_goodI 52 (by decide +kernel) (by decide +kernel), ⟨by decide +kernel, by decide +kernel⟩, by decide +kernel, by decide +kernel⟩
theorem ml_O_isWellIf : sML m_O_isWellIf 3 := ⟨lw_goodI 654 (by decide +kernel) (by decide +kernel), lw_goodI 52 (by decide +kernel) (by decide +kernel), ⟨by decide +kernel, by decide +kernel⟩, by decide +kernel, by decide +kernel⟩
theorem ml_O_spoilers : sML m_O_spoilers 0 := ⟨lw_goodI 658 (by decide +kernel) (by decide +kernel), lw_goodI 52 (by decide +kernel) (by decide +kernel), ⟨by decide +kernel, by decide +kernel⟩, by decide +kernel, by decide +kernel⟩
theorem ml_O_bestEntry : sML m_O_bestEntry 1 := ⟨lw_goodI 664 (by decide +kernel) (by decide +kernel), lw_goodI 52 (by decide +kernel) (by decide +kernel), ⟨by decide +kernel, by decide +kernel⟩, by decide +kernel, by decide +kernel⟩
theorem ml_O_put : sML m_O_put 1 := ⟨lw_goodI 672 (by decide +kernel) (by decide +kernel), lw_goodI 52 (by decide +kernel) (by decide +kernel), ⟨by decide +kernel, by decide +kernel⟩, by decide +kernel, by decide +kernel⟩
theorem ml_O_wipe : sML m_O_wipe 0 := ⟨lw_goodI 685 (by decide +kernel) (by decide +kernel), lw_goodI 52 (by decide +kernel) (by decide +kernel), ⟨by decide +kernel, by decide +kernel⟩, by decide +kernel, by decide +kernel⟩
theorem ml_O_fault : sML m_O_fault 0 := ⟨lw_goodI 689 (by decide +kernel) (by decide +kernel), lw_goodI 52 (by decide +kernel) (by decide +kernel), ⟨by decide +kernel, by decide +kernel⟩, by decide +kernel, by decide +kernel⟩
theorem ml_O_sizeOf : sML m_O_sizeOf 1 := ⟨lw_goodI 675 (by decide +kernel) (by decide +kernel), lw_goodI 52 (by decide +kernel) (by decide +kernel), ⟨by decide +kernel, by decide +kernel⟩, by decide +kernel, by decide +kernel⟩
theorem ml_O_undo : sML m_O_undo 0 := ⟨lw_goodI 693 (by decide +kernel) (by decide +kernel), lw_goodI 52 (by decide +kernel) (by decide +kernel), ⟨by decide +kernel, by decide +kernel⟩, by decide +kernel, by decide +kernel⟩
theorem ml_O_save : sML m_O_save 1 := ⟨lw_goodI 701 (by decide +kernel) (by decide +kernel), lw_goodI 52 (by decide +kernel) (by decide +kernel), ⟨by decide +kernel, by decide +kernel⟩, by decide +kernel, by decide +kernel⟩
theorem ml_O_restore : sML m_O_restore 1 := ⟨lw_goodI 714 (by decide +kernel) (by decide +kernel), lw_goodI 52 (by decide +kernel) (by decide +kernel), ⟨by decide +kernel, by decide +kernel⟩, by decide +kernel, by decide +kernel⟩
theorem ml_O_slotAt : sML m_O_slotAt 1 := ⟨lw_goodI 705 (by decide +kernel) (by decide +kernel), lw_goodI 52 (by decide +kernel) (by decide +kernel), ⟨by decide +kernel, by decide +kernel⟩, by decide +kernel, by decide +kernel⟩
theorem ml_O_errorOfTelling : sML m_O_errorOfTelling 3 := ⟨lw_goodI 337 (by decide +kernel) (by decide +kernel), lw_goodI 52 (by decide +kernel) (by decide +kernel), ⟨by decide +kernel, by decide +kernel⟩, by decide +kernel, by decide +kernel⟩
theorem ml_O_isOutside : sML m_O_isOutside 3 := ⟨lw_goodI 275 (by decide +kernel) (by decide +kernel), lw_goodI 52 (by decide +kernel) (by decide +kernel), ⟨by decide +kernel, by decide +kernel⟩, by decide +kernel, by decide +kernel⟩
theorem ml_O_isModulus : sML m_O_isModulus 1 := ⟨lw_goodI 278 (by decide +kernel) (by decide +kernel), lw_goodI 52 (by decide +kernel) (by decide +kernel), ⟨by decide +kernel, by decide +kernel⟩, by decide +kernel, by decide +kernel⟩
theorem ml_O_holds : sML m_O_holds 2 := ⟨lw_goodI 522 (by decide +kernel) (by decide +kernel), lw_goodI 52 (by decide +kernel) (by decide +kernel), ⟨by decide +kernel, by decide +kernel⟩, by decide +kernel, by decide +kernel⟩
theorem ml_M_init : sML m_M_init 0 := ⟨lw_goodI 727 (by decide +kernel) (by decide +kernel), lw_goodI 62 (by decide +kernel) (by decide +kernel), ⟨by decide +kernel, by decide +kernel⟩, by decide +kernel, by decide +kernel⟩
theorem ml_M_in : sML m_M_in 3 := ⟨lw_goodI 808 (by decide +kernel) (by decide +kernel), lw_goodI 62 (by decide +kernel) (by decide +kernel), ⟨by decide +kernel, by decide +kernel⟩, by decide +kernel, by decide +kernel⟩
theorem ml_M_isEntry : sML m_M_isEntry 2 := ⟨lw_goodI 832 (by decide +kernel) (by decide +kernel), lw_goodI 62 (by decide +kernel) (by decide +kernel), ⟨by decide +kernel, by decide +kernel⟩, by decide +kernel, by decide +kernel⟩
theorem ml_M_record : sML m_M_record 0 := ⟨lw_goodI 820 (by decide +kernel) (by decide +kernel), lw_goodI 62 (by decide +kernel) (by decide +kernel), ⟨by decide +kernel, by decide +kernel⟩, by decide +kernel, by decide +kernel⟩
theorem ml_M_undo : sML m_M_undo 0 := ⟨lw_goodI 801 (by decide +kernel) (by decide +kernel), lw_goodI 62 (by decide +kernel) (by decide +kernel), ⟨by decide +kernel, by decide +kernel⟩, by decide +kernel, by decide +kernel⟩
theorem ml_M_toldMany : sML m_M_toldMany 0 := ⟨lw_goodI 812 (by decide +kernel) (by decide +kernel), lw_goodI 62 (by decide +kernel) (by decide +kernel), ⟨by decide +kernel, by decide +kernel⟩, by decide +kernel, by decide +kernel⟩
theorem ml_M_save : sML m_M_save 1 := ⟨lw_goodI 805 (by decide +kernel) (by decide +kernel), lw_goodI 62 (by decide +kernel) (by decide +kernel), ⟨by decide +kernel, by decide +kernel⟩, by decide +kernel, by decide +kernel⟩
theorem ml_M_restore : sML m_M_restore 1 := ⟨lw_goodI 816 (by decide +kernel) (by decide +kernel), lw_goodI 62 (by decide +kernel) (by decide +kernel), ⟨by decide +kernel, by decide +kernel⟩, by decide +kernel, by decide +kernel⟩
theorem ml_M_times : sML m_M_times 2 := ⟨lw_goodI 856 (by decide +kernel) (by decide +kernel), lw_goodI 62 (by decide +kernel) (by decide +kernel), ⟨by decide +kernel, by decide +kernel⟩, by decide +kernel, by decide +kernel⟩
theorem ml_M_over : sML m_M_over 1 := ⟨lw_goodI 852 (by decide +kernel) (by decide +kernel), lw_goodI 62 (by decide +kernel) (by decide +kernel), ⟨by decide +kernel, by decide +kernel⟩, by decide +kernel, by decide +kernel⟩
theorem ml_M_at : sML m_M_at 2 := ⟨lw_goodI 836 (by decide +kernel) (by decide +kernel), lw_goodI 62 (by decide +kernel) (by decide +kernel), ⟨by decide +kernel, by decide +kernel⟩, by decide +kernel, by decide +kernel⟩
theorem ml_M_spread : sML m_M_spread 1 := ⟨lw_goodI 848 (by decide +kernel) (by decide +kernel), lw_goodI 62 (by decide +kernel) (by decide +kernel), ⟨by decide +kernel, by decide +kernel⟩, by decide +kernel, by decide +kernel⟩
theorem ml_M_layParts : sML m_M_layParts 0 := ⟨lw_goodI 844 (by decide +kernel) (by decide +kernel), lw_goodI 62 (by decide +kernel) (by decide +kernel), ⟨by decide +kernel, by decide +kernel⟩, by decide +kernel, by decide +kernel⟩
theorem ml_M_isWellWith : sML m_M_isWellWith 2 := ⟨lw_goodI 969 (by decide +kernel) (by decide +kernel), lw_goodI 62 (by decide +kernel) (by decide +kernel), ⟨by decide +kernel, by decide +kernel⟩, by decide +kernel, by decide +kernel⟩
theorem ml_M_begin : sML m_M_begin 3 := ⟨lw_goodI 824 (by decide +kernel) (by decide +kernel), lw_goodI 62 (by decide +kernel) (by decide +kernel), ⟨by decide +kernel, by decide +kernel⟩, by decide +kernel, by decide +kernel⟩
theorem ml_M_tell : sML m_M_tell 3 := ⟨lw_goodI 828 (by decide +kernel) (by decide +kernel), lw_goodI 62 (by decide +kernel) (by decide +kernel), ⟨by decide +kernel, by decide +kernel⟩, by decide +kernel, by decide +kernel⟩
theorem ml_M_tellAll : sML m_M_tellAll 0 := ⟨lw_goodI 840 (by decide +kernel) (by decide +kernel), lw_goodI 62 (by decide +kernel) (by decide +kernel), ⟨by decide +kernel, by decide +kernel⟩, by decide +kernel, by decide +kernel⟩
theorem ml_M_follows : sML m_M_follows 2 := ⟨lw_goodI 864 (by decide +kernel) (by decide +kernel), lw_goodI 62 (by decide +kernel) (by decide +kernel), ⟨by decide +kernel, by decide +kernel⟩, by decide +kernel, by decide +kernel⟩
theorem ml_M_followsWithout : sML m_M_followsWithout 2 := ⟨lw_goodI 868 (by decide +kernel) (by decide +kernel), lw_goodI 62 (by decide +kernel) (by decide +kernel), ⟨by decide +kernel, by decide +kernel⟩, by decide +kernel, by decide +kernel⟩
theorem ml_M_minorsWith : sML m_M_minorsWith 2 := ⟨lw_goodI 872 (by decide +kernel) (by decide +kernel), lw_goodI 62 (by decide +kernel) (by decide +kernel), ⟨by decide +kernel, by decide +kernel⟩, by decide +kernel, by decide +kernel⟩
theorem ml_M_entry : sML m_M_entry 3 := ⟨lw_goodI 860 (by decide +kernel) (by decide +kernel), lw_goodI 62 (by decide +kernel) (by decide +kernel), ⟨by decide +kernel, by decide +kernel⟩, by decide +kernel, by decide +kernel⟩
theorem ml_M_rowsOf : sML m_M_rowsOf 1 := ⟨lw_goodI 880 (by decide +kernel) (by decide +kernel), lw_goodI 62 (by decide +kernel) (by decide +kernel), ⟨by decide +kernel, by decide +kernel⟩, by decide +kernel, by decide +kernel⟩
theorem ml_M_columnsOf : sML m_M_columnsOf 1 := ⟨lw_goodI 884 (by decide +kernel) (by decide +kernel), lw_goodI 62 (by decide +kernel) (by decide +kernel), ⟨by decide +kernel, by decide +kernel⟩, by decide +kernel, by decide +kernel⟩
theorem ml_M_toldIn : sML m_M_toldIn 1 := ⟨lw_goodI 888 (by decide +kernel) (by decide +kernel), lw_goodI 62 (by decide +kernel) (by decide +kernel), ⟨by decide +kernel, by decide +kernel⟩, by decide +kernel, by decide +kernel⟩
theorem ml_M_part : sML m_M_part 2 := ⟨lw_goodI 876 (by decide +kernel) (by decide +kernel), lw_goodI 62 (by decide +kernel) (by decide +kernel), ⟨by decide +kernel, by decide +kernel⟩, by decide +kernel, by decide +kernel⟩
theorem ml_M_inParts : sML m_M_inParts 0 := ⟨lw_goodI 896 (by decide +kernel) (by decide +kernel), lw_goodI 62 (by decide +kernel) (by decide +kernel), ⟨by decide +kernel, by decide +kernel⟩, by decide +kernel, by decide +kernel⟩
theorem ml_M_minors : sML m_M_minors 1 := ⟨lw_goodI 900 (by decide +kernel) (by decide +kernel), lw_goodI 62 (by decide +kernel) (by decide +kernel), ⟨by decide +kernel, by decide +kernel⟩, by decide +kernel, by decide +kernel⟩
theorem ml_M_areTold : sML m_M_areTold 2 := ⟨lw_goodI 912 (by decide +kernel) (by decide +kernel), lw_goodI 62 (by decide +kernel) (by decide +kernel), ⟨by decide +kernel, by decide +kernel⟩, by decide +kernel, by decide +kernel⟩
theorem ml_M_clearBy : sML m_M_clearBy 4 := ⟨lw_goodI 924 (by decide +kernel) (by decide +kernel), lw_goodI 62 (by decide +kernel) (by decide +kernel), ⟨by decide +kernel, by decide +kernel⟩, by decide +kernel, by decide +kernel⟩
theorem ml_M_exchange : sML m_M_exchange 3 := ⟨lw_goodI 920 (by decide +kernel) (by decide +kernel), lw_goodI 62 (by decide +kernel) (by decide +kernel), ⟨by decide +kernel, by decide +kernel⟩, by decide +kernel, by decide +kernel⟩
theorem ml_M_rankOf : sML m_M_rankOf 2 := ⟨lw_goodI 916 (by decide +kernel) (by decide +kernel), lw_goodI 62 (by decide +kernel) (by decide +kernel), ⟨by decide +kernel, by decide +kernel⟩, by decide +kernel, by decide +kernel⟩
theorem ml_M_rankBy : sML m_M_rankBy 1 := ⟨lw_goodI 908 (by decide +kernel) (by decide +kernel), lw_goodI 62 (by decide +kernel) (by decide +kernel), ⟨by decide +kernel, by decide +kernel⟩, by decide +kernel, by decide +kernel⟩
theorem ml_M_rankBound : sML m_M_rankBound 0 := ⟨lw_goodI 904 (by decide +kernel) (by decide +kernel), lw_goodI 62 (by decide +kernel) (by decide +kernel), ⟨by decide +kernel, by decide +kernel⟩, by decide +kernel, by decide +kernel⟩
theorem ml_M_count : sML m_M_count 1 := ⟨lw_goodI 892 (by decide +kernel) (by decide +kernel), lw_goodI 62 (by decide +kernel) (by decide +kernel), ⟨by decide +kernel, by decide +kernel⟩, by decide +kernel, by decide +kernel⟩
theorem ml_M_isWrong : sML m_M_isWrong 1 := ⟨lw_goodI 944 (by decide +kernel) (by decide +kernel), lw_goodI 62 (by decide +kernel) (by decide +kernel), ⟨by decide +kernel, by decide +kernel⟩, by decide +kernel, by decide +kernel⟩
theorem ml_M_meet : sML m_M_meet 1 := ⟨lw_goodI 940 (by decide +kernel) (by decide +kernel), lw_goodI 62 (by decide +kernel) (by decide +kernel), ⟨by decide +kernel, by decide +kernel⟩, by decide +kernel, by decide +kernel⟩
theorem ml_M_canStand : sML m_M_canStand 2 := ⟨lw_goodI 936 (by decide +kernel) (by decide +kernel), lw_goodI 62 (by decide +kernel) (by decide +kernel), ⟨by decide +kernel, by decide +kernel⟩, by decide +kernel, by decide +kernel⟩
theorem ml_M_goCycles : sML m_M_goCycles 1 := ⟨lw_goodI 932 (by decide +kernel) (by decide +kernel), lw_goodI 62 (by decide +kernel) (by decide +kernel), ⟨by decide +kernel, by decide +kernel⟩, by decide +kernel, by decide +kernel⟩
theorem ml_M_cycles : sML m_M_cycles 2 := ⟨lw_goodI 928 (by decide +kernel) (by decide +kernel), lw_goodI 62 (by decide +kernel) (by decide +kernel), ⟨by decide +kernel, by decide +kernel⟩, by decide +kernel, by decide +kernel⟩
theorem ml_M_wrong : sML m_M_wrong 1 := ⟨lw_goodI 948 (by decide +kernel) (by decide +kernel), lw_goodI 62 (by decide +kernel) (by decide +kernel), ⟨by decide +kernel, by decide +kernel⟩, by decide +kernel, by decide +kernel⟩
theorem ml_M_completions : sML m_M_completions 0 := ⟨lw_goodI 952 (by decide +kernel) (by decide +kernel), lw_goodI 62 (by decide +kernel) (by decide +kernel), ⟨by decide +kernel, by decide +kernel⟩, by decide +kernel, by decide +kernel⟩
theorem ml_M_factorOf : sML m_M_factorOf 2 := ⟨lw_goodI 961 (by decide +kernel) (by decide +kernel), lw_goodI 62 (by decide +kernel) (by decide +kernel), ⟨by decide +kernel, by decide +kernel⟩, by decide +kernel, by decide +kernel⟩
theorem ml_M_completed : sML m_M_completed 3 := ⟨lw_goodI 956 (by decide +kernel) (by decide +kernel), lw_goodI 62 (by decide +kernel) (by decide +kernel), ⟨by decide +kernel, by decide +kernel⟩, by decide +kernel, by decide +kernel⟩
theorem ml_M_isWellIf : sML m_M_isWellIf 3 := ⟨lw_goodI 965 (by decide +kernel) (by decide +kernel), lw_goodI 62 (by decide +kernel) (by decide +kernel), ⟨by decide +kernel, by decide +kernel⟩, by decide +kernel, by decide +kernel⟩
theorem ml_M_spoilers : sML m_M_spoilers 0 := ⟨lw_goodI 973 (by decide +kernel) (by decide +kernel), lw_goodI 62 (by decide +kernel) (by decide +kernel), ⟨by decide +kernel, by decide +kernel⟩, by decide +kernel, by decide +kernel⟩
theorem ml_M_bits : sML m_M_bits 1 := ⟨lw_goodI 985 (by decide +kernel) (by decide +kernel), lw_goodI 62 (by decide +kernel) (by decide +kernel), ⟨by decide +kernel, by decide +kernel⟩, by decide +kernel, by decide +kernel⟩
theorem ml_M_gain : sML m_M_gain 2 := ⟨lw_goodI 982 (by decide +kernel) (by decide +kernel), lw_goodI 62 (by decide +kernel) (by decide +kernel), ⟨by decide +kernel, by decide +kernel⟩, by decide +kernel, by decide +kernel⟩
theorem ml_M_bestEntry : sML m_M_bestEntry 1 := ⟨lw_goodI 978 (by decide +kernel) (by decide +kernel), lw_goodI 62 (by decide +kernel) (by decide +kernel), ⟨by decide +kernel, by decide +kernel⟩, by decide +kernel, by decide +kernel⟩
theorem ml_M_put : sML m_M_put 1 := ⟨lw_goodI 989 (by decide +kernel) (by decide +kernel), lw_goodI 62 (by decide +kernel) (by decide +kernel), ⟨by decide +kernel, by decide +kernel⟩, by decide +kernel, by decide +kernel⟩
theorem ml_M_wipe : sML m_M_wipe 0 := ⟨lw_goodI 994 (by decide +kernel) (by decide +kernel), lw_goodI 62 (by decide +kernel) (by decide +kernel), ⟨by decide +kernel, by decide +kernel⟩, by decide +kernel, by decide +kernel⟩
theorem ml_M_numberOf : sML m_M_numberOf 1 := ⟨lw_goodI 1005 (by decide +kernel) (by decide +kernel), lw_goodI 62 (by decide +kernel) (by decide +kernel), ⟨by decide +kernel, by decide +kernel⟩, by decide +kernel, by decide +kernel⟩
theorem ml_M_readPad : sML m_M_readPad 0 := ⟨lw_goodI 1002 (by decide +kernel) (by decide +kernel), lw_goodI 62 (by decide +kernel) (by decide +kernel), ⟨by decide +kernel, by decide +kernel⟩, by decide +kernel, by decide +kernel⟩
theorem ml_M_fault : sML m_M_fault 0 := ⟨lw_goodI 998 (by decide +kernel) (by decide +kernel), lw_goodI 62 (by decide +kernel) (by decide +kernel), ⟨by decide +kernel, by decide +kernel⟩, by decide +kernel, by decide +kernel⟩
theorem ml_M_read : sML m_M_read 0 := ⟨lw_goodI 1009 (by decide +kernel) (by decide +kernel), lw_goodI 62 (by decide +kernel) (by decide +kernel), ⟨by decide +kernel, by decide +kernel⟩, by decide +kernel, by decide +kernel⟩
theorem ml_Int_bitCount : sML m_Int_bitCount 1 := ⟨lw_goodI 301 (by decide +kernel) (by decide +kernel), lw_goodI 63 (by decide +kernel) (by decide +kernel), ⟨by decide +kernel, by decide +kernel⟩, by decide +kernel, by decide +kernel⟩
theorem ml_Math_max : sML m_Math_max 2 := ⟨lw_goodI 86 (by decide +kernel) (by decide +kernel), lw_goodI 55 (by decide +kernel) (by decide +kernel), ⟨by decide +kernel, by decide +kernel⟩, by decide +kernel, by decide +kernel⟩
theorem OI_O_1 : Cond.methodLink RX8 1 Lib.objectInit ∈ lw_good := lw_goodI 69 (by decide +kernel) (by decide +kernel)
theorem N_O_7 : sNL RX8 7 0 [.null, .int 0, .int 0, .int 0] := ⟨RX0, TX0, 4, tyX0, rfl, lw_goodI 72 (by decide +kernel) (by decide +kernel), lw_goodI 73 (by decide +kernel) (by decide +kernel), lw_goodI 53 (by decide +kernel) (by decide +kernel), uw_0, tyX0_ok, by decide +kernel, fun _ => rfl, rfl⟩
theorem IN_O_9 : sINL RX8 9 m_Grid_init 0 := ⟨ml_Grid_init, ⟨RX8, by decide +kernel⟩, lw_goodI 75 (by decide +kernel) (by decide +kernel), rfl, rfl⟩
theorem F_O_10 : sFL RX8 10 8 0 true (tyX8 0) := ⟨RX8, TX8, 8, tyX8, rfl, by decide, lw_goodI 244 (by decide +kernel) (by decide +kernel), uw_8, rfl, rfl, rfl, tyX8_ok, nmX8⟩
theorem F_O_16 : sFL RX8 16 8 1 true (tyX8 1) := ⟨RX8, TX8, 8, tyX8, rfl, by decide, lw_goodI 245 (by decide +kernel) (by decide +kernel), uw_8, rfl, rfl, rfl, tyX8_ok, nmX8⟩
theorem N_O_19 : sNL RX8 19 5 [.null, .null, .null, .null, .int 0, .int 0] := ⟨RX5, TX5, 6, tyX5, rfl, lw_goodI 105 (by decide +kernel) (by decide +kernel), lw_goodI 106 (by decide +kernel) (by decide +kernel), lw_goodI 56 (by decide +kernel) (by decide +kernel), uw_5, tyX5_ok, by decide +kernel, fun _ => rfl, rfl⟩
theorem IN_O_21 : sINL RX8 21 m_Parts_init 0 := ⟨ml_Parts_init, ⟨RX8, by decide +kernel⟩, lw_goodI 108 (by decide +kernel) (by decide +kernel), rfl, rfl⟩
theorem F_O_22 : sFL RX8 22 8 2 true (tyX8 2) := ⟨RX8, TX8, 8, tyX8, rfl, by decide, lw_goodI 246 (by decide +kernel) (by decide +kernel), uw_8, rfl, rfl, rfl, tyX8_ok, nmX8⟩
theorem N_O_26 : sNL RX8 26 6 [.null, .null, .null, .null, .int 0, .int 0, .int 0, .int 0, .int 0, .int 0, .int 0] := ⟨RX6, TX6, 11, tyX6, rfl, lw_goodI 132 (by decide +kernel) (by decide +kernel), lw_goodI 133 (by decide +kernel) (by decide +kernel), lw_goodI 57 (by decide +kernel) (by decide +kernel), uw_6, tyX6_ok, by decide +kernel, fun _ => rfl, rfl⟩
theorem IN_O_28 : sINL RX8 28 m_Rings_init 0 := ⟨ml_Rings_init, ⟨RX8, by decide +kernel⟩, lw_goodI 135 (by decide +kernel) (by decide +kernel), rfl, rfl⟩
theorem F_O_29 : sFL RX8 29 8 3 true (tyX8 3) := ⟨RX8, TX8, 8, tyX8, rfl, by decide, lw_goodI 247 (by decide +kernel) (by decide +kernel), uw_8, rfl, rfl, rfl, tyX8_ok, nmX8⟩
theorem N_O_33 : sNL RX8 33 2 [.null] := ⟨RX2, TX2, 1, tyX2, rfl, lw_goodI 176 (by decide +kernel) (by decide +kernel), lw_goodI 177 (by decide +kernel) (by decide +kernel), lw_goodI 58 (by decide +kernel) (by decide +kernel), uw_2, tyX2_ok, by decide +kernel, fun _ => rfl, rfl⟩
theorem IN_O_35 : sINL RX8 35 m_Min_init 0 := ⟨ml_Min_init, ⟨RX8, by decide +kernel⟩, lw_goodI 179 (by decide +kernel) (by decide +kernel), rfl, rfl⟩
theorem F_O_36 : sFL RX8 36 8 4 true (tyX8 4) := ⟨RX8, TX8, 8, tyX8, rfl, by decide, lw_goodI 248 (by decide +kernel) (by decide +kernel), uw_8, rfl, rfl, rfl, tyX8_ok, nmX8⟩
theorem N_O_40 : sNL RX8 40 4 [.null, .int 0, .int 0, .int 0] := ⟨RX4, TX4, 4, tyX4, rfl, lw_goodI 188 (by decide +kernel) (by decide +kernel), lw_goodI 189 (by decide +kernel) (by decide +kernel), lw_goodI 59 (by decide +kernel) (by decide +kernel), uw_4, tyX4_ok, by decide +kernel, fun _ => rfl, rfl⟩
theorem IN_O_42 : sINL RX8 42 m_Pad_init 0 := ⟨ml_Pad_init, ⟨RX8, by decide +kernel⟩, lw_goodI 191 (by decide +kernel) (by decide +kernel), rfl, rfl⟩
theorem F_O_43 : sFL RX8 43 8 5 true (tyX8 5) := ⟨RX8, TX8, 8, tyX8, rfl, by decide, lw_goodI 249 (by decide +kernel) (by decide +kernel), uw_8, rfl, rfl, rfl, tyX8_ok, nmX8⟩
theorem N_O_47 : sNL RX8 47 1 [.null, .int 0, .int 0] := ⟨RX1, TX1, 3, tyX1, rfl, lw_goodI 209 (by decide +kernel) (by decide +kernel), lw_goodI 210 (by decide +kernel) (by decide +kernel), lw_goodI 60 (by decide +kernel) (by decide +kernel), uw_1, tyX1_ok, by decide +kernel, fun _ => rfl, rfl⟩
theorem I_O_49 : sIL RX8 49 m_Hist_init 0 := ⟨ml_Hist_init, lw_goodI 211 (by decide +kernel) (by decide +kernel), lw_goodI 212 (by decide +kernel) (by decide +kernel), rfl, rfl⟩
theorem F_O_50 : sFL RX8 50 8 6 true (tyX8 6) := ⟨RX8, TX8, 8, tyX8, rfl, by decide, lw_goodI 250 (by decide +kernel) (by decide +kernel), uw_8, rfl, rfl, rfl, tyX8_ok, nmX8⟩
theorem N_O_54 : sNL RX8 54 7 [.null, .int 0] := ⟨RX7, TX7, 2, tyX7, rfl, lw_goodI 228 (by decide +kernel) (by decide +kernel), lw_goodI 230 (by decide +kernel) (by decide +kernel), lw_goodI 61 (by decide +kernel) (by decide +kernel), uw_7, tyX7_ok, by decide +kernel, fun _ => rfl, rfl⟩
theorem NA_O_54 : Cond.classLink RX8 54 "OneRankGrid$Slot" ∈ lw_good := lw_goodI 228 (by decide +kernel) (by decide +kernel)
theorem F_O_56 : sFL RX8 56 8 7 true (tyX8 7) := ⟨RX8, TX8, 8, tyX8, rfl, by decide, lw_goodI 251 (by decide +kernel) (by decide +kernel), uw_8, rfl, rfl, rfl, tyX8_ok, nmX8⟩
theorem IN_O_60 : sINL RX8 60 m_Slot_init 0 := ⟨ml_Slot_init, ⟨RX8, by decide +kernel⟩, lw_goodI 232 (by decide +kernel) (by decide +kernel), rfl, rfl⟩
theorem S_O_61 : sSL RX8 61 m_O_isOutside 3 := ⟨ml_O_isOutside, lw_goodI 273 (by decide +kernel) (by decide +kernel), lw_goodI 274 (by decide +kernel) (by decide +kernel)⟩
theorem S_O_65 : sSL RX8 65 m_O_isModulus 1 := ⟨ml_O_isModulus, lw_goodI 276 (by decide +kernel) (by decide +kernel), lw_goodI 277 (by decide +kernel) (by decide +kernel)⟩
theorem V_O_69 : sVL RX8 69 0 m_Grid_toldCount 0 := ⟨ml_Grid_toldCount, lw_goodI 279 (by decide +kernel) (by decide +kernel), lw_goodI 280 (by decide +kernel) (by decide +kernel), lw_goodI 281 (by decide +kernel) (by decide +kernel), TX0, 4, rfl⟩
theorem V_O_73 : sVL RX8 73 1 m_Hist_record 1 := ⟨ml_Hist_record, lw_goodI 305 (by decide +kernel) (by decide +kernel), lw_goodI 306 (by decide +kernel) (by decide +kernel), lw_goodI 307 (by decide +kernel) (by decide +kernel), TX1, 3, rfl⟩
theorem V_O_77 : sVL RX8 77 0 m_Grid_clear 3 := ⟨ml_Grid_clear, lw_goodI 322 (by decide +kernel) (by decide +kernel), lw_goodI 323 (by decide +kernel) (by decide +kernel), lw_goodI 324 (by decide +kernel) (by decide +kernel), TX0, 4, rfl⟩
theorem V_O_81 : sVL RX8 81 8 m_O_errorOfTelling 3 := ⟨ml_O_errorOfTelling, lw_goodI 334 (by decide +kernel) (by decide +kernel), lw_goodI 336 (by decide +kernel) (by decide +kernel), lw_goodI 1 (by decide +kernel) (by decide +kernel), TX8, 8, rfl⟩
theorem V_O_85 : sVL RX8 85 0 m_Grid_number 2 := ⟨ml_Grid_number, lw_goodI 343 (by decide +kernel) (by decide +kernel), lw_goodI 288 (by decide +kernel) (by decide +kernel), lw_goodI 289 (by decide +kernel) (by decide +kernel), TX0, 4, rfl⟩
theorem V_O_89 : sVL RX8 89 0 m_Grid_setNumber 3 := ⟨ml_Grid_setNumber, lw_goodI 344 (by decide +kernel) (by decide +kernel), lw_goodI 345 (by decide +kernel) (by decide +kernel), lw_goodI 346 (by decide +kernel) (by decide +kernel), TX0, 4, rfl⟩
theorem V_O_92 : sVL RX8 92 5 m_Parts_find 1 := ⟨ml_Parts_find, lw_goodI 356 (by decide +kernel) (by decide +kernel), lw_goodI 357 (by decide +kernel) (by decide +kernel), lw_goodI 358 (by decide +kernel) (by decide +kernel), TX5, 6, rfl⟩
theorem V_O_95 : sVL RX8 95 5 m_Parts_isConsistent 0 := ⟨ml_Parts_isConsistent, lw_goodI 397 (by decide +kernel) (by decide +kernel), lw_goodI 398 (by decide +kernel) (by decide +kernel), lw_goodI 399 (by decide +kernel) (by decide +kernel), TX5, 6, rfl⟩
theorem V_O_99 : sVL RX8 99 0 m_Grid_rows 0 := ⟨ml_Grid_rows, lw_goodI 401 (by decide +kernel) (by decide +kernel), lw_goodI 362 (by decide +kernel) (by decide +kernel), lw_goodI 363 (by decide +kernel) (by decide +kernel), TX0, 4, rfl⟩
theorem V_O_102 : sVL RX8 102 0 m_Grid_columns 0 := ⟨ml_Grid_columns, lw_goodI 402 (by decide +kernel) (by decide +kernel), lw_goodI 372 (by decide +kernel) (by decide +kernel), lw_goodI 373 (by decide +kernel) (by decide +kernel), TX0, 4, rfl⟩
theorem V_O_105 : sVL RX8 105 5 m_Parts_areJoined 2 := ⟨ml_Parts_areJoined, lw_goodI 403 (by decide +kernel) (by decide +kernel), lw_goodI 404 (by decide +kernel) (by decide +kernel), lw_goodI 405 (by decide +kernel) (by decide +kernel), TX5, 6, rfl⟩
theorem V_O_109 : sVL RX8 109 5 m_Parts_product 3 := ⟨ml_Parts_product, lw_goodI 407 (by decide +kernel) (by decide +kernel), lw_goodI 393 (by decide +kernel) (by decide +kernel), lw_goodI 394 (by decide +kernel) (by decide +kernel), TX5, 6, rfl⟩
theorem V_O_113 : sVL RX8 113 4 m_Pad_scan 0 := ⟨ml_Pad_scan, lw_goodI 412 (by decide +kernel) (by decide +kernel), lw_goodI 413 (by decide +kernel) (by decide +kernel), lw_goodI 414 (by decide +kernel) (by decide +kernel), TX4, 4, rfl⟩
theorem V_O_116 : sVL RX8 116 4 m_Pad_greatestNumber 0 := ⟨ml_Pad_greatestNumber, lw_goodI 420 (by decide +kernel) (by decide +kernel), lw_goodI 421 (by decide +kernel) (by decide +kernel), lw_goodI 422 (by decide +kernel) (by decide +kernel), TX4, 4, rfl⟩
theorem V_O_119 : sVL RX8 119 0 m_Grid_modulus 0 := ⟨ml_Grid_modulus, lw_goodI 339 (by decide +kernel) (by decide +kernel), lw_goodI 340 (by decide +kernel) (by decide +kernel), lw_goodI 341 (by decide +kernel) (by decide +kernel), TX0, 4, rfl⟩
theorem V_O_122 : sVL RX8 122 4 m_Pad_rows 0 := ⟨ml_Pad_rows, lw_goodI 425 (by decide +kernel) (by decide +kernel), lw_goodI 426 (by decide +kernel) (by decide +kernel), lw_goodI 427 (by decide +kernel) (by decide +kernel), TX4, 4, rfl⟩
theorem V_O_123 : sVL RX8 123 4 m_Pad_columns 0 := ⟨ml_Pad_columns, lw_goodI 429 (by decide +kernel) (by decide +kernel), lw_goodI 430 (by decide +kernel) (by decide +kernel), lw_goodI 431 (by decide +kernel) (by decide +kernel), TX4, 4, rfl⟩
theorem V_O_124 : sVL RX8 124 4 m_Pad_number 2 := ⟨ml_Pad_number, lw_goodI 433 (by decide +kernel) (by decide +kernel), lw_goodI 434 (by decide +kernel) (by decide +kernel), lw_goodI 435 (by decide +kernel) (by decide +kernel), TX4, 4, rfl⟩
theorem V_O_125 : sVL RX8 125 4 m_Pad_empty 0 := ⟨ml_Pad_empty, lw_goodI 437 (by decide +kernel) (by decide +kernel), lw_goodI 438 (by decide +kernel) (by decide +kernel), lw_goodI 439 (by decide +kernel) (by decide +kernel), TX4, 4, rfl⟩
theorem V_O_128 : sVL RX8 128 0 m_Grid_has 2 := ⟨ml_Grid_has, lw_goodI 338 (by decide +kernel) (by decide +kernel), lw_goodI 292 (by decide +kernel) (by decide +kernel), lw_goodI 293 (by decide +kernel) (by decide +kernel), TX0, 4, rfl⟩
theorem V_O_131 : sVL RX8 131 5 m_Parts_following 3 := ⟨ml_Parts_following, lw_goodI 445 (by decide +kernel) (by decide +kernel), lw_goodI 446 (by decide +kernel) (by decide +kernel), lw_goodI 447 (by decide +kernel) (by decide +kernel), TX5, 6, rfl⟩
theorem V_O_134 : sVL RX8 134 0 m_Grid_copyFrom 1 := ⟨ml_Grid_copyFrom, lw_goodI 450 (by decide +kernel) (by decide +kernel), lw_goodI 314 (by decide +kernel) (by decide +kernel), lw_goodI 315 (by decide +kernel) (by decide +kernel), TX0, 4, rfl⟩
theorem V_O_137 : sVL RX8 137 2 m_Min_countThrough 3 := ⟨ml_Min_countThrough, lw_goodI 451 (by decide +kernel) (by decide +kernel), lw_goodI 452 (by decide +kernel) (by decide +kernel), lw_goodI 453 (by decide +kernel) (by decide +kernel), TX2, 1, rfl⟩
theorem V_O_140 : sVL RX8 140 5 m_Parts_size 0 := ⟨ml_Parts_size, lw_goodI 465 (by decide +kernel) (by decide +kernel), lw_goodI 466 (by decide +kernel) (by decide +kernel), lw_goodI 467 (by decide +kernel) (by decide +kernel), TX5, 6, rfl⟩
theorem V_O_143 : sVL RX8 143 5 m_Parts_rowsOf 1 := ⟨ml_Parts_rowsOf, lw_goodI 469 (by decide +kernel) (by decide +kernel), lw_goodI 470 (by decide +kernel) (by decide +kernel), lw_goodI 471 (by decide +kernel) (by decide +kernel), TX5, 6, rfl⟩
theorem V_O_147 : sVL RX8 147 5 m_Parts_columnsOf 1 := ⟨ml_Parts_columnsOf, lw_goodI 476 (by decide +kernel) (by decide +kernel), lw_goodI 477 (by decide +kernel) (by decide +kernel), lw_goodI 478 (by decide +kernel) (by decide +kernel), TX5, 6, rfl⟩
theorem V_O_150 : sVL RX8 150 5 m_Parts_toldIn 2 := ⟨ml_Parts_toldIn, lw_goodI 480 (by decide +kernel) (by decide +kernel), lw_goodI 481 (by decide +kernel) (by decide +kernel), lw_goodI 482 (by decide +kernel) (by decide +kernel), TX5, 6, rfl⟩
theorem V_O_154 : sVL RX8 154 8 m_O_countOfParts 1 := ⟨ml_O_countOfParts, lw_goodI 490 (by decide +kernel) (by decide +kernel), lw_goodI 492 (by decide +kernel) (by decide +kernel), lw_goodI 5 (by decide +kernel) (by decide +kernel), TX8, 8, rfl⟩
theorem V_O_157 : sVL RX8 157 2 m_Min_countAll 2 := ⟨ml_Min_countAll, lw_goodI 500 (by decide +kernel) (by decide +kernel), lw_goodI 501 (by decide +kernel) (by decide +kernel), lw_goodI 502 (by decide +kernel) (by decide +kernel), TX2, 1, rfl⟩
theorem V_O_161 : sVL RX8 161 2 m_Min_leastRank 1 := ⟨ml_Min_leastRank, lw_goodI 512 (by decide +kernel) (by decide +kernel), lw_goodI 513 (by decide +kernel) (by decide +kernel), lw_goodI 514 (by decide +kernel) (by decide +kernel), TX2, 1, rfl⟩
theorem V_O_165 : sVL RX8 165 4 m_Pad_length 0 := ⟨ml_Pad_length, lw_goodI 546 (by decide +kernel) (by decide +kernel), lw_goodI 547 (by decide +kernel) (by decide +kernel), lw_goodI 548 (by decide +kernel) (by decide +kernel), TX4, 4, rfl⟩
theorem V_O_168 : sVL RX8 168 1 m_Hist_size 0 := ⟨ml_Hist_size, lw_goodI 550 (by decide +kernel) (by decide +kernel), lw_goodI 551 (by decide +kernel) (by decide +kernel), lw_goodI 552 (by decide +kernel) (by decide +kernel), TX1, 3, rfl⟩
theorem V_O_169 : sVL RX8 169 5 m_Parts_joinedEntries 0 := ⟨ml_Parts_joinedEntries, lw_goodI 494 (by decide +kernel) (by decide +kernel), lw_goodI 495 (by decide +kernel) (by decide +kernel), lw_goodI 496 (by decide +kernel) (by decide +kernel), TX5, 6, rfl⟩
theorem V_O_172 : sVL RX8 172 6 m_Rings_search 3 := ⟨ml_Rings_search, lw_goodI 558 (by decide +kernel) (by decide +kernel), lw_goodI 559 (by decide +kernel) (by decide +kernel), lw_goodI 560 (by decide +kernel) (by decide +kernel), TX6, 11, rfl⟩
theorem V_O_176 : sVL RX8 176 6 m_Rings_all 0 := ⟨ml_Rings_all, lw_goodI 601 (by decide +kernel) (by decide +kernel), lw_goodI 602 (by decide +kernel) (by decide +kernel), lw_goodI 603 (by decide +kernel) (by decide +kernel), TX6, 11, rfl⟩
theorem V_O_179 : sVL RX8 179 6 m_Rings_wrongOnes 0 := ⟨ml_Rings_wrongOnes, lw_goodI 605 (by decide +kernel) (by decide +kernel), lw_goodI 606 (by decide +kernel) (by decide +kernel), lw_goodI 607 (by decide +kernel) (by decide +kernel), TX6, 11, rfl⟩
theorem V_O_182 : sVL RX8 182 8 m_O_shortestWrongTurns 0 := ⟨ml_O_shortestWrongTurns, lw_goodI 613 (by decide +kernel) (by decide +kernel), lw_goodI 615 (by decide +kernel) (by decide +kernel), lw_goodI 17 (by decide +kernel) (by decide +kernel), TX8, 8, rfl⟩
theorem V_O_185 : sVL RX8 185 6 m_Rings_wrongRows 0 := ⟨ml_Rings_wrongRows, lw_goodI 617 (by decide +kernel) (by decide +kernel), lw_goodI 618 (by decide +kernel) (by decide +kernel), lw_goodI 619 (by decide +kernel) (by decide +kernel), TX6, 11, rfl⟩
theorem V_O_188 : sVL RX8 188 6 m_Rings_wrongColumns 0 := ⟨ml_Rings_wrongColumns, lw_goodI 621 (by decide +kernel) (by decide +kernel), lw_goodI 622 (by decide +kernel) (by decide +kernel), lw_goodI 623 (by decide +kernel) (by decide +kernel), TX6, 11, rfl⟩
theorem V_O_191 : sVL RX8 191 8 m_O_countCompletions 0 := ⟨ml_O_countCompletions, lw_goodI 629 (by decide +kernel) (by decide +kernel), lw_goodI 631 (by decide +kernel) (by decide +kernel), lw_goodI 18 (by decide +kernel) (by decide +kernel), TX8, 8, rfl⟩
theorem V_O_195 : sVL RX8 195 5 m_Parts_partOfRow 1 := ⟨ml_Parts_partOfRow, lw_goodI 637 (by decide +kernel) (by decide +kernel), lw_goodI 638 (by decide +kernel) (by decide +kernel), lw_goodI 639 (by decide +kernel) (by decide +kernel), TX5, 6, rfl⟩
theorem V_O_198 : sVL RX8 198 8 m_O_factorOf 2 := ⟨ml_O_factorOf, lw_goodI 641 (by decide +kernel) (by decide +kernel), lw_goodI 643 (by decide +kernel) (by decide +kernel), lw_goodI 19 (by decide +kernel) (by decide +kernel), TX8, 8, rfl⟩
theorem V_O_202 : sVL RX8 202 5 m_Parts_partOfColumn 1 := ⟨ml_Parts_partOfColumn, lw_goodI 645 (by decide +kernel) (by decide +kernel), lw_goodI 646 (by decide +kernel) (by decide +kernel), lw_goodI 647 (by decide +kernel) (by decide +kernel), TX5, 6, rfl⟩
theorem V_O_205 : sVL RX8 205 0 m_Grid_product 2 := ⟨ml_Grid_product, lw_goodI 649 (by decide +kernel) (by decide +kernel), lw_goodI 385 (by decide +kernel) (by decide +kernel), lw_goodI 386 (by decide +kernel) (by decide +kernel), TX0, 4, rfl⟩
theorem V_O_207 : sVL RX8 207 0 m_Grid_quotient 2 := ⟨ml_Grid_quotient, lw_goodI 650 (by decide +kernel) (by decide +kernel), lw_goodI 381 (by decide +kernel) (by decide +kernel), lw_goodI 382 (by decide +kernel) (by decide +kernel), TX0, 4, rfl⟩
theorem K_O_210 : Cond.constantLong RX8 210 (-6) ∈ lw_good := lw_goodI 659 (by decide +kernel) (by decide +kernel)
theorem V_O_212 : sVL RX8 212 8 m_O_isWellIf 3 := ⟨ml_O_isWellIf, lw_goodI 660 (by decide +kernel) (by decide +kernel), lw_goodI 652 (by decide +kernel) (by decide +kernel), lw_goodI 653 (by decide +kernel) (by decide +kernel), TX8, 8, rfl⟩
theorem V_O_215 : sVL RX8 215 5 m_Parts_gain 2 := ⟨ml_Parts_gain, lw_goodI 665 (by decide +kernel) (by decide +kernel), lw_goodI 666 (by decide +kernel) (by decide +kernel), lw_goodI 667 (by decide +kernel) (by decide +kernel), TX5, 6, rfl⟩
theorem S_O_218 : sSL RX8 218 m_O_sizeOf 1 := ⟨ml_O_sizeOf, lw_goodI 673 (by decide +kernel) (by decide +kernel), lw_goodI 674 (by decide +kernel) (by decide +kernel)⟩
theorem V_O_222 : sVL RX8 222 4 m_Pad_append 1 := ⟨ml_Pad_append, lw_goodI 677 (by decide +kernel) (by decide +kernel), lw_goodI 678 (by decide +kernel) (by decide +kernel), lw_goodI 679 (by decide +kernel) (by decide +kernel), TX4, 4, rfl⟩
theorem K_O_226 : Cond.constantLong RX8 226 255 ∈ lw_good := lw_goodI 676 (by decide +kernel) (by decide +kernel)
theorem V_O_228 : sVL RX8 228 1 m_Hist_takeLatest 0 := ⟨ml_Hist_takeLatest, lw_goodI 694 (by decide +kernel) (by decide +kernel), lw_goodI 695 (by decide +kernel) (by decide +kernel), lw_goodI 696 (by decide +kernel) (by decide +kernel), TX1, 3, rfl⟩
theorem V_O_232 : sVL RX8 232 8 m_O_slotAt 1 := ⟨ml_O_slotAt, lw_goodI 702 (by decide +kernel) (by decide +kernel), lw_goodI 704 (by decide +kernel) (by decide +kernel), lw_goodI 20 (by decide +kernel) (by decide +kernel), TX8, 8, rfl⟩
theorem V_O_236 : sVL RX8 236 7 m_Slot_keep 1 := ⟨ml_Slot_keep, lw_goodI 706 (by decide +kernel) (by decide +kernel), lw_goodI 707 (by decide +kernel) (by decide +kernel), lw_goodI 708 (by decide +kernel) (by decide +kernel), TX7, 2, rfl⟩
theorem V_O_239 : sVL RX8 239 7 m_Slot_isFilled 0 := ⟨ml_Slot_isFilled, lw_goodI 715 (by decide +kernel) (by decide +kernel), lw_goodI 716 (by decide +kernel) (by decide +kernel), lw_goodI 717 (by decide +kernel) (by decide +kernel), TX7, 2, rfl⟩
theorem V_O_242 : sVL RX8 242 7 m_Slot_giveTo 1 := ⟨ml_Slot_giveTo, lw_goodI 719 (by decide +kernel) (by decide +kernel), lw_goodI 720 (by decide +kernel) (by decide +kernel), lw_goodI 721 (by decide +kernel) (by decide +kernel), TX7, 2, rfl⟩
theorem OI_Grid_3 : Cond.methodLink RX0 3 Lib.objectInit ∈ lw_good := lw_goodI 77 (by decide +kernel) (by decide +kernel)
theorem N_Grid_9 : sNL RX0 9 3 [.null] := ⟨RX3, TX3, 1, tyX3, rfl, lw_goodI 78 (by decide +kernel) (by decide +kernel), lw_goodI 79 (by decide +kernel) (by decide +kernel), lw_goodI 54 (by decide +kernel) (by decide +kernel), uw_3, tyX3_ok, by decide +kernel, fun _ => rfl, rfl⟩
theorem I_Grid_11 : sIL RX0 11 m_Num_init 1 := ⟨ml_Num_init, lw_goodI 80 (by decide +kernel) (by decide +kernel), lw_goodI 81 (by decide +kernel) (by decide +kernel), rfl, rfl⟩
theorem F_Grid_14 : sFL RX0 14 0 0 true (tyX0 0) := ⟨RX0, TX0, 4, tyX0, rfl, by decide, lw_goodI 92 (by decide +kernel) (by decide +kernel), uw_0, rfl, rfl, rfl, tyX0_ok, nmX0⟩
theorem F_Grid_20 : sFL RX0 20 0 1 false (tyX0 1) := ⟨RX0, TX0, 4, tyX0, rfl, by decide, lw_goodI 93 (by decide +kernel) (by decide +kernel), uw_0, rfl, rfl, rfl, tyX0_ok, nmX0⟩
theorem F_Grid_24 : sFL RX0 24 0 2 false (tyX0 2) := ⟨RX0, TX0, 4, tyX0, rfl, by decide, lw_goodI 94 (by decide +kernel) (by decide +kernel), uw_0, rfl, rfl, rfl, tyX0_ok, nmX0⟩
theorem F_Grid_27 : sFL RX0 27 0 3 false (tyX0 3) := ⟨RX0, TX0, 4, tyX0, rfl, by decide, lw_goodI 95 (by decide +kernel) (by decide +kernel), uw_0, rfl, rfl, rfl, tyX0_ok, nmX0⟩
theorem V_Grid_30 : sVL RX0 30 3 m_Num_setEach 1 := ⟨ml_Num_setEach, lw_goodI 326 (by decide +kernel) (by decide +kernel), lw_goodI 327 (by decide +kernel) (by decide +kernel), lw_goodI 328 (by decide +kernel) (by decide +kernel), TX3, 1, rfl⟩
theorem V_Grid_33 : sVL RX0 33 3 m_Num_copyFrom 1 := ⟨ml_Num_copyFrom, lw_goodI 317 (by decide +kernel) (by decide +kernel), lw_goodI 318 (by decide +kernel) (by decide +kernel), lw_goodI 319 (by decide +kernel) (by decide +kernel), TX3, 1, rfl⟩
theorem V_Grid_37 : sVL RX0 37 0 m_Grid_has 2 := ⟨ml_Grid_has, lw_goodI 291 (by decide +kernel) (by decide +kernel), lw_goodI 292 (by decide +kernel) (by decide +kernel), lw_goodI 293 (by decide +kernel) (by decide +kernel), TX0, 4, rfl⟩
theorem V_Grid_41 : sVL RX0 41 3 m_Num_get 1 := ⟨ml_Num_get, lw_goodI 295 (by decide +kernel) (by decide +kernel), lw_goodI 296 (by decide +kernel) (by decide +kernel), lw_goodI 297 (by decide +kernel) (by decide +kernel), TX3, 1, rfl⟩
theorem V_Grid_45 : sVL RX0 45 3 m_Num_set 2 := ⟨ml_Num_set, lw_goodI 348 (by decide +kernel) (by decide +kernel), lw_goodI 349 (by decide +kernel) (by decide +kernel), lw_goodI 350 (by decide +kernel) (by decide +kernel), TX3, 1, rfl⟩
theorem V_Grid_49 : sVL RX0 49 0 m_Grid_number 2 := ⟨ml_Grid_number, lw_goodI 287 (by decide +kernel) (by decide +kernel), lw_goodI 288 (by decide +kernel) (by decide +kernel), lw_goodI 289 (by decide +kernel) (by decide +kernel), TX0, 4, rfl⟩
theorem V_Grid_53 : sVL RX0 53 0 m_Grid_toldInRow 1 := ⟨ml_Grid_toldInRow, lw_goodI 283 (by decide +kernel) (by decide +kernel), lw_goodI 284 (by decide +kernel) (by decide +kernel), lw_goodI 285 (by decide +kernel) (by decide +kernel), TX0, 4, rfl⟩
theorem S_Grid_56 : sSL RX0 56 m_Int_bitCount 1 := ⟨ml_Int_bitCount, lw_goodI 299 (by decide +kernel) (by decide +kernel), lw_goodI 300 (by decide +kernel) (by decide +kernel)⟩
theorem V_Grid_61 : sVL RX0 61 0 m_Grid_product 2 := ⟨ml_Grid_product, lw_goodI 384 (by decide +kernel) (by decide +kernel), lw_goodI 385 (by decide +kernel) (by decide +kernel), lw_goodI 386 (by decide +kernel) (by decide +kernel), TX0, 4, rfl⟩
theorem OI_Hist_3 : Cond.methodLink RX1 3 Lib.objectInit ∈ lw_good := lw_goodI 214 (by decide +kernel) (by decide +kernel)
theorem N_Hist_9 : sNL RX1 9 0 [.null, .int 0, .int 0, .int 0] := ⟨RX0, TX0, 4, tyX0, rfl, lw_goodI 215 (by decide +kernel) (by decide +kernel), lw_goodI 73 (by decide +kernel) (by decide +kernel), lw_goodI 53 (by decide +kernel) (by decide +kernel), uw_0, tyX0_ok, by decide +kernel, fun _ => rfl, rfl⟩
theorem F_Hist_11 : sFL RX1 11 1 0 true (tyX1 0) := ⟨RX1, TX1, 3, tyX1, rfl, by decide, lw_goodI 218 (by decide +kernel) (by decide +kernel), uw_1, rfl, rfl, rfl, tyX1_ok, nmX1⟩
theorem IN_Hist_17 : sINL RX1 17 m_Grid_init 0 := ⟨ml_Grid_init, ⟨RX8, by decide +kernel⟩, lw_goodI 75 (by decide +kernel) (by decide +kernel), rfl, rfl⟩
theorem F_Hist_18 : sFL RX1 18 1 2 false (tyX1 2) := ⟨RX1, TX1, 3, tyX1, rfl, by decide, lw_goodI 220 (by decide +kernel) (by decide +kernel), uw_1, rfl, rfl, rfl, tyX1_ok, nmX1⟩
theorem F_Hist_22 : sFL RX1 22 1 1 false (tyX1 1) := ⟨RX1, TX1, 3, tyX1, rfl, by decide, lw_goodI 219 (by decide +kernel) (by decide +kernel), uw_1, rfl, rfl, rfl, tyX1_ok, nmX1⟩
theorem V_Hist_25 : sVL RX1 25 1 m_Hist_pastAt 1 := ⟨ml_Hist_pastAt, lw_goodI 309 (by decide +kernel) (by decide +kernel), lw_goodI 311 (by decide +kernel) (by decide +kernel), lw_goodI 0 (by decide +kernel) (by decide +kernel), TX1, 3, rfl⟩
theorem V_Hist_29 : sVL RX1 29 0 m_Grid_copyFrom 1 := ⟨ml_Grid_copyFrom, lw_goodI 313 (by decide +kernel) (by decide +kernel), lw_goodI 314 (by decide +kernel) (by decide +kernel), lw_goodI 315 (by decide +kernel) (by decide +kernel), TX0, 4, rfl⟩
theorem OI_Min_3 : Cond.methodLink RX2 3 Lib.objectInit ∈ lw_good := lw_goodI 181 (by decide +kernel) (by decide +kernel)
theorem N_Min_9 : sNL RX2 9 3 [.null] := ⟨RX3, TX3, 1, tyX3, rfl, lw_goodI 182 (by decide +kernel) (by decide +kernel), lw_goodI 79 (by decide +kernel) (by decide +kernel), lw_goodI 54 (by decide +kernel) (by decide +kernel), uw_3, tyX3_ok, by decide +kernel, fun _ => rfl, rfl⟩
theorem I_Min_11 : sIL RX2 11 m_Num_init 1 := ⟨ml_Num_init, lw_goodI 183 (by decide +kernel) (by decide +kernel), lw_goodI 81 (by decide +kernel) (by decide +kernel), rfl, rfl⟩
theorem F_Min_14 : sFL RX2 14 2 0 true (tyX2 0) := ⟨RX2, TX2, 1, tyX2, rfl, by decide, lw_goodI 184 (by decide +kernel) (by decide +kernel), uw_2, rfl, rfl, rfl, tyX2_ok, nmX2⟩
theorem V_Min_20 : sVL RX2 20 0 m_Grid_rows 0 := ⟨ml_Grid_rows, lw_goodI 455 (by decide +kernel) (by decide +kernel), lw_goodI 362 (by decide +kernel) (by decide +kernel), lw_goodI 363 (by decide +kernel) (by decide +kernel), TX0, 4, rfl⟩
theorem V_Min_26 : sVL RX2 26 0 m_Grid_columns 0 := ⟨ml_Grid_columns, lw_goodI 456 (by decide +kernel) (by decide +kernel), lw_goodI 372 (by decide +kernel) (by decide +kernel), lw_goodI 373 (by decide +kernel) (by decide +kernel), TX0, 4, rfl⟩
theorem V_Min_29 : sVL RX2 29 2 m_Min_countBelow 4 := ⟨ml_Min_countBelow, lw_goodI 504 (by decide +kernel) (by decide +kernel), lw_goodI 506 (by decide +kernel) (by decide +kernel), lw_goodI 6 (by decide +kernel) (by decide +kernel), TX2, 1, rfl⟩
theorem S_Min_33 : sSL RX2 33 m_Min_isMinor 5 := ⟨ml_Min_isMinor, lw_goodI 457 (by decide +kernel) (by decide +kernel), lw_goodI 458 (by decide +kernel) (by decide +kernel)⟩
theorem S_Min_37 : sSL RX2 37 m_Min_isZero 5 := ⟨ml_Min_isZero, lw_goodI 508 (by decide +kernel) (by decide +kernel), lw_goodI 509 (by decide +kernel) (by decide +kernel)⟩
theorem V_Min_40 : sVL RX2 40 0 m_Grid_number 2 := ⟨ml_Grid_number, lw_goodI 460 (by decide +kernel) (by decide +kernel), lw_goodI 288 (by decide +kernel) (by decide +kernel), lw_goodI 289 (by decide +kernel) (by decide +kernel), TX0, 4, rfl⟩
theorem V_Min_44 : sVL RX2 44 0 m_Grid_product 2 := ⟨ml_Grid_product, lw_goodI 511 (by decide +kernel) (by decide +kernel), lw_goodI 385 (by decide +kernel) (by decide +kernel), lw_goodI 386 (by decide +kernel) (by decide +kernel), TX0, 4, rfl⟩
theorem V_Min_47 : sVL RX2 47 2 m_Min_rankOf 2 := ⟨ml_Min_rankOf, lw_goodI 516 (by decide +kernel) (by decide +kernel), lw_goodI 518 (by decide +kernel) (by decide +kernel), lw_goodI 7 (by decide +kernel) (by decide +kernel), TX2, 1, rfl⟩
theorem S_Min_51 : sSL RX2 51 m_Math_max 2 := ⟨ml_Math_max, lw_goodI 545 (by decide +kernel) (by decide +kernel), lw_goodI 85 (by decide +kernel) (by decide +kernel)⟩
theorem SN_Min_56 : sSNL RX2 56 m_O_holds 2 := ⟨ml_O_holds, ⟨RX8, by decide +kernel⟩, lw_goodI 521 (by decide +kernel) (by decide +kernel)⟩
theorem V_Min_60 : sVL RX2 60 0 m_Grid_toldInRow 1 := ⟨ml_Grid_toldInRow, lw_goodI 523 (by decide +kernel) (by decide +kernel), lw_goodI 284 (by decide +kernel) (by decide +kernel), lw_goodI 285 (by decide +kernel) (by decide +kernel), TX0, 4, rfl⟩
theorem V_Min_64 : sVL RX2 64 3 m_Num_set 2 := ⟨ml_Num_set, lw_goodI 524 (by decide +kernel) (by decide +kernel), lw_goodI 349 (by decide +kernel) (by decide +kernel), lw_goodI 350 (by decide +kernel) (by decide +kernel), TX3, 1, rfl⟩
theorem V_Min_68 : sVL RX2 68 2 m_Min_bringUp 3 := ⟨ml_Min_bringUp, lw_goodI 525 (by decide +kernel) (by decide +kernel), lw_goodI 527 (by decide +kernel) (by decide +kernel), lw_goodI 8 (by decide +kernel) (by decide +kernel), TX2, 1, rfl⟩
theorem V_Min_72 : sVL RX2 72 2 m_Min_eliminate 4 := ⟨ml_Min_eliminate, lw_goodI 535 (by decide +kernel) (by decide +kernel), lw_goodI 537 (by decide +kernel) (by decide +kernel), lw_goodI 9 (by decide +kernel) (by decide +kernel), TX2, 1, rfl⟩
theorem V_Min_76 : sVL RX2 76 3 m_Num_get 1 := ⟨ml_Num_get, lw_goodI 529 (by decide +kernel) (by decide +kernel), lw_goodI 296 (by decide +kernel) (by decide +kernel), lw_goodI 297 (by decide +kernel) (by decide +kernel), TX3, 1, rfl⟩
theorem V_Min_79 : sVL RX2 79 3 m_Num_swap 2 := ⟨ml_Num_swap, lw_goodI 530 (by decide +kernel) (by decide +kernel), lw_goodI 531 (by decide +kernel) (by decide +kernel), lw_goodI 532 (by decide +kernel) (by decide +kernel), TX3, 1, rfl⟩
theorem V_Min_82 : sVL RX2 82 0 m_Grid_quotient 2 := ⟨ml_Grid_quotient, lw_goodI 539 (by decide +kernel) (by decide +kernel), lw_goodI 381 (by decide +kernel) (by decide +kernel), lw_goodI 382 (by decide +kernel) (by decide +kernel), TX0, 4, rfl⟩
theorem V_Min_85 : sVL RX2 85 0 m_Grid_modulus 0 := ⟨ml_Grid_modulus, lw_goodI 540 (by decide +kernel) (by decide +kernel), lw_goodI 340 (by decide +kernel) (by decide +kernel), lw_goodI 341 (by decide +kernel) (by decide +kernel), TX0, 4, rfl⟩
theorem V_Min_88 : sVL RX2 88 0 m_Grid_remainder 1 := ⟨ml_Grid_remainder, lw_goodI 541 (by decide +kernel) (by decide +kernel), lw_goodI 542 (by decide +kernel) (by decide +kernel), lw_goodI 543 (by decide +kernel) (by decide +kernel), TX0, 4, rfl⟩
theorem OI_Num_1 : Cond.methodLink RX3 1 Lib.objectInit ∈ lw_good := lw_goodI 83 (by decide +kernel) (by decide +kernel)
theorem S_Num_7 : sSL RX3 7 m_Math_max 2 := ⟨ml_Math_max, lw_goodI 84 (by decide +kernel) (by decide +kernel), lw_goodI 85 (by decide +kernel) (by decide +kernel)⟩
theorem F_Num_13 : sFL RX3 13 3 0 true (tyX3 0) := ⟨RX3, TX3, 1, tyX3, rfl, by decide, lw_goodI 87 (by decide +kernel) (by decide +kernel), uw_3, rfl, rfl, rfl, tyX3_ok, nmX3⟩
theorem V_Num_19 : sVL RX3 19 3 m_Num_get 1 := ⟨ml_Num_get, lw_goodI 321 (by decide +kernel) (by decide +kernel), lw_goodI 296 (by decide +kernel) (by decide +kernel), lw_goodI 297 (by decide +kernel) (by decide +kernel), TX3, 1, rfl⟩
theorem V_Num_23 : sVL RX3 23 3 m_Num_set 2 := ⟨ml_Num_set, lw_goodI 534 (by decide +kernel) (by decide +kernel), lw_goodI 349 (by decide +kernel) (by decide +kernel), lw_goodI 350 (by decide +kernel) (by decide +kernel), TX3, 1, rfl⟩
theorem OI_Pad_3 : Cond.methodLink RX4 3 Lib.objectInit ∈ lw_good := lw_goodI 193 (by decide +kernel) (by decide +kernel)
theorem N_Pad_9 : sNL RX4 9 3 [.null] := ⟨RX3, TX3, 1, tyX3, rfl, lw_goodI 194 (by decide +kernel) (by decide +kernel), lw_goodI 79 (by decide +kernel) (by decide +kernel), lw_goodI 54 (by decide +kernel) (by decide +kernel), uw_3, tyX3_ok, by decide +kernel, fun _ => rfl, rfl⟩
theorem I_Pad_11 : sIL RX4 11 m_Num_init 1 := ⟨ml_Num_init, lw_goodI 195 (by decide +kernel) (by decide +kernel), lw_goodI 81 (by decide +kernel) (by decide +kernel), rfl, rfl⟩
theorem F_Pad_14 : sFL RX4 14 4 0 true (tyX4 0) := ⟨RX4, TX4, 4, tyX4, rfl, by decide, lw_goodI 196 (by decide +kernel) (by decide +kernel), uw_4, rfl, rfl, rfl, tyX4_ok, nmX4⟩
theorem F_Pad_20 : sFL RX4 20 4 1 false (tyX4 1) := ⟨RX4, TX4, 4, tyX4, rfl, by decide, lw_goodI 197 (by decide +kernel) (by decide +kernel), uw_4, rfl, rfl, rfl, tyX4_ok, nmX4⟩
theorem V_Pad_24 : sVL RX4 24 3 m_Num_set 2 := ⟨ml_Num_set, lw_goodI 681 (by decide +kernel) (by decide +kernel), lw_goodI 349 (by decide +kernel) (by decide +kernel), lw_goodI 350 (by decide +kernel) (by decide +kernel), TX3, 1, rfl⟩
theorem V_Pad_28 : sVL RX4 28 3 m_Num_get 1 := ⟨ml_Num_get, lw_goodI 416 (by decide +kernel) (by decide +kernel), lw_goodI 296 (by decide +kernel) (by decide +kernel), lw_goodI 297 (by decide +kernel) (by decide +kernel), TX3, 1, rfl⟩
theorem S_Pad_32 : sSL RX4 32 m_Pad_signOf 1 := ⟨ml_Pad_signOf, lw_goodI 417 (by decide +kernel) (by decide +kernel), lw_goodI 418 (by decide +kernel) (by decide +kernel)⟩
theorem F_Pad_35 : sFL RX4 35 4 2 false (tyX4 2) := ⟨RX4, TX4, 4, tyX4, rfl, by decide, lw_goodI 198 (by decide +kernel) (by decide +kernel), uw_4, rfl, rfl, rfl, tyX4_ok, nmX4⟩
theorem F_Pad_38 : sFL RX4 38 4 3 false (tyX4 3) := ⟨RX4, TX4, 4, tyX4, rfl, by decide, lw_goodI 199 (by decide +kernel) (by decide +kernel), uw_4, rfl, rfl, rfl, tyX4_ok, nmX4⟩
theorem S_Pad_41 : sSL RX4 41 m_Math_max 2 := ⟨ml_Math_max, lw_goodI 424 (by decide +kernel) (by decide +kernel), lw_goodI 85 (by decide +kernel) (by decide +kernel)⟩
theorem OI_Parts_3 : Cond.methodLink RX5 3 Lib.objectInit ∈ lw_good := lw_goodI 110 (by decide +kernel) (by decide +kernel)
theorem N_Parts_9 : sNL RX5 9 3 [.null] := ⟨RX3, TX3, 1, tyX3, rfl, lw_goodI 111 (by decide +kernel) (by decide +kernel), lw_goodI 79 (by decide +kernel) (by decide +kernel), lw_goodI 54 (by decide +kernel) (by decide +kernel), uw_3, tyX3_ok, by decide +kernel, fun _ => rfl, rfl⟩
theorem I_Parts_11 : sIL RX5 11 m_Num_init 1 := ⟨ml_Num_init, lw_goodI 112 (by decide +kernel) (by decide +kernel), lw_goodI 81 (by decide +kernel) (by decide +kernel), rfl, rfl⟩
theorem F_Parts_14 : sFL RX5 14 5 0 true (tyX5 0) := ⟨RX5, TX5, 6, tyX5, rfl, by decide, lw_goodI 113 (by decide +kernel) (by decide +kernel), uw_5, rfl, rfl, rfl, tyX5_ok, nmX5⟩
theorem F_Parts_20 : sFL RX5 20 5 1 true (tyX5 1) := ⟨RX5, TX5, 6, tyX5, rfl, by decide, lw_goodI 114 (by decide +kernel) (by decide +kernel), uw_5, rfl, rfl, rfl, tyX5_ok, nmX5⟩
theorem F_Parts_23 : sFL RX5 23 5 2 true (tyX5 2) := ⟨RX5, TX5, 6, tyX5, rfl, by decide, lw_goodI 115 (by decide +kernel) (by decide +kernel), uw_5, rfl, rfl, rfl, tyX5_ok, nmX5⟩
theorem F_Parts_26 : sFL RX5 26 5 3 true (tyX5 3) := ⟨RX5, TX5, 6, tyX5, rfl, by decide, lw_goodI 116 (by decide +kernel) (by decide +kernel), uw_5, rfl, rfl, rfl, tyX5_ok, nmX5⟩
theorem F_Parts_29 : sFL RX5 29 5 4 false (tyX5 4) := ⟨RX5, TX5, 6, tyX5, rfl, by decide, lw_goodI 117 (by decide +kernel) (by decide +kernel), uw_5, rfl, rfl, rfl, tyX5_ok, nmX5⟩
theorem V_Parts_33 : sVL RX5 33 3 m_Num_setEach 1 := ⟨ml_Num_setEach, lw_goodI 360 (by decide +kernel) (by decide +kernel), lw_goodI 327 (by decide +kernel) (by decide +kernel), lw_goodI 328 (by decide +kernel) (by decide +kernel), TX3, 1, rfl⟩
theorem V_Parts_36 : sVL RX5 36 0 m_Grid_rows 0 := ⟨ml_Grid_rows, lw_goodI 361 (by decide +kernel) (by decide +kernel), lw_goodI 362 (by decide +kernel) (by decide +kernel), lw_goodI 363 (by decide +kernel) (by decide +kernel), TX0, 4, rfl⟩
theorem V_Parts_42 : sVL RX5 42 3 m_Num_get 1 := ⟨ml_Num_get, lw_goodI 365 (by decide +kernel) (by decide +kernel), lw_goodI 296 (by decide +kernel) (by decide +kernel), lw_goodI 297 (by decide +kernel) (by decide +kernel), TX3, 1, rfl⟩
theorem V_Parts_46 : sVL RX5 46 3 m_Num_set 2 := ⟨ml_Num_set, lw_goodI 366 (by decide +kernel) (by decide +kernel), lw_goodI 349 (by decide +kernel) (by decide +kernel), lw_goodI 350 (by decide +kernel) (by decide +kernel), TX3, 1, rfl⟩
theorem V_Parts_50 : sVL RX5 50 5 m_Parts_spread 1 := ⟨ml_Parts_spread, lw_goodI 367 (by decide +kernel) (by decide +kernel), lw_goodI 369 (by decide +kernel) (by decide +kernel), lw_goodI 2 (by decide +kernel) (by decide +kernel), TX5, 6, rfl⟩
theorem V_Parts_54 : sVL RX5 54 0 m_Grid_columns 0 := ⟨ml_Grid_columns, lw_goodI 371 (by decide +kernel) (by decide +kernel), lw_goodI 372 (by decide +kernel) (by decide +kernel), lw_goodI 373 (by decide +kernel) (by decide +kernel), TX0, 4, rfl⟩
theorem V_Parts_57 : sVL RX5 57 5 m_Parts_allToldAreProducts 1 := ⟨ml_Parts_allToldAreProducts, lw_goodI 388 (by decide +kernel) (by decide +kernel), lw_goodI 390 (by decide +kernel) (by decide +kernel), lw_goodI 4 (by decide +kernel) (by decide +kernel), TX5, 6, rfl⟩
theorem F_Parts_61 : sFL RX5 61 5 5 false (tyX5 5) := ⟨RX5, TX5, 6, tyX5, rfl, by decide, lw_goodI 118 (by decide +kernel) (by decide +kernel), uw_5, rfl, rfl, rfl, tyX5_ok, nmX5⟩
theorem V_Parts_65 : sVL RX5 65 0 m_Grid_number 2 := ⟨ml_Grid_number, lw_goodI 375 (by decide +kernel) (by decide +kernel), lw_goodI 288 (by decide +kernel) (by decide +kernel), lw_goodI 289 (by decide +kernel) (by decide +kernel), TX0, 4, rfl⟩
theorem V_Parts_69 : sVL RX5 69 5 m_Parts_reachOver 3 := ⟨ml_Parts_reachOver, lw_goodI 376 (by decide +kernel) (by decide +kernel), lw_goodI 378 (by decide +kernel) (by decide +kernel), lw_goodI 3 (by decide +kernel) (by decide +kernel), TX5, 6, rfl⟩
theorem V_Parts_73 : sVL RX5 73 0 m_Grid_quotient 2 := ⟨ml_Grid_quotient, lw_goodI 380 (by decide +kernel) (by decide +kernel), lw_goodI 381 (by decide +kernel) (by decide +kernel), lw_goodI 382 (by decide +kernel) (by decide +kernel), TX0, 4, rfl⟩
theorem V_Parts_76 : sVL RX5 76 5 m_Parts_product 3 := ⟨ml_Parts_product, lw_goodI 392 (by decide +kernel) (by decide +kernel), lw_goodI 393 (by decide +kernel) (by decide +kernel), lw_goodI 394 (by decide +kernel) (by decide +kernel), TX5, 6, rfl⟩
theorem V_Parts_80 : sVL RX5 80 0 m_Grid_product 2 := ⟨ml_Grid_product, lw_goodI 396 (by decide +kernel) (by decide +kernel), lw_goodI 385 (by decide +kernel) (by decide +kernel), lw_goodI 386 (by decide +kernel) (by decide +kernel), TX0, 4, rfl⟩
theorem V_Parts_82 : sVL RX5 82 5 m_Parts_areJoined 2 := ⟨ml_Parts_areJoined, lw_goodI 449 (by decide +kernel) (by decide +kernel), lw_goodI 404 (by decide +kernel) (by decide +kernel), lw_goodI 405 (by decide +kernel) (by decide +kernel), TX5, 6, rfl⟩
theorem S_Parts_86 : sSL RX5 86 m_Parts_membersOf 2 := ⟨ml_Parts_membersOf, lw_goodI 473 (by decide +kernel) (by decide +kernel), lw_goodI 474 (by decide +kernel) (by decide +kernel)⟩
theorem V_Parts_90 : sVL RX5 90 0 m_Grid_toldInRow 1 := ⟨ml_Grid_toldInRow, lw_goodI 484 (by decide +kernel) (by decide +kernel), lw_goodI 284 (by decide +kernel) (by decide +kernel), lw_goodI 285 (by decide +kernel) (by decide +kernel), TX0, 4, rfl⟩
theorem S_Parts_93 : sSL RX5 93 m_Int_bitCount 1 := ⟨ml_Int_bitCount, lw_goodI 485 (by decide +kernel) (by decide +kernel), lw_goodI 300 (by decide +kernel) (by decide +kernel)⟩
theorem V_Parts_98 : sVL RX5 98 5 m_Parts_rowsOf 1 := ⟨ml_Parts_rowsOf, lw_goodI 498 (by decide +kernel) (by decide +kernel), lw_goodI 470 (by decide +kernel) (by decide +kernel), lw_goodI 471 (by decide +kernel) (by decide +kernel), TX5, 6, rfl⟩
theorem V_Parts_101 : sVL RX5 101 5 m_Parts_columnsOf 1 := ⟨ml_Parts_columnsOf, lw_goodI 499 (by decide +kernel) (by decide +kernel), lw_goodI 477 (by decide +kernel) (by decide +kernel), lw_goodI 478 (by decide +kernel) (by decide +kernel), TX5, 6, rfl⟩
theorem OI_Rings_3 : Cond.methodLink RX6 3 Lib.objectInit ∈ lw_good := lw_goodI 137 (by decide +kernel) (by decide +kernel)
theorem N_Rings_9 : sNL RX6 9 0 [.null, .int 0, .int 0, .int 0] := ⟨RX0, TX0, 4, tyX0, rfl, lw_goodI 138 (by decide +kernel) (by decide +kernel), lw_goodI 73 (by decide +kernel) (by decide +kernel), lw_goodI 53 (by decide +kernel) (by decide +kernel), uw_0, tyX0_ok, by decide +kernel, fun _ => rfl, rfl⟩
theorem IN_Rings_11 : sINL RX6 11 m_Grid_init 0 := ⟨ml_Grid_init, ⟨RX8, by decide +kernel⟩, lw_goodI 75 (by decide +kernel) (by decide +kernel), rfl, rfl⟩
theorem F_Rings_12 : sFL RX6 12 6 0 true (tyX6 0) := ⟨RX6, TX6, 11, tyX6, rfl, by decide, lw_goodI 142 (by decide +kernel) (by decide +kernel), uw_6, rfl, rfl, rfl, tyX6_ok, nmX6⟩
theorem N_Rings_18 : sNL RX6 18 3 [.null] := ⟨RX3, TX3, 1, tyX3, rfl, lw_goodI 140 (by decide +kernel) (by decide +kernel), lw_goodI 79 (by decide +kernel) (by decide +kernel), lw_goodI 54 (by decide +kernel) (by decide +kernel), uw_3, tyX3_ok, by decide +kernel, fun _ => rfl, rfl⟩
theorem I_Rings_20 : sIL RX6 20 m_Num_init 1 := ⟨ml_Num_init, lw_goodI 141 (by decide +kernel) (by decide +kernel), lw_goodI 81 (by decide +kernel) (by decide +kernel), rfl, rfl⟩
theorem F_Rings_23 : sFL RX6 23 6 1 true (tyX6 1) := ⟨RX6, TX6, 11, tyX6, rfl, by decide, lw_goodI 143 (by decide +kernel) (by decide +kernel), uw_6, rfl, rfl, rfl, tyX6_ok, nmX6⟩
theorem F_Rings_27 : sFL RX6 27 6 2 true (tyX6 2) := ⟨RX6, TX6, 11, tyX6, rfl, by decide, lw_goodI 144 (by decide +kernel) (by decide +kernel), uw_6, rfl, rfl, rfl, tyX6_ok, nmX6⟩
theorem F_Rings_30 : sFL RX6 30 6 3 true (tyX6 3) := ⟨RX6, TX6, 11, tyX6, rfl, by decide, lw_goodI 145 (by decide +kernel) (by decide +kernel), uw_6, rfl, rfl, rfl, tyX6_ok, nmX6⟩
theorem V_Rings_33 : sVL RX6 33 0 m_Grid_copyFrom 1 := ⟨ml_Grid_copyFrom, lw_goodI 562 (by decide +kernel) (by decide +kernel), lw_goodI 314 (by decide +kernel) (by decide +kernel), lw_goodI 315 (by decide +kernel) (by decide +kernel), TX0, 4, rfl⟩
theorem F_Rings_37 : sFL RX6 37 6 4 false (tyX6 4) := ⟨RX6, TX6, 11, tyX6, rfl, by decide, lw_goodI 146 (by decide +kernel) (by decide +kernel), uw_6, rfl, rfl, rfl, tyX6_ok, nmX6⟩
theorem V_Rings_41 : sVL RX6 41 0 m_Grid_modulus 0 := ⟨ml_Grid_modulus, lw_goodI 563 (by decide +kernel) (by decide +kernel), lw_goodI 340 (by decide +kernel) (by decide +kernel), lw_goodI 341 (by decide +kernel) (by decide +kernel), TX0, 4, rfl⟩
theorem F_Rings_45 : sFL RX6 45 6 6 false (tyX6 6) := ⟨RX6, TX6, 11, tyX6, rfl, by decide, lw_goodI 148 (by decide +kernel) (by decide +kernel), uw_6, rfl, rfl, rfl, tyX6_ok, nmX6⟩
theorem F_Rings_48 : sFL RX6 48 6 7 false (tyX6 7) := ⟨RX6, TX6, 11, tyX6, rfl, by decide, lw_goodI 149 (by decide +kernel) (by decide +kernel), uw_6, rfl, rfl, rfl, tyX6_ok, nmX6⟩
theorem F_Rings_51 : sFL RX6 51 6 8 false (tyX6 8) := ⟨RX6, TX6, 11, tyX6, rfl, by decide, lw_goodI 150 (by decide +kernel) (by decide +kernel), uw_6, rfl, rfl, rfl, tyX6_ok, nmX6⟩
theorem F_Rings_54 : sFL RX6 54 6 9 false (tyX6 9) := ⟨RX6, TX6, 11, tyX6, rfl, by decide, lw_goodI 151 (by decide +kernel) (by decide +kernel), uw_6, rfl, rfl, rfl, tyX6_ok, nmX6⟩
theorem F_Rings_57 : sFL RX6 57 6 10 false (tyX6 10) := ⟨RX6, TX6, 11, tyX6, rfl, by decide, lw_goodI 152 (by decide +kernel) (by decide +kernel), uw_6, rfl, rfl, rfl, tyX6_ok, nmX6⟩
theorem V_Rings_60 : sVL RX6 60 3 m_Num_set 2 := ⟨ml_Num_set, lw_goodI 564 (by decide +kernel) (by decide +kernel), lw_goodI 349 (by decide +kernel) (by decide +kernel), lw_goodI 350 (by decide +kernel) (by decide +kernel), TX3, 1, rfl⟩
theorem V_Rings_64 : sVL RX6 64 0 m_Grid_toldInRow 1 := ⟨ml_Grid_toldInRow, lw_goodI 565 (by decide +kernel) (by decide +kernel), lw_goodI 284 (by decide +kernel) (by decide +kernel), lw_goodI 285 (by decide +kernel) (by decide +kernel), TX0, 4, rfl⟩
theorem V_Rings_67 : sVL RX6 67 0 m_Grid_rows 0 := ⟨ml_Grid_rows, lw_goodI 566 (by decide +kernel) (by decide +kernel), lw_goodI 362 (by decide +kernel) (by decide +kernel), lw_goodI 363 (by decide +kernel) (by decide +kernel), TX0, 4, rfl⟩
theorem F_Rings_70 : sFL RX6 70 6 5 false (tyX6 5) := ⟨RX6, TX6, 11, tyX6, rfl, by decide, lw_goodI 147 (by decide +kernel) (by decide +kernel), uw_6, rfl, rfl, rfl, tyX6_ok, nmX6⟩
theorem V_Rings_73 : sVL RX6 73 6 m_Rings_walk 3 := ⟨ml_Rings_walk, lw_goodI 567 (by decide +kernel) (by decide +kernel), lw_goodI 569 (by decide +kernel) (by decide +kernel), lw_goodI 10 (by decide +kernel) (by decide +kernel), TX6, 11, rfl⟩
theorem V_Rings_77 : sVL RX6 77 6 m_Rings_lead 3 := ⟨ml_Rings_lead, lw_goodI 571 (by decide +kernel) (by decide +kernel), lw_goodI 573 (by decide +kernel) (by decide +kernel), lw_goodI 11 (by decide +kernel) (by decide +kernel), TX6, 11, rfl⟩
theorem V_Rings_81 : sVL RX6 81 6 m_Rings_collect 1 := ⟨ml_Rings_collect, lw_goodI 593 (by decide +kernel) (by decide +kernel), lw_goodI 595 (by decide +kernel) (by decide +kernel), lw_goodI 15 (by decide +kernel) (by decide +kernel), TX6, 11, rfl⟩
theorem SN_Rings_84 : sSNL RX6 84 m_O_holds 2 := ⟨ml_O_holds, ⟨RX8, by decide +kernel⟩, lw_goodI 521 (by decide +kernel) (by decide +kernel)⟩
theorem V_Rings_88 : sVL RX6 88 3 m_Num_get 1 := ⟨ml_Num_get, lw_goodI 575 (by decide +kernel) (by decide +kernel), lw_goodI 296 (by decide +kernel) (by decide +kernel), lw_goodI 297 (by decide +kernel) (by decide +kernel), TX3, 1, rfl⟩
theorem V_Rings_91 : sVL RX6 91 6 m_Rings_findRatios 3 := ⟨ml_Rings_findRatios, lw_goodI 576 (by decide +kernel) (by decide +kernel), lw_goodI 578 (by decide +kernel) (by decide +kernel), lw_goodI 12 (by decide +kernel) (by decide +kernel), TX6, 11, rfl⟩
theorem V_Rings_94 : sVL RX6 94 6 m_Rings_forgetSetsOf 1 := ⟨ml_Rings_forgetSetsOf, lw_goodI 583 (by decide +kernel) (by decide +kernel), lw_goodI 585 (by decide +kernel) (by decide +kernel), lw_goodI 13 (by decide +kernel) (by decide +kernel), TX6, 11, rfl⟩
theorem S_Rings_97 : sSL RX6 97 m_Int_bitCount 1 := ⟨ml_Int_bitCount, lw_goodI 587 (by decide +kernel) (by decide +kernel), lw_goodI 300 (by decide +kernel) (by decide +kernel)⟩
theorem V_Rings_102 : sVL RX6 102 6 m_Rings_leadOn 2 := ⟨ml_Rings_leadOn, lw_goodI 588 (by decide +kernel) (by decide +kernel), lw_goodI 590 (by decide +kernel) (by decide +kernel), lw_goodI 14 (by decide +kernel) (by decide +kernel), TX6, 11, rfl⟩
theorem V_Rings_105 : sVL RX6 105 0 m_Grid_number 2 := ⟨ml_Grid_number, lw_goodI 581 (by decide +kernel) (by decide +kernel), lw_goodI 288 (by decide +kernel) (by decide +kernel), lw_goodI 289 (by decide +kernel) (by decide +kernel), TX0, 4, rfl⟩
theorem V_Rings_109 : sVL RX6 109 0 m_Grid_quotient 2 := ⟨ml_Grid_quotient, lw_goodI 582 (by decide +kernel) (by decide +kernel), lw_goodI 381 (by decide +kernel) (by decide +kernel), lw_goodI 382 (by decide +kernel) (by decide +kernel), TX0, 4, rfl⟩
theorem V_Rings_112 : sVL RX6 112 0 m_Grid_product 2 := ⟨ml_Grid_product, lw_goodI 592 (by decide +kernel) (by decide +kernel), lw_goodI 385 (by decide +kernel) (by decide +kernel), lw_goodI 386 (by decide +kernel) (by decide +kernel), TX0, 4, rfl⟩
theorem V_Rings_115 : sVL RX6 115 6 m_Rings_noteWrong 3 := ⟨ml_Rings_noteWrong, lw_goodI 597 (by decide +kernel) (by decide +kernel), lw_goodI 599 (by decide +kernel) (by decide +kernel), lw_goodI 16 (by decide +kernel) (by decide +kernel), TX6, 11, rfl⟩
theorem OI_Slot_1 : Cond.methodLink RX7 1 Lib.objectInit ∈ lw_good := lw_goodI 234 (by decide +kernel) (by decide +kernel)
theorem N_Slot_7 : sNL RX7 7 0 [.null, .int 0, .int 0, .int 0] := ⟨RX0, TX0, 4, tyX0, rfl, lw_goodI 235 (by decide +kernel) (by decide +kernel), lw_goodI 73 (by decide +kernel) (by decide +kernel), lw_goodI 53 (by decide +kernel) (by decide +kernel), uw_0, tyX0_ok, by decide +kernel, fun _ => rfl, rfl⟩
theorem IN_Slot_9 : sINL RX7 9 m_Grid_init 0 := ⟨ml_Grid_init, ⟨RX8, by decide +kernel⟩, lw_goodI 75 (by decide +kernel) (by decide +kernel), rfl, rfl⟩
theorem F_Slot_10 : sFL RX7 10 7 0 true (tyX7 0) := ⟨RX7, TX7, 2, tyX7, rfl, by decide, lw_goodI 237 (by decide +kernel) (by decide +kernel), uw_7, rfl, rfl, rfl, tyX7_ok, nmX7⟩
theorem F_Slot_16 : sFL RX7 16 7 1 false (tyX7 1) := ⟨RX7, TX7, 2, tyX7, rfl, by decide, lw_goodI 238 (by decide +kernel) (by decide +kernel), uw_7, rfl, rfl, rfl, tyX7_ok, nmX7⟩
theorem V_Slot_20 : sVL RX7 20 0 m_Grid_copyFrom 1 := ⟨ml_Grid_copyFrom, lw_goodI 710 (by decide +kernel) (by decide +kernel), lw_goodI 314 (by decide +kernel) (by decide +kernel), lw_goodI 315 (by decide +kernel) (by decide +kernel), TX0, 4, rfl⟩
theorem N_Law_7 : sNL RL 7 8 [.null, .null, .null, .null, .null, .null, .null, .null] := ⟨RX8, TX8, 8, tyX8, rfl, lw_goodI 64 (by decide +kernel) (by decide +kernel), lw_goodI 65 (by decide +kernel) (by decide +kernel), lw_goodI 52 (by decide +kernel) (by decide +kernel), uw_8, tyX8_ok, by decide +kernel, fun _ => rfl, rfl⟩
theorem I_Law_9 : sIL RL 9 m_O_init 0 := ⟨ml_O_init, lw_goodI 66 (by decide +kernel) (by decide +kernel), lw_goodI 67 (by decide +kernel) (by decide +kernel), rfl, rfl⟩
theorem N_Law_10 : sNL RL 10 9 [.null, .null, .null, .null, .int 0, .null, .int 0, .null, .null, .null, .null, .int 0, .int 0, .null, .null, .int 0, .int 0, .int 0, .int 0, .null, .int 0, .int 0] := ⟨RX9, TX9, 22, tyX9, rfl, lw_goodI 723 (by decide +kernel) (by decide +kernel), lw_goodI 724 (by decide +kernel) (by decide +kernel), lw_goodI 62 (by decide +kernel) (by decide +kernel), uw_9, tyX9_ok, by decide +kernel, fun _ => rfl, rfl⟩
theorem I_Law_12 : sIL RL 12 m_M_init 0 := ⟨ml_M_init, lw_goodI 725 (by decide +kernel) (by decide +kernel), lw_goodI 726 (by decide +kernel) (by decide +kernel), rfl, rfl⟩
theorem V_Law_13 : sVL RL 13 8 m_O_begin 3 := ⟨ml_O_begin, lw_goodI 269 (by decide +kernel) (by decide +kernel), lw_goodI 270 (by decide +kernel) (by decide +kernel), lw_goodI 271 (by decide +kernel) (by decide +kernel), TX8, 8, rfl⟩
theorem V_Law_17 : sVL RL 17 9 m_M_begin 3 := ⟨ml_M_begin, lw_goodI 821 (by decide +kernel) (by decide +kernel), lw_goodI 822 (by decide +kernel) (by decide +kernel), lw_goodI 823 (by decide +kernel) (by decide +kernel), TX9, 22, rfl⟩
theorem V_Law_18 : sVL RL 18 8 m_O_tell 3 := ⟨ml_O_tell, lw_goodI 330 (by decide +kernel) (by decide +kernel), lw_goodI 331 (by decide +kernel) (by decide +kernel), lw_goodI 332 (by decide +kernel) (by decide +kernel), TX8, 8, rfl⟩
theorem V_Law_21 : sVL RL 21 9 m_M_tell 3 := ⟨ml_M_tell, lw_goodI 825 (by decide +kernel) (by decide +kernel), lw_goodI 826 (by decide +kernel) (by decide +kernel), lw_goodI 827 (by decide +kernel) (by decide +kernel), TX9, 22, rfl⟩
theorem V_Law_22 : sVL RL 22 8 m_O_tellAll 0 := ⟨ml_O_tellAll, lw_goodI 352 (by decide +kernel) (by decide +kernel), lw_goodI 353 (by decide +kernel) (by decide +kernel), lw_goodI 354 (by decide +kernel) (by decide +kernel), TX8, 8, rfl⟩
theorem V_Law_26 : sVL RL 26 9 m_M_tellAll 0 := ⟨ml_M_tellAll, lw_goodI 837 (by decide +kernel) (by decide +kernel), lw_goodI 838 (by decide +kernel) (by decide +kernel), lw_goodI 839 (by decide +kernel) (by decide +kernel), TX9, 22, rfl⟩
theorem V_Law_27 : sVL RL 27 8 m_O_read 0 := ⟨ml_O_read, lw_goodI 408 (by decide +kernel) (by decide +kernel), lw_goodI 409 (by decide +kernel) (by decide +kernel), lw_goodI 410 (by decide +kernel) (by decide +kernel), TX8, 8, rfl⟩
theorem V_Law_30 : sVL RL 30 9 m_M_read 0 := ⟨ml_M_read, lw_goodI 1006 (by decide +kernel) (by decide +kernel), lw_goodI 1007 (by decide +kernel) (by decide +kernel), lw_goodI 1008 (by decide +kernel) (by decide +kernel), TX9, 22, rfl⟩
theorem V_Law_31 : sVL RL 31 8 m_O_entry 3 := ⟨ml_O_entry, lw_goodI 441 (by decide +kernel) (by decide +kernel), lw_goodI 442 (by decide +kernel) (by decide +kernel), lw_goodI 443 (by decide +kernel) (by decide +kernel), TX8, 8, rfl⟩
theorem V_Law_34 : sVL RL 34 9 m_M_entry 3 := ⟨ml_M_entry, lw_goodI 857 (by decide +kernel) (by decide +kernel), lw_goodI 858 (by decide +kernel) (by decide +kernel), lw_goodI 859 (by decide +kernel) (by decide +kernel), TX9, 22, rfl⟩
theorem V_Law_35 : sVL RL 35 8 m_O_part 2 := ⟨ml_O_part, lw_goodI 461 (by decide +kernel) (by decide +kernel), lw_goodI 462 (by decide +kernel) (by decide +kernel), lw_goodI 463 (by decide +kernel) (by decide +kernel), TX8, 8, rfl⟩
theorem V_Law_39 : sVL RL 39 9 m_M_part 2 := ⟨ml_M_part, lw_goodI 873 (by decide +kernel) (by decide +kernel), lw_goodI 874 (by decide +kernel) (by decide +kernel), lw_goodI 875 (by decide +kernel) (by decide +kernel), TX9, 22, rfl⟩
theorem V_Law_40 : sVL RL 40 8 m_O_count 1 := ⟨ml_O_count, lw_goodI 486 (by decide +kernel) (by decide +kernel), lw_goodI 487 (by decide +kernel) (by decide +kernel), lw_goodI 488 (by decide +kernel) (by decide +kernel), TX8, 8, rfl⟩
theorem V_Law_44 : sVL RL 44 9 m_M_count 1 := ⟨ml_M_count, lw_goodI 889 (by decide +kernel) (by decide +kernel), lw_goodI 890 (by decide +kernel) (by decide +kernel), lw_goodI 891 (by decide +kernel) (by decide +kernel), TX9, 22, rfl⟩
theorem V_Law_45 : sVL RL 45 8 m_O_cycles 2 := ⟨ml_O_cycles, lw_goodI 554 (by decide +kernel) (by decide +kernel), lw_goodI 555 (by decide +kernel) (by decide +kernel), lw_goodI 556 (by decide +kernel) (by decide +kernel), TX8, 8, rfl⟩
theorem V_Law_48 : sVL RL 48 9 m_M_cycles 2 := ⟨ml_M_cycles, lw_goodI 925 (by decide +kernel) (by decide +kernel), lw_goodI 926 (by decide +kernel) (by decide +kernel), lw_goodI 927 (by decide +kernel) (by decide +kernel), TX9, 22, rfl⟩
theorem V_Law_49 : sVL RL 49 8 m_O_wrong 1 := ⟨ml_O_wrong, lw_goodI 609 (by decide +kernel) (by decide +kernel), lw_goodI 610 (by decide +kernel) (by decide +kernel), lw_goodI 611 (by decide +kernel) (by decide +kernel), TX8, 8, rfl⟩
theorem V_Law_52 : sVL RL 52 9 m_M_wrong 1 := ⟨ml_M_wrong, lw_goodI 945 (by decide +kernel) (by decide +kernel), lw_goodI 946 (by decide +kernel) (by decide +kernel), lw_goodI 947 (by decide +kernel) (by decide +kernel), TX9, 22, rfl⟩
theorem V_Law_53 : sVL RL 53 8 m_O_completions 0 := ⟨ml_O_completions, lw_goodI 625 (by decide +kernel) (by decide +kernel), lw_goodI 626 (by decide +kernel) (by decide +kernel), lw_goodI 627 (by decide +kernel) (by decide +kernel), TX8, 8, rfl⟩
theorem V_Law_57 : sVL RL 57 9 m_M_completions 0 := ⟨ml_M_completions, lw_goodI 949 (by decide +kernel) (by decide +kernel), lw_goodI 950 (by decide +kernel) (by decide +kernel), lw_goodI 951 (by decide +kernel) (by decide +kernel), TX9, 22, rfl⟩
theorem K_Law_58 : Cond.constantLong RL 58 4294967295 ∈ lw_good := lw_goodI 1010 (by decide +kernel) (by decide +kernel)
theorem V_Law_60 : sVL RL 60 8 m_O_completed 3 := ⟨ml_O_completed, lw_goodI 633 (by decide +kernel) (by decide +kernel), lw_goodI 634 (by decide +kernel) (by decide +kernel), lw_goodI 635 (by decide +kernel) (by decide +kernel), TX8, 8, rfl⟩
theorem V_Law_64 : sVL RL 64 9 m_M_completed 3 := ⟨ml_M_completed, lw_goodI 953 (by decide +kernel) (by decide +kernel), lw_goodI 954 (by decide +kernel) (by decide +kernel), lw_goodI 955 (by decide +kernel) (by decide +kernel), TX9, 22, rfl⟩
theorem V_Law_65 : sVL RL 65 8 m_O_isWellIf 3 := ⟨ml_O_isWellIf, lw_goodI 651 (by decide +kernel) (by decide +kernel), lw_goodI 652 (by decide +kernel) (by decide +kernel), lw_goodI 653 (by decide +kernel) (by decide +kernel), TX8, 8, rfl⟩
theorem V_Law_68 : sVL RL 68 9 m_M_isWellIf 3 := ⟨ml_M_isWellIf, lw_goodI 962 (by decide +kernel) (by decide +kernel), lw_goodI 963 (by decide +kernel) (by decide +kernel), lw_goodI 964 (by decide +kernel) (by decide +kernel), TX9, 22, rfl⟩
theorem V_Law_69 : sVL RL 69 8 m_O_spoilers 0 := ⟨ml_O_spoilers, lw_goodI 655 (by decide +kernel) (by decide +kernel), lw_goodI 656 (by decide +kernel) (by decide +kernel), lw_goodI 657 (by decide +kernel) (by decide +kernel), TX8, 8, rfl⟩
theorem V_Law_72 : sVL RL 72 9 m_M_spoilers 0 := ⟨ml_M_spoilers, lw_goodI 970 (by decide +kernel) (by decide +kernel), lw_goodI 971 (by decide +kernel) (by decide +kernel), lw_goodI 972 (by decide +kernel) (by decide +kernel), TX9, 22, rfl⟩
theorem V_Law_73 : sVL RL 73 8 m_O_bestEntry 1 := ⟨ml_O_bestEntry, lw_goodI 661 (by decide +kernel) (by decide +kernel), lw_goodI 662 (by decide +kernel) (by decide +kernel), lw_goodI 663 (by decide +kernel) (by decide +kernel), TX8, 8, rfl⟩
theorem V_Law_76 : sVL RL 76 9 m_M_bestEntry 1 := ⟨ml_M_bestEntry, lw_goodI 975 (by decide +kernel) (by decide +kernel), lw_goodI 976 (by decide +kernel) (by decide +kernel), lw_goodI 977 (by decide +kernel) (by decide +kernel), TX9, 22, rfl⟩
theorem V_Law_77 : sVL RL 77 8 m_O_put 1 := ⟨ml_O_put, lw_goodI 669 (by decide +kernel) (by decide +kernel), lw_goodI 670 (by decide +kernel) (by decide +kernel), lw_goodI 671 (by decide +kernel) (by decide +kernel), TX8, 8, rfl⟩
theorem V_Law_81 : sVL RL 81 9 m_M_put 1 := ⟨ml_M_put, lw_goodI 986 (by decide +kernel) (by decide +kernel), lw_goodI 987 (by decide +kernel) (by decide +kernel), lw_goodI 988 (by decide +kernel) (by decide +kernel), TX9, 22, rfl⟩
theorem V_Law_82 : sVL RL 82 8 m_O_wipe 0 := ⟨ml_O_wipe, lw_goodI 682 (by decide +kernel) (by decide +kernel), lw_goodI 683 (by decide +kernel) (by decide +kernel), lw_goodI 684 (by decide +kernel) (by decide +kernel), TX8, 8, rfl⟩
theorem V_Law_85 : sVL RL 85 9 m_M_wipe 0 := ⟨ml_M_wipe, lw_goodI 991 (by decide +kernel) (by decide +kernel), lw_goodI 992 (by decide +kernel) (by decide +kernel), lw_goodI 993 (by decide +kernel) (by decide +kernel), TX9, 22, rfl⟩
theorem V_Law_86 : sVL RL 86 8 m_O_fault 0 := ⟨ml_O_fault, lw_goodI 686 (by decide +kernel) (by decide +kernel), lw_goodI 687 (by decide +kernel) (by decide +kernel), lw_goodI 688 (by decide +kernel) (by decide +kernel), TX8, 8, rfl⟩
theorem V_Law_89 : sVL RL 89 9 m_M_fault 0 := ⟨ml_M_fault, lw_goodI 995 (by decide +kernel) (by decide +kernel), lw_goodI 996 (by decide +kernel) (by decide +kernel), lw_goodI 997 (by decide +kernel) (by decide +kernel), TX9, 22, rfl⟩
theorem V_Law_90 : sVL RL 90 8 m_O_undo 0 := ⟨ml_O_undo, lw_goodI 690 (by decide +kernel) (by decide +kernel), lw_goodI 691 (by decide +kernel) (by decide +kernel), lw_goodI 692 (by decide +kernel) (by decide +kernel), TX8, 8, rfl⟩
theorem V_Law_93 : sVL RL 93 9 m_M_undo 0 := ⟨ml_M_undo, lw_goodI 798 (by decide +kernel) (by decide +kernel), lw_goodI 799 (by decide +kernel) (by decide +kernel), lw_goodI 800 (by decide +kernel) (by decide +kernel), TX9, 22, rfl⟩
theorem V_Law_94 : sVL RL 94 8 m_O_save 1 := ⟨ml_O_save, lw_goodI 698 (by decide +kernel) (by decide +kernel), lw_goodI 699 (by decide +kernel) (by decide +kernel), lw_goodI 700 (by decide +kernel) (by decide +kernel), TX8, 8, rfl⟩
theorem V_Law_97 : sVL RL 97 9 m_M_save 1 := ⟨ml_M_save, lw_goodI 802 (by decide +kernel) (by decide +kernel), lw_goodI 803 (by decide +kernel) (by decide +kernel), lw_goodI 804 (by decide +kernel) (by decide +kernel), TX9, 22, rfl⟩
theorem V_Law_98 : sVL RL 98 8 m_O_restore 1 := ⟨ml_O_restore, lw_goodI 711 (by decide +kernel) (by decide +kernel), lw_goodI 712 (by decide +kernel) (by decide +kernel), lw_goodI 713 (by decide +kernel) (by decide +kernel), TX8, 8, rfl⟩
theorem V_Law_101 : sVL RL 101 9 m_M_restore 1 := ⟨ml_M_restore, lw_goodI 813 (by decide +kernel) (by decide +kernel), lw_goodI 814 (by decide +kernel) (by decide +kernel), lw_goodI 815 (by decide +kernel) (by decide +kernel), TX9, 22, rfl⟩
theorem OI_M_1 : Cond.methodLink RX9 1 Lib.objectInit ∈ lw_good := lw_goodI 728 (by decide +kernel) (by decide +kernel)
theorem F_M_7 : sFL RX9 7 9 0 true (tyX9 0) := ⟨RX9, TX9, 22, tyX9, rfl, by decide, lw_goodI 729 (by decide +kernel) (by decide +kernel), uw_9, rfl, rfl, rfl, tyX9_ok, nmX9⟩
theorem F_M_13 : sFL RX9 13 9 1 true (tyX9 1) := ⟨RX9, TX9, 22, tyX9, rfl, by decide, lw_goodI 730 (by decide +kernel) (by decide +kernel), uw_9, rfl, rfl, rfl, tyX9_ok, nmX9⟩
theorem F_M_16 : sFL RX9 16 9 2 true (tyX9 2) := ⟨RX9, TX9, 22, tyX9, rfl, by decide, lw_goodI 731 (by decide +kernel) (by decide +kernel), uw_9, rfl, rfl, rfl, tyX9_ok, nmX9⟩
theorem F_M_19 : sFL RX9 19 9 3 true (tyX9 3) := ⟨RX9, TX9, 22, tyX9, rfl, by decide, lw_goodI 732 (by decide +kernel) (by decide +kernel), uw_9, rfl, rfl, rfl, tyX9_ok, nmX9⟩
theorem F_M_23 : sFL RX9 23 9 5 true (tyX9 5) := ⟨RX9, TX9, 22, tyX9, rfl, by decide, lw_goodI 734 (by decide +kernel) (by decide +kernel), uw_9, rfl, rfl, rfl, tyX9_ok, nmX9⟩
theorem F_M_27 : sFL RX9 27 9 7 true (tyX9 7) := ⟨RX9, TX9, 22, tyX9, rfl, by decide, lw_goodI 736 (by decide +kernel) (by decide +kernel), uw_9, rfl, rfl, rfl, tyX9_ok, nmX9⟩
theorem F_M_30 : sFL RX9 30 9 8 true (tyX9 8) := ⟨RX9, TX9, 22, tyX9, rfl, by decide, lw_goodI 737 (by decide +kernel) (by decide +kernel), uw_9, rfl, rfl, rfl, tyX9_ok, nmX9⟩
theorem F_M_33 : sFL RX9 33 9 9 true (tyX9 9) := ⟨RX9, TX9, 22, tyX9, rfl, by decide, lw_goodI 738 (by decide +kernel) (by decide +kernel), uw_9, rfl, rfl, rfl, tyX9_ok, nmX9⟩
theorem F_M_36 : sFL RX9 36 9 10 true (tyX9 10) := ⟨RX9, TX9, 22, tyX9, rfl, by decide, lw_goodI 739 (by decide +kernel) (by decide +kernel), uw_9, rfl, rfl, rfl, tyX9_ok, nmX9⟩
theorem F_M_39 : sFL RX9 39 9 13 true (tyX9 13) := ⟨RX9, TX9, 22, tyX9, rfl, by decide, lw_goodI 742 (by decide +kernel) (by decide +kernel), uw_9, rfl, rfl, rfl, tyX9_ok, nmX9⟩
theorem F_M_42 : sFL RX9 42 9 14 true (tyX9 14) := ⟨RX9, TX9, 22, tyX9, rfl, by decide, lw_goodI 743 (by decide +kernel) (by decide +kernel), uw_9, rfl, rfl, rfl, tyX9_ok, nmX9⟩
theorem F_M_45 : sFL RX9 45 9 19 true (tyX9 19) := ⟨RX9, TX9, 22, tyX9, rfl, by decide, lw_goodI 748 (by decide +kernel) (by decide +kernel), uw_9, rfl, rfl, rfl, tyX9_ok, nmX9⟩
theorem F_M_48 : sFL RX9 48 9 4 false (tyX9 4) := ⟨RX9, TX9, 22, tyX9, rfl, by decide, lw_goodI 733 (by decide +kernel) (by decide +kernel), uw_9, rfl, rfl, rfl, tyX9_ok, nmX9⟩
theorem S_M_52 : sSL RX9 52 m_M_in 3 := ⟨ml_M_in, lw_goodI 806 (by decide +kernel) (by decide +kernel), lw_goodI 807 (by decide +kernel) (by decide +kernel)⟩
theorem V_M_56 : sVL RX9 56 9 m_M_toldMany 0 := ⟨ml_M_toldMany, lw_goodI 809 (by decide +kernel) (by decide +kernel), lw_goodI 811 (by decide +kernel) (by decide +kernel), lw_goodI 21 (by decide +kernel) (by decide +kernel), TX9, 22, rfl⟩
theorem V_M_60 : sVL RX9 60 9 m_M_record 0 := ⟨ml_M_record, lw_goodI 817 (by decide +kernel) (by decide +kernel), lw_goodI 819 (by decide +kernel) (by decide +kernel), lw_goodI 22 (by decide +kernel) (by decide +kernel), TX9, 22, rfl⟩
theorem V_M_63 : sVL RX9 63 9 m_M_times 2 := ⟨ml_M_times, lw_goodI 853 (by decide +kernel) (by decide +kernel), lw_goodI 855 (by decide +kernel) (by decide +kernel), lw_goodI 28 (by decide +kernel) (by decide +kernel), TX9, 22, rfl⟩
theorem V_M_67 : sVL RX9 67 9 m_M_at 2 := ⟨ml_M_at, lw_goodI 833 (by decide +kernel) (by decide +kernel), lw_goodI 835 (by decide +kernel) (by decide +kernel), lw_goodI 24 (by decide +kernel) (by decide +kernel), TX9, 22, rfl⟩
theorem V_M_70 : sVL RX9 70 9 m_M_over 1 := ⟨ml_M_over, lw_goodI 849 (by decide +kernel) (by decide +kernel), lw_goodI 851 (by decide +kernel) (by decide +kernel), lw_goodI 27 (by decide +kernel) (by decide +kernel), TX9, 22, rfl⟩
theorem F_M_74 : sFL RX9 74 9 11 false (tyX9 11) := ⟨RX9, TX9, 22, tyX9, rfl, by decide, lw_goodI 740 (by decide +kernel) (by decide +kernel), uw_9, rfl, rfl, rfl, tyX9_ok, nmX9⟩
theorem V_M_77 : sVL RX9 77 9 m_M_spread 1 := ⟨ml_M_spread, lw_goodI 845 (by decide +kernel) (by decide +kernel), lw_goodI 847 (by decide +kernel) (by decide +kernel), lw_goodI 26 (by decide +kernel) (by decide +kernel), TX9, 22, rfl⟩
theorem F_M_81 : sFL RX9 81 9 12 false (tyX9 12) := ⟨RX9, TX9, 22, tyX9, rfl, by decide, lw_goodI 741 (by decide +kernel) (by decide +kernel), uw_9, rfl, rfl, rfl, tyX9_ok, nmX9⟩
theorem V_M_85 : sVL RX9 85 9 m_M_layParts 0 := ⟨ml_M_layParts, lw_goodI 841 (by decide +kernel) (by decide +kernel), lw_goodI 843 (by decide +kernel) (by decide +kernel), lw_goodI 25 (by decide +kernel) (by decide +kernel), TX9, 22, rfl⟩
theorem V_M_88 : sVL RX9 88 9 m_M_isEntry 2 := ⟨ml_M_isEntry, lw_goodI 829 (by decide +kernel) (by decide +kernel), lw_goodI 831 (by decide +kernel) (by decide +kernel), lw_goodI 23 (by decide +kernel) (by decide +kernel), TX9, 22, rfl⟩
theorem V_M_92 : sVL RX9 92 9 m_M_follows 2 := ⟨ml_M_follows, lw_goodI 861 (by decide +kernel) (by decide +kernel), lw_goodI 863 (by decide +kernel) (by decide +kernel), lw_goodI 29 (by decide +kernel) (by decide +kernel), TX9, 22, rfl⟩
theorem V_M_95 : sVL RX9 95 9 m_M_followsWithout 2 := ⟨ml_M_followsWithout, lw_goodI 865 (by decide +kernel) (by decide +kernel), lw_goodI 867 (by decide +kernel) (by decide +kernel), lw_goodI 30 (by decide +kernel) (by decide +kernel), TX9, 22, rfl⟩
theorem V_M_98 : sVL RX9 98 9 m_M_minorsWith 2 := ⟨ml_M_minorsWith, lw_goodI 869 (by decide +kernel) (by decide +kernel), lw_goodI 871 (by decide +kernel) (by decide +kernel), lw_goodI 31 (by decide +kernel) (by decide +kernel), TX9, 22, rfl⟩
theorem V_M_101 : sVL RX9 101 9 m_M_rowsOf 1 := ⟨ml_M_rowsOf, lw_goodI 877 (by decide +kernel) (by decide +kernel), lw_goodI 879 (by decide +kernel) (by decide +kernel), lw_goodI 32 (by decide +kernel) (by decide +kernel), TX9, 22, rfl⟩
theorem V_M_104 : sVL RX9 104 9 m_M_columnsOf 1 := ⟨ml_M_columnsOf, lw_goodI 881 (by decide +kernel) (by decide +kernel), lw_goodI 883 (by decide +kernel) (by decide +kernel), lw_goodI 33 (by decide +kernel) (by decide +kernel), TX9, 22, rfl⟩
theorem V_M_107 : sVL RX9 107 9 m_M_toldIn 1 := ⟨ml_M_toldIn, lw_goodI 885 (by decide +kernel) (by decide +kernel), lw_goodI 887 (by decide +kernel) (by decide +kernel), lw_goodI 34 (by decide +kernel) (by decide +kernel), TX9, 22, rfl⟩
theorem V_M_110 : sVL RX9 110 9 m_M_exchange 3 := ⟨ml_M_exchange, lw_goodI 917 (by decide +kernel) (by decide +kernel), lw_goodI 919 (by decide +kernel) (by decide +kernel), lw_goodI 41 (by decide +kernel) (by decide +kernel), TX9, 22, rfl⟩
theorem V_M_114 : sVL RX9 114 9 m_M_clearBy 4 := ⟨ml_M_clearBy, lw_goodI 921 (by decide +kernel) (by decide +kernel), lw_goodI 923 (by decide +kernel) (by decide +kernel), lw_goodI 42 (by decide +kernel) (by decide +kernel), TX9, 22, rfl⟩
theorem V_M_118 : sVL RX9 118 9 m_M_areTold 2 := ⟨ml_M_areTold, lw_goodI 909 (by decide +kernel) (by decide +kernel), lw_goodI 911 (by decide +kernel) (by decide +kernel), lw_goodI 39 (by decide +kernel) (by decide +kernel), TX9, 22, rfl⟩
theorem V_M_121 : sVL RX9 121 9 m_M_rankOf 2 := ⟨ml_M_rankOf, lw_goodI 913 (by decide +kernel) (by decide +kernel), lw_goodI 915 (by decide +kernel) (by decide +kernel), lw_goodI 40 (by decide +kernel) (by decide +kernel), TX9, 22, rfl⟩
theorem V_M_124 : sVL RX9 124 9 m_M_rankBy 1 := ⟨ml_M_rankBy, lw_goodI 905 (by decide +kernel) (by decide +kernel), lw_goodI 907 (by decide +kernel) (by decide +kernel), lw_goodI 38 (by decide +kernel) (by decide +kernel), TX9, 22, rfl⟩
theorem V_M_127 : sVL RX9 127 9 m_M_inParts 0 := ⟨ml_M_inParts, lw_goodI 893 (by decide +kernel) (by decide +kernel), lw_goodI 895 (by decide +kernel) (by decide +kernel), lw_goodI 35 (by decide +kernel) (by decide +kernel), TX9, 22, rfl⟩
theorem V_M_130 : sVL RX9 130 9 m_M_minors 1 := ⟨ml_M_minors, lw_goodI 897 (by decide +kernel) (by decide +kernel), lw_goodI 899 (by decide +kernel) (by decide +kernel), lw_goodI 36 (by decide +kernel) (by decide +kernel), TX9, 22, rfl⟩
theorem V_M_134 : sVL RX9 134 9 m_M_rankBound 0 := ⟨ml_M_rankBound, lw_goodI 901 (by decide +kernel) (by decide +kernel), lw_goodI 903 (by decide +kernel) (by decide +kernel), lw_goodI 37 (by decide +kernel) (by decide +kernel), TX9, 22, rfl⟩
theorem F_M_137 : sFL RX9 137 9 6 false (tyX9 6) := ⟨RX9, TX9, 22, tyX9, rfl, by decide, lw_goodI 735 (by decide +kernel) (by decide +kernel), uw_9, rfl, rfl, rfl, tyX9_ok, nmX9⟩
theorem F_M_140 : sFL RX9 140 9 15 false (tyX9 15) := ⟨RX9, TX9, 22, tyX9, rfl, by decide, lw_goodI 744 (by decide +kernel) (by decide +kernel), uw_9, rfl, rfl, rfl, tyX9_ok, nmX9⟩
theorem V_M_143 : sVL RX9 143 9 m_M_isWrong 1 := ⟨ml_M_isWrong, lw_goodI 941 (by decide +kernel) (by decide +kernel), lw_goodI 943 (by decide +kernel) (by decide +kernel), lw_goodI 46 (by decide +kernel) (by decide +kernel), TX9, 22, rfl⟩
theorem F_M_147 : sFL RX9 147 9 16 false (tyX9 16) := ⟨RX9, TX9, 22, tyX9, rfl, by decide, lw_goodI 745 (by decide +kernel) (by decide +kernel), uw_9, rfl, rfl, rfl, tyX9_ok, nmX9⟩
theorem F_M_150 : sFL RX9 150 9 17 false (tyX9 17) := ⟨RX9, TX9, 22, tyX9, rfl, by decide, lw_goodI 746 (by decide +kernel) (by decide +kernel), uw_9, rfl, rfl, rfl, tyX9_ok, nmX9⟩
theorem F_M_153 : sFL RX9 153 9 18 false (tyX9 18) := ⟨RX9, TX9, 22, tyX9, rfl, by decide, lw_goodI 747 (by decide +kernel) (by decide +kernel), uw_9, rfl, rfl, rfl, tyX9_ok, nmX9⟩
theorem V_M_156 : sVL RX9 156 9 m_M_canStand 2 := ⟨ml_M_canStand, lw_goodI 933 (by decide +kernel) (by decide +kernel), lw_goodI 935 (by decide +kernel) (by decide +kernel), lw_goodI 44 (by decide +kernel) (by decide +kernel), TX9, 22, rfl⟩
theorem V_M_159 : sVL RX9 159 9 m_M_meet 1 := ⟨ml_M_meet, lw_goodI 937 (by decide +kernel) (by decide +kernel), lw_goodI 939 (by decide +kernel) (by decide +kernel), lw_goodI 45 (by decide +kernel) (by decide +kernel), TX9, 22, rfl⟩
theorem V_M_162 : sVL RX9 162 9 m_M_goCycles 1 := ⟨ml_M_goCycles, lw_goodI 929 (by decide +kernel) (by decide +kernel), lw_goodI 931 (by decide +kernel) (by decide +kernel), lw_goodI 43 (by decide +kernel) (by decide +kernel), TX9, 22, rfl⟩
theorem V_M_165 : sVL RX9 165 9 m_M_completions 0 := ⟨ml_M_completions, lw_goodI 957 (by decide +kernel) (by decide +kernel), lw_goodI 950 (by decide +kernel) (by decide +kernel), lw_goodI 951 (by decide +kernel) (by decide +kernel), TX9, 22, rfl⟩
theorem V_M_169 : sVL RX9 169 9 m_M_factorOf 2 := ⟨ml_M_factorOf, lw_goodI 958 (by decide +kernel) (by decide +kernel), lw_goodI 960 (by decide +kernel) (by decide +kernel), lw_goodI 47 (by decide +kernel) (by decide +kernel), TX9, 22, rfl⟩
theorem V_M_173 : sVL RX9 173 9 m_M_isWellWith 2 := ⟨ml_M_isWellWith, lw_goodI 966 (by decide +kernel) (by decide +kernel), lw_goodI 968 (by decide +kernel) (by decide +kernel), lw_goodI 48 (by decide +kernel) (by decide +kernel), TX9, 22, rfl⟩
theorem K_M_176 : Cond.constantLong RX9 176 (-6) ∈ lw_good := lw_goodI 974 (by decide +kernel) (by decide +kernel)
theorem S_M_178 : sSL RX9 178 m_M_bits 1 := ⟨ml_M_bits, lw_goodI 983 (by decide +kernel) (by decide +kernel), lw_goodI 984 (by decide +kernel) (by decide +kernel)⟩
theorem V_M_181 : sVL RX9 181 9 m_M_gain 2 := ⟨ml_M_gain, lw_goodI 979 (by decide +kernel) (by decide +kernel), lw_goodI 981 (by decide +kernel) (by decide +kernel), lw_goodI 49 (by decide +kernel) (by decide +kernel), TX9, 22, rfl⟩
theorem K_M_184 : Cond.constantLong RX9 184 255 ∈ lw_good := lw_goodI 990 (by decide +kernel) (by decide +kernel)
theorem F_M_186 : sFL RX9 186 9 21 false (tyX9 21) := ⟨RX9, TX9, 22, tyX9, rfl, by decide, lw_goodI 750 (by decide +kernel) (by decide +kernel), uw_9, rfl, rfl, rfl, tyX9_ok, nmX9⟩
theorem S_M_189 : sSL RX9 189 m_M_numberOf 1 := ⟨ml_M_numberOf, lw_goodI 1003 (by decide +kernel) (by decide +kernel), lw_goodI 1004 (by decide +kernel) (by decide +kernel)⟩
theorem F_M_192 : sFL RX9 192 9 20 false (tyX9 20) := ⟨RX9, TX9, 22, tyX9, rfl, by decide, lw_goodI 749 (by decide +kernel) (by decide +kernel), uw_9, rfl, rfl, rfl, tyX9_ok, nmX9⟩
theorem V_M_195 : sVL RX9 195 9 m_M_readPad 0 := ⟨ml_M_readPad, lw_goodI 999 (by decide +kernel) (by decide +kernel), lw_goodI 1001 (by decide +kernel) (by decide +kernel), lw_goodI 50 (by decide +kernel) (by decide +kernel), TX9, 22, rfl⟩
theorem K_Int_265 : Cond.constant RJ6 265 1431655765 ∈ lw_good := lw_goodI 302 (by decide +kernel) (by decide +kernel)
theorem K_Int_266 : Cond.constant RJ6 266 858993459 ∈ lw_good := lw_goodI 303 (by decide +kernel) (by decide +kernel)
theorem K_Int_267 : Cond.constant RJ6 267 252645135 ∈ lw_good := lw_goodI 304 (by decide +kernel) (by decide +kernel)
theorem AC_int : Cond.arrayClass .int ∈ lw_good := lw_goodI 91 (by decide +kernel) (by decide +kernel)
theorem AC_char : Cond.arrayClass .char ∈ lw_good := lw_goodI 797 (by decide +kernel) (by decide +kernel)
theorem AC_boolean : Cond.arrayClass .boolean ∈ lw_good := lw_goodI 796 (by decide +kernel) (by decide +kernel)
theorem OI_inst : Cond.instanceMethod Lib.objectInit ∈ lw_good := lw_goodI 70 (by decide +kernel) (by decide +kernel)
theorem OI_code : Cond.code Lib.objectInit ⟨#[0xb1]⟩ 1 none ∈ lw_good := lw_goodI 71 (by decide +kernel) (by decide +kernel)
end
section
/-! ===== printed by wip/whole/links.py: the entry of each method ===== -/
theorem en_Grid_init {l : Launch} {d mc ms : Nat} {h : sH} {Q : Option Value → sH → Prop} {a0 : Nat} (k : sEv l m_Grid_init d (0, 0, mc, ms) (sKm mc ms Q) 0 [some (.ref a0)] [] h) : sCall l m_Grid_init d mc ms [.ref a0] h Q := sCall_of 0 (by decide +kernel) (Nat.le_of_ble_eq_true rfl) k
theorem en_Grid_rows {l : Launch} {d mc ms : Nat} {h : sH} {Q : Option Value → sH → Prop} {a0 : Nat} (k : sEv l m_Grid_rows d (0, 0, mc, ms) (sKm mc ms Q) 0 [some (.ref a0)] [] h) : sCall l m_Grid_rows d mc ms [.ref a0] h Q := sCall_of 0 (by decide +kernel) (Nat.le_of_ble_eq_true rfl) k
theorem en_Grid_columns {l : Launch} {d mc ms : Nat} {h : sH} {Q : Option Value → sH → Prop} {a0 : Nat} (k : sEv l m_Grid_columns d (0, 0, mc, ms) (sKm mc ms Q) 0 [some (.ref a0)] [] h) : sCall l m_Grid_columns d mc ms [.ref a0] h Q := sCall_of 0 (by decide +kernel) (Nat.le_of_ble_eq_true rfl) k
theorem en_Grid_modulus {l : Launch} {d mc ms : Nat} {h : sH} {Q : Option Value → sH → Prop} {a0 : Nat} (k : sEv l m_Grid_modulus d (0, 0, mc, ms) (sKm mc ms Q) 0 [some (.ref a0)] [] h) : sCall l m_Grid_modulus d mc ms [.ref a0] h Q := sCall_of 0 (by decide +kernel) (Nat.le_of_ble_eq_true rfl) k
theorem en_Grid_clear {l : Launch} {d mc ms : Nat} {h : sH} {Q : Option Value → sH → Prop} {a0 : Nat} {x1 : Int32} {x2 : Int32} {x3 : Int32} (k : sEv l m_Grid_clear d (0, 0, mc, ms) (sKm mc ms Q) 0 [some (.ref a0), some (.int x1), some (.int x2), some (.int x3)] [] h) : sCall l m_Grid_clear d mc ms [.ref a0, .int x1, .int x2, .int x3] h Q := sCall_of 0 (by decide +kernel) (Nat.le_of_ble_eq_true rfl) k
theorem en_Grid_copyFrom {l : Launch} {d mc ms : Nat} {h : sH} {Q : Option Value → sH → Prop} {a0 : Nat} {x1 : Nat} (k : sEv l m_Grid_copyFrom d (0, 0, mc, ms) (sKm mc ms Q) 0 [some (.ref a0), some (.ref x1)] [] h) : sCall l m_Grid_copyFrom d mc ms [.ref a0, .ref x1] h Q := sCall_of 0 (by decide +kernel) (Nat.le_of_ble_eq_true rfl) k
theorem en_Grid_has {l : Launch} {d mc ms : Nat} {h : sH} {Q : Option Value → sH → Prop} {a0 : Nat} {x1 : Int32} {x2 : Int32} (k : sEv l m_Grid_has d (0, 0, mc, ms) (sKm mc ms Q) 0 [some (.ref a0), some (.int x1), some (.int x2)] [] h) : sCall l m_Grid_has d mc ms [.ref a0, .int x1, .int x2] h Q := sCall_of 0 (by decide +kernel) (Nat.le_of_ble_eq_true rfl) k
theorem en_Grid_number {l : Launch} {d mc ms : Nat} {h : sH} {Q : Option Value → sH → Prop} {a0 : Nat} {x1 : Int32} {x2 : Int32} (k : sEv l m_Grid_number d (0, 0, mc, ms) (sKm mc ms Q) 0 [some (.ref a0), some (.int x1), some (.int x2)] [] h) : sCall l m_Grid_number d mc ms [.ref a0, .int x1, .int x2] h Q := sCall_of 0 (by decide +kernel) (Nat.le_of_ble_eq_true rfl) k
theorem en_Grid_setNumber {l : Launch} {d mc ms : Nat} {h : sH} {Q : Option Value → sH → Prop} {a0 : Nat} {x1 : Int32} {x2 : Int32} {x3 : Int32} (k : sEv l m_Grid_setNumber d (0, 0, mc, ms) (sKm mc ms Q) 0 [some (.ref a0), some (.int x1), some (.int x2), some (.int x3)] [] h) : sCall l m_Grid_setNumber d mc ms [.ref a0, .int x1, .int x2, .int x3] h Q := sCall_of 0 (by decide +kernel) (Nat.le_of_ble_eq_true rfl) k
theorem en_Grid_toldInRow {l : Launch} {d mc ms : Nat} {h : sH} {Q : Option Value → sH → Prop} {a0 : Nat} {x1 : Int32} (k : sEv l m_Grid_toldInRow d (0, 0, mc, ms) (sKm mc ms Q) 0 [some (.ref a0), some (.int x1), none, none] [] h) : sCall l m_Grid_toldInRow d mc ms [.ref a0, .int x1] h Q := sCall_of 2 (by decide +kernel) (Nat.le_of_ble_eq_true rfl) k
theorem en_Grid_toldCount {l : Launch} {d mc ms : Nat} {h : sH} {Q : Option Value → sH → Prop} {a0 : Nat} (k : sEv l m_Grid_toldCount d (0, 0, mc, ms) (sKm mc ms Q) 0 [some (.ref a0), none, none] [] h) : sCall l m_Grid_toldCount d mc ms [.ref a0] h Q := sCall_of 2 (by decide +kernel) (Nat.le_of_ble_eq_true rfl) k
theorem en_Grid_product {l : Launch} {d mc ms : Nat} {h : sH} {Q : Option Value → sH → Prop} {a0 : Nat} {x1 : Int32} {x2 : Int32} (k : sEv l m_Grid_product d (0, 0, mc, ms) (sKm mc ms Q) 0 [some (.ref a0), some (.int x1), some (.int x2)] [] h) : sCall l m_Grid_product d mc ms [.ref a0, .int x1, .int x2] h Q := sCall_of 0 (by decide +kernel) (Nat.le_of_ble_eq_true rfl) k
theorem en_Grid_remainder {l : Launch} {d mc ms : Nat} {h : sH} {Q : Option Value → sH → Prop} {a0 : Nat} {x1 : Int32} (k : sEv l m_Grid_remainder d (0, 0, mc, ms) (sKm mc ms Q) 0 [some (.ref a0), some (.int x1)] [] h) : sCall l m_Grid_remainder d mc ms [.ref a0, .int x1] h Q := sCall_of 0 (by decide +kernel) (Nat.le_of_ble_eq_true rfl) k
theorem en_Grid_quotient {l : Launch} {d mc ms : Nat} {h : sH} {Q : Option Value → sH → Prop} {a0 : Nat} {x1 : Int32} {x2 : Int32} (k : sEv l m_Grid_quotient d (0, 0, mc, ms) (sKm mc ms Q) 0 [some (.ref a0), some (.int x1), some (.int x2), none] [] h) : sCall l m_Grid_quotient d mc ms [.ref a0, .int x1, .int x2] h Q := sCall_of 1 (by decide +kernel) (Nat.le_of_ble_eq_true rfl) k
theorem en_Hist_init {l : Launch} {d mc ms : Nat} {h : sH} {Q : Option Value → sH → Prop} {a0 : Nat} (k : sEv l m_Hist_init d (0, 0, mc, ms) (sKm mc ms Q) 0 [some (.ref a0), none] [] h) : sCall l m_Hist_init d mc ms [.ref a0] h Q := sCall_of 1 (by decide +kernel) (Nat.le_of_ble_eq_true rfl) k
theorem en_Hist_size {l : Launch} {d mc ms : Nat} {h : sH} {Q : Option Value → sH → Prop} {a0 : Nat} (k : sEv l m_Hist_size d (0, 0, mc, ms) (sKm mc ms Q) 0 [some (.ref a0)] [] h) : sCall l m_Hist_size d mc ms [.ref a0] h Q := sCall_of 0 (by decide +kernel) (Nat.le_of_ble_eq_true rfl) k
theorem en_Hist_record {l : Launch} {d mc ms : Nat} {h : sH} {Q : Option Value → sH → Prop} {a0 : Nat} {x1 : Nat} (k : sEv l m_Hist_record d (0, 0, mc, ms) (sKm mc ms Q) 0 [some (.ref a0), some (.ref x1), none] [] h) : sCall l m_Hist_record d mc ms [.ref a0, .ref x1] h Q := sCall_of 1 (by decide +kernel) (Nat.le_of_ble_eq_true rfl) k
theorem en_Hist_takeLatest {l : Launch} {d mc ms : Nat} {h : sH} {Q : Option Value → sH → Prop} {a0 : Nat} (k : sEv l m_Hist_takeLatest d (0, 0, mc, ms) (sKm mc ms Q) 0 [some (.ref a0)] [] h) : sCall l m_Hist_takeLatest d mc ms [.ref a0] h Q := sCall_of 0 (by decide +kernel) (Nat.le_of_ble_eq_true rfl) k
theorem en_Hist_pastAt {l : Launch} {d mc ms : Nat} {h : sH} {Q : Option Value → sH → Prop} {a0 : Nat} {x1 : Int32} (k : sEv l m_Hist_pastAt d (0, 0, mc, ms) (sKm mc ms Q) 0 [some (.ref a0), some (.int x1), none] [] h) : sCall l m_Hist_pastAt d mc ms [.ref a0, .int x1] h Q := sCall_of 1 (by decide +kernel) (Nat.le_of_ble_eq_true rfl) k
theorem en_Min_init {l : Launch} {d mc ms : Nat} {h : sH} {Q : Option Value → sH → Prop} {a0 : Nat} (k : sEv l m_Min_init d (0, 0, mc, ms) (sKm mc ms Q) 0 [some (.ref a0)] [] h) : sCall l m_Min_init d mc ms [.ref a0] h Q := sCall_of 0 (by decide +kernel) (Nat.le_of_ble_eq_true rfl) k
theorem en_Min_countAll {l : Launch} {d mc ms : Nat} {h : sH} {Q : Option Value → sH → Prop} {a0 : Nat} {x1 : Nat} {x2 : Int32} (k : sEv l m_Min_countAll d (0, 0, mc, ms) (sKm mc ms Q) 0 [some (.ref a0), some (.ref x1), some (.int x2), none, none, none] [] h) : sCall l m_Min_countAll d mc ms [.ref a0, .ref x1, .int x2] h Q := sCall_of 3 (by decide +kernel) (Nat.le_of_ble_eq_true rfl) k
theorem en_Min_countBelow {l : Launch} {d mc ms : Nat} {h : sH} {Q : Option Value → sH → Prop} {a0 : Nat} {x1 : Nat} {x2 : Int32} {x3 : Int32} {x4 : Int32} (k : sEv l m_Min_countBelow d (0, 0, mc, ms) (sKm mc ms Q) 0 [some (.ref a0), some (.ref x1), some (.int x2), some (.int x3), some (.int x4), none, none, none] [] h) : sCall l m_Min_countBelow d mc ms [.ref a0, .ref x1, .int x2, .int x3, .int x4] h Q := sCall_of 3 (by decide +kernel) (Nat.le_of_ble_eq_true rfl) k
theorem en_Min_countThrough {l : Launch} {d mc ms : Nat} {h : sH} {Q : Option Value → sH → Prop} {a0 : Nat} {x1 : Nat} {x2 : Int32} {x3 : Int32} (k : sEv l m_Min_countThrough d (0, 0, mc, ms) (sKm mc ms Q) 0 [some (.ref a0), some (.ref x1), some (.int x2), some (.int x3), none, none, none] [] h) : sCall l m_Min_countThrough d mc ms [.ref a0, .ref x1, .int x2, .int x3] h Q := sCall_of 3 (by decide +kernel) (Nat.le_of_ble_eq_true rfl) k
theorem en_Min_isMinor {l : Launch} {d mc ms : Nat} {h : sH} {Q : Option Value → sH → Prop} {x1 : Nat} {x2 : Int32} {x3 : Int32} {x4 : Int32} {x5 : Int32} (k : sEv l m_Min_isMinor d (0, 0, mc, ms) (sKm mc ms Q) 0 [some (.ref x1), some (.int x2), some (.int x3), some (.int x4), some (.int x5)] [] h) : sCall l m_Min_isMinor d mc ms [.ref x1, .int x2, .int x3, .int x4, .int x5] h Q := sCall_of 0 (by decide +kernel) (Nat.le_of_ble_eq_true rfl) k
theorem en_Min_isZero {l : Launch} {d mc ms : Nat} {h : sH} {Q : Option Value → sH → Prop} {x1 : Nat} {x2 : Int32} {x3 : Int32} {x4 : Int32} {x5 : Int32} (k : sEv l m_Min_isZero d (0, 0, mc, ms) (sKm mc ms Q) 0 [some (.ref x1), some (.int x2), some (.int x3), some (.int x4), some (.int x5)] [] h) : sCall l m_Min_isZero d mc ms [.ref x1, .int x2, .int x3, .int x4, .int x5] h Q := sCall_of 0 (by decide +kernel) (Nat.le_of_ble_eq_true rfl) k
theorem en_Min_leastRank {l : Launch} {d mc ms : Nat} {h : sH} {Q : Option Value → sH → Prop} {a0 : Nat} {x1 : Nat} (k : sEv l m_Min_leastRank d (0, 0, mc, ms) (sKm mc ms Q) 0 [some (.ref a0), some (.ref x1), none, none] [] h) : sCall l m_Min_leastRank d mc ms [.ref a0, .ref x1] h Q := sCall_of 2 (by decide +kernel) (Nat.le_of_ble_eq_true rfl) k
theorem en_Min_rankOf {l : Launch} {d mc ms : Nat} {h : sH} {Q : Option Value → sH → Prop} {a0 : Nat} {x1 : Nat} {x2 : Int32} (k : sEv l m_Min_rankOf d (0, 0, mc, ms) (sKm mc ms Q) 0 [some (.ref a0), some (.ref x1), some (.int x2), none, none, none, none, none] [] h) : sCall l m_Min_rankOf d mc ms [.ref a0, .ref x1, .int x2] h Q := sCall_of 5 (by decide +kernel) (Nat.le_of_ble_eq_true rfl) k
theorem en_Min_bringUp {l : Launch} {d mc ms : Nat} {h : sH} {Q : Option Value → sH → Prop} {a0 : Nat} {x1 : Int32} {x2 : Int32} {x3 : Int32} (k : sEv l m_Min_bringUp d (0, 0, mc, ms) (sKm mc ms Q) 0 [some (.ref a0), some (.int x1), some (.int x2), some (.int x3), none, none] [] h) : sCall l m_Min_bringUp d mc ms [.ref a0, .int x1, .int x2, .int x3] h Q := sCall_of 2 (by decide +kernel) (Nat.le_of_ble_eq_true rfl) k
theorem en_Min_eliminate {l : Launch} {d mc ms : Nat} {h : sH} {Q : Option Value → sH → Prop} {a0 : Nat} {x1 : Nat} {x2 : Int32} {x3 : Int32} {x4 : Int32} (k : sEv l m_Min_eliminate d (0, 0, mc, ms) (sKm mc ms Q) 0 [some (.ref a0), some (.ref x1), some (.int x2), some (.int x3), some (.int x4), none, none, none, none] [] h) : sCall l m_Min_eliminate d mc ms [.ref a0, .ref x1, .int x2, .int x3, .int x4] h Q := sCall_of 4 (by decide +kernel) (Nat.le_of_ble_eq_true rfl) k
theorem en_Num_init {l : Launch} {d mc ms : Nat} {h : sH} {Q : Option Value → sH → Prop} {a0 : Nat} {x1 : Int32} (k : sEv l m_Num_init d (0, 0, mc, ms) (sKm mc ms Q) 0 [some (.ref a0), some (.int x1)] [] h) : sCall l m_Num_init d mc ms [.ref a0, .int x1] h Q := sCall_of 0 (by decide +kernel) (Nat.le_of_ble_eq_true rfl) k
theorem en_Num_get {l : Launch} {d mc ms : Nat} {h : sH} {Q : Option Value → sH → Prop} {a0 : Nat} {x1 : Int32} (k : sEv l m_Num_get d (0, 0, mc, ms) (sKm mc ms Q) 0 [some (.ref a0), some (.int x1)] [] h) : sCall l m_Num_get d mc ms [.ref a0, .int x1] h Q := sCall_of 0 (by decide +kernel) (Nat.le_of_ble_eq_true rfl) k
theorem en_Num_set {l : Launch} {d mc ms : Nat} {h : sH} {Q : Option Value → sH → Prop} {a0 : Nat} {x1 : Int32} {x2 : Int32} (k : sEv l m_Num_set d (0, 0, mc, ms) (sKm mc ms Q) 0 [some (.ref a0), some (.int x1), some (.int x2)] [] h) : sCall l m_Num_set d mc ms [.ref a0, .int x1, .int x2] h Q := sCall_of 0 (by decide +kernel) (Nat.le_of_ble_eq_true rfl) k
theorem en_Num_setEach {l : Launch} {d mc ms : Nat} {h : sH} {Q : Option Value → sH → Prop} {a0 : Nat} {x1 : Int32} (k : sEv l m_Num_setEach d (0, 0, mc, ms) (sKm mc ms Q) 0 [some (.ref a0), some (.int x1), none] [] h) : sCall l m_Num_setEach d mc ms [.ref a0, .int x1] h Q := sCall_of 1 (by decide +kernel) (Nat.le_of_ble_eq_true rfl) k
theorem en_Num_copyFrom {l : Launch} {d mc ms : Nat} {h : sH} {Q : Option Value → sH → Prop} {a0 : Nat} {x1 : Nat} (k : sEv l m_Num_copyFrom d (0, 0, mc, ms) (sKm mc ms Q) 0 [some (.ref a0), some (.ref x1), none] [] h) : sCall l m_Num_copyFrom d mc ms [.ref a0, .ref x1] h Q := sCall_of 1 (by decide +kernel) (Nat.le_of_ble_eq_true rfl) k
theorem en_Num_swap {l : Launch} {d mc ms : Nat} {h : sH} {Q : Option Value → sH → Prop} {a0 : Nat} {x1 : Int32} {x2 : Int32} (k : sEv l m_Num_swap d (0, 0, mc, ms) (sKm mc ms Q) 0 [some (.ref a0), some (.int x1), some (.int x2), none] [] h) : sCall l m_Num_swap d mc ms [.ref a0, .int x1, .int x2] h Q := sCall_of 1 (by decide +kernel) (Nat.le_of_ble_eq_true rfl) k
theorem en_Pad_init {l : Launch} {d mc ms : Nat} {h : sH} {Q : Option Value → sH → Prop} {a0 : Nat} (k : sEv l m_Pad_init d (0, 0, mc, ms) (sKm mc ms Q) 0 [some (.ref a0)] [] h) : sCall l m_Pad_init d mc ms [.ref a0] h Q := sCall_of 0 (by decide +kernel) (Nat.le_of_ble_eq_true rfl) k
theorem en_Pad_length {l : Launch} {d mc ms : Nat} {h : sH} {Q : Option Value → sH → Prop} {a0 : Nat} (k : sEv l m_Pad_length d (0, 0, mc, ms) (sKm mc ms Q) 0 [some (.ref a0)] [] h) : sCall l m_Pad_length d mc ms [.ref a0] h Q := sCall_of 0 (by decide +kernel) (Nat.le_of_ble_eq_true rfl) k
theorem en_Pad_empty {l : Launch} {d mc ms : Nat} {h : sH} {Q : Option Value → sH → Prop} {a0 : Nat} (k : sEv l m_Pad_empty d (0, 0, mc, ms) (sKm mc ms Q) 0 [some (.ref a0)] [] h) : sCall l m_Pad_empty d mc ms [.ref a0] h Q := sCall_of 0 (by decide +kernel) (Nat.le_of_ble_eq_true rfl) k
theorem en_Pad_append {l : Launch} {d mc ms : Nat} {h : sH} {Q : Option Value → sH → Prop} {a0 : Nat} {x1 : Int32} (k : sEv l m_Pad_append d (0, 0, mc, ms) (sKm mc ms Q) 0 [some (.ref a0), some (.int x1)] [] h) : sCall l m_Pad_append d mc ms [.ref a0, .int x1] h Q := sCall_of 0 (by decide +kernel) (Nat.le_of_ble_eq_true rfl) k
theorem en_Pad_scan {l : Launch} {d mc ms : Nat} {h : sH} {Q : Option Value → sH → Prop} {a0 : Nat} (k : sEv l m_Pad_scan d (0, 0, mc, ms) (sKm mc ms Q) 0 [some (.ref a0), none, none, none, none, none] [] h) : sCall l m_Pad_scan d mc ms [.ref a0] h Q := sCall_of 5 (by decide +kernel) (Nat.le_of_ble_eq_true rfl) k
theorem en_Pad_rows {l : Launch} {d mc ms : Nat} {h : sH} {Q : Option Value → sH → Prop} {a0 : Nat} (k : sEv l m_Pad_rows d (0, 0, mc, ms) (sKm mc ms Q) 0 [some (.ref a0)] [] h) : sCall l m_Pad_rows d mc ms [.ref a0] h Q := sCall_of 0 (by decide +kernel) (Nat.le_of_ble_eq_true rfl) k
theorem en_Pad_columns {l : Launch} {d mc ms : Nat} {h : sH} {Q : Option Value → sH → Prop} {a0 : Nat} (k : sEv l m_Pad_columns d (0, 0, mc, ms) (sKm mc ms Q) 0 [some (.ref a0)] [] h) : sCall l m_Pad_columns d mc ms [.ref a0] h Q := sCall_of 0 (by decide +kernel) (Nat.le_of_ble_eq_true rfl) k
theorem en_Pad_number {l : Launch} {d mc ms : Nat} {h : sH} {Q : Option Value → sH → Prop} {a0 : Nat} {x1 : Int32} {x2 : Int32} (k : sEv l m_Pad_number d (0, 0, mc, ms) (sKm mc ms Q) 0 [some (.ref a0), some (.int x1), some (.int x2)] [] h) : sCall l m_Pad_number d mc ms [.ref a0, .int x1, .int x2] h Q := sCall_of 0 (by decide +kernel) (Nat.le_of_ble_eq_true rfl) k
theorem en_Pad_greatestNumber {l : Launch} {d mc ms : Nat} {h : sH} {Q : Option Value → sH → Prop} {a0 : Nat} (k : sEv l m_Pad_greatestNumber d (0, 0, mc, ms) (sKm mc ms Q) 0 [some (.ref a0), none, none] [] h) : sCall l m_Pad_greatestNumber d mc ms [.ref a0] h Q := sCall_of 2 (by decide +kernel) (Nat.le_of_ble_eq_true rfl) k
theorem en_Pad_signOf {l : Launch} {d mc ms : Nat} {h : sH} {Q : Option Value → sH → Prop} {x1 : Int32} (k : sEv l m_Pad_signOf d (0, 0, mc, ms) (sKm mc ms Q) 0 [some (.int x1)] [] h) : sCall l m_Pad_signOf d mc ms [.int x1] h Q := sCall_of 0 (by decide +kernel) (Nat.le_of_ble_eq_true rfl) k
theorem en_Parts_init {l : Launch} {d mc ms : Nat} {h : sH} {Q : Option Value → sH → Prop} {a0 : Nat} (k : sEv l m_Parts_init d (0, 0, mc, ms) (sKm mc ms Q) 0 [some (.ref a0)] [] h) : sCall l m_Parts_init d mc ms [.ref a0] h Q := sCall_of 0 (by decide +kernel) (Nat.le_of_ble_eq_true rfl) k
theorem en_Parts_find {l : Launch} {d mc ms : Nat} {h : sH} {Q : Option Value → sH → Prop} {a0 : Nat} {x1 : Nat} (k : sEv l m_Parts_find d (0, 0, mc, ms) (sKm mc ms Q) 0 [some (.ref a0), some (.ref x1), none] [] h) : sCall l m_Parts_find d mc ms [.ref a0, .ref x1] h Q := sCall_of 1 (by decide +kernel) (Nat.le_of_ble_eq_true rfl) k
theorem en_Parts_spread {l : Launch} {d mc ms : Nat} {h : sH} {Q : Option Value → sH → Prop} {a0 : Nat} {x1 : Nat} (k : sEv l m_Parts_spread d (0, 0, mc, ms) (sKm mc ms Q) 0 [some (.ref a0), some (.ref x1), none, none, none, none] [] h) : sCall l m_Parts_spread d mc ms [.ref a0, .ref x1] h Q := sCall_of 4 (by decide +kernel) (Nat.le_of_ble_eq_true rfl) k
theorem en_Parts_reachOver {l : Launch} {d mc ms : Nat} {h : sH} {Q : Option Value → sH → Prop} {a0 : Nat} {x1 : Nat} {x2 : Int32} {x3 : Int32} (k : sEv l m_Parts_reachOver d (0, 0, mc, ms) (sKm mc ms Q) 0 [some (.ref a0), some (.ref x1), some (.int x2), some (.int x3), none, none, none] [] h) : sCall l m_Parts_reachOver d mc ms [.ref a0, .ref x1, .int x2, .int x3] h Q := sCall_of 3 (by decide +kernel) (Nat.le_of_ble_eq_true rfl) k
theorem en_Parts_allToldAreProducts {l : Launch} {d mc ms : Nat} {h : sH} {Q : Option Value → sH → Prop} {a0 : Nat} {x1 : Nat} (k : sEv l m_Parts_allToldAreProducts d (0, 0, mc, ms) (sKm mc ms Q) 0 [some (.ref a0), some (.ref x1), none, none, none] [] h) : sCall l m_Parts_allToldAreProducts d mc ms [.ref a0, .ref x1] h Q := sCall_of 3 (by decide +kernel) (Nat.le_of_ble_eq_true rfl) k
theorem en_Parts_size {l : Launch} {d mc ms : Nat} {h : sH} {Q : Option Value → sH → Prop} {a0 : Nat} (k : sEv l m_Parts_size d (0, 0, mc, ms) (sKm mc ms Q) 0 [some (.ref a0)] [] h) : sCall l m_Parts_size d mc ms [.ref a0] h Q := sCall_of 0 (by decide +kernel) (Nat.le_of_ble_eq_true rfl) k
theorem en_Parts_isConsistent {l : Launch} {d mc ms : Nat} {h : sH} {Q : Option Value → sH → Prop} {a0 : Nat} (k : sEv l m_Parts_isConsistent d (0, 0, mc, ms) (sKm mc ms Q) 0 [some (.ref a0)] [] h) : sCall l m_Parts_isConsistent d mc ms [.ref a0] h Q := sCall_of 0 (by decide +kernel) (Nat.le_of_ble_eq_true rfl) k
theorem en_Parts_partOfRow {l : Launch} {d mc ms : Nat} {h : sH} {Q : Option Value → sH → Prop} {a0 : Nat} {x1 : Int32} (k : sEv l m_Parts_partOfRow d (0, 0, mc, ms) (sKm mc ms Q) 0 [some (.ref a0), some (.int x1)] [] h) : sCall l m_Parts_partOfRow d mc ms [.ref a0, .int x1] h Q := sCall_of 0 (by decide +kernel) (Nat.le_of_ble_eq_true rfl) k
theorem en_Parts_partOfColumn {l : Launch} {d mc ms : Nat} {h : sH} {Q : Option Value → sH → Prop} {a0 : Nat} {x1 : Int32} (k : sEv l m_Parts_partOfColumn d (0, 0, mc, ms) (sKm mc ms Q) 0 [some (.ref a0), some (.int x1)] [] h) : sCall l m_Parts_partOfColumn d mc ms [.ref a0, .int x1] h Q := sCall_of 0 (by decide +kernel) (Nat.le_of_ble_eq_true rfl) k
theorem en_Parts_areJoined {l : Launch} {d mc ms : Nat} {h : sH} {Q : Option Value → sH → Prop} {a0 : Nat} {x1 : Int32} {x2 : Int32} (k : sEv l m_Parts_areJoined d (0, 0, mc, ms) (sKm mc ms Q) 0 [some (.ref a0), some (.int x1), some (.int x2)] [] h) : sCall l m_Parts_areJoined d mc ms [.ref a0, .int x1, .int x2] h Q := sCall_of 0 (by decide +kernel) (Nat.le_of_ble_eq_true rfl) k
theorem en_Parts_product {l : Launch} {d mc ms : Nat} {h : sH} {Q : Option Value → sH → Prop} {a0 : Nat} {x1 : Nat} {x2 : Int32} {x3 : Int32} (k : sEv l m_Parts_product d (0, 0, mc, ms) (sKm mc ms Q) 0 [some (.ref a0), some (.ref x1), some (.int x2), some (.int x3)] [] h) : sCall l m_Parts_product d mc ms [.ref a0, .ref x1, .int x2, .int x3] h Q := sCall_of 0 (by decide +kernel) (Nat.le_of_ble_eq_true rfl) k
theorem en_Parts_following {l : Launch} {d mc ms : Nat} {h : sH} {Q : Option Value → sH → Prop} {a0 : Nat} {x1 : Nat} {x2 : Int32} {x3 : Int32} (k : sEv l m_Parts_following d (0, 0, mc, ms) (sKm mc ms Q) 0 [some (.ref a0), some (.ref x1), some (.int x2), some (.int x3)] [] h) : sCall l m_Parts_following d mc ms [.ref a0, .ref x1, .int x2, .int x3] h Q := sCall_of 0 (by decide +kernel) (Nat.le_of_ble_eq_true rfl) k
theorem en_Parts_rowsOf {l : Launch} {d mc ms : Nat} {h : sH} {Q : Option Value → sH → Prop} {a0 : Nat} {x1 : Int32} (k : sEv l m_Parts_rowsOf d (0, 0, mc, ms) (sKm mc ms Q) 0 [some (.ref a0), some (.int x1)] [] h) : sCall l m_Parts_rowsOf d mc ms [.ref a0, .int x1] h Q := sCall_of 0 (by decide +kernel) (Nat.le_of_ble_eq_true rfl) k
theorem en_Parts_columnsOf {l : Launch} {d mc ms : Nat} {h : sH} {Q : Option Value → sH → Prop} {a0 : Nat} {x1 : Int32} (k : sEv l m_Parts_columnsOf d (0, 0, mc, ms) (sKm mc ms Q) 0 [some (.ref a0), some (.int x1)] [] h) : sCall l m_Parts_columnsOf d mc ms [.ref a0, .int x1] h Q := sCall_of 0 (by decide +kernel) (Nat.le_of_ble_eq_true rfl) k
theorem en_Parts_membersOf {l : Launch} {d mc ms : Nat} {h : sH} {Q : Option Value → sH → Prop} {x1 : Nat} {x2 : Int32} (k : sEv l m_Parts_membersOf d (0, 0, mc, ms) (sKm mc ms Q) 0 [some (.ref x1), some (.int x2), none, none] [] h) : sCall l m_Parts_membersOf d mc ms [.ref x1, .int x2] h Q := sCall_of 2 (by decide +kernel) (Nat.le_of_ble_eq_true rfl) k
theorem en_Parts_toldIn {l : Launch} {d mc ms : Nat} {h : sH} {Q : Option Value → sH → Prop} {a0 : Nat} {x1 : Nat} {x2 : Int32} (k : sEv l m_Parts_toldIn d (0, 0, mc, ms) (sKm mc ms Q) 0 [some (.ref a0), some (.ref x1), some (.int x2), none, none] [] h) : sCall l m_Parts_toldIn d mc ms [.ref a0, .ref x1, .int x2] h Q := sCall_of 2 (by decide +kernel) (Nat.le_of_ble_eq_true rfl) k
theorem en_Parts_joinedEntries {l : Launch} {d mc ms : Nat} {h : sH} {Q : Option Value → sH → Prop} {a0 : Nat} (k : sEv l m_Parts_joinedEntries d (0, 0, mc, ms) (sKm mc ms Q) 0 [some (.ref a0), none, none] [] h) : sCall l m_Parts_joinedEntries d mc ms [.ref a0] h Q := sCall_of 2 (by decide +kernel) (Nat.le_of_ble_eq_true rfl) k
theorem en_Parts_gain {l : Launch} {d mc ms : Nat} {h : sH} {Q : Option Value → sH → Prop} {a0 : Nat} {x1 : Int32} {x2 : Int32} (k : sEv l m_Parts_gain d (0, 0, mc, ms) (sKm mc ms Q) 0 [some (.ref a0), some (.int x1), some (.int x2), none, none] [] h) : sCall l m_Parts_gain d mc ms [.ref a0, .int x1, .int x2] h Q := sCall_of 2 (by decide +kernel) (Nat.le_of_ble_eq_true rfl) k
theorem en_Rings_init {l : Launch} {d mc ms : Nat} {h : sH} {Q : Option Value → sH → Prop} {a0 : Nat} (k : sEv l m_Rings_init d (0, 0, mc, ms) (sKm mc ms Q) 0 [some (.ref a0)] [] h) : sCall l m_Rings_init d mc ms [.ref a0] h Q := sCall_of 0 (by decide +kernel) (Nat.le_of_ble_eq_true rfl) k
theorem en_Rings_search {l : Launch} {d mc ms : Nat} {h : sH} {Q : Option Value → sH → Prop} {a0 : Nat} {x1 : Nat} {x2 : Int32} {x3 : Int32} (k : sEv l m_Rings_search d (0, 0, mc, ms) (sKm mc ms Q) 0 [some (.ref a0), some (.ref x1), some (.int x2), some (.int x3), none] [] h) : sCall l m_Rings_search d mc ms [.ref a0, .ref x1, .int x2, .int x3] h Q := sCall_of 1 (by decide +kernel) (Nat.le_of_ble_eq_true rfl) k
theorem en_Rings_walk {l : Launch} {d mc ms : Nat} {h : sH} {Q : Option Value → sH → Prop} {a0 : Nat} {x1 : Int32} {x2 : Int32} {x3 : Int32} (k : sEv l m_Rings_walk d (0, 0, mc, ms) (sKm mc ms Q) 0 [some (.ref a0), some (.int x1), some (.int x2), some (.int x3), none] [] h) : sCall l m_Rings_walk d mc ms [.ref a0, .int x1, .int x2, .int x3] h Q := sCall_of 1 (by decide +kernel) (Nat.le_of_ble_eq_true rfl) k
theorem en_Rings_lead {l : Launch} {d mc ms : Nat} {h : sH} {Q : Option Value → sH → Prop} {a0 : Nat} {x1 : Int32} {x2 : Int32} {x3 : Int32} (k : sEv l m_Rings_lead d (0, 0, mc, ms) (sKm mc ms Q) 0 [some (.ref a0), some (.int x1), some (.int x2), some (.int x3), none, none, none, none, none] [] h) : sCall l m_Rings_lead d mc ms [.ref a0, .int x1, .int x2, .int x3] h Q := sCall_of 5 (by decide +kernel) (Nat.le_of_ble_eq_true rfl) k
theorem en_Rings_findRatios {l : Launch} {d mc ms : Nat} {h : sH} {Q : Option Value → sH → Prop} {a0 : Nat} {x1 : Int32} {x2 : Int32} {x3 : Int32} (k : sEv l m_Rings_findRatios d (0, 0, mc, ms) (sKm mc ms Q) 0 [some (.ref a0), some (.int x1), some (.int x2), some (.int x3), none] [] h) : sCall l m_Rings_findRatios d mc ms [.ref a0, .int x1, .int x2, .int x3] h Q := sCall_of 1 (by decide +kernel) (Nat.le_of_ble_eq_true rfl) k
theorem en_Rings_leadOn {l : Launch} {d mc ms : Nat} {h : sH} {Q : Option Value → sH → Prop} {a0 : Nat} {x1 : Int32} {x2 : Int32} (k : sEv l m_Rings_leadOn d (0, 0, mc, ms) (sKm mc ms Q) 0 [some (.ref a0), some (.int x1), some (.int x2), none, none, none, none, none, none] [] h) : sCall l m_Rings_leadOn d mc ms [.ref a0, .int x1, .int x2] h Q := sCall_of 6 (by decide +kernel) (Nat.le_of_ble_eq_true rfl) k
theorem en_Rings_forgetSetsOf {l : Launch} {d mc ms : Nat} {h : sH} {Q : Option Value → sH → Prop} {a0 : Nat} {x1 : Int32} (k : sEv l m_Rings_forgetSetsOf d (0, 0, mc, ms) (sKm mc ms Q) 0 [some (.ref a0), some (.int x1), none, none] [] h) : sCall l m_Rings_forgetSetsOf d mc ms [.ref a0, .int x1] h Q := sCall_of 2 (by decide +kernel) (Nat.le_of_ble_eq_true rfl) k
theorem en_Rings_collect {l : Launch} {d mc ms : Nat} {h : sH} {Q : Option Value → sH → Prop} {a0 : Nat} {x1 : Int32} (k : sEv l m_Rings_collect d (0, 0, mc, ms) (sKm mc ms Q) 0 [some (.ref a0), some (.int x1), none, none] [] h) : sCall l m_Rings_collect d mc ms [.ref a0, .int x1] h Q := sCall_of 2 (by decide +kernel) (Nat.le_of_ble_eq_true rfl) k
theorem en_Rings_noteWrong {l : Launch} {d mc ms : Nat} {h : sH} {Q : Option Value → sH → Prop} {a0 : Nat} {x1 : Int32} {x2 : Int32} {x3 : Int32} (k : sEv l m_Rings_noteWrong d (0, 0, mc, ms) (sKm mc ms Q) 0 [some (.ref a0), some (.int x1), some (.int x2), some (.int x3), none] [] h) : sCall l m_Rings_noteWrong d mc ms [.ref a0, .int x1, .int x2, .int x3] h Q := sCall_of 1 (by decide +kernel) (Nat.le_of_ble_eq_true rfl) k
theorem en_Rings_all {l : Launch} {d mc ms : Nat} {h : sH} {Q : Option Value → sH → Prop} {a0 : Nat} (k : sEv l m_Rings_all d (0, 0, mc, ms) (sKm mc ms Q) 0 [some (.ref a0)] [] h) : sCall l m_Rings_all d mc ms [.ref a0] h Q := sCall_of 0 (by decide +kernel) (Nat.le_of_ble_eq_true rfl) k
theorem en_Rings_wrongOnes {l : Launch} {d mc ms : Nat} {h : sH} {Q : Option Value → sH → Prop} {a0 : Nat} (k : sEv l m_Rings_wrongOnes d (0, 0, mc, ms) (sKm mc ms Q) 0 [some (.ref a0)] [] h) : sCall l m_Rings_wrongOnes d mc ms [.ref a0] h Q := sCall_of 0 (by decide +kernel) (Nat.le_of_ble_eq_true rfl) k
theorem en_Rings_wrongRows {l : Launch} {d mc ms : Nat} {h : sH} {Q : Option Value → sH → Prop} {a0 : Nat} (k : sEv l m_Rings_wrongRows d (0, 0, mc, ms) (sKm mc ms Q) 0 [some (.ref a0)] [] h) : sCall l m_Rings_wrongRows d mc ms [.ref a0] h Q := sCall_of 0 (by decide +kernel) (Nat.le_of_ble_eq_true rfl) k
theorem en_Rings_wrongColumns {l : Launch} {d mc ms : Nat} {h : sH} {Q : Option Value → sH → Prop} {a0 : Nat} (k : sEv l m_Rings_wrongColumns d (0, 0, mc, ms) (sKm mc ms Q) 0 [some (.ref a0)] [] h) : sCall l m_Rings_wrongColumns d mc ms [.ref a0] h Q := sCall_of 0 (by decide +kernel) (Nat.le_of_ble_eq_true rfl) k
theorem en_Slot_init {l : Launch} {d mc ms : Nat} {h : sH} {Q : Option Value → sH → Prop} {a0 : Nat} (k : sEv l m_Slot_init d (0, 0, mc, ms) (sKm mc ms Q) 0 [some (.ref a0)] [] h) : sCall l m_Slot_init d mc ms [.ref a0] h Q := sCall_of 0 (by decide +kernel) (Nat.le_of_ble_eq_true rfl) k
theorem en_Slot_isFilled {l : Launch} {d mc ms : Nat} {h : sH} {Q : Option Value → sH → Prop} {a0 : Nat} (k : sEv l m_Slot_isFilled d (0, 0, mc, ms) (sKm mc ms Q) 0 [some (.ref a0)] [] h) : sCall l m_Slot_isFilled d mc ms [.ref a0] h Q := sCall_of 0 (by decide +kernel) (Nat.le_of_ble_eq_true rfl) k
theorem en_Slot_keep {l : Launch} {d mc ms : Nat} {h : sH} {Q : Option Value → sH → Prop} {a0 : Nat} {x1 : Nat} (k : sEv l m_Slot_keep d (0, 0, mc, ms) (sKm mc ms Q) 0 [some (.ref a0), some (.ref x1)] [] h) : sCall l m_Slot_keep d mc ms [.ref a0, .ref x1] h Q := sCall_of 0 (by decide +kernel) (Nat.le_of_ble_eq_true rfl) k
theorem en_Slot_giveTo {l : Launch} {d mc ms : Nat} {h : sH} {Q : Option Value → sH → Prop} {a0 : Nat} {x1 : Nat} (k : sEv l m_Slot_giveTo d (0, 0, mc, ms) (sKm mc ms Q) 0 [some (.ref a0), some (.ref x1)] [] h) : sCall l m_Slot_giveTo d mc ms [.ref a0, .ref x1] h Q := sCall_of 0 (by decide +kernel) (Nat.le_of_ble_eq_true rfl) k
theorem en_O_init {l : Launch} {d mc ms : Nat} {h : sH} {Q : Option Value → sH → Prop} {a0 : Nat} (k : sEv l m_O_init d (0, 0, mc, ms) (sKm mc ms Q) 0 [some (.ref a0), none] [] h) : sCall l m_O_init d mc ms [.ref a0] h Q := sCall_of 1 (by decide +kernel) (Nat.le_of_ble_eq_true rfl) k
theorem en_O_begin {l : Launch} {d mc ms : Nat} {h : sH} {Q : Option Value → sH → Prop} {a0 : Nat} {x1 : Int32} {x2 : Int32} {x3 : Int32} (k : sEv l m_O_begin d (0, 0, mc, ms) (sKm mc ms Q) 0 [some (.ref a0), some (.int x1), some (.int x2), some (.int x3), none] [] h) : sCall l m_O_begin d mc ms [.ref a0, .int x1, .int x2, .int x3] h Q := sCall_of 1 (by decide +kernel) (Nat.le_of_ble_eq_true rfl) k
theorem en_O_tell {l : Launch} {d mc ms : Nat} {h : sH} {Q : Option Value → sH → Prop} {a0 : Nat} {x1 : Int32} {x2 : Int32} {x3 : Int32} (k : sEv l m_O_tell d (0, 0, mc, ms) (sKm mc ms Q) 0 [some (.ref a0), some (.int x1), some (.int x2), some (.int x3), none, none] [] h) : sCall l m_O_tell d mc ms [.ref a0, .int x1, .int x2, .int x3] h Q := sCall_of 2 (by decide +kernel) (Nat.le_of_ble_eq_true rfl) k
theorem en_O_tellAll {l : Launch} {d mc ms : Nat} {h : sH} {Q : Option Value → sH → Prop} {a0 : Nat} (k : sEv l m_O_tellAll d (0, 0, mc, ms) (sKm mc ms Q) 0 [some (.ref a0), none, none, none] [] h) : sCall l m_O_tellAll d mc ms [.ref a0] h Q := sCall_of 3 (by decide +kernel) (Nat.le_of_ble_eq_true rfl) k
theorem en_O_read {l : Launch} {d mc ms : Nat} {h : sH} {Q : Option Value → sH → Prop} {a0 : Nat} (k : sEv l m_O_read d (0, 0, mc, ms) (sKm mc ms Q) 0 [some (.ref a0), none, none] [] h) : sCall l m_O_read d mc ms [.ref a0] h Q := sCall_of 2 (by decide +kernel) (Nat.le_of_ble_eq_true rfl) k
theorem en_O_entry {l : Launch} {d mc ms : Nat} {h : sH} {Q : Option Value → sH → Prop} {a0 : Nat} {x1 : Int32} {x2 : Int32} {x3 : Int32} (k : sEv l m_O_entry d (0, 0, mc, ms) (sKm mc ms Q) 0 [some (.ref a0), some (.int x1), some (.int x2), some (.int x3)] [] h) : sCall l m_O_entry d mc ms [.ref a0, .int x1, .int x2, .int x3] h Q := sCall_of 0 (by decide +kernel) (Nat.le_of_ble_eq_true rfl) k
theorem en_O_part {l : Launch} {d mc ms : Nat} {h : sH} {Q : Option Value → sH → Prop} {a0 : Nat} {x1 : Int32} {x2 : Int32} (k : sEv l m_O_part d (0, 0, mc, ms) (sKm mc ms Q) 0 [some (.ref a0), some (.int x1), some (.int x2)] [] h) : sCall l m_O_part d mc ms [.ref a0, .int x1, .int x2] h Q := sCall_of 0 (by decide +kernel) (Nat.le_of_ble_eq_true rfl) k
theorem en_O_count {l : Launch} {d mc ms : Nat} {h : sH} {Q : Option Value → sH → Prop} {a0 : Nat} {x1 : Int32} (k : sEv l m_O_count d (0, 0, mc, ms) (sKm mc ms Q) 0 [some (.ref a0), some (.int x1)] [] h) : sCall l m_O_count d mc ms [.ref a0, .int x1] h Q := sCall_of 0 (by decide +kernel) (Nat.le_of_ble_eq_true rfl) k
theorem en_O_countOfParts {l : Launch} {d mc ms : Nat} {h : sH} {Q : Option Value → sH → Prop} {a0 : Nat} {x1 : Int32} (k : sEv l m_O_countOfParts d (0, 0, mc, ms) (sKm mc ms Q) 0 [some (.ref a0), some (.int x1)] [] h) : sCall l m_O_countOfParts d mc ms [.ref a0, .int x1] h Q := sCall_of 0 (by decide +kernel) (Nat.le_of_ble_eq_true rfl) k
theorem en_O_cycles {l : Launch} {d mc ms : Nat} {h : sH} {Q : Option Value → sH → Prop} {a0 : Nat} {x1 : Int32} {x2 : Int32} (k : sEv l m_O_cycles d (0, 0, mc, ms) (sKm mc ms Q) 0 [some (.ref a0), some (.int x1), some (.int x2)] [] h) : sCall l m_O_cycles d mc ms [.ref a0, .int x1, .int x2] h Q := sCall_of 0 (by decide +kernel) (Nat.le_of_ble_eq_true rfl) k
theorem en_O_wrong {l : Launch} {d mc ms : Nat} {h : sH} {Q : Option Value → sH → Prop} {a0 : Nat} {x1 : Int32} (k : sEv l m_O_wrong d (0, 0, mc, ms) (sKm mc ms Q) 0 [some (.ref a0), some (.int x1), none] [] h) : sCall l m_O_wrong d mc ms [.ref a0, .int x1] h Q := sCall_of 1 (by decide +kernel) (Nat.le_of_ble_eq_true rfl) k
theorem en_O_shortestWrongTurns {l : Launch} {d mc ms : Nat} {h : sH} {Q : Option Value → sH → Prop} {a0 : Nat} (k : sEv l m_O_shortestWrongTurns d (0, 0, mc, ms) (sKm mc ms Q) 0 [some (.ref a0), none] [] h) : sCall l m_O_shortestWrongTurns d mc ms [.ref a0] h Q := sCall_of 1 (by decide +kernel) (Nat.le_of_ble_eq_true rfl) k
theorem en_O_completions {l : Launch} {d mc ms : Nat} {h : sH} {Q : Option Value → sH → Prop} {a0 : Nat} (k : sEv l m_O_completions d (0, 0, mc, ms) (sKm mc ms Q) 0 [some (.ref a0)] [] h) : sCall l m_O_completions d mc ms [.ref a0] h Q := sCall_of 0 (by decide +kernel) (Nat.le_of_ble_eq_true rfl) k
theorem en_O_completed {l : Launch} {d mc ms : Nat} {h : sH} {Q : Option Value → sH → Prop} {a0 : Nat} {x1 : Int64} {x2 : Int32} {x3 : Int32} (k : sEv l m_O_completed d (0, 0, mc, ms) (sKm mc ms Q) 0 [some (.ref a0), some (.long x1), none, some (.int x2), some (.int x3), none, none, none] [] h) : sCall l m_O_completed d mc ms [.ref a0, .long x1, .int x2, .int x3] h Q := sCall_of 3 (by decide +kernel) (Nat.le_of_ble_eq_true rfl) k
theorem en_O_countCompletions {l : Launch} {d mc ms : Nat} {h : sH} {Q : Option Value → sH → Prop} {a0 : Nat} (k : sEv l m_O_countCompletions d (0, 0, mc, ms) (sKm mc ms Q) 0 [some (.ref a0), none, none, none] [] h) : sCall l m_O_countCompletions d mc ms [.ref a0] h Q := sCall_of 3 (by decide +kernel) (Nat.le_of_ble_eq_true rfl) k
theorem en_O_factorOf {l : Launch} {d mc ms : Nat} {h : sH} {Q : Option Value → sH → Prop} {a0 : Nat} {x1 : Int64} {x2 : Int32} (k : sEv l m_O_factorOf d (0, 0, mc, ms) (sKm mc ms Q) 0 [some (.ref a0), some (.long x1), none, some (.int x2), none, none, none, none] [] h) : sCall l m_O_factorOf d mc ms [.ref a0, .long x1, .int x2] h Q := sCall_of 4 (by decide +kernel) (Nat.le_of_ble_eq_true rfl) k
theorem en_O_isWellIf {l : Launch} {d mc ms : Nat} {h : sH} {Q : Option Value → sH → Prop} {a0 : Nat} {x1 : Int32} {x2 : Int32} {x3 : Int32} (k : sEv l m_O_isWellIf d (0, 0, mc, ms) (sKm mc ms Q) 0 [some (.ref a0), some (.int x1), some (.int x2), some (.int x3), none] [] h) : sCall l m_O_isWellIf d mc ms [.ref a0, .int x1, .int x2, .int x3] h Q := sCall_of 1 (by decide +kernel) (Nat.le_of_ble_eq_true rfl) k
theorem en_O_spoilers {l : Launch} {d mc ms : Nat} {h : sH} {Q : Option Value → sH → Prop} {a0 : Nat} (k : sEv l m_O_spoilers d (0, 0, mc, ms) (sKm mc ms Q) 0 [some (.ref a0), none, none, none, none] [] h) : sCall l m_O_spoilers d mc ms [.ref a0] h Q := sCall_of 4 (by decide +kernel) (Nat.le_of_ble_eq_true rfl) k
theorem en_O_bestEntry {l : Launch} {d mc ms : Nat} {h : sH} {Q : Option Value → sH → Prop} {a0 : Nat} {x1 : Int32} (k : sEv l m_O_bestEntry d (0, 0, mc, ms) (sKm mc ms Q) 0 [some (.ref a0), some (.int x1), none, none, none, none, none, none] [] h) : sCall l m_O_bestEntry d mc ms [.ref a0, .int x1] h Q := sCall_of 6 (by decide +kernel) (Nat.le_of_ble_eq_true rfl) k
theorem en_O_put {l : Launch} {d mc ms : Nat} {h : sH} {Q : Option Value → sH → Prop} {a0 : Nat} {x1 : Int64} (k : sEv l m_O_put d (0, 0, mc, ms) (sKm mc ms Q) 0 [some (.ref a0), some (.long x1), none, none, none] [] h) : sCall l m_O_put d mc ms [.ref a0, .long x1] h Q := sCall_of 2 (by decide +kernel) (Nat.le_of_ble_eq_true rfl) k
theorem en_O_wipe {l : Launch} {d mc ms : Nat} {h : sH} {Q : Option Value → sH → Prop} {a0 : Nat} (k : sEv l m_O_wipe d (0, 0, mc, ms) (sKm mc ms Q) 0 [some (.ref a0), none] [] h) : sCall l m_O_wipe d mc ms [.ref a0] h Q := sCall_of 1 (by decide +kernel) (Nat.le_of_ble_eq_true rfl) k
theorem en_O_fault {l : Launch} {d mc ms : Nat} {h : sH} {Q : Option Value → sH → Prop} {a0 : Nat} (k : sEv l m_O_fault d (0, 0, mc, ms) (sKm mc ms Q) 0 [some (.ref a0)] [] h) : sCall l m_O_fault d mc ms [.ref a0] h Q := sCall_of 0 (by decide +kernel) (Nat.le_of_ble_eq_true rfl) k
theorem en_O_sizeOf {l : Launch} {d mc ms : Nat} {h : sH} {Q : Option Value → sH → Prop} {x1 : Int64} (k : sEv l m_O_sizeOf d (0, 0, mc, ms) (sKm mc ms Q) 0 [some (.long x1), none, none, none, none, none] [] h) : sCall l m_O_sizeOf d mc ms [.long x1] h Q := sCall_of 4 (by decide +kernel) (Nat.le_of_ble_eq_true rfl) k
theorem en_O_undo {l : Launch} {d mc ms : Nat} {h : sH} {Q : Option Value → sH → Prop} {a0 : Nat} (k : sEv l m_O_undo d (0, 0, mc, ms) (sKm mc ms Q) 0 [some (.ref a0), none] [] h) : sCall l m_O_undo d mc ms [.ref a0] h Q := sCall_of 1 (by decide +kernel) (Nat.le_of_ble_eq_true rfl) k
theorem en_O_save {l : Launch} {d mc ms : Nat} {h : sH} {Q : Option Value → sH → Prop} {a0 : Nat} {x1 : Int32} (k : sEv l m_O_save d (0, 0, mc, ms) (sKm mc ms Q) 0 [some (.ref a0), some (.int x1), none] [] h) : sCall l m_O_save d mc ms [.ref a0, .int x1] h Q := sCall_of 1 (by decide +kernel) (Nat.le_of_ble_eq_true rfl) k
theorem en_O_restore {l : Launch} {d mc ms : Nat} {h : sH} {Q : Option Value → sH → Prop} {a0 : Nat} {x1 : Int32} (k : sEv l m_O_restore d (0, 0, mc, ms) (sKm mc ms Q) 0 [some (.ref a0), some (.int x1), none] [] h) : sCall l m_O_restore d mc ms [.ref a0, .int x1] h Q := sCall_of 1 (by decide +kernel) (Nat.le_of_ble_eq_true rfl) k
theorem en_O_slotAt {l : Launch} {d mc ms : Nat} {h : sH} {Q : Option Value → sH → Prop} {a0 : Nat} {x1 : Int32} (k : sEv l m_O_slotAt d (0, 0, mc, ms) (sKm mc ms Q) 0 [some (.ref a0), some (.int x1)] [] h) : sCall l m_O_slotAt d mc ms [.ref a0, .int x1] h Q := sCall_of 0 (by decide +kernel) (Nat.le_of_ble_eq_true rfl) k
theorem en_O_errorOfTelling {l : Launch} {d mc ms : Nat} {h : sH} {Q : Option Value → sH → Prop} {a0 : Nat} {x1 : Int32} {x2 : Int32} {x3 : Int32} (k : sEv l m_O_errorOfTelling d (0, 0, mc, ms) (sKm mc ms Q) 0 [some (.ref a0), some (.int x1), some (.int x2), some (.int x3)] [] h) : sCall l m_O_errorOfTelling d mc ms [.ref a0, .int x1, .int x2, .int x3] h Q := sCall_of 0 (by decide +kernel) (Nat.le_of_ble_eq_true rfl) k
theorem en_O_isOutside {l : Launch} {d mc ms : Nat} {h : sH} {Q : Option Value → sH → Prop} {x1 : Int32} {x2 : Int32} {x3 : Int32} (k : sEv l m_O_isOutside d (0, 0, mc, ms) (sKm mc ms Q) 0 [some (.int x1), some (.int x2), some (.int x3)] [] h) : sCall l m_O_isOutside d mc ms [.int x1, .int x2, .int x3] h Q := sCall_of 0 (by decide +kernel) (Nat.le_of_ble_eq_true rfl) k
theorem en_O_isModulus {l : Launch} {d mc ms : Nat} {h : sH} {Q : Option Value → sH → Prop} {x1 : Int32} (k : sEv l m_O_isModulus d (0, 0, mc, ms) (sKm mc ms Q) 0 [some (.int x1)] [] h) : sCall l m_O_isModulus d mc ms [.int x1] h Q := sCall_of 0 (by decide +kernel) (Nat.le_of_ble_eq_true rfl) k
theorem en_O_holds {l : Launch} {d mc ms : Nat} {h : sH} {Q : Option Value → sH → Prop} {x1 : Int32} {x2 : Int32} (k : sEv l m_O_holds d (0, 0, mc, ms) (sKm mc ms Q) 0 [some (.int x1), some (.int x2)] [] h) : sCall l m_O_holds d mc ms [.int x1, .int x2] h Q := sCall_of 0 (by decide +kernel) (Nat.le_of_ble_eq_true rfl) k
theorem en_M_init {l : Launch} {d mc ms : Nat} {h : sH} {Q : Option Value → sH → Prop} {a0 : Nat} (k : sEv l m_M_init d (0, 0, mc, ms) (sKm mc ms Q) 0 [some (.ref a0)] [] h) : sCall l m_M_init d mc ms [.ref a0] h Q := sCall_of 0 (by decide +kernel) (Nat.le_of_ble_eq_true rfl) k
theorem en_M_in {l : Launch} {d mc ms : Nat} {h : sH} {Q : Option Value → sH → Prop} {x1 : Int32} {x2 : Int32} {x3 : Int32} (k : sEv l m_M_in d (0, 0, mc, ms) (sKm mc ms Q) 0 [some (.int x1), some (.int x2), some (.int x3)] [] h) : sCall l m_M_in d mc ms [.int x1, .int x2, .int x3] h Q := sCall_of 0 (by decide +kernel) (Nat.le_of_ble_eq_true rfl) k
theorem en_M_isEntry {l : Launch} {d mc ms : Nat} {h : sH} {Q : Option Value → sH → Prop} {a0 : Nat} {x1 : Int32} {x2 : Int32} (k : sEv l m_M_isEntry d (0, 0, mc, ms) (sKm mc ms Q) 0 [some (.ref a0), some (.int x1), some (.int x2)] [] h) : sCall l m_M_isEntry d mc ms [.ref a0, .int x1, .int x2] h Q := sCall_of 0 (by decide +kernel) (Nat.le_of_ble_eq_true rfl) k
theorem en_M_record {l : Launch} {d mc ms : Nat} {h : sH} {Q : Option Value → sH → Prop} {a0 : Nat} (k : sEv l m_M_record d (0, 0, mc, ms) (sKm mc ms Q) 0 [some (.ref a0), none] [] h) : sCall l m_M_record d mc ms [.ref a0] h Q := sCall_of 1 (by decide +kernel) (Nat.le_of_ble_eq_true rfl) k
theorem en_M_undo {l : Launch} {d mc ms : Nat} {h : sH} {Q : Option Value → sH → Prop} {a0 : Nat} (k : sEv l m_M_undo d (0, 0, mc, ms) (sKm mc ms Q) 0 [some (.ref a0), none] [] h) : sCall l m_M_undo d mc ms [.ref a0] h Q := sCall_of 1 (by decide +kernel) (Nat.le_of_ble_eq_true rfl) k
theorem en_M_toldMany {l : Launch} {d mc ms : Nat} {h : sH} {Q : Option Value → sH → Prop} {a0 : Nat} (k : sEv l m_M_toldMany d (0, 0, mc, ms) (sKm mc ms Q) 0 [some (.ref a0), none, none] [] h) : sCall l m_M_toldMany d mc ms [.ref a0] h Q := sCall_of 2 (by decide +kernel) (Nat.le_of_ble_eq_true rfl) k
theorem en_M_save {l : Launch} {d mc ms : Nat} {h : sH} {Q : Option Value → sH → Prop} {a0 : Nat} {x1 : Int32} (k : sEv l m_M_save d (0, 0, mc, ms) (sKm mc ms Q) 0 [some (.ref a0), some (.int x1), none] [] h) : sCall l m_M_save d mc ms [.ref a0, .int x1] h Q := sCall_of 1 (by decide +kernel) (Nat.le_of_ble_eq_true rfl) k
theorem en_M_restore {l : Launch} {d mc ms : Nat} {h : sH} {Q : Option Value → sH → Prop} {a0 : Nat} {x1 : Int32} (k : sEv l m_M_restore d (0, 0, mc, ms) (sKm mc ms Q) 0 [some (.ref a0), some (.int x1), none] [] h) : sCall l m_M_restore d mc ms [.ref a0, .int x1] h Q := sCall_of 1 (by decide +kernel) (Nat.le_of_ble_eq_true rfl) k
theorem en_M_times {l : Launch} {d mc ms : Nat} {h : sH} {Q : Option Value → sH → Prop} {a0 : Nat} {x1 : Int32} {x2 : Int32} (k : sEv l m_M_times d (0, 0, mc, ms) (sKm mc ms Q) 0 [some (.ref a0), some (.int x1), some (.int x2)] [] h) : sCall l m_M_times d mc ms [.ref a0, .int x1, .int x2] h Q := sCall_of 0 (by decide +kernel) (Nat.le_of_ble_eq_true rfl) k
theorem en_M_over {l : Launch} {d mc ms : Nat} {h : sH} {Q : Option Value → sH → Prop} {a0 : Nat} {x1 : Int32} (k : sEv l m_M_over d (0, 0, mc, ms) (sKm mc ms Q) 0 [some (.ref a0), some (.int x1), none, none] [] h) : sCall l m_M_over d mc ms [.ref a0, .int x1] h Q := sCall_of 2 (by decide +kernel) (Nat.le_of_ble_eq_true rfl) k
theorem en_M_at {l : Launch} {d mc ms : Nat} {h : sH} {Q : Option Value → sH → Prop} {a0 : Nat} {x1 : Int32} {x2 : Int32} (k : sEv l m_M_at d (0, 0, mc, ms) (sKm mc ms Q) 0 [some (.ref a0), some (.int x1), some (.int x2)] [] h) : sCall l m_M_at d mc ms [.ref a0, .int x1, .int x2] h Q := sCall_of 0 (by decide +kernel) (Nat.le_of_ble_eq_true rfl) k
theorem en_M_spread {l : Launch} {d mc ms : Nat} {h : sH} {Q : Option Value → sH → Prop} {a0 : Nat} {x1 : Int32} (k : sEv l m_M_spread d (0, 0, mc, ms) (sKm mc ms Q) 0 [some (.ref a0), some (.int x1), none, none, none] [] h) : sCall l m_M_spread d mc ms [.ref a0, .int x1] h Q := sCall_of 3 (by decide +kernel) (Nat.le_of_ble_eq_true rfl) k
theorem en_M_layParts {l : Launch} {d mc ms : Nat} {h : sH} {Q : Option Value → sH → Prop} {a0 : Nat} (k : sEv l m_M_layParts d (0, 0, mc, ms) (sKm mc ms Q) 0 [some (.ref a0), none, none] [] h) : sCall l m_M_layParts d mc ms [.ref a0] h Q := sCall_of 2 (by decide +kernel) (Nat.le_of_ble_eq_true rfl) k
theorem en_M_isWellWith {l : Launch} {d mc ms : Nat} {h : sH} {Q : Option Value → sH → Prop} {a0 : Nat} {x1 : Int32} {x2 : Int32} (k : sEv l m_M_isWellWith d (0, 0, mc, ms) (sKm mc ms Q) 0 [some (.ref a0), some (.int x1), some (.int x2), none] [] h) : sCall l m_M_isWellWith d mc ms [.ref a0, .int x1, .int x2] h Q := sCall_of 1 (by decide +kernel) (Nat.le_of_ble_eq_true rfl) k
theorem en_M_begin {l : Launch} {d mc ms : Nat} {h : sH} {Q : Option Value → sH → Prop} {a0 : Nat} {x1 : Int32} {x2 : Int32} {x3 : Int32} (k : sEv l m_M_begin d (0, 0, mc, ms) (sKm mc ms Q) 0 [some (.ref a0), some (.int x1), some (.int x2), some (.int x3), none, none, none] [] h) : sCall l m_M_begin d mc ms [.ref a0, .int x1, .int x2, .int x3] h Q := sCall_of 3 (by decide +kernel) (Nat.le_of_ble_eq_true rfl) k
theorem en_M_tell {l : Launch} {d mc ms : Nat} {h : sH} {Q : Option Value → sH → Prop} {a0 : Nat} {x1 : Int32} {x2 : Int32} {x3 : Int32} (k : sEv l m_M_tell d (0, 0, mc, ms) (sKm mc ms Q) 0 [some (.ref a0), some (.int x1), some (.int x2), some (.int x3), none] [] h) : sCall l m_M_tell d mc ms [.ref a0, .int x1, .int x2, .int x3] h Q := sCall_of 1 (by decide +kernel) (Nat.le_of_ble_eq_true rfl) k
theorem en_M_tellAll {l : Launch} {d mc ms : Nat} {h : sH} {Q : Option Value → sH → Prop} {a0 : Nat} (k : sEv l m_M_tellAll d (0, 0, mc, ms) (sKm mc ms Q) 0 [some (.ref a0), none, none, none] [] h) : sCall l m_M_tellAll d mc ms [.ref a0] h Q := sCall_of 3 (by decide +kernel) (Nat.le_of_ble_eq_true rfl) k
theorem en_M_follows {l : Launch} {d mc ms : Nat} {h : sH} {Q : Option Value → sH → Prop} {a0 : Nat} {x1 : Int32} {x2 : Int32} (k : sEv l m_M_follows d (0, 0, mc, ms) (sKm mc ms Q) 0 [some (.ref a0), some (.int x1), some (.int x2)] [] h) : sCall l m_M_follows d mc ms [.ref a0, .int x1, .int x2] h Q := sCall_of 0 (by decide +kernel) (Nat.le_of_ble_eq_true rfl) k
theorem en_M_followsWithout {l : Launch} {d mc ms : Nat} {h : sH} {Q : Option Value → sH → Prop} {a0 : Nat} {x1 : Int32} {x2 : Int32} (k : sEv l m_M_followsWithout d (0, 0, mc, ms) (sKm mc ms Q) 0 [some (.ref a0), some (.int x1), some (.int x2), none, none] [] h) : sCall l m_M_followsWithout d mc ms [.ref a0, .int x1, .int x2] h Q := sCall_of 2 (by decide +kernel) (Nat.le_of_ble_eq_true rfl) k
theorem en_M_minorsWith {l : Launch} {d mc ms : Nat} {h : sH} {Q : Option Value → sH → Prop} {a0 : Nat} {x1 : Int32} {x2 : Int32} (k : sEv l m_M_minorsWith d (0, 0, mc, ms) (sKm mc ms Q) 0 [some (.ref a0), some (.int x1), some (.int x2), none, none, none] [] h) : sCall l m_M_minorsWith d mc ms [.ref a0, .int x1, .int x2] h Q := sCall_of 3 (by decide +kernel) (Nat.le_of_ble_eq_true rfl) k
theorem en_M_entry {l : Launch} {d mc ms : Nat} {h : sH} {Q : Option Value → sH → Prop} {a0 : Nat} {x1 : Int32} {x2 : Int32} {x3 : Int32} (k : sEv l m_M_entry d (0, 0, mc, ms) (sKm mc ms Q) 0 [some (.ref a0), some (.int x1), some (.int x2), some (.int x3)] [] h) : sCall l m_M_entry d mc ms [.ref a0, .int x1, .int x2, .int x3] h Q := sCall_of 0 (by decide +kernel) (Nat.le_of_ble_eq_true rfl) k
theorem en_M_rowsOf {l : Launch} {d mc ms : Nat} {h : sH} {Q : Option Value → sH → Prop} {a0 : Nat} {x1 : Int32} (k : sEv l m_M_rowsOf d (0, 0, mc, ms) (sKm mc ms Q) 0 [some (.ref a0), some (.int x1), none, none] [] h) : sCall l m_M_rowsOf d mc ms [.ref a0, .int x1] h Q := sCall_of 2 (by decide +kernel) (Nat.le_of_ble_eq_true rfl) k
theorem en_M_columnsOf {l : Launch} {d mc ms : Nat} {h : sH} {Q : Option Value → sH → Prop} {a0 : Nat} {x1 : Int32} (k : sEv l m_M_columnsOf d (0, 0, mc, ms) (sKm mc ms Q) 0 [some (.ref a0), some (.int x1), none, none] [] h) : sCall l m_M_columnsOf d mc ms [.ref a0, .int x1] h Q := sCall_of 2 (by decide +kernel) (Nat.le_of_ble_eq_true rfl) k
theorem en_M_toldIn {l : Launch} {d mc ms : Nat} {h : sH} {Q : Option Value → sH → Prop} {a0 : Nat} {x1 : Int32} (k : sEv l m_M_toldIn d (0, 0, mc, ms) (sKm mc ms Q) 0 [some (.ref a0), some (.int x1), none, none, none] [] h) : sCall l m_M_toldIn d mc ms [.ref a0, .int x1] h Q := sCall_of 3 (by decide +kernel) (Nat.le_of_ble_eq_true rfl) k
theorem en_M_part {l : Launch} {d mc ms : Nat} {h : sH} {Q : Option Value → sH → Prop} {a0 : Nat} {x1 : Int32} {x2 : Int32} (k : sEv l m_M_part d (0, 0, mc, ms) (sKm mc ms Q) 0 [some (.ref a0), some (.int x1), some (.int x2)] [] h) : sCall l m_M_part d mc ms [.ref a0, .int x1, .int x2] h Q := sCall_of 0 (by decide +kernel) (Nat.le_of_ble_eq_true rfl) k
theorem en_M_inParts {l : Launch} {d mc ms : Nat} {h : sH} {Q : Option Value → sH → Prop} {a0 : Nat} (k : sEv l m_M_inParts d (0, 0, mc, ms) (sKm mc ms Q) 0 [some (.ref a0), none, none, none] [] h) : sCall l m_M_inParts d mc ms [.ref a0] h Q := sCall_of 3 (by decide +kernel) (Nat.le_of_ble_eq_true rfl) k
theorem en_M_minors {l : Launch} {d mc ms : Nat} {h : sH} {Q : Option Value → sH → Prop} {a0 : Nat} {x1 : Int32} (k : sEv l m_M_minors d (0, 0, mc, ms) (sKm mc ms Q) 0 [some (.ref a0), some (.int x1), none, none, none, none, none, none, none] [] h) : sCall l m_M_minors d mc ms [.ref a0, .int x1] h Q := sCall_of 7 (by decide +kernel) (Nat.le_of_ble_eq_true rfl) k
theorem en_M_areTold {l : Launch} {d mc ms : Nat} {h : sH} {Q : Option Value → sH → Prop} {a0 : Nat} {x1 : Int32} {x2 : Int32} (k : sEv l m_M_areTold d (0, 0, mc, ms) (sKm mc ms Q) 0 [some (.ref a0), some (.int x1), some (.int x2), none, none] [] h) : sCall l m_M_areTold d mc ms [.ref a0, .int x1, .int x2] h Q := sCall_of 2 (by decide +kernel) (Nat.le_of_ble_eq_true rfl) k
theorem en_M_clearBy {l : Launch} {d mc ms : Nat} {h : sH} {Q : Option Value → sH → Prop} {a0 : Nat} {x1 : Int32} {x2 : Int32} {x3 : Int32} {x4 : Int32} (k : sEv l m_M_clearBy d (0, 0, mc, ms) (sKm mc ms Q) 0 [some (.ref a0), some (.int x1), some (.int x2), some (.int x3), some (.int x4), none, none, none] [] h) : sCall l m_M_clearBy d mc ms [.ref a0, .int x1, .int x2, .int x3, .int x4] h Q := sCall_of 3 (by decide +kernel) (Nat.le_of_ble_eq_true rfl) k
theorem en_M_exchange {l : Launch} {d mc ms : Nat} {h : sH} {Q : Option Value → sH → Prop} {a0 : Nat} {x1 : Int32} {x2 : Int32} {x3 : Int32} (k : sEv l m_M_exchange d (0, 0, mc, ms) (sKm mc ms Q) 0 [some (.ref a0), some (.int x1), some (.int x2), some (.int x3), none, none] [] h) : sCall l m_M_exchange d mc ms [.ref a0, .int x1, .int x2, .int x3] h Q := sCall_of 2 (by decide +kernel) (Nat.le_of_ble_eq_true rfl) k
theorem en_M_rankOf {l : Launch} {d mc ms : Nat} {h : sH} {Q : Option Value → sH → Prop} {a0 : Nat} {x1 : Int32} {x2 : Int32} (k : sEv l m_M_rankOf d (0, 0, mc, ms) (sKm mc ms Q) 0 [some (.ref a0), some (.int x1), some (.int x2), none, none, none, none] [] h) : sCall l m_M_rankOf d mc ms [.ref a0, .int x1, .int x2] h Q := sCall_of 4 (by decide +kernel) (Nat.le_of_ble_eq_true rfl) k
theorem en_M_rankBy {l : Launch} {d mc ms : Nat} {h : sH} {Q : Option Value → sH → Prop} {a0 : Nat} {x1 : Int32} (k : sEv l m_M_rankBy d (0, 0, mc, ms) (sKm mc ms Q) 0 [some (.ref a0), some (.int x1), none, none, none, none] [] h) : sCall l m_M_rankBy d mc ms [.ref a0, .int x1] h Q := sCall_of 4 (by decide +kernel) (Nat.le_of_ble_eq_true rfl) k
theorem en_M_rankBound {l : Launch} {d mc ms : Nat} {h : sH} {Q : Option Value → sH → Prop} {a0 : Nat} (k : sEv l m_M_rankBound d (0, 0, mc, ms) (sKm mc ms Q) 0 [some (.ref a0), none, none, none] [] h) : sCall l m_M_rankBound d mc ms [.ref a0] h Q := sCall_of 3 (by decide +kernel) (Nat.le_of_ble_eq_true rfl) k
theorem en_M_count {l : Launch} {d mc ms : Nat} {h : sH} {Q : Option Value → sH → Prop} {a0 : Nat} {x1 : Int32} (k : sEv l m_M_count d (0, 0, mc, ms) (sKm mc ms Q) 0 [some (.ref a0), some (.int x1)] [] h) : sCall l m_M_count d mc ms [.ref a0, .int x1] h Q := sCall_of 0 (by decide +kernel) (Nat.le_of_ble_eq_true rfl) k
theorem en_M_isWrong {l : Launch} {d mc ms : Nat} {h : sH} {Q : Option Value → sH → Prop} {a0 : Nat} {x1 : Int32} (k : sEv l m_M_isWrong d (0, 0, mc, ms) (sKm mc ms Q) 0 [some (.ref a0), some (.int x1), none, none, none, none] [] h) : sCall l m_M_isWrong d mc ms [.ref a0, .int x1] h Q := sCall_of 4 (by decide +kernel) (Nat.le_of_ble_eq_true rfl) k
theorem en_M_meet {l : Launch} {d mc ms : Nat} {h : sH} {Q : Option Value → sH → Prop} {a0 : Nat} {x1 : Int32} (k : sEv l m_M_meet d (0, 0, mc, ms) (sKm mc ms Q) 0 [some (.ref a0), some (.int x1), none, none, none] [] h) : sCall l m_M_meet d mc ms [.ref a0, .int x1] h Q := sCall_of 3 (by decide +kernel) (Nat.le_of_ble_eq_true rfl) k
theorem en_M_canStand {l : Launch} {d mc ms : Nat} {h : sH} {Q : Option Value → sH → Prop} {a0 : Nat} {x1 : Int32} {x2 : Int32} (k : sEv l m_M_canStand d (0, 0, mc, ms) (sKm mc ms Q) 0 [some (.ref a0), some (.int x1), some (.int x2), none, none] [] h) : sCall l m_M_canStand d mc ms [.ref a0, .int x1, .int x2] h Q := sCall_of 2 (by decide +kernel) (Nat.le_of_ble_eq_true rfl) k
theorem en_M_goCycles {l : Launch} {d mc ms : Nat} {h : sH} {Q : Option Value → sH → Prop} {a0 : Nat} {x1 : Int32} (k : sEv l m_M_goCycles d (0, 0, mc, ms) (sKm mc ms Q) 0 [some (.ref a0), some (.int x1), none, none] [] h) : sCall l m_M_goCycles d mc ms [.ref a0, .int x1] h Q := sCall_of 2 (by decide +kernel) (Nat.le_of_ble_eq_true rfl) k
theorem en_M_cycles {l : Launch} {d mc ms : Nat} {h : sH} {Q : Option Value → sH → Prop} {a0 : Nat} {x1 : Int32} {x2 : Int32} (k : sEv l m_M_cycles d (0, 0, mc, ms) (sKm mc ms Q) 0 [some (.ref a0), some (.int x1), some (.int x2)] [] h) : sCall l m_M_cycles d mc ms [.ref a0, .int x1, .int x2] h Q := sCall_of 0 (by decide +kernel) (Nat.le_of_ble_eq_true rfl) k
theorem en_M_wrong {l : Launch} {d mc ms : Nat} {h : sH} {Q : Option Value → sH → Prop} {a0 : Nat} {x1 : Int32} (k : sEv l m_M_wrong d (0, 0, mc, ms) (sKm mc ms Q) 0 [some (.ref a0), some (.int x1), none] [] h) : sCall l m_M_wrong d mc ms [.ref a0, .int x1] h Q := sCall_of 1 (by decide +kernel) (Nat.le_of_ble_eq_true rfl) k
theorem en_M_completions {l : Launch} {d mc ms : Nat} {h : sH} {Q : Option Value → sH → Prop} {a0 : Nat} (k : sEv l m_M_completions d (0, 0, mc, ms) (sKm mc ms Q) 0 [some (.ref a0), none, none, none] [] h) : sCall l m_M_completions d mc ms [.ref a0] h Q := sCall_of 3 (by decide +kernel) (Nat.le_of_ble_eq_true rfl) k
theorem en_M_factorOf {l : Launch} {d mc ms : Nat} {h : sH} {Q : Option Value → sH → Prop} {a0 : Nat} {x1 : Int64} {x2 : Int32} (k : sEv l m_M_factorOf d (0, 0, mc, ms) (sKm mc ms Q) 0 [some (.ref a0), some (.long x1), none, some (.int x2), none, none, none] [] h) : sCall l m_M_factorOf d mc ms [.ref a0, .long x1, .int x2] h Q := sCall_of 3 (by decide +kernel) (Nat.le_of_ble_eq_true rfl) k
theorem en_M_completed {l : Launch} {d mc ms : Nat} {h : sH} {Q : Option Value → sH → Prop} {a0 : Nat} {x1 : Int64} {x2 : Int32} {x3 : Int32} (k : sEv l m_M_completed d (0, 0, mc, ms) (sKm mc ms Q) 0 [some (.ref a0), some (.long x1), none, some (.int x2), some (.int x3), none, none] [] h) : sCall l m_M_completed d mc ms [.ref a0, .long x1, .int x2, .int x3] h Q := sCall_of 2 (by decide +kernel) (Nat.le_of_ble_eq_true rfl) k
theorem en_M_isWellIf {l : Launch} {d mc ms : Nat} {h : sH} {Q : Option Value → sH → Prop} {a0 : Nat} {x1 : Int32} {x2 : Int32} {x3 : Int32} (k : sEv l m_M_isWellIf d (0, 0, mc, ms) (sKm mc ms Q) 0 [some (.ref a0), some (.int x1), some (.int x2), some (.int x3)] [] h) : sCall l m_M_isWellIf d mc ms [.ref a0, .int x1, .int x2, .int x3] h Q := sCall_of 0 (by decide +kernel) (Nat.le_of_ble_eq_true rfl) k
theorem en_M_spoilers {l : Launch} {d mc ms : Nat} {h : sH} {Q : Option Value → sH → Prop} {a0 : Nat} (k : sEv l m_M_spoilers d (0, 0, mc, ms) (sKm mc ms Q) 0 [some (.ref a0), none, none, none, none] [] h) : sCall l m_M_spoilers d mc ms [.ref a0] h Q := sCall_of 4 (by decide +kernel) (Nat.le_of_ble_eq_true rfl) k
theorem en_M_bits {l : Launch} {d mc ms : Nat} {h : sH} {Q : Option Value → sH → Prop} {x1 : Int32} (k : sEv l m_M_bits d (0, 0, mc, ms) (sKm mc ms Q) 0 [some (.int x1), none, none] [] h) : sCall l m_M_bits d mc ms [.int x1] h Q := sCall_of 2 (by decide +kernel) (Nat.le_of_ble_eq_true rfl) k
theorem en_M_gain {l : Launch} {d mc ms : Nat} {h : sH} {Q : Option Value → sH → Prop} {a0 : Nat} {x1 : Int32} {x2 : Int32} (k : sEv l m_M_gain d (0, 0, mc, ms) (sKm mc ms Q) 0 [some (.ref a0), some (.int x1), some (.int x2)] [] h) : sCall l m_M_gain d mc ms [.ref a0, .int x1, .int x2] h Q := sCall_of 0 (by decide +kernel) (Nat.le_of_ble_eq_true rfl) k
theorem en_M_bestEntry {l : Launch} {d mc ms : Nat} {h : sH} {Q : Option Value → sH → Prop} {a0 : Nat} {x1 : Int32} (k : sEv l m_M_bestEntry d (0, 0, mc, ms) (sKm mc ms Q) 0 [some (.ref a0), some (.int x1), none, none, none, none, none] [] h) : sCall l m_M_bestEntry d mc ms [.ref a0, .int x1] h Q := sCall_of 5 (by decide +kernel) (Nat.le_of_ble_eq_true rfl) k
theorem en_M_put {l : Launch} {d mc ms : Nat} {h : sH} {Q : Option Value → sH → Prop} {a0 : Nat} {x1 : Int64} (k : sEv l m_M_put d (0, 0, mc, ms) (sKm mc ms Q) 0 [some (.ref a0), some (.long x1), none, none, none, none, none, none] [] h) : sCall l m_M_put d mc ms [.ref a0, .long x1] h Q := sCall_of 5 (by decide +kernel) (Nat.le_of_ble_eq_true rfl) k
theorem en_M_wipe {l : Launch} {d mc ms : Nat} {h : sH} {Q : Option Value → sH → Prop} {a0 : Nat} (k : sEv l m_M_wipe d (0, 0, mc, ms) (sKm mc ms Q) 0 [some (.ref a0), none] [] h) : sCall l m_M_wipe d mc ms [.ref a0] h Q := sCall_of 1 (by decide +kernel) (Nat.le_of_ble_eq_true rfl) k
theorem en_M_numberOf {l : Launch} {d mc ms : Nat} {h : sH} {Q : Option Value → sH → Prop} {x1 : Int32} (k : sEv l m_M_numberOf d (0, 0, mc, ms) (sKm mc ms Q) 0 [some (.int x1)] [] h) : sCall l m_M_numberOf d mc ms [.int x1] h Q := sCall_of 0 (by decide +kernel) (Nat.le_of_ble_eq_true rfl) k
theorem en_M_readPad {l : Launch} {d mc ms : Nat} {h : sH} {Q : Option Value → sH → Prop} {a0 : Nat} (k : sEv l m_M_readPad d (0, 0, mc, ms) (sKm mc ms Q) 0 [some (.ref a0), none, none, none, none] [] h) : sCall l m_M_readPad d mc ms [.ref a0] h Q := sCall_of 4 (by decide +kernel) (Nat.le_of_ble_eq_true rfl) k
theorem en_M_fault {l : Launch} {d mc ms : Nat} {h : sH} {Q : Option Value → sH → Prop} {a0 : Nat} (k : sEv l m_M_fault d (0, 0, mc, ms) (sKm mc ms Q) 0 [some (.ref a0)] [] h) : sCall l m_M_fault d mc ms [.ref a0] h Q := sCall_of 0 (by decide +kernel) (Nat.le_of_ble_eq_true rfl) k
theorem en_M_read {l : Launch} {d mc ms : Nat} {h : sH} {Q : Option Value → sH → Prop} {a0 : Nat} (k : sEv l m_M_read d (0, 0, mc, ms) (sKm mc ms Q) 0 [some (.ref a0), none, none] [] h) : sCall l m_M_read d mc ms [.ref a0] h Q := sCall_of 2 (by decide +kernel) (Nat.le_of_ble_eq_true rfl) k
theorem en_Int_bitCount {l : Launch} {d mc ms : Nat} {h : sH} {Q : Option Value → sH → Prop} {x1 : Int32} (k : sEv l m_Int_bitCount d (0, 0, mc, ms) (sKm mc ms Q) 0 [some (.int x1)] [] h) : sCall l m_Int_bitCount d mc ms [.int x1] h Q := sCall_of 0 (by decide +kernel) (Nat.le_of_ble_eq_true rfl) k
end
section
/-! ===== printed by wip/whole/links.py: each instruction, decoded ===== -/
theorem D_Grid_init_0 : decode m_Grid_init.2.1 0 = .ok (.aload_n 0, 1) := by decide +kernel
theorem D_Grid_init_1 : decode m_Grid_init.2.1 1 = .ok (.invokespecial 3, 3) := by decide +kernel
theorem D_Grid_init_4 : decode m_Grid_init.2.1 4 = .ok (.aload_n 0, 1) := by decide +kernel
theorem D_Grid_init_5 : decode m_Grid_init.2.1 5 = .ok (.new 9, 3) := by decide +kernel
theorem D_Grid_init_8 : decode m_Grid_init.2.1 8 = .ok (.dup, 1) := by decide +kernel
theorem D_Grid_init_9 : decode m_Grid_init.2.1 9 = .ok (.bipush 36, 2) := by decide +kernel
theorem D_Grid_init_11 : decode m_Grid_init.2.1 11 = .ok (.invokespecial 11, 3) := by decide +kernel
theorem D_Grid_init_14 : decode m_Grid_init.2.1 14 = .ok (.putfield 14, 3) := by decide +kernel
theorem D_Grid_init_17 : decode m_Grid_init.2.1 17 = .ok (.aload_n 0, 1) := by decide +kernel
theorem D_Grid_init_18 : decode m_Grid_init.2.1 18 = .ok (.iconst 3, 1) := by decide +kernel
theorem D_Grid_init_19 : decode m_Grid_init.2.1 19 = .ok (.putfield 20, 3) := by decide +kernel
theorem D_Grid_init_22 : decode m_Grid_init.2.1 22 = .ok (.aload_n 0, 1) := by decide +kernel
theorem D_Grid_init_23 : decode m_Grid_init.2.1 23 = .ok (.iconst 3, 1) := by decide +kernel
theorem D_Grid_init_24 : decode m_Grid_init.2.1 24 = .ok (.putfield 24, 3) := by decide +kernel
theorem D_Grid_init_27 : decode m_Grid_init.2.1 27 = .ok (.aload_n 0, 1) := by decide +kernel
theorem D_Grid_init_28 : decode m_Grid_init.2.1 28 = .ok (.bipush 7, 2) := by decide +kernel
theorem D_Grid_init_30 : decode m_Grid_init.2.1 30 = .ok (.putfield 27, 3) := by decide +kernel
theorem D_Grid_init_33 : decode m_Grid_init.2.1 33 = .ok (.return_, 1) := by decide +kernel
theorem D_Grid_rows_0 : decode m_Grid_rows.2.1 0 = .ok (.aload_n 0, 1) := by decide +kernel
theorem D_Grid_rows_1 : decode m_Grid_rows.2.1 1 = .ok (.getfield 20, 3) := by decide +kernel
theorem D_Grid_rows_4 : decode m_Grid_rows.2.1 4 = .ok (.ireturn, 1) := by decide +kernel
theorem D_Grid_columns_0 : decode m_Grid_columns.2.1 0 = .ok (.aload_n 0, 1) := by decide +kernel
theorem D_Grid_columns_1 : decode m_Grid_columns.2.1 1 = .ok (.getfield 24, 3) := by decide +kernel
theorem D_Grid_columns_4 : decode m_Grid_columns.2.1 4 = .ok (.ireturn, 1) := by decide +kernel
theorem D_Grid_modulus_0 : decode m_Grid_modulus.2.1 0 = .ok (.aload_n 0, 1) := by decide +kernel
theorem D_Grid_modulus_1 : decode m_Grid_modulus.2.1 1 = .ok (.getfield 27, 3) := by decide +kernel
theorem D_Grid_modulus_4 : decode m_Grid_modulus.2.1 4 = .ok (.ireturn, 1) := by decide +kernel
theorem D_Grid_clear_0 : decode m_Grid_clear.2.1 0 = .ok (.aload_n 0, 1) := by decide +kernel
theorem D_Grid_clear_1 : decode m_Grid_clear.2.1 1 = .ok (.iload_n 1, 1) := by decide +kernel
theorem D_Grid_clear_2 : decode m_Grid_clear.2.1 2 = .ok (.putfield 20, 3) := by decide +kernel
theorem D_Grid_clear_5 : decode m_Grid_clear.2.1 5 = .ok (.aload_n 0, 1) := by decide +kernel
theorem D_Grid_clear_6 : decode m_Grid_clear.2.1 6 = .ok (.iload_n 2, 1) := by decide +kernel
theorem D_Grid_clear_7 : decode m_Grid_clear.2.1 7 = .ok (.putfield 24, 3) := by decide +kernel
theorem D_Grid_clear_10 : decode m_Grid_clear.2.1 10 = .ok (.aload_n 0, 1) := by decide +kernel
theorem D_Grid_clear_11 : decode m_Grid_clear.2.1 11 = .ok (.iload_n 3, 1) := by decide +kernel
theorem D_Grid_clear_12 : decode m_Grid_clear.2.1 12 = .ok (.putfield 27, 3) := by decide +kernel
theorem D_Grid_clear_15 : decode m_Grid_clear.2.1 15 = .ok (.aload_n 0, 1) := by decide +kernel
theorem D_Grid_clear_16 : decode m_Grid_clear.2.1 16 = .ok (.getfield 14, 3) := by decide +kernel
theorem D_Grid_clear_19 : decode m_Grid_clear.2.1 19 = .ok (.iconst 0, 1) := by decide +kernel
theorem D_Grid_clear_20 : decode m_Grid_clear.2.1 20 = .ok (.invokevirtual 30, 3) := by decide +kernel
theorem D_Grid_clear_23 : decode m_Grid_clear.2.1 23 = .ok (.return_, 1) := by decide +kernel
theorem D_Grid_copyFrom_0 : decode m_Grid_copyFrom.2.1 0 = .ok (.aload_n 0, 1) := by decide +kernel
theorem D_Grid_copyFrom_1 : decode m_Grid_copyFrom.2.1 1 = .ok (.aload_n 1, 1) := by decide +kernel
theorem D_Grid_copyFrom_2 : decode m_Grid_copyFrom.2.1 2 = .ok (.getfield 20, 3) := by decide +kernel
theorem D_Grid_copyFrom_5 : decode m_Grid_copyFrom.2.1 5 = .ok (.putfield 20, 3) := by decide +kernel
theorem D_Grid_copyFrom_8 : decode m_Grid_copyFrom.2.1 8 = .ok (.aload_n 0, 1) := by decide +kernel
theorem D_Grid_copyFrom_9 : decode m_Grid_copyFrom.2.1 9 = .ok (.aload_n 1, 1) := by decide +kernel
theorem D_Grid_copyFrom_10 : decode m_Grid_copyFrom.2.1 10 = .ok (.getfield 24, 3) := by decide +kernel
theorem D_Grid_copyFrom_13 : decode m_Grid_copyFrom.2.1 13 = .ok (.putfield 24, 3) := by decide +kernel
theorem D_Grid_copyFrom_16 : decode m_Grid_copyFrom.2.1 16 = .ok (.aload_n 0, 1) := by decide +kernel
theorem D_Grid_copyFrom_17 : decode m_Grid_copyFrom.2.1 17 = .ok (.aload_n 1, 1) := by decide +kernel
theorem D_Grid_copyFrom_18 : decode m_Grid_copyFrom.2.1 18 = .ok (.getfield 27, 3) := by decide +kernel
theorem D_Grid_copyFrom_21 : decode m_Grid_copyFrom.2.1 21 = .ok (.putfield 27, 3) := by decide +kernel
theorem D_Grid_copyFrom_24 : decode m_Grid_copyFrom.2.1 24 = .ok (.aload_n 0, 1) := by decide +kernel
theorem D_Grid_copyFrom_25 : decode m_Grid_copyFrom.2.1 25 = .ok (.getfield 14, 3) := by decide +kernel
theorem D_Grid_copyFrom_28 : decode m_Grid_copyFrom.2.1 28 = .ok (.aload_n 1, 1) := by decide +kernel
theorem D_Grid_copyFrom_29 : decode m_Grid_copyFrom.2.1 29 = .ok (.getfield 14, 3) := by decide +kernel
theorem D_Grid_copyFrom_32 : decode m_Grid_copyFrom.2.1 32 = .ok (.invokevirtual 33, 3) := by decide +kernel
theorem D_Grid_copyFrom_35 : decode m_Grid_copyFrom.2.1 35 = .ok (.return_, 1) := by decide +kernel
theorem D_Grid_has_0 : decode m_Grid_has.2.1 0 = .ok (.iload_n 1, 1) := by decide +kernel
theorem D_Grid_has_1 : decode m_Grid_has.2.1 1 = .ok (.ifCond .lt 27, 3) := by decide +kernel
theorem D_Grid_has_4 : decode m_Grid_has.2.1 4 = .ok (.iload_n 1, 1) := by decide +kernel
theorem D_Grid_has_5 : decode m_Grid_has.2.1 5 = .ok (.aload_n 0, 1) := by decide +kernel
theorem D_Grid_has_6 : decode m_Grid_has.2.1 6 = .ok (.getfield 20, 3) := by decide +kernel
theorem D_Grid_has_9 : decode m_Grid_has.2.1 9 = .ok (.if_icmp .ge 19, 3) := by decide +kernel
theorem D_Grid_has_12 : decode m_Grid_has.2.1 12 = .ok (.iload_n 2, 1) := by decide +kernel
theorem D_Grid_has_13 : decode m_Grid_has.2.1 13 = .ok (.ifCond .lt 15, 3) := by decide +kernel
theorem D_Grid_has_16 : decode m_Grid_has.2.1 16 = .ok (.iload_n 2, 1) := by decide +kernel
theorem D_Grid_has_17 : decode m_Grid_has.2.1 17 = .ok (.aload_n 0, 1) := by decide +kernel
theorem D_Grid_has_18 : decode m_Grid_has.2.1 18 = .ok (.getfield 24, 3) := by decide +kernel
theorem D_Grid_has_21 : decode m_Grid_has.2.1 21 = .ok (.if_icmp .ge 7, 3) := by decide +kernel
theorem D_Grid_has_24 : decode m_Grid_has.2.1 24 = .ok (.iconst 1, 1) := by decide +kernel
theorem D_Grid_has_25 : decode m_Grid_has.2.1 25 = .ok (.goto 4, 3) := by decide +kernel
theorem D_Grid_has_28 : decode m_Grid_has.2.1 28 = .ok (.iconst 0, 1) := by decide +kernel
theorem D_Grid_has_29 : decode m_Grid_has.2.1 29 = .ok (.ireturn, 1) := by decide +kernel
theorem D_Grid_number_0 : decode m_Grid_number.2.1 0 = .ok (.aload_n 0, 1) := by decide +kernel
theorem D_Grid_number_1 : decode m_Grid_number.2.1 1 = .ok (.iload_n 1, 1) := by decide +kernel
theorem D_Grid_number_2 : decode m_Grid_number.2.1 2 = .ok (.iload_n 2, 1) := by decide +kernel
theorem D_Grid_number_3 : decode m_Grid_number.2.1 3 = .ok (.invokevirtual 37, 3) := by decide +kernel
theorem D_Grid_number_6 : decode m_Grid_number.2.1 6 = .ok (.ifCond .eq 19, 3) := by decide +kernel
theorem D_Grid_number_9 : decode m_Grid_number.2.1 9 = .ok (.aload_n 0, 1) := by decide +kernel
theorem D_Grid_number_10 : decode m_Grid_number.2.1 10 = .ok (.getfield 14, 3) := by decide +kernel
theorem D_Grid_number_13 : decode m_Grid_number.2.1 13 = .ok (.bipush 6, 2) := by decide +kernel
theorem D_Grid_number_15 : decode m_Grid_number.2.1 15 = .ok (.iload_n 1, 1) := by decide +kernel
theorem D_Grid_number_16 : decode m_Grid_number.2.1 16 = .ok (.imul, 1) := by decide +kernel
theorem D_Grid_number_17 : decode m_Grid_number.2.1 17 = .ok (.iload_n 2, 1) := by decide +kernel
theorem D_Grid_number_18 : decode m_Grid_number.2.1 18 = .ok (.iadd, 1) := by decide +kernel
theorem D_Grid_number_19 : decode m_Grid_number.2.1 19 = .ok (.invokevirtual 41, 3) := by decide +kernel
theorem D_Grid_number_22 : decode m_Grid_number.2.1 22 = .ok (.goto 4, 3) := by decide +kernel
theorem D_Grid_number_25 : decode m_Grid_number.2.1 25 = .ok (.iconst 0, 1) := by decide +kernel
theorem D_Grid_number_26 : decode m_Grid_number.2.1 26 = .ok (.ireturn, 1) := by decide +kernel
theorem D_Grid_setNumber_0 : decode m_Grid_setNumber.2.1 0 = .ok (.aload_n 0, 1) := by decide +kernel
theorem D_Grid_setNumber_1 : decode m_Grid_setNumber.2.1 1 = .ok (.iload_n 1, 1) := by decide +kernel
theorem D_Grid_setNumber_2 : decode m_Grid_setNumber.2.1 2 = .ok (.iload_n 2, 1) := by decide +kernel
theorem D_Grid_setNumber_3 : decode m_Grid_setNumber.2.1 3 = .ok (.invokevirtual 37, 3) := by decide +kernel
theorem D_Grid_setNumber_6 : decode m_Grid_setNumber.2.1 6 = .ok (.ifCond .eq 17, 3) := by decide +kernel
theorem D_Grid_setNumber_9 : decode m_Grid_setNumber.2.1 9 = .ok (.aload_n 0, 1) := by decide +kernel
theorem D_Grid_setNumber_10 : decode m_Grid_setNumber.2.1 10 = .ok (.getfield 14, 3) := by decide +kernel
theorem D_Grid_setNumber_13 : decode m_Grid_setNumber.2.1 13 = .ok (.bipush 6, 2) := by decide +kernel
theorem D_Grid_setNumber_15 : decode m_Grid_setNumber.2.1 15 = .ok (.iload_n 1, 1) := by decide +kernel
theorem D_Grid_setNumber_16 : decode m_Grid_setNumber.2.1 16 = .ok (.imul, 1) := by decide +kernel
theorem D_Grid_setNumber_17 : decode m_Grid_setNumber.2.1 17 = .ok (.iload_n 2, 1) := by decide +kernel
theorem D_Grid_setNumber_18 : decode m_Grid_setNumber.2.1 18 = .ok (.iadd, 1) := by decide +kernel
theorem D_Grid_setNumber_19 : decode m_Grid_setNumber.2.1 19 = .ok (.iload_n 3, 1) := by decide +kernel
theorem D_Grid_setNumber_20 : decode m_Grid_setNumber.2.1 20 = .ok (.invokevirtual 45, 3) := by decide +kernel
theorem D_Grid_setNumber_23 : decode m_Grid_setNumber.2.1 23 = .ok (.return_, 1) := by decide +kernel
theorem D_Grid_toldInRow_0 : decode m_Grid_toldInRow.2.1 0 = .ok (.iconst 0, 1) := by decide +kernel
theorem D_Grid_toldInRow_1 : decode m_Grid_toldInRow.2.1 1 = .ok (.istore_n 2, 1) := by decide +kernel
theorem D_Grid_toldInRow_2 : decode m_Grid_toldInRow.2.1 2 = .ok (.iconst 0, 1) := by decide +kernel
theorem D_Grid_toldInRow_3 : decode m_Grid_toldInRow.2.1 3 = .ok (.istore_n 3, 1) := by decide +kernel
theorem D_Grid_toldInRow_4 : decode m_Grid_toldInRow.2.1 4 = .ok (.iload_n 3, 1) := by decide +kernel
theorem D_Grid_toldInRow_5 : decode m_Grid_toldInRow.2.1 5 = .ok (.aload_n 0, 1) := by decide +kernel
theorem D_Grid_toldInRow_6 : decode m_Grid_toldInRow.2.1 6 = .ok (.getfield 24, 3) := by decide +kernel
theorem D_Grid_toldInRow_9 : decode m_Grid_toldInRow.2.1 9 = .ok (.if_icmp .ge 24, 3) := by decide +kernel
theorem D_Grid_toldInRow_12 : decode m_Grid_toldInRow.2.1 12 = .ok (.aload_n 0, 1) := by decide +kernel
theorem D_Grid_toldInRow_13 : decode m_Grid_toldInRow.2.1 13 = .ok (.iload_n 1, 1) := by decide +kernel
theorem D_Grid_toldInRow_14 : decode m_Grid_toldInRow.2.1 14 = .ok (.iload_n 3, 1) := by decide +kernel
theorem D_Grid_toldInRow_15 : decode m_Grid_toldInRow.2.1 15 = .ok (.invokevirtual 49, 3) := by decide +kernel
theorem D_Grid_toldInRow_18 : decode m_Grid_toldInRow.2.1 18 = .ok (.ifCond .eq 9, 3) := by decide +kernel
theorem D_Grid_toldInRow_21 : decode m_Grid_toldInRow.2.1 21 = .ok (.iload_n 2, 1) := by decide +kernel
theorem D_Grid_toldInRow_22 : decode m_Grid_toldInRow.2.1 22 = .ok (.iconst 1, 1) := by decide +kernel
theorem D_Grid_toldInRow_23 : decode m_Grid_toldInRow.2.1 23 = .ok (.iload_n 3, 1) := by decide +kernel
theorem D_Grid_toldInRow_24 : decode m_Grid_toldInRow.2.1 24 = .ok (.ishl, 1) := by decide +kernel
theorem D_Grid_toldInRow_25 : decode m_Grid_toldInRow.2.1 25 = .ok (.ior, 1) := by decide +kernel
theorem D_Grid_toldInRow_26 : decode m_Grid_toldInRow.2.1 26 = .ok (.istore_n 2, 1) := by decide +kernel
theorem D_Grid_toldInRow_27 : decode m_Grid_toldInRow.2.1 27 = .ok (.iinc 3 1, 3) := by decide +kernel
theorem D_Grid_toldInRow_30 : decode m_Grid_toldInRow.2.1 30 = .ok (.goto (-26), 3) := by decide +kernel
theorem D_Grid_toldInRow_33 : decode m_Grid_toldInRow.2.1 33 = .ok (.iload_n 2, 1) := by decide +kernel
theorem D_Grid_toldInRow_34 : decode m_Grid_toldInRow.2.1 34 = .ok (.ireturn, 1) := by decide +kernel
theorem D_Grid_toldCount_0 : decode m_Grid_toldCount.2.1 0 = .ok (.iconst 0, 1) := by decide +kernel
theorem D_Grid_toldCount_1 : decode m_Grid_toldCount.2.1 1 = .ok (.istore_n 1, 1) := by decide +kernel
theorem D_Grid_toldCount_2 : decode m_Grid_toldCount.2.1 2 = .ok (.iconst 0, 1) := by decide +kernel
theorem D_Grid_toldCount_3 : decode m_Grid_toldCount.2.1 3 = .ok (.istore_n 2, 1) := by decide +kernel
theorem D_Grid_toldCount_4 : decode m_Grid_toldCount.2.1 4 = .ok (.iload_n 2, 1) := by decide +kernel
theorem D_Grid_toldCount_5 : decode m_Grid_toldCount.2.1 5 = .ok (.aload_n 0, 1) := by decide +kernel
theorem D_Grid_toldCount_6 : decode m_Grid_toldCount.2.1 6 = .ok (.getfield 20, 3) := by decide +kernel
theorem D_Grid_toldCount_9 : decode m_Grid_toldCount.2.1 9 = .ok (.if_icmp .ge 20, 3) := by decide +kernel
theorem D_Grid_toldCount_12 : decode m_Grid_toldCount.2.1 12 = .ok (.iload_n 1, 1) := by decide +kernel
theorem D_Grid_toldCount_13 : decode m_Grid_toldCount.2.1 13 = .ok (.aload_n 0, 1) := by decide +kernel
theorem D_Grid_toldCount_14 : decode m_Grid_toldCount.2.1 14 = .ok (.iload_n 2, 1) := by decide +kernel
theorem D_Grid_toldCount_15 : decode m_Grid_toldCount.2.1 15 = .ok (.invokevirtual 53, 3) := by decide +kernel
theorem D_Grid_toldCount_18 : decode m_Grid_toldCount.2.1 18 = .ok (.invokestatic 56, 3) := by decide +kernel
theorem D_Grid_toldCount_21 : decode m_Grid_toldCount.2.1 21 = .ok (.iadd, 1) := by decide +kernel
theorem D_Grid_toldCount_22 : decode m_Grid_toldCount.2.1 22 = .ok (.istore_n 1, 1) := by decide +kernel
theorem D_Grid_toldCount_23 : decode m_Grid_toldCount.2.1 23 = .ok (.iinc 2 1, 3) := by decide +kernel
theorem D_Grid_toldCount_26 : decode m_Grid_toldCount.2.1 26 = .ok (.goto (-22), 3) := by decide +kernel
theorem D_Grid_toldCount_29 : decode m_Grid_toldCount.2.1 29 = .ok (.iload_n 1, 1) := by decide +kernel
theorem D_Grid_toldCount_30 : decode m_Grid_toldCount.2.1 30 = .ok (.ireturn, 1) := by decide +kernel
theorem D_Grid_product_0 : decode m_Grid_product.2.1 0 = .ok (.aload_n 0, 1) := by decide +kernel
theorem D_Grid_product_1 : decode m_Grid_product.2.1 1 = .ok (.getfield 27, 3) := by decide +kernel
theorem D_Grid_product_4 : decode m_Grid_product.2.1 4 = .ok (.ifCond .le 14, 3) := by decide +kernel
theorem D_Grid_product_7 : decode m_Grid_product.2.1 7 = .ok (.iload_n 1, 1) := by decide +kernel
theorem D_Grid_product_8 : decode m_Grid_product.2.1 8 = .ok (.iload_n 2, 1) := by decide +kernel
theorem D_Grid_product_9 : decode m_Grid_product.2.1 9 = .ok (.imul, 1) := by decide +kernel
theorem D_Grid_product_10 : decode m_Grid_product.2.1 10 = .ok (.aload_n 0, 1) := by decide +kernel
theorem D_Grid_product_11 : decode m_Grid_product.2.1 11 = .ok (.getfield 27, 3) := by decide +kernel
theorem D_Grid_product_14 : decode m_Grid_product.2.1 14 = .ok (.irem, 1) := by decide +kernel
theorem D_Grid_product_15 : decode m_Grid_product.2.1 15 = .ok (.goto 4, 3) := by decide +kernel
theorem D_Grid_product_18 : decode m_Grid_product.2.1 18 = .ok (.iconst 0, 1) := by decide +kernel
theorem D_Grid_product_19 : decode m_Grid_product.2.1 19 = .ok (.ireturn, 1) := by decide +kernel
theorem D_Grid_remainder_0 : decode m_Grid_remainder.2.1 0 = .ok (.aload_n 0, 1) := by decide +kernel
theorem D_Grid_remainder_1 : decode m_Grid_remainder.2.1 1 = .ok (.getfield 27, 3) := by decide +kernel
theorem D_Grid_remainder_4 : decode m_Grid_remainder.2.1 4 = .ok (.ifCond .le 12, 3) := by decide +kernel
theorem D_Grid_remainder_7 : decode m_Grid_remainder.2.1 7 = .ok (.iload_n 1, 1) := by decide +kernel
theorem D_Grid_remainder_8 : decode m_Grid_remainder.2.1 8 = .ok (.aload_n 0, 1) := by decide +kernel
theorem D_Grid_remainder_9 : decode m_Grid_remainder.2.1 9 = .ok (.getfield 27, 3) := by decide +kernel
theorem D_Grid_remainder_12 : decode m_Grid_remainder.2.1 12 = .ok (.irem, 1) := by decide +kernel
theorem D_Grid_remainder_13 : decode m_Grid_remainder.2.1 13 = .ok (.goto 4, 3) := by decide +kernel
theorem D_Grid_remainder_16 : decode m_Grid_remainder.2.1 16 = .ok (.iconst 0, 1) := by decide +kernel
theorem D_Grid_remainder_17 : decode m_Grid_remainder.2.1 17 = .ok (.ireturn, 1) := by decide +kernel
theorem D_Grid_quotient_0 : decode m_Grid_quotient.2.1 0 = .ok (.iconst 0, 1) := by decide +kernel
theorem D_Grid_quotient_1 : decode m_Grid_quotient.2.1 1 = .ok (.istore_n 3, 1) := by decide +kernel
theorem D_Grid_quotient_2 : decode m_Grid_quotient.2.1 2 = .ok (.iload_n 3, 1) := by decide +kernel
theorem D_Grid_quotient_3 : decode m_Grid_quotient.2.1 3 = .ok (.aload_n 0, 1) := by decide +kernel
theorem D_Grid_quotient_4 : decode m_Grid_quotient.2.1 4 = .ok (.getfield 27, 3) := by decide +kernel
theorem D_Grid_quotient_7 : decode m_Grid_quotient.2.1 7 = .ok (.if_icmp .ge 21, 3) := by decide +kernel
theorem D_Grid_quotient_10 : decode m_Grid_quotient.2.1 10 = .ok (.aload_n 0, 1) := by decide +kernel
theorem D_Grid_quotient_11 : decode m_Grid_quotient.2.1 11 = .ok (.iload_n 3, 1) := by decide +kernel
theorem D_Grid_quotient_12 : decode m_Grid_quotient.2.1 12 = .ok (.iload_n 2, 1) := by decide +kernel
theorem D_Grid_quotient_13 : decode m_Grid_quotient.2.1 13 = .ok (.invokevirtual 61, 3) := by decide +kernel
theorem D_Grid_quotient_16 : decode m_Grid_quotient.2.1 16 = .ok (.iload_n 1, 1) := by decide +kernel
theorem D_Grid_quotient_17 : decode m_Grid_quotient.2.1 17 = .ok (.if_icmp .ne 5, 3) := by decide +kernel
theorem D_Grid_quotient_20 : decode m_Grid_quotient.2.1 20 = .ok (.iload_n 3, 1) := by decide +kernel
theorem D_Grid_quotient_21 : decode m_Grid_quotient.2.1 21 = .ok (.ireturn, 1) := by decide +kernel
theorem D_Grid_quotient_22 : decode m_Grid_quotient.2.1 22 = .ok (.iinc 3 1, 3) := by decide +kernel
theorem D_Grid_quotient_25 : decode m_Grid_quotient.2.1 25 = .ok (.goto (-23), 3) := by decide +kernel
theorem D_Grid_quotient_28 : decode m_Grid_quotient.2.1 28 = .ok (.iconst 0, 1) := by decide +kernel
theorem D_Grid_quotient_29 : decode m_Grid_quotient.2.1 29 = .ok (.ireturn, 1) := by decide +kernel
theorem D_Hist_init_0 : decode m_Hist_init.2.1 0 = .ok (.aload_n 0, 1) := by decide +kernel
theorem D_Hist_init_1 : decode m_Hist_init.2.1 1 = .ok (.invokespecial 3, 3) := by decide +kernel
theorem D_Hist_init_4 : decode m_Hist_init.2.1 4 = .ok (.aload_n 0, 1) := by decide +kernel
theorem D_Hist_init_5 : decode m_Hist_init.2.1 5 = .ok (.bipush 6, 2) := by decide +kernel
theorem D_Hist_init_7 : decode m_Hist_init.2.1 7 = .ok (.anewarray 9, 3) := by decide +kernel
theorem D_Hist_init_10 : decode m_Hist_init.2.1 10 = .ok (.putfield 11, 3) := by decide +kernel
theorem D_Hist_init_13 : decode m_Hist_init.2.1 13 = .ok (.iconst 0, 1) := by decide +kernel
theorem D_Hist_init_14 : decode m_Hist_init.2.1 14 = .ok (.istore_n 1, 1) := by decide +kernel
theorem D_Hist_init_15 : decode m_Hist_init.2.1 15 = .ok (.iload_n 1, 1) := by decide +kernel
theorem D_Hist_init_16 : decode m_Hist_init.2.1 16 = .ok (.aload_n 0, 1) := by decide +kernel
theorem D_Hist_init_17 : decode m_Hist_init.2.1 17 = .ok (.getfield 11, 3) := by decide +kernel
theorem D_Hist_init_20 : decode m_Hist_init.2.1 20 = .ok (.arraylength, 1) := by decide +kernel
theorem D_Hist_init_21 : decode m_Hist_init.2.1 21 = .ok (.if_icmp .ge 22, 3) := by decide +kernel
theorem D_Hist_init_24 : decode m_Hist_init.2.1 24 = .ok (.aload_n 0, 1) := by decide +kernel
theorem D_Hist_init_25 : decode m_Hist_init.2.1 25 = .ok (.getfield 11, 3) := by decide +kernel
theorem D_Hist_init_28 : decode m_Hist_init.2.1 28 = .ok (.iload_n 1, 1) := by decide +kernel
theorem D_Hist_init_29 : decode m_Hist_init.2.1 29 = .ok (.new 9, 3) := by decide +kernel
theorem D_Hist_init_32 : decode m_Hist_init.2.1 32 = .ok (.dup, 1) := by decide +kernel
theorem D_Hist_init_33 : decode m_Hist_init.2.1 33 = .ok (.invokespecial 17, 3) := by decide +kernel
theorem D_Hist_init_36 : decode m_Hist_init.2.1 36 = .ok (.aastore, 1) := by decide +kernel
theorem D_Hist_init_37 : decode m_Hist_init.2.1 37 = .ok (.iinc 1 1, 3) := by decide +kernel
theorem D_Hist_init_40 : decode m_Hist_init.2.1 40 = .ok (.goto (-25), 3) := by decide +kernel
theorem D_Hist_init_43 : decode m_Hist_init.2.1 43 = .ok (.return_, 1) := by decide +kernel
theorem D_Hist_size_0 : decode m_Hist_size.2.1 0 = .ok (.aload_n 0, 1) := by decide +kernel
theorem D_Hist_size_1 : decode m_Hist_size.2.1 1 = .ok (.getfield 18, 3) := by decide +kernel
theorem D_Hist_size_4 : decode m_Hist_size.2.1 4 = .ok (.ireturn, 1) := by decide +kernel
theorem D_Hist_record_0 : decode m_Hist_record.2.1 0 = .ok (.aload_n 0, 1) := by decide +kernel
theorem D_Hist_record_1 : decode m_Hist_record.2.1 1 = .ok (.getfield 18, 3) := by decide +kernel
theorem D_Hist_record_4 : decode m_Hist_record.2.1 4 = .ok (.bipush 6, 2) := by decide +kernel
theorem D_Hist_record_6 : decode m_Hist_record.2.1 6 = .ok (.if_icmp .ne 26, 3) := by decide +kernel
theorem D_Hist_record_9 : decode m_Hist_record.2.1 9 = .ok (.aload_n 0, 1) := by decide +kernel
theorem D_Hist_record_10 : decode m_Hist_record.2.1 10 = .ok (.aload_n 0, 1) := by decide +kernel
theorem D_Hist_record_11 : decode m_Hist_record.2.1 11 = .ok (.getfield 22, 3) := by decide +kernel
theorem D_Hist_record_14 : decode m_Hist_record.2.1 14 = .ok (.iconst 1, 1) := by decide +kernel
theorem D_Hist_record_15 : decode m_Hist_record.2.1 15 = .ok (.iadd, 1) := by decide +kernel
theorem D_Hist_record_16 : decode m_Hist_record.2.1 16 = .ok (.bipush 6, 2) := by decide +kernel
theorem D_Hist_record_18 : decode m_Hist_record.2.1 18 = .ok (.irem, 1) := by decide +kernel
theorem D_Hist_record_19 : decode m_Hist_record.2.1 19 = .ok (.putfield 22, 3) := by decide +kernel
theorem D_Hist_record_22 : decode m_Hist_record.2.1 22 = .ok (.aload_n 0, 1) := by decide +kernel
theorem D_Hist_record_23 : decode m_Hist_record.2.1 23 = .ok (.dup, 1) := by decide +kernel
theorem D_Hist_record_24 : decode m_Hist_record.2.1 24 = .ok (.getfield 18, 3) := by decide +kernel
theorem D_Hist_record_27 : decode m_Hist_record.2.1 27 = .ok (.iconst 1, 1) := by decide +kernel
theorem D_Hist_record_28 : decode m_Hist_record.2.1 28 = .ok (.isub, 1) := by decide +kernel
theorem D_Hist_record_29 : decode m_Hist_record.2.1 29 = .ok (.putfield 18, 3) := by decide +kernel
theorem D_Hist_record_32 : decode m_Hist_record.2.1 32 = .ok (.aload_n 0, 1) := by decide +kernel
theorem D_Hist_record_33 : decode m_Hist_record.2.1 33 = .ok (.aload_n 0, 1) := by decide +kernel
theorem D_Hist_record_34 : decode m_Hist_record.2.1 34 = .ok (.getfield 18, 3) := by decide +kernel
theorem D_Hist_record_37 : decode m_Hist_record.2.1 37 = .ok (.invokevirtual 25, 3) := by decide +kernel
theorem D_Hist_record_40 : decode m_Hist_record.2.1 40 = .ok (.astore_n 2, 1) := by decide +kernel
theorem D_Hist_record_41 : decode m_Hist_record.2.1 41 = .ok (.aload_n 2, 1) := by decide +kernel
theorem D_Hist_record_42 : decode m_Hist_record.2.1 42 = .ok (.ifnull 18, 3) := by decide +kernel
theorem D_Hist_record_45 : decode m_Hist_record.2.1 45 = .ok (.aload_n 2, 1) := by decide +kernel
theorem D_Hist_record_46 : decode m_Hist_record.2.1 46 = .ok (.aload_n 1, 1) := by decide +kernel
theorem D_Hist_record_47 : decode m_Hist_record.2.1 47 = .ok (.invokevirtual 29, 3) := by decide +kernel
theorem D_Hist_record_50 : decode m_Hist_record.2.1 50 = .ok (.aload_n 0, 1) := by decide +kernel
theorem D_Hist_record_51 : decode m_Hist_record.2.1 51 = .ok (.dup, 1) := by decide +kernel
theorem D_Hist_record_52 : decode m_Hist_record.2.1 52 = .ok (.getfield 18, 3) := by decide +kernel
theorem D_Hist_record_55 : decode m_Hist_record.2.1 55 = .ok (.iconst 1, 1) := by decide +kernel
theorem D_Hist_record_56 : decode m_Hist_record.2.1 56 = .ok (.iadd, 1) := by decide +kernel
theorem D_Hist_record_57 : decode m_Hist_record.2.1 57 = .ok (.putfield 18, 3) := by decide +kernel
theorem D_Hist_record_60 : decode m_Hist_record.2.1 60 = .ok (.return_, 1) := by decide +kernel
theorem D_Hist_takeLatest_0 : decode m_Hist_takeLatest.2.1 0 = .ok (.aload_n 0, 1) := by decide +kernel
theorem D_Hist_takeLatest_1 : decode m_Hist_takeLatest.2.1 1 = .ok (.getfield 18, 3) := by decide +kernel
theorem D_Hist_takeLatest_4 : decode m_Hist_takeLatest.2.1 4 = .ok (.ifCond .ne 5, 3) := by decide +kernel
theorem D_Hist_takeLatest_7 : decode m_Hist_takeLatest.2.1 7 = .ok (.aconst_null, 1) := by decide +kernel
theorem D_Hist_takeLatest_8 : decode m_Hist_takeLatest.2.1 8 = .ok (.areturn, 1) := by decide +kernel
theorem D_Hist_takeLatest_9 : decode m_Hist_takeLatest.2.1 9 = .ok (.aload_n 0, 1) := by decide +kernel
theorem D_Hist_takeLatest_10 : decode m_Hist_takeLatest.2.1 10 = .ok (.dup, 1) := by decide +kernel
theorem D_Hist_takeLatest_11 : decode m_Hist_takeLatest.2.1 11 = .ok (.getfield 18, 3) := by decide +kernel
theorem D_Hist_takeLatest_14 : decode m_Hist_takeLatest.2.1 14 = .ok (.iconst 1, 1) := by decide +kernel
theorem D_Hist_takeLatest_15 : decode m_Hist_takeLatest.2.1 15 = .ok (.isub, 1) := by decide +kernel
theorem D_Hist_takeLatest_16 : decode m_Hist_takeLatest.2.1 16 = .ok (.putfield 18, 3) := by decide +kernel
theorem D_Hist_takeLatest_19 : decode m_Hist_takeLatest.2.1 19 = .ok (.aload_n 0, 1) := by decide +kernel
theorem D_Hist_takeLatest_20 : decode m_Hist_takeLatest.2.1 20 = .ok (.aload_n 0, 1) := by decide +kernel
theorem D_Hist_takeLatest_21 : decode m_Hist_takeLatest.2.1 21 = .ok (.getfield 18, 3) := by decide +kernel
theorem D_Hist_takeLatest_24 : decode m_Hist_takeLatest.2.1 24 = .ok (.invokevirtual 25, 3) := by decide +kernel
theorem D_Hist_takeLatest_27 : decode m_Hist_takeLatest.2.1 27 = .ok (.areturn, 1) := by decide +kernel
theorem D_Hist_pastAt_0 : decode m_Hist_pastAt.2.1 0 = .ok (.aload_n 0, 1) := by decide +kernel
theorem D_Hist_pastAt_1 : decode m_Hist_pastAt.2.1 1 = .ok (.getfield 22, 3) := by decide +kernel
theorem D_Hist_pastAt_4 : decode m_Hist_pastAt.2.1 4 = .ok (.iload_n 1, 1) := by decide +kernel
theorem D_Hist_pastAt_5 : decode m_Hist_pastAt.2.1 5 = .ok (.iadd, 1) := by decide +kernel
theorem D_Hist_pastAt_6 : decode m_Hist_pastAt.2.1 6 = .ok (.bipush 6, 2) := by decide +kernel
theorem D_Hist_pastAt_8 : decode m_Hist_pastAt.2.1 8 = .ok (.irem, 1) := by decide +kernel
theorem D_Hist_pastAt_9 : decode m_Hist_pastAt.2.1 9 = .ok (.istore_n 2, 1) := by decide +kernel
theorem D_Hist_pastAt_10 : decode m_Hist_pastAt.2.1 10 = .ok (.iload_n 2, 1) := by decide +kernel
theorem D_Hist_pastAt_11 : decode m_Hist_pastAt.2.1 11 = .ok (.ifCond .lt 21, 3) := by decide +kernel
theorem D_Hist_pastAt_14 : decode m_Hist_pastAt.2.1 14 = .ok (.iload_n 2, 1) := by decide +kernel
theorem D_Hist_pastAt_15 : decode m_Hist_pastAt.2.1 15 = .ok (.aload_n 0, 1) := by decide +kernel
theorem D_Hist_pastAt_16 : decode m_Hist_pastAt.2.1 16 = .ok (.getfield 11, 3) := by decide +kernel
theorem D_Hist_pastAt_19 : decode m_Hist_pastAt.2.1 19 = .ok (.arraylength, 1) := by decide +kernel
theorem D_Hist_pastAt_20 : decode m_Hist_pastAt.2.1 20 = .ok (.if_icmp .ge 12, 3) := by decide +kernel
theorem D_Hist_pastAt_23 : decode m_Hist_pastAt.2.1 23 = .ok (.aload_n 0, 1) := by decide +kernel
theorem D_Hist_pastAt_24 : decode m_Hist_pastAt.2.1 24 = .ok (.getfield 11, 3) := by decide +kernel
theorem D_Hist_pastAt_27 : decode m_Hist_pastAt.2.1 27 = .ok (.iload_n 2, 1) := by decide +kernel
theorem D_Hist_pastAt_28 : decode m_Hist_pastAt.2.1 28 = .ok (.aaload, 1) := by decide +kernel
theorem D_Hist_pastAt_29 : decode m_Hist_pastAt.2.1 29 = .ok (.goto 4, 3) := by decide +kernel
theorem D_Hist_pastAt_32 : decode m_Hist_pastAt.2.1 32 = .ok (.aconst_null, 1) := by decide +kernel
theorem D_Hist_pastAt_33 : decode m_Hist_pastAt.2.1 33 = .ok (.areturn, 1) := by decide +kernel
theorem D_Min_init_0 : decode m_Min_init.2.1 0 = .ok (.aload_n 0, 1) := by decide +kernel
theorem D_Min_init_1 : decode m_Min_init.2.1 1 = .ok (.invokespecial 3, 3) := by decide +kernel
theorem D_Min_init_4 : decode m_Min_init.2.1 4 = .ok (.aload_n 0, 1) := by decide +kernel
theorem D_Min_init_5 : decode m_Min_init.2.1 5 = .ok (.new 9, 3) := by decide +kernel
theorem D_Min_init_8 : decode m_Min_init.2.1 8 = .ok (.dup, 1) := by decide +kernel
theorem D_Min_init_9 : decode m_Min_init.2.1 9 = .ok (.bipush 36, 2) := by decide +kernel
theorem D_Min_init_11 : decode m_Min_init.2.1 11 = .ok (.invokespecial 11, 3) := by decide +kernel
theorem D_Min_init_14 : decode m_Min_init.2.1 14 = .ok (.putfield 14, 3) := by decide +kernel
theorem D_Min_init_17 : decode m_Min_init.2.1 17 = .ok (.return_, 1) := by decide +kernel
theorem D_Min_countAll_0 : decode m_Min_countAll.2.1 0 = .ok (.iconst 0, 1) := by decide +kernel
theorem D_Min_countAll_1 : decode m_Min_countAll.2.1 1 = .ok (.istore_n 3, 1) := by decide +kernel
theorem D_Min_countAll_2 : decode m_Min_countAll.2.1 2 = .ok (.iconst 0, 1) := by decide +kernel
theorem D_Min_countAll_3 : decode m_Min_countAll.2.1 3 = .ok (.istore 4, 2) := by decide +kernel
theorem D_Min_countAll_5 : decode m_Min_countAll.2.1 5 = .ok (.iload 4, 2) := by decide +kernel
theorem D_Min_countAll_7 : decode m_Min_countAll.2.1 7 = .ok (.aload_n 1, 1) := by decide +kernel
theorem D_Min_countAll_8 : decode m_Min_countAll.2.1 8 = .ok (.invokevirtual 20, 3) := by decide +kernel
theorem D_Min_countAll_11 : decode m_Min_countAll.2.1 11 = .ok (.if_icmp .ge 40, 3) := by decide +kernel
theorem D_Min_countAll_14 : decode m_Min_countAll.2.1 14 = .ok (.iconst 0, 1) := by decide +kernel
theorem D_Min_countAll_15 : decode m_Min_countAll.2.1 15 = .ok (.istore 5, 2) := by decide +kernel
theorem D_Min_countAll_17 : decode m_Min_countAll.2.1 17 = .ok (.iload 5, 2) := by decide +kernel
theorem D_Min_countAll_19 : decode m_Min_countAll.2.1 19 = .ok (.aload_n 1, 1) := by decide +kernel
theorem D_Min_countAll_20 : decode m_Min_countAll.2.1 20 = .ok (.invokevirtual 26, 3) := by decide +kernel
theorem D_Min_countAll_23 : decode m_Min_countAll.2.1 23 = .ok (.if_icmp .ge 22, 3) := by decide +kernel
theorem D_Min_countAll_26 : decode m_Min_countAll.2.1 26 = .ok (.iload_n 3, 1) := by decide +kernel
theorem D_Min_countAll_27 : decode m_Min_countAll.2.1 27 = .ok (.aload_n 0, 1) := by decide +kernel
theorem D_Min_countAll_28 : decode m_Min_countAll.2.1 28 = .ok (.aload_n 1, 1) := by decide +kernel
theorem D_Min_countAll_29 : decode m_Min_countAll.2.1 29 = .ok (.iload 4, 2) := by decide +kernel
theorem D_Min_countAll_31 : decode m_Min_countAll.2.1 31 = .ok (.iload 5, 2) := by decide +kernel
theorem D_Min_countAll_33 : decode m_Min_countAll.2.1 33 = .ok (.iload_n 2, 1) := by decide +kernel
theorem D_Min_countAll_34 : decode m_Min_countAll.2.1 34 = .ok (.invokevirtual 29, 3) := by decide +kernel
theorem D_Min_countAll_37 : decode m_Min_countAll.2.1 37 = .ok (.iadd, 1) := by decide +kernel
theorem D_Min_countAll_38 : decode m_Min_countAll.2.1 38 = .ok (.istore_n 3, 1) := by decide +kernel
theorem D_Min_countAll_39 : decode m_Min_countAll.2.1 39 = .ok (.iinc 5 1, 3) := by decide +kernel
theorem D_Min_countAll_42 : decode m_Min_countAll.2.1 42 = .ok (.goto (-25), 3) := by decide +kernel
theorem D_Min_countAll_45 : decode m_Min_countAll.2.1 45 = .ok (.iinc 4 1, 3) := by decide +kernel
theorem D_Min_countAll_48 : decode m_Min_countAll.2.1 48 = .ok (.goto (-43), 3) := by decide +kernel
theorem D_Min_countAll_51 : decode m_Min_countAll.2.1 51 = .ok (.iload_n 3, 1) := by decide +kernel
theorem D_Min_countAll_52 : decode m_Min_countAll.2.1 52 = .ok (.ireturn, 1) := by decide +kernel
theorem D_Min_countBelow_0 : decode m_Min_countBelow.2.1 0 = .ok (.iconst 0, 1) := by decide +kernel
theorem D_Min_countBelow_1 : decode m_Min_countBelow.2.1 1 = .ok (.istore 5, 2) := by decide +kernel
theorem D_Min_countBelow_3 : decode m_Min_countBelow.2.1 3 = .ok (.iload_n 2, 1) := by decide +kernel
theorem D_Min_countBelow_4 : decode m_Min_countBelow.2.1 4 = .ok (.iconst 1, 1) := by decide +kernel
theorem D_Min_countBelow_5 : decode m_Min_countBelow.2.1 5 = .ok (.iadd, 1) := by decide +kernel
theorem D_Min_countBelow_6 : decode m_Min_countBelow.2.1 6 = .ok (.istore 6, 2) := by decide +kernel
theorem D_Min_countBelow_8 : decode m_Min_countBelow.2.1 8 = .ok (.iload 6, 2) := by decide +kernel
theorem D_Min_countBelow_10 : decode m_Min_countBelow.2.1 10 = .ok (.aload_n 1, 1) := by decide +kernel
theorem D_Min_countBelow_11 : decode m_Min_countBelow.2.1 11 = .ok (.invokevirtual 20, 3) := by decide +kernel
theorem D_Min_countBelow_14 : decode m_Min_countBelow.2.1 14 = .ok (.if_icmp .ge 63, 3) := by decide +kernel
theorem D_Min_countBelow_17 : decode m_Min_countBelow.2.1 17 = .ok (.iload_n 3, 1) := by decide +kernel
theorem D_Min_countBelow_18 : decode m_Min_countBelow.2.1 18 = .ok (.iconst 1, 1) := by decide +kernel
theorem D_Min_countBelow_19 : decode m_Min_countBelow.2.1 19 = .ok (.iadd, 1) := by decide +kernel
theorem D_Min_countBelow_20 : decode m_Min_countBelow.2.1 20 = .ok (.istore 7, 2) := by decide +kernel
theorem D_Min_countBelow_22 : decode m_Min_countBelow.2.1 22 = .ok (.iload 7, 2) := by decide +kernel
theorem D_Min_countBelow_24 : decode m_Min_countBelow.2.1 24 = .ok (.aload_n 1, 1) := by decide +kernel
theorem D_Min_countBelow_25 : decode m_Min_countBelow.2.1 25 = .ok (.invokevirtual 26, 3) := by decide +kernel
theorem D_Min_countBelow_28 : decode m_Min_countBelow.2.1 28 = .ok (.if_icmp .ge 43, 3) := by decide +kernel
theorem D_Min_countBelow_31 : decode m_Min_countBelow.2.1 31 = .ok (.aload_n 1, 1) := by decide +kernel
theorem D_Min_countBelow_32 : decode m_Min_countBelow.2.1 32 = .ok (.iload_n 2, 1) := by decide +kernel
theorem D_Min_countBelow_33 : decode m_Min_countBelow.2.1 33 = .ok (.iload 6, 2) := by decide +kernel
theorem D_Min_countBelow_35 : decode m_Min_countBelow.2.1 35 = .ok (.iload_n 3, 1) := by decide +kernel
theorem D_Min_countBelow_36 : decode m_Min_countBelow.2.1 36 = .ok (.iload 7, 2) := by decide +kernel
theorem D_Min_countBelow_38 : decode m_Min_countBelow.2.1 38 = .ok (.invokestatic 33, 3) := by decide +kernel
theorem D_Min_countBelow_41 : decode m_Min_countBelow.2.1 41 = .ok (.ifCond .eq 24, 3) := by decide +kernel
theorem D_Min_countBelow_44 : decode m_Min_countBelow.2.1 44 = .ok (.iload 4, 2) := by decide +kernel
theorem D_Min_countBelow_46 : decode m_Min_countBelow.2.1 46 = .ok (.ifCond .eq 16, 3) := by decide +kernel
theorem D_Min_countBelow_49 : decode m_Min_countBelow.2.1 49 = .ok (.aload_n 1, 1) := by decide +kernel
theorem D_Min_countBelow_50 : decode m_Min_countBelow.2.1 50 = .ok (.iload_n 2, 1) := by decide +kernel
theorem D_Min_countBelow_51 : decode m_Min_countBelow.2.1 51 = .ok (.iload 6, 2) := by decide +kernel
theorem D_Min_countBelow_53 : decode m_Min_countBelow.2.1 53 = .ok (.iload_n 3, 1) := by decide +kernel
theorem D_Min_countBelow_54 : decode m_Min_countBelow.2.1 54 = .ok (.iload 7, 2) := by decide +kernel
theorem D_Min_countBelow_56 : decode m_Min_countBelow.2.1 56 = .ok (.invokestatic 37, 3) := by decide +kernel
theorem D_Min_countBelow_59 : decode m_Min_countBelow.2.1 59 = .ok (.ifCond .ne 6, 3) := by decide +kernel
theorem D_Min_countBelow_62 : decode m_Min_countBelow.2.1 62 = .ok (.iinc 5 1, 3) := by decide +kernel
theorem D_Min_countBelow_65 : decode m_Min_countBelow.2.1 65 = .ok (.iinc 7 1, 3) := by decide +kernel
theorem D_Min_countBelow_68 : decode m_Min_countBelow.2.1 68 = .ok (.goto (-46), 3) := by decide +kernel
theorem D_Min_countBelow_71 : decode m_Min_countBelow.2.1 71 = .ok (.iinc 6 1, 3) := by decide +kernel
theorem D_Min_countBelow_74 : decode m_Min_countBelow.2.1 74 = .ok (.goto (-66), 3) := by decide +kernel
theorem D_Min_countBelow_77 : decode m_Min_countBelow.2.1 77 = .ok (.iload 5, 2) := by decide +kernel
theorem D_Min_countBelow_79 : decode m_Min_countBelow.2.1 79 = .ok (.ireturn, 1) := by decide +kernel
theorem D_Min_countThrough_0 : decode m_Min_countThrough.2.1 0 = .ok (.iconst 0, 1) := by decide +kernel
theorem D_Min_countThrough_1 : decode m_Min_countThrough.2.1 1 = .ok (.istore 4, 2) := by decide +kernel
theorem D_Min_countThrough_3 : decode m_Min_countThrough.2.1 3 = .ok (.iconst 0, 1) := by decide +kernel
theorem D_Min_countThrough_4 : decode m_Min_countThrough.2.1 4 = .ok (.istore 5, 2) := by decide +kernel
theorem D_Min_countThrough_6 : decode m_Min_countThrough.2.1 6 = .ok (.iload 5, 2) := by decide +kernel
theorem D_Min_countThrough_8 : decode m_Min_countThrough.2.1 8 = .ok (.aload_n 1, 1) := by decide +kernel
theorem D_Min_countThrough_9 : decode m_Min_countThrough.2.1 9 = .ok (.invokevirtual 20, 3) := by decide +kernel
theorem D_Min_countThrough_12 : decode m_Min_countThrough.2.1 12 = .ok (.if_icmp .ge 55, 3) := by decide +kernel
theorem D_Min_countThrough_15 : decode m_Min_countThrough.2.1 15 = .ok (.iconst 0, 1) := by decide +kernel
theorem D_Min_countThrough_16 : decode m_Min_countThrough.2.1 16 = .ok (.istore 6, 2) := by decide +kernel
theorem D_Min_countThrough_18 : decode m_Min_countThrough.2.1 18 = .ok (.iload 6, 2) := by decide +kernel
theorem D_Min_countThrough_20 : decode m_Min_countThrough.2.1 20 = .ok (.aload_n 1, 1) := by decide +kernel
theorem D_Min_countThrough_21 : decode m_Min_countThrough.2.1 21 = .ok (.invokevirtual 26, 3) := by decide +kernel
theorem D_Min_countThrough_24 : decode m_Min_countThrough.2.1 24 = .ok (.if_icmp .ge 37, 3) := by decide +kernel
theorem D_Min_countThrough_27 : decode m_Min_countThrough.2.1 27 = .ok (.iload 5, 2) := by decide +kernel
theorem D_Min_countThrough_29 : decode m_Min_countThrough.2.1 29 = .ok (.iload_n 2, 1) := by decide +kernel
theorem D_Min_countThrough_30 : decode m_Min_countThrough.2.1 30 = .ok (.if_icmp .eq 25, 3) := by decide +kernel
theorem D_Min_countThrough_33 : decode m_Min_countThrough.2.1 33 = .ok (.iload 6, 2) := by decide +kernel
theorem D_Min_countThrough_35 : decode m_Min_countThrough.2.1 35 = .ok (.iload_n 3, 1) := by decide +kernel
theorem D_Min_countThrough_36 : decode m_Min_countThrough.2.1 36 = .ok (.if_icmp .eq 19, 3) := by decide +kernel
theorem D_Min_countThrough_39 : decode m_Min_countThrough.2.1 39 = .ok (.aload_n 1, 1) := by decide +kernel
theorem D_Min_countThrough_40 : decode m_Min_countThrough.2.1 40 = .ok (.iload_n 2, 1) := by decide +kernel
theorem D_Min_countThrough_41 : decode m_Min_countThrough.2.1 41 = .ok (.iload 5, 2) := by decide +kernel
theorem D_Min_countThrough_43 : decode m_Min_countThrough.2.1 43 = .ok (.iload_n 3, 1) := by decide +kernel
theorem D_Min_countThrough_44 : decode m_Min_countThrough.2.1 44 = .ok (.iload 6, 2) := by decide +kernel
theorem D_Min_countThrough_46 : decode m_Min_countThrough.2.1 46 = .ok (.invokestatic 33, 3) := by decide +kernel
theorem D_Min_countThrough_49 : decode m_Min_countThrough.2.1 49 = .ok (.ifCond .eq 6, 3) := by decide +kernel
theorem D_Min_countThrough_52 : decode m_Min_countThrough.2.1 52 = .ok (.iinc 4 1, 3) := by decide +kernel
theorem D_Min_countThrough_55 : decode m_Min_countThrough.2.1 55 = .ok (.iinc 6 1, 3) := by decide +kernel
theorem D_Min_countThrough_58 : decode m_Min_countThrough.2.1 58 = .ok (.goto (-40), 3) := by decide +kernel
theorem D_Min_countThrough_61 : decode m_Min_countThrough.2.1 61 = .ok (.iinc 5 1, 3) := by decide +kernel
theorem D_Min_countThrough_64 : decode m_Min_countThrough.2.1 64 = .ok (.goto (-58), 3) := by decide +kernel
theorem D_Min_countThrough_67 : decode m_Min_countThrough.2.1 67 = .ok (.iload 4, 2) := by decide +kernel
theorem D_Min_countThrough_69 : decode m_Min_countThrough.2.1 69 = .ok (.ireturn, 1) := by decide +kernel
theorem D_Min_isMinor_0 : decode m_Min_isMinor.2.1 0 = .ok (.aload_n 0, 1) := by decide +kernel
theorem D_Min_isMinor_1 : decode m_Min_isMinor.2.1 1 = .ok (.iload_n 1, 1) := by decide +kernel
theorem D_Min_isMinor_2 : decode m_Min_isMinor.2.1 2 = .ok (.iload_n 3, 1) := by decide +kernel
theorem D_Min_isMinor_3 : decode m_Min_isMinor.2.1 3 = .ok (.invokevirtual 40, 3) := by decide +kernel
theorem D_Min_isMinor_6 : decode m_Min_isMinor.2.1 6 = .ok (.ifCond .eq 36, 3) := by decide +kernel
theorem D_Min_isMinor_9 : decode m_Min_isMinor.2.1 9 = .ok (.aload_n 0, 1) := by decide +kernel
theorem D_Min_isMinor_10 : decode m_Min_isMinor.2.1 10 = .ok (.iload_n 1, 1) := by decide +kernel
theorem D_Min_isMinor_11 : decode m_Min_isMinor.2.1 11 = .ok (.iload 4, 2) := by decide +kernel
theorem D_Min_isMinor_13 : decode m_Min_isMinor.2.1 13 = .ok (.invokevirtual 40, 3) := by decide +kernel
theorem D_Min_isMinor_16 : decode m_Min_isMinor.2.1 16 = .ok (.ifCond .eq 26, 3) := by decide +kernel
theorem D_Min_isMinor_19 : decode m_Min_isMinor.2.1 19 = .ok (.aload_n 0, 1) := by decide +kernel
theorem D_Min_isMinor_20 : decode m_Min_isMinor.2.1 20 = .ok (.iload_n 2, 1) := by decide +kernel
theorem D_Min_isMinor_21 : decode m_Min_isMinor.2.1 21 = .ok (.iload_n 3, 1) := by decide +kernel
theorem D_Min_isMinor_22 : decode m_Min_isMinor.2.1 22 = .ok (.invokevirtual 40, 3) := by decide +kernel
theorem D_Min_isMinor_25 : decode m_Min_isMinor.2.1 25 = .ok (.ifCond .eq 17, 3) := by decide +kernel
theorem D_Min_isMinor_28 : decode m_Min_isMinor.2.1 28 = .ok (.aload_n 0, 1) := by decide +kernel
theorem D_Min_isMinor_29 : decode m_Min_isMinor.2.1 29 = .ok (.iload_n 2, 1) := by decide +kernel
theorem D_Min_isMinor_30 : decode m_Min_isMinor.2.1 30 = .ok (.iload 4, 2) := by decide +kernel
theorem D_Min_isMinor_32 : decode m_Min_isMinor.2.1 32 = .ok (.invokevirtual 40, 3) := by decide +kernel
theorem D_Min_isMinor_35 : decode m_Min_isMinor.2.1 35 = .ok (.ifCond .eq 7, 3) := by decide +kernel
theorem D_Min_isMinor_38 : decode m_Min_isMinor.2.1 38 = .ok (.iconst 1, 1) := by decide +kernel
theorem D_Min_isMinor_39 : decode m_Min_isMinor.2.1 39 = .ok (.goto 4, 3) := by decide +kernel
theorem D_Min_isMinor_42 : decode m_Min_isMinor.2.1 42 = .ok (.iconst 0, 1) := by decide +kernel
theorem D_Min_isMinor_43 : decode m_Min_isMinor.2.1 43 = .ok (.ireturn, 1) := by decide +kernel
theorem D_Min_isZero_0 : decode m_Min_isZero.2.1 0 = .ok (.aload_n 0, 1) := by decide +kernel
theorem D_Min_isZero_1 : decode m_Min_isZero.2.1 1 = .ok (.aload_n 0, 1) := by decide +kernel
theorem D_Min_isZero_2 : decode m_Min_isZero.2.1 2 = .ok (.iload_n 1, 1) := by decide +kernel
theorem D_Min_isZero_3 : decode m_Min_isZero.2.1 3 = .ok (.iload_n 3, 1) := by decide +kernel
theorem D_Min_isZero_4 : decode m_Min_isZero.2.1 4 = .ok (.invokevirtual 40, 3) := by decide +kernel
theorem D_Min_isZero_7 : decode m_Min_isZero.2.1 7 = .ok (.aload_n 0, 1) := by decide +kernel
theorem D_Min_isZero_8 : decode m_Min_isZero.2.1 8 = .ok (.iload_n 2, 1) := by decide +kernel
theorem D_Min_isZero_9 : decode m_Min_isZero.2.1 9 = .ok (.iload 4, 2) := by decide +kernel
theorem D_Min_isZero_11 : decode m_Min_isZero.2.1 11 = .ok (.invokevirtual 40, 3) := by decide +kernel
theorem D_Min_isZero_14 : decode m_Min_isZero.2.1 14 = .ok (.invokevirtual 44, 3) := by decide +kernel
theorem D_Min_isZero_17 : decode m_Min_isZero.2.1 17 = .ok (.aload_n 0, 1) := by decide +kernel
theorem D_Min_isZero_18 : decode m_Min_isZero.2.1 18 = .ok (.aload_n 0, 1) := by decide +kernel
theorem D_Min_isZero_19 : decode m_Min_isZero.2.1 19 = .ok (.iload_n 1, 1) := by decide +kernel
theorem D_Min_isZero_20 : decode m_Min_isZero.2.1 20 = .ok (.iload 4, 2) := by decide +kernel
theorem D_Min_isZero_22 : decode m_Min_isZero.2.1 22 = .ok (.invokevirtual 40, 3) := by decide +kernel
theorem D_Min_isZero_25 : decode m_Min_isZero.2.1 25 = .ok (.aload_n 0, 1) := by decide +kernel
theorem D_Min_isZero_26 : decode m_Min_isZero.2.1 26 = .ok (.iload_n 2, 1) := by decide +kernel
theorem D_Min_isZero_27 : decode m_Min_isZero.2.1 27 = .ok (.iload_n 3, 1) := by decide +kernel
theorem D_Min_isZero_28 : decode m_Min_isZero.2.1 28 = .ok (.invokevirtual 40, 3) := by decide +kernel
theorem D_Min_isZero_31 : decode m_Min_isZero.2.1 31 = .ok (.invokevirtual 44, 3) := by decide +kernel
theorem D_Min_isZero_34 : decode m_Min_isZero.2.1 34 = .ok (.if_icmp .ne 7, 3) := by decide +kernel
theorem D_Min_isZero_37 : decode m_Min_isZero.2.1 37 = .ok (.iconst 1, 1) := by decide +kernel
theorem D_Min_isZero_38 : decode m_Min_isZero.2.1 38 = .ok (.goto 4, 3) := by decide +kernel
theorem D_Min_isZero_41 : decode m_Min_isZero.2.1 41 = .ok (.iconst 0, 1) := by decide +kernel
theorem D_Min_isZero_42 : decode m_Min_isZero.2.1 42 = .ok (.ireturn, 1) := by decide +kernel
theorem D_Min_leastRank_0 : decode m_Min_leastRank.2.1 0 = .ok (.iconst 0, 1) := by decide +kernel
theorem D_Min_leastRank_1 : decode m_Min_leastRank.2.1 1 = .ok (.istore_n 2, 1) := by decide +kernel
theorem D_Min_leastRank_2 : decode m_Min_leastRank.2.1 2 = .ok (.iconst 1, 1) := by decide +kernel
theorem D_Min_leastRank_3 : decode m_Min_leastRank.2.1 3 = .ok (.istore_n 3, 1) := by decide +kernel
theorem D_Min_leastRank_4 : decode m_Min_leastRank.2.1 4 = .ok (.iload_n 3, 1) := by decide +kernel
theorem D_Min_leastRank_5 : decode m_Min_leastRank.2.1 5 = .ok (.bipush 64, 2) := by decide +kernel
theorem D_Min_leastRank_7 : decode m_Min_leastRank.2.1 7 = .ok (.if_icmp .ge 20, 3) := by decide +kernel
theorem D_Min_leastRank_10 : decode m_Min_leastRank.2.1 10 = .ok (.iload_n 2, 1) := by decide +kernel
theorem D_Min_leastRank_11 : decode m_Min_leastRank.2.1 11 = .ok (.aload_n 0, 1) := by decide +kernel
theorem D_Min_leastRank_12 : decode m_Min_leastRank.2.1 12 = .ok (.aload_n 1, 1) := by decide +kernel
theorem D_Min_leastRank_13 : decode m_Min_leastRank.2.1 13 = .ok (.iload_n 3, 1) := by decide +kernel
theorem D_Min_leastRank_14 : decode m_Min_leastRank.2.1 14 = .ok (.invokevirtual 47, 3) := by decide +kernel
theorem D_Min_leastRank_17 : decode m_Min_leastRank.2.1 17 = .ok (.invokestatic 51, 3) := by decide +kernel
theorem D_Min_leastRank_20 : decode m_Min_leastRank.2.1 20 = .ok (.istore_n 2, 1) := by decide +kernel
theorem D_Min_leastRank_21 : decode m_Min_leastRank.2.1 21 = .ok (.iinc 3 1, 3) := by decide +kernel
theorem D_Min_leastRank_24 : decode m_Min_leastRank.2.1 24 = .ok (.goto (-20), 3) := by decide +kernel
theorem D_Min_leastRank_27 : decode m_Min_leastRank.2.1 27 = .ok (.iload_n 2, 1) := by decide +kernel
theorem D_Min_leastRank_28 : decode m_Min_leastRank.2.1 28 = .ok (.ireturn, 1) := by decide +kernel
theorem D_Min_rankOf_0 : decode m_Min_rankOf.2.1 0 = .ok (.bipush 63, 2) := by decide +kernel
theorem D_Min_rankOf_2 : decode m_Min_rankOf.2.1 2 = .ok (.istore_n 3, 1) := by decide +kernel
theorem D_Min_rankOf_3 : decode m_Min_rankOf.2.1 3 = .ok (.iconst 0, 1) := by decide +kernel
theorem D_Min_rankOf_4 : decode m_Min_rankOf.2.1 4 = .ok (.istore 4, 2) := by decide +kernel
theorem D_Min_rankOf_6 : decode m_Min_rankOf.2.1 6 = .ok (.iconst 0, 1) := by decide +kernel
theorem D_Min_rankOf_7 : decode m_Min_rankOf.2.1 7 = .ok (.istore 5, 2) := by decide +kernel
theorem D_Min_rankOf_9 : decode m_Min_rankOf.2.1 9 = .ok (.iload 5, 2) := by decide +kernel
theorem D_Min_rankOf_11 : decode m_Min_rankOf.2.1 11 = .ok (.bipush 6, 2) := by decide +kernel
theorem D_Min_rankOf_13 : decode m_Min_rankOf.2.1 13 = .ok (.if_icmp .ge 69, 3) := by decide +kernel
theorem D_Min_rankOf_16 : decode m_Min_rankOf.2.1 16 = .ok (.iload_n 2, 1) := by decide +kernel
theorem D_Min_rankOf_17 : decode m_Min_rankOf.2.1 17 = .ok (.iload 5, 2) := by decide +kernel
theorem D_Min_rankOf_19 : decode m_Min_rankOf.2.1 19 = .ok (.invokestatic 56, 3) := by decide +kernel
theorem D_Min_rankOf_22 : decode m_Min_rankOf.2.1 22 = .ok (.ifCond .eq 54, 3) := by decide +kernel
theorem D_Min_rankOf_25 : decode m_Min_rankOf.2.1 25 = .ok (.iload_n 3, 1) := by decide +kernel
theorem D_Min_rankOf_26 : decode m_Min_rankOf.2.1 26 = .ok (.aload_n 1, 1) := by decide +kernel
theorem D_Min_rankOf_27 : decode m_Min_rankOf.2.1 27 = .ok (.iload 5, 2) := by decide +kernel
theorem D_Min_rankOf_29 : decode m_Min_rankOf.2.1 29 = .ok (.invokevirtual 60, 3) := by decide +kernel
theorem D_Min_rankOf_32 : decode m_Min_rankOf.2.1 32 = .ok (.iand, 1) := by decide +kernel
theorem D_Min_rankOf_33 : decode m_Min_rankOf.2.1 33 = .ok (.istore_n 3, 1) := by decide +kernel
theorem D_Min_rankOf_34 : decode m_Min_rankOf.2.1 34 = .ok (.iconst 0, 1) := by decide +kernel
theorem D_Min_rankOf_35 : decode m_Min_rankOf.2.1 35 = .ok (.istore 6, 2) := by decide +kernel
theorem D_Min_rankOf_37 : decode m_Min_rankOf.2.1 37 = .ok (.iload 6, 2) := by decide +kernel
theorem D_Min_rankOf_39 : decode m_Min_rankOf.2.1 39 = .ok (.bipush 6, 2) := by decide +kernel
theorem D_Min_rankOf_41 : decode m_Min_rankOf.2.1 41 = .ok (.if_icmp .ge 32, 3) := by decide +kernel
theorem D_Min_rankOf_44 : decode m_Min_rankOf.2.1 44 = .ok (.aload_n 0, 1) := by decide +kernel
theorem D_Min_rankOf_45 : decode m_Min_rankOf.2.1 45 = .ok (.getfield 14, 3) := by decide +kernel
theorem D_Min_rankOf_48 : decode m_Min_rankOf.2.1 48 = .ok (.bipush 6, 2) := by decide +kernel
theorem D_Min_rankOf_50 : decode m_Min_rankOf.2.1 50 = .ok (.iload 4, 2) := by decide +kernel
theorem D_Min_rankOf_52 : decode m_Min_rankOf.2.1 52 = .ok (.imul, 1) := by decide +kernel
theorem D_Min_rankOf_53 : decode m_Min_rankOf.2.1 53 = .ok (.iload 6, 2) := by decide +kernel
theorem D_Min_rankOf_55 : decode m_Min_rankOf.2.1 55 = .ok (.iadd, 1) := by decide +kernel
theorem D_Min_rankOf_56 : decode m_Min_rankOf.2.1 56 = .ok (.aload_n 1, 1) := by decide +kernel
theorem D_Min_rankOf_57 : decode m_Min_rankOf.2.1 57 = .ok (.iload 5, 2) := by decide +kernel
theorem D_Min_rankOf_59 : decode m_Min_rankOf.2.1 59 = .ok (.iload 6, 2) := by decide +kernel
theorem D_Min_rankOf_61 : decode m_Min_rankOf.2.1 61 = .ok (.invokevirtual 40, 3) := by decide +kernel
theorem D_Min_rankOf_64 : decode m_Min_rankOf.2.1 64 = .ok (.invokevirtual 64, 3) := by decide +kernel
theorem D_Min_rankOf_67 : decode m_Min_rankOf.2.1 67 = .ok (.iinc 6 1, 3) := by decide +kernel
theorem D_Min_rankOf_70 : decode m_Min_rankOf.2.1 70 = .ok (.goto (-33), 3) := by decide +kernel
theorem D_Min_rankOf_73 : decode m_Min_rankOf.2.1 73 = .ok (.iinc 4 1, 3) := by decide +kernel
theorem D_Min_rankOf_76 : decode m_Min_rankOf.2.1 76 = .ok (.iinc 5 1, 3) := by decide +kernel
theorem D_Min_rankOf_79 : decode m_Min_rankOf.2.1 79 = .ok (.goto (-70), 3) := by decide +kernel
theorem D_Min_rankOf_82 : decode m_Min_rankOf.2.1 82 = .ok (.iconst 0, 1) := by decide +kernel
theorem D_Min_rankOf_83 : decode m_Min_rankOf.2.1 83 = .ok (.istore 5, 2) := by decide +kernel
theorem D_Min_rankOf_85 : decode m_Min_rankOf.2.1 85 = .ok (.iconst 0, 1) := by decide +kernel
theorem D_Min_rankOf_86 : decode m_Min_rankOf.2.1 86 = .ok (.istore 6, 2) := by decide +kernel
theorem D_Min_rankOf_88 : decode m_Min_rankOf.2.1 88 = .ok (.iload 6, 2) := by decide +kernel
theorem D_Min_rankOf_90 : decode m_Min_rankOf.2.1 90 = .ok (.bipush 6, 2) := by decide +kernel
theorem D_Min_rankOf_92 : decode m_Min_rankOf.2.1 92 = .ok (.if_icmp .ge 64, 3) := by decide +kernel
theorem D_Min_rankOf_95 : decode m_Min_rankOf.2.1 95 = .ok (.iload_n 3, 1) := by decide +kernel
theorem D_Min_rankOf_96 : decode m_Min_rankOf.2.1 96 = .ok (.iload 6, 2) := by decide +kernel
theorem D_Min_rankOf_98 : decode m_Min_rankOf.2.1 98 = .ok (.invokestatic 56, 3) := by decide +kernel
theorem D_Min_rankOf_101 : decode m_Min_rankOf.2.1 101 = .ok (.ifCond .eq 49, 3) := by decide +kernel
theorem D_Min_rankOf_104 : decode m_Min_rankOf.2.1 104 = .ok (.aload_n 0, 1) := by decide +kernel
theorem D_Min_rankOf_105 : decode m_Min_rankOf.2.1 105 = .ok (.iload 4, 2) := by decide +kernel
theorem D_Min_rankOf_107 : decode m_Min_rankOf.2.1 107 = .ok (.iload 5, 2) := by decide +kernel
theorem D_Min_rankOf_109 : decode m_Min_rankOf.2.1 109 = .ok (.iload 6, 2) := by decide +kernel
theorem D_Min_rankOf_111 : decode m_Min_rankOf.2.1 111 = .ok (.invokevirtual 68, 3) := by decide +kernel
theorem D_Min_rankOf_114 : decode m_Min_rankOf.2.1 114 = .ok (.ifCond .eq 36, 3) := by decide +kernel
theorem D_Min_rankOf_117 : decode m_Min_rankOf.2.1 117 = .ok (.iload 5, 2) := by decide +kernel
theorem D_Min_rankOf_119 : decode m_Min_rankOf.2.1 119 = .ok (.iconst 1, 1) := by decide +kernel
theorem D_Min_rankOf_120 : decode m_Min_rankOf.2.1 120 = .ok (.iadd, 1) := by decide +kernel
theorem D_Min_rankOf_121 : decode m_Min_rankOf.2.1 121 = .ok (.istore 7, 2) := by decide +kernel
theorem D_Min_rankOf_123 : decode m_Min_rankOf.2.1 123 = .ok (.iload 7, 2) := by decide +kernel
theorem D_Min_rankOf_125 : decode m_Min_rankOf.2.1 125 = .ok (.iload 4, 2) := by decide +kernel
theorem D_Min_rankOf_127 : decode m_Min_rankOf.2.1 127 = .ok (.if_icmp .ge 20, 3) := by decide +kernel
theorem D_Min_rankOf_130 : decode m_Min_rankOf.2.1 130 = .ok (.aload_n 0, 1) := by decide +kernel
theorem D_Min_rankOf_131 : decode m_Min_rankOf.2.1 131 = .ok (.aload_n 1, 1) := by decide +kernel
theorem D_Min_rankOf_132 : decode m_Min_rankOf.2.1 132 = .ok (.iload 5, 2) := by decide +kernel
theorem D_Min_rankOf_134 : decode m_Min_rankOf.2.1 134 = .ok (.iload 7, 2) := by decide +kernel
theorem D_Min_rankOf_136 : decode m_Min_rankOf.2.1 136 = .ok (.iload 6, 2) := by decide +kernel
theorem D_Min_rankOf_138 : decode m_Min_rankOf.2.1 138 = .ok (.invokevirtual 72, 3) := by decide +kernel
theorem D_Min_rankOf_141 : decode m_Min_rankOf.2.1 141 = .ok (.iinc 7 1, 3) := by decide +kernel
theorem D_Min_rankOf_144 : decode m_Min_rankOf.2.1 144 = .ok (.goto (-21), 3) := by decide +kernel
theorem D_Min_rankOf_147 : decode m_Min_rankOf.2.1 147 = .ok (.iinc 5 1, 3) := by decide +kernel
theorem D_Min_rankOf_150 : decode m_Min_rankOf.2.1 150 = .ok (.iinc 6 1, 3) := by decide +kernel
theorem D_Min_rankOf_153 : decode m_Min_rankOf.2.1 153 = .ok (.goto (-65), 3) := by decide +kernel
theorem D_Min_rankOf_156 : decode m_Min_rankOf.2.1 156 = .ok (.iload 5, 2) := by decide +kernel
theorem D_Min_rankOf_158 : decode m_Min_rankOf.2.1 158 = .ok (.ireturn, 1) := by decide +kernel
theorem D_Min_bringUp_0 : decode m_Min_bringUp.2.1 0 = .ok (.iload_n 2, 1) := by decide +kernel
theorem D_Min_bringUp_1 : decode m_Min_bringUp.2.1 1 = .ok (.istore 4, 2) := by decide +kernel
theorem D_Min_bringUp_3 : decode m_Min_bringUp.2.1 3 = .ok (.iload 4, 2) := by decide +kernel
theorem D_Min_bringUp_5 : decode m_Min_bringUp.2.1 5 = .ok (.iload_n 1, 1) := by decide +kernel
theorem D_Min_bringUp_6 : decode m_Min_bringUp.2.1 6 = .ok (.if_icmp .ge 66, 3) := by decide +kernel
theorem D_Min_bringUp_9 : decode m_Min_bringUp.2.1 9 = .ok (.aload_n 0, 1) := by decide +kernel
theorem D_Min_bringUp_10 : decode m_Min_bringUp.2.1 10 = .ok (.getfield 14, 3) := by decide +kernel
theorem D_Min_bringUp_13 : decode m_Min_bringUp.2.1 13 = .ok (.bipush 6, 2) := by decide +kernel
theorem D_Min_bringUp_15 : decode m_Min_bringUp.2.1 15 = .ok (.iload 4, 2) := by decide +kernel
theorem D_Min_bringUp_17 : decode m_Min_bringUp.2.1 17 = .ok (.imul, 1) := by decide +kernel
theorem D_Min_bringUp_18 : decode m_Min_bringUp.2.1 18 = .ok (.iload_n 3, 1) := by decide +kernel
theorem D_Min_bringUp_19 : decode m_Min_bringUp.2.1 19 = .ok (.iadd, 1) := by decide +kernel
theorem D_Min_bringUp_20 : decode m_Min_bringUp.2.1 20 = .ok (.invokevirtual 76, 3) := by decide +kernel
theorem D_Min_bringUp_23 : decode m_Min_bringUp.2.1 23 = .ok (.ifCond .eq 43, 3) := by decide +kernel
theorem D_Min_bringUp_26 : decode m_Min_bringUp.2.1 26 = .ok (.iconst 0, 1) := by decide +kernel
theorem D_Min_bringUp_27 : decode m_Min_bringUp.2.1 27 = .ok (.istore 5, 2) := by decide +kernel
theorem D_Min_bringUp_29 : decode m_Min_bringUp.2.1 29 = .ok (.iload 5, 2) := by decide +kernel
theorem D_Min_bringUp_31 : decode m_Min_bringUp.2.1 31 = .ok (.bipush 6, 2) := by decide +kernel
theorem D_Min_bringUp_33 : decode m_Min_bringUp.2.1 33 = .ok (.if_icmp .ge 31, 3) := by decide +kernel
theorem D_Min_bringUp_36 : decode m_Min_bringUp.2.1 36 = .ok (.aload_n 0, 1) := by decide +kernel
theorem D_Min_bringUp_37 : decode m_Min_bringUp.2.1 37 = .ok (.getfield 14, 3) := by decide +kernel
theorem D_Min_bringUp_40 : decode m_Min_bringUp.2.1 40 = .ok (.bipush 6, 2) := by decide +kernel
theorem D_Min_bringUp_42 : decode m_Min_bringUp.2.1 42 = .ok (.iload_n 2, 1) := by decide +kernel
theorem D_Min_bringUp_43 : decode m_Min_bringUp.2.1 43 = .ok (.imul, 1) := by decide +kernel
theorem D_Min_bringUp_44 : decode m_Min_bringUp.2.1 44 = .ok (.iload 5, 2) := by decide +kernel
theorem D_Min_bringUp_46 : decode m_Min_bringUp.2.1 46 = .ok (.iadd, 1) := by decide +kernel
theorem D_Min_bringUp_47 : decode m_Min_bringUp.2.1 47 = .ok (.bipush 6, 2) := by decide +kernel
theorem D_Min_bringUp_49 : decode m_Min_bringUp.2.1 49 = .ok (.iload 4, 2) := by decide +kernel
theorem D_Min_bringUp_51 : decode m_Min_bringUp.2.1 51 = .ok (.imul, 1) := by decide +kernel
theorem D_Min_bringUp_52 : decode m_Min_bringUp.2.1 52 = .ok (.iload 5, 2) := by decide +kernel
theorem D_Min_bringUp_54 : decode m_Min_bringUp.2.1 54 = .ok (.iadd, 1) := by decide +kernel
theorem D_Min_bringUp_55 : decode m_Min_bringUp.2.1 55 = .ok (.invokevirtual 79, 3) := by decide +kernel
theorem D_Min_bringUp_58 : decode m_Min_bringUp.2.1 58 = .ok (.iinc 5 1, 3) := by decide +kernel
theorem D_Min_bringUp_61 : decode m_Min_bringUp.2.1 61 = .ok (.goto (-32), 3) := by decide +kernel
theorem D_Min_bringUp_64 : decode m_Min_bringUp.2.1 64 = .ok (.iconst 1, 1) := by decide +kernel
theorem D_Min_bringUp_65 : decode m_Min_bringUp.2.1 65 = .ok (.ireturn, 1) := by decide +kernel
theorem D_Min_bringUp_66 : decode m_Min_bringUp.2.1 66 = .ok (.iinc 4 1, 3) := by decide +kernel
theorem D_Min_bringUp_69 : decode m_Min_bringUp.2.1 69 = .ok (.goto (-66), 3) := by decide +kernel
theorem D_Min_bringUp_72 : decode m_Min_bringUp.2.1 72 = .ok (.iconst 0, 1) := by decide +kernel
theorem D_Min_bringUp_73 : decode m_Min_bringUp.2.1 73 = .ok (.ireturn, 1) := by decide +kernel
theorem D_Min_eliminate_0 : decode m_Min_eliminate.2.1 0 = .ok (.aload_n 1, 1) := by decide +kernel
theorem D_Min_eliminate_1 : decode m_Min_eliminate.2.1 1 = .ok (.aload_n 0, 1) := by decide +kernel
theorem D_Min_eliminate_2 : decode m_Min_eliminate.2.1 2 = .ok (.getfield 14, 3) := by decide +kernel
theorem D_Min_eliminate_5 : decode m_Min_eliminate.2.1 5 = .ok (.bipush 6, 2) := by decide +kernel
theorem D_Min_eliminate_7 : decode m_Min_eliminate.2.1 7 = .ok (.iload_n 3, 1) := by decide +kernel
theorem D_Min_eliminate_8 : decode m_Min_eliminate.2.1 8 = .ok (.imul, 1) := by decide +kernel
theorem D_Min_eliminate_9 : decode m_Min_eliminate.2.1 9 = .ok (.iload 4, 2) := by decide +kernel
theorem D_Min_eliminate_11 : decode m_Min_eliminate.2.1 11 = .ok (.iadd, 1) := by decide +kernel
theorem D_Min_eliminate_12 : decode m_Min_eliminate.2.1 12 = .ok (.invokevirtual 76, 3) := by decide +kernel
theorem D_Min_eliminate_15 : decode m_Min_eliminate.2.1 15 = .ok (.aload_n 0, 1) := by decide +kernel
theorem D_Min_eliminate_16 : decode m_Min_eliminate.2.1 16 = .ok (.getfield 14, 3) := by decide +kernel
theorem D_Min_eliminate_19 : decode m_Min_eliminate.2.1 19 = .ok (.bipush 6, 2) := by decide +kernel
theorem D_Min_eliminate_21 : decode m_Min_eliminate.2.1 21 = .ok (.iload_n 2, 1) := by decide +kernel
theorem D_Min_eliminate_22 : decode m_Min_eliminate.2.1 22 = .ok (.imul, 1) := by decide +kernel
theorem D_Min_eliminate_23 : decode m_Min_eliminate.2.1 23 = .ok (.iload 4, 2) := by decide +kernel
theorem D_Min_eliminate_25 : decode m_Min_eliminate.2.1 25 = .ok (.iadd, 1) := by decide +kernel
theorem D_Min_eliminate_26 : decode m_Min_eliminate.2.1 26 = .ok (.invokevirtual 76, 3) := by decide +kernel
theorem D_Min_eliminate_29 : decode m_Min_eliminate.2.1 29 = .ok (.invokevirtual 82, 3) := by decide +kernel
theorem D_Min_eliminate_32 : decode m_Min_eliminate.2.1 32 = .ok (.istore 5, 2) := by decide +kernel
theorem D_Min_eliminate_34 : decode m_Min_eliminate.2.1 34 = .ok (.aload_n 1, 1) := by decide +kernel
theorem D_Min_eliminate_35 : decode m_Min_eliminate.2.1 35 = .ok (.invokevirtual 85, 3) := by decide +kernel
theorem D_Min_eliminate_38 : decode m_Min_eliminate.2.1 38 = .ok (.iload 5, 2) := by decide +kernel
theorem D_Min_eliminate_40 : decode m_Min_eliminate.2.1 40 = .ok (.isub, 1) := by decide +kernel
theorem D_Min_eliminate_41 : decode m_Min_eliminate.2.1 41 = .ok (.istore 6, 2) := by decide +kernel
theorem D_Min_eliminate_43 : decode m_Min_eliminate.2.1 43 = .ok (.iconst 0, 1) := by decide +kernel
theorem D_Min_eliminate_44 : decode m_Min_eliminate.2.1 44 = .ok (.istore 7, 2) := by decide +kernel
theorem D_Min_eliminate_46 : decode m_Min_eliminate.2.1 46 = .ok (.iload 7, 2) := by decide +kernel
theorem D_Min_eliminate_48 : decode m_Min_eliminate.2.1 48 = .ok (.bipush 6, 2) := by decide +kernel
theorem D_Min_eliminate_50 : decode m_Min_eliminate.2.1 50 = .ok (.if_icmp .ge 63, 3) := by decide +kernel
theorem D_Min_eliminate_53 : decode m_Min_eliminate.2.1 53 = .ok (.aload_n 0, 1) := by decide +kernel
theorem D_Min_eliminate_54 : decode m_Min_eliminate.2.1 54 = .ok (.getfield 14, 3) := by decide +kernel
theorem D_Min_eliminate_57 : decode m_Min_eliminate.2.1 57 = .ok (.bipush 6, 2) := by decide +kernel
theorem D_Min_eliminate_59 : decode m_Min_eliminate.2.1 59 = .ok (.iload_n 3, 1) := by decide +kernel
theorem D_Min_eliminate_60 : decode m_Min_eliminate.2.1 60 = .ok (.imul, 1) := by decide +kernel
theorem D_Min_eliminate_61 : decode m_Min_eliminate.2.1 61 = .ok (.iload 7, 2) := by decide +kernel
theorem D_Min_eliminate_63 : decode m_Min_eliminate.2.1 63 = .ok (.iadd, 1) := by decide +kernel
theorem D_Min_eliminate_64 : decode m_Min_eliminate.2.1 64 = .ok (.invokevirtual 76, 3) := by decide +kernel
theorem D_Min_eliminate_67 : decode m_Min_eliminate.2.1 67 = .ok (.iload 6, 2) := by decide +kernel
theorem D_Min_eliminate_69 : decode m_Min_eliminate.2.1 69 = .ok (.aload_n 0, 1) := by decide +kernel
theorem D_Min_eliminate_70 : decode m_Min_eliminate.2.1 70 = .ok (.getfield 14, 3) := by decide +kernel
theorem D_Min_eliminate_73 : decode m_Min_eliminate.2.1 73 = .ok (.bipush 6, 2) := by decide +kernel
theorem D_Min_eliminate_75 : decode m_Min_eliminate.2.1 75 = .ok (.iload_n 2, 1) := by decide +kernel
theorem D_Min_eliminate_76 : decode m_Min_eliminate.2.1 76 = .ok (.imul, 1) := by decide +kernel
theorem D_Min_eliminate_77 : decode m_Min_eliminate.2.1 77 = .ok (.iload 7, 2) := by decide +kernel
theorem D_Min_eliminate_79 : decode m_Min_eliminate.2.1 79 = .ok (.iadd, 1) := by decide +kernel
theorem D_Min_eliminate_80 : decode m_Min_eliminate.2.1 80 = .ok (.invokevirtual 76, 3) := by decide +kernel
theorem D_Min_eliminate_83 : decode m_Min_eliminate.2.1 83 = .ok (.imul, 1) := by decide +kernel
theorem D_Min_eliminate_84 : decode m_Min_eliminate.2.1 84 = .ok (.iadd, 1) := by decide +kernel
theorem D_Min_eliminate_85 : decode m_Min_eliminate.2.1 85 = .ok (.istore 8, 2) := by decide +kernel
theorem D_Min_eliminate_87 : decode m_Min_eliminate.2.1 87 = .ok (.aload_n 0, 1) := by decide +kernel
theorem D_Min_eliminate_88 : decode m_Min_eliminate.2.1 88 = .ok (.getfield 14, 3) := by decide +kernel
theorem D_Min_eliminate_91 : decode m_Min_eliminate.2.1 91 = .ok (.bipush 6, 2) := by decide +kernel
theorem D_Min_eliminate_93 : decode m_Min_eliminate.2.1 93 = .ok (.iload_n 3, 1) := by decide +kernel
theorem D_Min_eliminate_94 : decode m_Min_eliminate.2.1 94 = .ok (.imul, 1) := by decide +kernel
theorem D_Min_eliminate_95 : decode m_Min_eliminate.2.1 95 = .ok (.iload 7, 2) := by decide +kernel
theorem D_Min_eliminate_97 : decode m_Min_eliminate.2.1 97 = .ok (.iadd, 1) := by decide +kernel
theorem D_Min_eliminate_98 : decode m_Min_eliminate.2.1 98 = .ok (.aload_n 1, 1) := by decide +kernel
theorem D_Min_eliminate_99 : decode m_Min_eliminate.2.1 99 = .ok (.iload 8, 2) := by decide +kernel
theorem D_Min_eliminate_101 : decode m_Min_eliminate.2.1 101 = .ok (.invokevirtual 88, 3) := by decide +kernel
theorem D_Min_eliminate_104 : decode m_Min_eliminate.2.1 104 = .ok (.invokevirtual 64, 3) := by decide +kernel
theorem D_Min_eliminate_107 : decode m_Min_eliminate.2.1 107 = .ok (.iinc 7 1, 3) := by decide +kernel
theorem D_Min_eliminate_110 : decode m_Min_eliminate.2.1 110 = .ok (.goto (-64), 3) := by decide +kernel
theorem D_Min_eliminate_113 : decode m_Min_eliminate.2.1 113 = .ok (.return_, 1) := by decide +kernel
theorem D_Num_init_0 : decode m_Num_init.2.1 0 = .ok (.aload_n 0, 1) := by decide +kernel
theorem D_Num_init_1 : decode m_Num_init.2.1 1 = .ok (.invokespecial 1, 3) := by decide +kernel
theorem D_Num_init_4 : decode m_Num_init.2.1 4 = .ok (.aload_n 0, 1) := by decide +kernel
theorem D_Num_init_5 : decode m_Num_init.2.1 5 = .ok (.iload_n 1, 1) := by decide +kernel
theorem D_Num_init_6 : decode m_Num_init.2.1 6 = .ok (.iconst 0, 1) := by decide +kernel
theorem D_Num_init_7 : decode m_Num_init.2.1 7 = .ok (.invokestatic 7, 3) := by decide +kernel
theorem D_Num_init_10 : decode m_Num_init.2.1 10 = .ok (.newarray .int, 2) := by decide +kernel
theorem D_Num_init_12 : decode m_Num_init.2.1 12 = .ok (.putfield 13, 3) := by decide +kernel
theorem D_Num_init_15 : decode m_Num_init.2.1 15 = .ok (.return_, 1) := by decide +kernel
theorem D_Num_get_0 : decode m_Num_get.2.1 0 = .ok (.iload_n 1, 1) := by decide +kernel
theorem D_Num_get_1 : decode m_Num_get.2.1 1 = .ok (.ifCond .lt 21, 3) := by decide +kernel
theorem D_Num_get_4 : decode m_Num_get.2.1 4 = .ok (.iload_n 1, 1) := by decide +kernel
theorem D_Num_get_5 : decode m_Num_get.2.1 5 = .ok (.aload_n 0, 1) := by decide +kernel
theorem D_Num_get_6 : decode m_Num_get.2.1 6 = .ok (.getfield 13, 3) := by decide +kernel
theorem D_Num_get_9 : decode m_Num_get.2.1 9 = .ok (.arraylength, 1) := by decide +kernel
theorem D_Num_get_10 : decode m_Num_get.2.1 10 = .ok (.if_icmp .ge 12, 3) := by decide +kernel
theorem D_Num_get_13 : decode m_Num_get.2.1 13 = .ok (.aload_n 0, 1) := by decide +kernel
theorem D_Num_get_14 : decode m_Num_get.2.1 14 = .ok (.getfield 13, 3) := by decide +kernel
theorem D_Num_get_17 : decode m_Num_get.2.1 17 = .ok (.iload_n 1, 1) := by decide +kernel
theorem D_Num_get_18 : decode m_Num_get.2.1 18 = .ok (.iaload, 1) := by decide +kernel
theorem D_Num_get_19 : decode m_Num_get.2.1 19 = .ok (.goto 4, 3) := by decide +kernel
theorem D_Num_get_22 : decode m_Num_get.2.1 22 = .ok (.iconst 0, 1) := by decide +kernel
theorem D_Num_get_23 : decode m_Num_get.2.1 23 = .ok (.ireturn, 1) := by decide +kernel
theorem D_Num_set_0 : decode m_Num_set.2.1 0 = .ok (.iload_n 1, 1) := by decide +kernel
theorem D_Num_set_1 : decode m_Num_set.2.1 1 = .ok (.ifCond .lt 19, 3) := by decide +kernel
theorem D_Num_set_4 : decode m_Num_set.2.1 4 = .ok (.iload_n 1, 1) := by decide +kernel
theorem D_Num_set_5 : decode m_Num_set.2.1 5 = .ok (.aload_n 0, 1) := by decide +kernel
theorem D_Num_set_6 : decode m_Num_set.2.1 6 = .ok (.getfield 13, 3) := by decide +kernel
theorem D_Num_set_9 : decode m_Num_set.2.1 9 = .ok (.arraylength, 1) := by decide +kernel
theorem D_Num_set_10 : decode m_Num_set.2.1 10 = .ok (.if_icmp .ge 10, 3) := by decide +kernel
theorem D_Num_set_13 : decode m_Num_set.2.1 13 = .ok (.aload_n 0, 1) := by decide +kernel
theorem D_Num_set_14 : decode m_Num_set.2.1 14 = .ok (.getfield 13, 3) := by decide +kernel
theorem D_Num_set_17 : decode m_Num_set.2.1 17 = .ok (.iload_n 1, 1) := by decide +kernel
theorem D_Num_set_18 : decode m_Num_set.2.1 18 = .ok (.iload_n 2, 1) := by decide +kernel
theorem D_Num_set_19 : decode m_Num_set.2.1 19 = .ok (.iastore, 1) := by decide +kernel
theorem D_Num_set_20 : decode m_Num_set.2.1 20 = .ok (.return_, 1) := by decide +kernel
theorem D_Num_setEach_0 : decode m_Num_setEach.2.1 0 = .ok (.iconst 0, 1) := by decide +kernel
theorem D_Num_setEach_1 : decode m_Num_setEach.2.1 1 = .ok (.istore_n 2, 1) := by decide +kernel
theorem D_Num_setEach_2 : decode m_Num_setEach.2.1 2 = .ok (.iload_n 2, 1) := by decide +kernel
theorem D_Num_setEach_3 : decode m_Num_setEach.2.1 3 = .ok (.aload_n 0, 1) := by decide +kernel
theorem D_Num_setEach_4 : decode m_Num_setEach.2.1 4 = .ok (.getfield 13, 3) := by decide +kernel
theorem D_Num_setEach_7 : decode m_Num_setEach.2.1 7 = .ok (.arraylength, 1) := by decide +kernel
theorem D_Num_setEach_8 : decode m_Num_setEach.2.1 8 = .ok (.if_icmp .ge 16, 3) := by decide +kernel
theorem D_Num_setEach_11 : decode m_Num_setEach.2.1 11 = .ok (.aload_n 0, 1) := by decide +kernel
theorem D_Num_setEach_12 : decode m_Num_setEach.2.1 12 = .ok (.getfield 13, 3) := by decide +kernel
theorem D_Num_setEach_15 : decode m_Num_setEach.2.1 15 = .ok (.iload_n 2, 1) := by decide +kernel
theorem D_Num_setEach_16 : decode m_Num_setEach.2.1 16 = .ok (.iload_n 1, 1) := by decide +kernel
theorem D_Num_setEach_17 : decode m_Num_setEach.2.1 17 = .ok (.iastore, 1) := by decide +kernel
theorem D_Num_setEach_18 : decode m_Num_setEach.2.1 18 = .ok (.iinc 2 1, 3) := by decide +kernel
theorem D_Num_setEach_21 : decode m_Num_setEach.2.1 21 = .ok (.goto (-19), 3) := by decide +kernel
theorem D_Num_setEach_24 : decode m_Num_setEach.2.1 24 = .ok (.return_, 1) := by decide +kernel
theorem D_Num_copyFrom_0 : decode m_Num_copyFrom.2.1 0 = .ok (.iconst 0, 1) := by decide +kernel
theorem D_Num_copyFrom_1 : decode m_Num_copyFrom.2.1 1 = .ok (.istore_n 2, 1) := by decide +kernel
theorem D_Num_copyFrom_2 : decode m_Num_copyFrom.2.1 2 = .ok (.iload_n 2, 1) := by decide +kernel
theorem D_Num_copyFrom_3 : decode m_Num_copyFrom.2.1 3 = .ok (.aload_n 0, 1) := by decide +kernel
theorem D_Num_copyFrom_4 : decode m_Num_copyFrom.2.1 4 = .ok (.getfield 13, 3) := by decide +kernel
theorem D_Num_copyFrom_7 : decode m_Num_copyFrom.2.1 7 = .ok (.arraylength, 1) := by decide +kernel
theorem D_Num_copyFrom_8 : decode m_Num_copyFrom.2.1 8 = .ok (.if_icmp .ge 20, 3) := by decide +kernel
theorem D_Num_copyFrom_11 : decode m_Num_copyFrom.2.1 11 = .ok (.aload_n 0, 1) := by decide +kernel
theorem D_Num_copyFrom_12 : decode m_Num_copyFrom.2.1 12 = .ok (.getfield 13, 3) := by decide +kernel
theorem D_Num_copyFrom_15 : decode m_Num_copyFrom.2.1 15 = .ok (.iload_n 2, 1) := by decide +kernel
theorem D_Num_copyFrom_16 : decode m_Num_copyFrom.2.1 16 = .ok (.aload_n 1, 1) := by decide +kernel
theorem D_Num_copyFrom_17 : decode m_Num_copyFrom.2.1 17 = .ok (.iload_n 2, 1) := by decide +kernel
theorem D_Num_copyFrom_18 : decode m_Num_copyFrom.2.1 18 = .ok (.invokevirtual 19, 3) := by decide +kernel
theorem D_Num_copyFrom_21 : decode m_Num_copyFrom.2.1 21 = .ok (.iastore, 1) := by decide +kernel
theorem D_Num_copyFrom_22 : decode m_Num_copyFrom.2.1 22 = .ok (.iinc 2 1, 3) := by decide +kernel
theorem D_Num_copyFrom_25 : decode m_Num_copyFrom.2.1 25 = .ok (.goto (-23), 3) := by decide +kernel
theorem D_Num_copyFrom_28 : decode m_Num_copyFrom.2.1 28 = .ok (.return_, 1) := by decide +kernel
theorem D_Num_swap_0 : decode m_Num_swap.2.1 0 = .ok (.aload_n 0, 1) := by decide +kernel
theorem D_Num_swap_1 : decode m_Num_swap.2.1 1 = .ok (.iload_n 1, 1) := by decide +kernel
theorem D_Num_swap_2 : decode m_Num_swap.2.1 2 = .ok (.invokevirtual 19, 3) := by decide +kernel
theorem D_Num_swap_5 : decode m_Num_swap.2.1 5 = .ok (.istore_n 3, 1) := by decide +kernel
theorem D_Num_swap_6 : decode m_Num_swap.2.1 6 = .ok (.aload_n 0, 1) := by decide +kernel
theorem D_Num_swap_7 : decode m_Num_swap.2.1 7 = .ok (.iload_n 1, 1) := by decide +kernel
theorem D_Num_swap_8 : decode m_Num_swap.2.1 8 = .ok (.aload_n 0, 1) := by decide +kernel
theorem D_Num_swap_9 : decode m_Num_swap.2.1 9 = .ok (.iload_n 2, 1) := by decide +kernel
theorem D_Num_swap_10 : decode m_Num_swap.2.1 10 = .ok (.invokevirtual 19, 3) := by decide +kernel
theorem D_Num_swap_13 : decode m_Num_swap.2.1 13 = .ok (.invokevirtual 23, 3) := by decide +kernel
theorem D_Num_swap_16 : decode m_Num_swap.2.1 16 = .ok (.aload_n 0, 1) := by decide +kernel
theorem D_Num_swap_17 : decode m_Num_swap.2.1 17 = .ok (.iload_n 2, 1) := by decide +kernel
theorem D_Num_swap_18 : decode m_Num_swap.2.1 18 = .ok (.iload_n 3, 1) := by decide +kernel
theorem D_Num_swap_19 : decode m_Num_swap.2.1 19 = .ok (.invokevirtual 23, 3) := by decide +kernel
theorem D_Num_swap_22 : decode m_Num_swap.2.1 22 = .ok (.return_, 1) := by decide +kernel
theorem D_Pad_init_0 : decode m_Pad_init.2.1 0 = .ok (.aload_n 0, 1) := by decide +kernel
theorem D_Pad_init_1 : decode m_Pad_init.2.1 1 = .ok (.invokespecial 3, 3) := by decide +kernel
theorem D_Pad_init_4 : decode m_Pad_init.2.1 4 = .ok (.aload_n 0, 1) := by decide +kernel
theorem D_Pad_init_5 : decode m_Pad_init.2.1 5 = .ok (.new 9, 3) := by decide +kernel
theorem D_Pad_init_8 : decode m_Pad_init.2.1 8 = .ok (.dup, 1) := by decide +kernel
theorem D_Pad_init_9 : decode m_Pad_init.2.1 9 = .ok (.bipush 50, 2) := by decide +kernel
theorem D_Pad_init_11 : decode m_Pad_init.2.1 11 = .ok (.invokespecial 11, 3) := by decide +kernel
theorem D_Pad_init_14 : decode m_Pad_init.2.1 14 = .ok (.putfield 14, 3) := by decide +kernel
theorem D_Pad_init_17 : decode m_Pad_init.2.1 17 = .ok (.return_, 1) := by decide +kernel
theorem D_Pad_length_0 : decode m_Pad_length.2.1 0 = .ok (.aload_n 0, 1) := by decide +kernel
theorem D_Pad_length_1 : decode m_Pad_length.2.1 1 = .ok (.getfield 20, 3) := by decide +kernel
theorem D_Pad_length_4 : decode m_Pad_length.2.1 4 = .ok (.ireturn, 1) := by decide +kernel
theorem D_Pad_empty_0 : decode m_Pad_empty.2.1 0 = .ok (.aload_n 0, 1) := by decide +kernel
theorem D_Pad_empty_1 : decode m_Pad_empty.2.1 1 = .ok (.iconst 0, 1) := by decide +kernel
theorem D_Pad_empty_2 : decode m_Pad_empty.2.1 2 = .ok (.putfield 20, 3) := by decide +kernel
theorem D_Pad_empty_5 : decode m_Pad_empty.2.1 5 = .ok (.return_, 1) := by decide +kernel
theorem D_Pad_append_0 : decode m_Pad_append.2.1 0 = .ok (.aload_n 0, 1) := by decide +kernel
theorem D_Pad_append_1 : decode m_Pad_append.2.1 1 = .ok (.getfield 20, 3) := by decide +kernel
theorem D_Pad_append_4 : decode m_Pad_append.2.1 4 = .ok (.bipush 50, 2) := by decide +kernel
theorem D_Pad_append_6 : decode m_Pad_append.2.1 6 = .ok (.if_icmp .ge 25, 3) := by decide +kernel
theorem D_Pad_append_9 : decode m_Pad_append.2.1 9 = .ok (.aload_n 0, 1) := by decide +kernel
theorem D_Pad_append_10 : decode m_Pad_append.2.1 10 = .ok (.getfield 14, 3) := by decide +kernel
theorem D_Pad_append_13 : decode m_Pad_append.2.1 13 = .ok (.aload_n 0, 1) := by decide +kernel
theorem D_Pad_append_14 : decode m_Pad_append.2.1 14 = .ok (.getfield 20, 3) := by decide +kernel
theorem D_Pad_append_17 : decode m_Pad_append.2.1 17 = .ok (.iload_n 1, 1) := by decide +kernel
theorem D_Pad_append_18 : decode m_Pad_append.2.1 18 = .ok (.invokevirtual 24, 3) := by decide +kernel
theorem D_Pad_append_21 : decode m_Pad_append.2.1 21 = .ok (.aload_n 0, 1) := by decide +kernel
theorem D_Pad_append_22 : decode m_Pad_append.2.1 22 = .ok (.dup, 1) := by decide +kernel
theorem D_Pad_append_23 : decode m_Pad_append.2.1 23 = .ok (.getfield 20, 3) := by decide +kernel
theorem D_Pad_append_26 : decode m_Pad_append.2.1 26 = .ok (.iconst 1, 1) := by decide +kernel
theorem D_Pad_append_27 : decode m_Pad_append.2.1 27 = .ok (.iadd, 1) := by decide +kernel
theorem D_Pad_append_28 : decode m_Pad_append.2.1 28 = .ok (.putfield 20, 3) := by decide +kernel
theorem D_Pad_append_31 : decode m_Pad_append.2.1 31 = .ok (.return_, 1) := by decide +kernel
theorem D_Pad_scan_0 : decode m_Pad_scan.2.1 0 = .ok (.iconst 0, 1) := by decide +kernel
theorem D_Pad_scan_1 : decode m_Pad_scan.2.1 1 = .ok (.istore_n 1, 1) := by decide +kernel
theorem D_Pad_scan_2 : decode m_Pad_scan.2.1 2 = .ok (.iconst 0, 1) := by decide +kernel
theorem D_Pad_scan_3 : decode m_Pad_scan.2.1 3 = .ok (.istore_n 2, 1) := by decide +kernel
theorem D_Pad_scan_4 : decode m_Pad_scan.2.1 4 = .ok (.iconst 0, 1) := by decide +kernel
theorem D_Pad_scan_5 : decode m_Pad_scan.2.1 5 = .ok (.istore_n 3, 1) := by decide +kernel
theorem D_Pad_scan_6 : decode m_Pad_scan.2.1 6 = .ok (.iconst 0, 1) := by decide +kernel
theorem D_Pad_scan_7 : decode m_Pad_scan.2.1 7 = .ok (.istore 4, 2) := by decide +kernel
theorem D_Pad_scan_9 : decode m_Pad_scan.2.1 9 = .ok (.iload 4, 2) := by decide +kernel
theorem D_Pad_scan_11 : decode m_Pad_scan.2.1 11 = .ok (.aload_n 0, 1) := by decide +kernel
theorem D_Pad_scan_12 : decode m_Pad_scan.2.1 12 = .ok (.getfield 20, 3) := by decide +kernel
theorem D_Pad_scan_15 : decode m_Pad_scan.2.1 15 = .ok (.if_icmp .ge 88, 3) := by decide +kernel
theorem D_Pad_scan_18 : decode m_Pad_scan.2.1 18 = .ok (.aload_n 0, 1) := by decide +kernel
theorem D_Pad_scan_19 : decode m_Pad_scan.2.1 19 = .ok (.getfield 14, 3) := by decide +kernel
theorem D_Pad_scan_22 : decode m_Pad_scan.2.1 22 = .ok (.iload 4, 2) := by decide +kernel
theorem D_Pad_scan_24 : decode m_Pad_scan.2.1 24 = .ok (.invokevirtual 28, 3) := by decide +kernel
theorem D_Pad_scan_27 : decode m_Pad_scan.2.1 27 = .ok (.istore 5, 2) := by decide +kernel
theorem D_Pad_scan_29 : decode m_Pad_scan.2.1 29 = .ok (.iload 5, 2) := by decide +kernel
theorem D_Pad_scan_31 : decode m_Pad_scan.2.1 31 = .ok (.bipush 47, 2) := by decide +kernel
theorem D_Pad_scan_33 : decode m_Pad_scan.2.1 33 = .ok (.if_icmp .ne 35, 3) := by decide +kernel
theorem D_Pad_scan_36 : decode m_Pad_scan.2.1 36 = .ok (.iload_n 3, 1) := by decide +kernel
theorem D_Pad_scan_37 : decode m_Pad_scan.2.1 37 = .ok (.iconst 2, 1) := by decide +kernel
theorem D_Pad_scan_38 : decode m_Pad_scan.2.1 38 = .ok (.if_icmp .lt 17, 3) := by decide +kernel
theorem D_Pad_scan_41 : decode m_Pad_scan.2.1 41 = .ok (.iload_n 1, 1) := by decide +kernel
theorem D_Pad_scan_42 : decode m_Pad_scan.2.1 42 = .ok (.ifCond .le 8, 3) := by decide +kernel
theorem D_Pad_scan_45 : decode m_Pad_scan.2.1 45 = .ok (.iload_n 3, 1) := by decide +kernel
theorem D_Pad_scan_46 : decode m_Pad_scan.2.1 46 = .ok (.iload_n 2, 1) := by decide +kernel
theorem D_Pad_scan_47 : decode m_Pad_scan.2.1 47 = .ok (.if_icmp .ne 8, 3) := by decide +kernel
theorem D_Pad_scan_50 : decode m_Pad_scan.2.1 50 = .ok (.iload_n 1, 1) := by decide +kernel
theorem D_Pad_scan_51 : decode m_Pad_scan.2.1 51 = .ok (.iconst 5, 1) := by decide +kernel
theorem D_Pad_scan_52 : decode m_Pad_scan.2.1 52 = .ok (.if_icmp .ne 6, 3) := by decide +kernel
theorem D_Pad_scan_55 : decode m_Pad_scan.2.1 55 = .ok (.iload 4, 2) := by decide +kernel
theorem D_Pad_scan_57 : decode m_Pad_scan.2.1 57 = .ok (.ireturn, 1) := by decide +kernel
theorem D_Pad_scan_58 : decode m_Pad_scan.2.1 58 = .ok (.iload_n 3, 1) := by decide +kernel
theorem D_Pad_scan_59 : decode m_Pad_scan.2.1 59 = .ok (.istore_n 2, 1) := by decide +kernel
theorem D_Pad_scan_60 : decode m_Pad_scan.2.1 60 = .ok (.iconst 0, 1) := by decide +kernel
theorem D_Pad_scan_61 : decode m_Pad_scan.2.1 61 = .ok (.istore_n 3, 1) := by decide +kernel
theorem D_Pad_scan_62 : decode m_Pad_scan.2.1 62 = .ok (.iinc 1 1, 3) := by decide +kernel
theorem D_Pad_scan_65 : decode m_Pad_scan.2.1 65 = .ok (.goto 32, 3) := by decide +kernel
theorem D_Pad_scan_68 : decode m_Pad_scan.2.1 68 = .ok (.iload 5, 2) := by decide +kernel
theorem D_Pad_scan_70 : decode m_Pad_scan.2.1 70 = .ok (.invokestatic 32, 3) := by decide +kernel
theorem D_Pad_scan_73 : decode m_Pad_scan.2.1 73 = .ok (.iconst (-1), 1) := by decide +kernel
theorem D_Pad_scan_74 : decode m_Pad_scan.2.1 74 = .ok (.if_icmp .eq 17, 3) := by decide +kernel
theorem D_Pad_scan_77 : decode m_Pad_scan.2.1 77 = .ok (.iload_n 3, 1) := by decide +kernel
theorem D_Pad_scan_78 : decode m_Pad_scan.2.1 78 = .ok (.iload_n 1, 1) := by decide +kernel
theorem D_Pad_scan_79 : decode m_Pad_scan.2.1 79 = .ok (.ifCond .le 7, 3) := by decide +kernel
theorem D_Pad_scan_82 : decode m_Pad_scan.2.1 82 = .ok (.iload_n 2, 1) := by decide +kernel
theorem D_Pad_scan_83 : decode m_Pad_scan.2.1 83 = .ok (.goto 5, 3) := by decide +kernel
theorem D_Pad_scan_86 : decode m_Pad_scan.2.1 86 = .ok (.bipush 6, 2) := by decide +kernel
theorem D_Pad_scan_88 : decode m_Pad_scan.2.1 88 = .ok (.if_icmp .ne 6, 3) := by decide +kernel
theorem D_Pad_scan_91 : decode m_Pad_scan.2.1 91 = .ok (.iload 4, 2) := by decide +kernel
theorem D_Pad_scan_93 : decode m_Pad_scan.2.1 93 = .ok (.ireturn, 1) := by decide +kernel
theorem D_Pad_scan_94 : decode m_Pad_scan.2.1 94 = .ok (.iinc 3 1, 3) := by decide +kernel
theorem D_Pad_scan_97 : decode m_Pad_scan.2.1 97 = .ok (.iinc 4 1, 3) := by decide +kernel
theorem D_Pad_scan_100 : decode m_Pad_scan.2.1 100 = .ok (.goto (-91), 3) := by decide +kernel
theorem D_Pad_scan_103 : decode m_Pad_scan.2.1 103 = .ok (.iload_n 1, 1) := by decide +kernel
theorem D_Pad_scan_104 : decode m_Pad_scan.2.1 104 = .ok (.ifCond .eq 8, 3) := by decide +kernel
theorem D_Pad_scan_107 : decode m_Pad_scan.2.1 107 = .ok (.iload_n 3, 1) := by decide +kernel
theorem D_Pad_scan_108 : decode m_Pad_scan.2.1 108 = .ok (.iload_n 2, 1) := by decide +kernel
theorem D_Pad_scan_109 : decode m_Pad_scan.2.1 109 = .ok (.if_icmp .eq 8, 3) := by decide +kernel
theorem D_Pad_scan_112 : decode m_Pad_scan.2.1 112 = .ok (.aload_n 0, 1) := by decide +kernel
theorem D_Pad_scan_113 : decode m_Pad_scan.2.1 113 = .ok (.getfield 20, 3) := by decide +kernel
theorem D_Pad_scan_116 : decode m_Pad_scan.2.1 116 = .ok (.ireturn, 1) := by decide +kernel
theorem D_Pad_scan_117 : decode m_Pad_scan.2.1 117 = .ok (.aload_n 0, 1) := by decide +kernel
theorem D_Pad_scan_118 : decode m_Pad_scan.2.1 118 = .ok (.iload_n 1, 1) := by decide +kernel
theorem D_Pad_scan_119 : decode m_Pad_scan.2.1 119 = .ok (.iconst 1, 1) := by decide +kernel
theorem D_Pad_scan_120 : decode m_Pad_scan.2.1 120 = .ok (.iadd, 1) := by decide +kernel
theorem D_Pad_scan_121 : decode m_Pad_scan.2.1 121 = .ok (.putfield 35, 3) := by decide +kernel
theorem D_Pad_scan_124 : decode m_Pad_scan.2.1 124 = .ok (.aload_n 0, 1) := by decide +kernel
theorem D_Pad_scan_125 : decode m_Pad_scan.2.1 125 = .ok (.iload_n 2, 1) := by decide +kernel
theorem D_Pad_scan_126 : decode m_Pad_scan.2.1 126 = .ok (.putfield 38, 3) := by decide +kernel
theorem D_Pad_scan_129 : decode m_Pad_scan.2.1 129 = .ok (.bipush (-6), 2) := by decide +kernel
theorem D_Pad_scan_131 : decode m_Pad_scan.2.1 131 = .ok (.ireturn, 1) := by decide +kernel
theorem D_Pad_rows_0 : decode m_Pad_rows.2.1 0 = .ok (.aload_n 0, 1) := by decide +kernel
theorem D_Pad_rows_1 : decode m_Pad_rows.2.1 1 = .ok (.getfield 35, 3) := by decide +kernel
theorem D_Pad_rows_4 : decode m_Pad_rows.2.1 4 = .ok (.ireturn, 1) := by decide +kernel
theorem D_Pad_columns_0 : decode m_Pad_columns.2.1 0 = .ok (.aload_n 0, 1) := by decide +kernel
theorem D_Pad_columns_1 : decode m_Pad_columns.2.1 1 = .ok (.getfield 38, 3) := by decide +kernel
theorem D_Pad_columns_4 : decode m_Pad_columns.2.1 4 = .ok (.ireturn, 1) := by decide +kernel
theorem D_Pad_number_0 : decode m_Pad_number.2.1 0 = .ok (.aload_n 0, 1) := by decide +kernel
theorem D_Pad_number_1 : decode m_Pad_number.2.1 1 = .ok (.getfield 14, 3) := by decide +kernel
theorem D_Pad_number_4 : decode m_Pad_number.2.1 4 = .ok (.aload_n 0, 1) := by decide +kernel
theorem D_Pad_number_5 : decode m_Pad_number.2.1 5 = .ok (.getfield 38, 3) := by decide +kernel
theorem D_Pad_number_8 : decode m_Pad_number.2.1 8 = .ok (.iconst 1, 1) := by decide +kernel
theorem D_Pad_number_9 : decode m_Pad_number.2.1 9 = .ok (.iadd, 1) := by decide +kernel
theorem D_Pad_number_10 : decode m_Pad_number.2.1 10 = .ok (.iload_n 1, 1) := by decide +kernel
theorem D_Pad_number_11 : decode m_Pad_number.2.1 11 = .ok (.imul, 1) := by decide +kernel
theorem D_Pad_number_12 : decode m_Pad_number.2.1 12 = .ok (.iload_n 2, 1) := by decide +kernel
theorem D_Pad_number_13 : decode m_Pad_number.2.1 13 = .ok (.iadd, 1) := by decide +kernel
theorem D_Pad_number_14 : decode m_Pad_number.2.1 14 = .ok (.invokevirtual 28, 3) := by decide +kernel
theorem D_Pad_number_17 : decode m_Pad_number.2.1 17 = .ok (.invokestatic 32, 3) := by decide +kernel
theorem D_Pad_number_20 : decode m_Pad_number.2.1 20 = .ok (.ireturn, 1) := by decide +kernel
theorem D_Pad_greatestNumber_0 : decode m_Pad_greatestNumber.2.1 0 = .ok (.iconst 0, 1) := by decide +kernel
theorem D_Pad_greatestNumber_1 : decode m_Pad_greatestNumber.2.1 1 = .ok (.istore_n 1, 1) := by decide +kernel
theorem D_Pad_greatestNumber_2 : decode m_Pad_greatestNumber.2.1 2 = .ok (.iconst 0, 1) := by decide +kernel
theorem D_Pad_greatestNumber_3 : decode m_Pad_greatestNumber.2.1 3 = .ok (.istore_n 2, 1) := by decide +kernel
theorem D_Pad_greatestNumber_4 : decode m_Pad_greatestNumber.2.1 4 = .ok (.iload_n 2, 1) := by decide +kernel
theorem D_Pad_greatestNumber_5 : decode m_Pad_greatestNumber.2.1 5 = .ok (.aload_n 0, 1) := by decide +kernel
theorem D_Pad_greatestNumber_6 : decode m_Pad_greatestNumber.2.1 6 = .ok (.getfield 20, 3) := by decide +kernel
theorem D_Pad_greatestNumber_9 : decode m_Pad_greatestNumber.2.1 9 = .ok (.if_icmp .ge 25, 3) := by decide +kernel
theorem D_Pad_greatestNumber_12 : decode m_Pad_greatestNumber.2.1 12 = .ok (.iload_n 1, 1) := by decide +kernel
theorem D_Pad_greatestNumber_13 : decode m_Pad_greatestNumber.2.1 13 = .ok (.aload_n 0, 1) := by decide +kernel
theorem D_Pad_greatestNumber_14 : decode m_Pad_greatestNumber.2.1 14 = .ok (.getfield 14, 3) := by decide +kernel
theorem D_Pad_greatestNumber_17 : decode m_Pad_greatestNumber.2.1 17 = .ok (.iload_n 2, 1) := by decide +kernel
theorem D_Pad_greatestNumber_18 : decode m_Pad_greatestNumber.2.1 18 = .ok (.invokevirtual 28, 3) := by decide +kernel
theorem D_Pad_greatestNumber_21 : decode m_Pad_greatestNumber.2.1 21 = .ok (.invokestatic 32, 3) := by decide +kernel
theorem D_Pad_greatestNumber_24 : decode m_Pad_greatestNumber.2.1 24 = .ok (.invokestatic 41, 3) := by decide +kernel
theorem D_Pad_greatestNumber_27 : decode m_Pad_greatestNumber.2.1 27 = .ok (.istore_n 1, 1) := by decide +kernel
theorem D_Pad_greatestNumber_28 : decode m_Pad_greatestNumber.2.1 28 = .ok (.iinc 2 1, 3) := by decide +kernel
theorem D_Pad_greatestNumber_31 : decode m_Pad_greatestNumber.2.1 31 = .ok (.goto (-27), 3) := by decide +kernel
theorem D_Pad_greatestNumber_34 : decode m_Pad_greatestNumber.2.1 34 = .ok (.iload_n 1, 1) := by decide +kernel
theorem D_Pad_greatestNumber_35 : decode m_Pad_greatestNumber.2.1 35 = .ok (.ireturn, 1) := by decide +kernel
theorem D_Pad_signOf_0 : decode m_Pad_signOf.2.1 0 = .ok (.iload_n 0, 1) := by decide +kernel
theorem D_Pad_signOf_1 : decode m_Pad_signOf.2.1 1 = .ok (.bipush 46, 2) := by decide +kernel
theorem D_Pad_signOf_3 : decode m_Pad_signOf.2.1 3 = .ok (.if_icmp .ne 5, 3) := by decide +kernel
theorem D_Pad_signOf_6 : decode m_Pad_signOf.2.1 6 = .ok (.iconst 0, 1) := by decide +kernel
theorem D_Pad_signOf_7 : decode m_Pad_signOf.2.1 7 = .ok (.ireturn, 1) := by decide +kernel
theorem D_Pad_signOf_8 : decode m_Pad_signOf.2.1 8 = .ok (.iload_n 0, 1) := by decide +kernel
theorem D_Pad_signOf_9 : decode m_Pad_signOf.2.1 9 = .ok (.bipush 49, 2) := by decide +kernel
theorem D_Pad_signOf_11 : decode m_Pad_signOf.2.1 11 = .ok (.if_icmp .lt 14, 3) := by decide +kernel
theorem D_Pad_signOf_14 : decode m_Pad_signOf.2.1 14 = .ok (.iload_n 0, 1) := by decide +kernel
theorem D_Pad_signOf_15 : decode m_Pad_signOf.2.1 15 = .ok (.bipush 57, 2) := by decide +kernel
theorem D_Pad_signOf_17 : decode m_Pad_signOf.2.1 17 = .ok (.if_icmp .gt 8, 3) := by decide +kernel
theorem D_Pad_signOf_20 : decode m_Pad_signOf.2.1 20 = .ok (.iload_n 0, 1) := by decide +kernel
theorem D_Pad_signOf_21 : decode m_Pad_signOf.2.1 21 = .ok (.bipush 48, 2) := by decide +kernel
theorem D_Pad_signOf_23 : decode m_Pad_signOf.2.1 23 = .ok (.isub, 1) := by decide +kernel
theorem D_Pad_signOf_24 : decode m_Pad_signOf.2.1 24 = .ok (.ireturn, 1) := by decide +kernel
theorem D_Pad_signOf_25 : decode m_Pad_signOf.2.1 25 = .ok (.iload_n 0, 1) := by decide +kernel
theorem D_Pad_signOf_26 : decode m_Pad_signOf.2.1 26 = .ok (.bipush 97, 2) := by decide +kernel
theorem D_Pad_signOf_28 : decode m_Pad_signOf.2.1 28 = .ok (.if_icmp .lt 19, 3) := by decide +kernel
theorem D_Pad_signOf_31 : decode m_Pad_signOf.2.1 31 = .ok (.iload_n 0, 1) := by decide +kernel
theorem D_Pad_signOf_32 : decode m_Pad_signOf.2.1 32 = .ok (.bipush 99, 2) := by decide +kernel
theorem D_Pad_signOf_34 : decode m_Pad_signOf.2.1 34 = .ok (.if_icmp .gt 13, 3) := by decide +kernel
theorem D_Pad_signOf_37 : decode m_Pad_signOf.2.1 37 = .ok (.iload_n 0, 1) := by decide +kernel
theorem D_Pad_signOf_38 : decode m_Pad_signOf.2.1 38 = .ok (.bipush 97, 2) := by decide +kernel
theorem D_Pad_signOf_40 : decode m_Pad_signOf.2.1 40 = .ok (.isub, 1) := by decide +kernel
theorem D_Pad_signOf_41 : decode m_Pad_signOf.2.1 41 = .ok (.bipush 10, 2) := by decide +kernel
theorem D_Pad_signOf_43 : decode m_Pad_signOf.2.1 43 = .ok (.iadd, 1) := by decide +kernel
theorem D_Pad_signOf_44 : decode m_Pad_signOf.2.1 44 = .ok (.goto 4, 3) := by decide +kernel
theorem D_Pad_signOf_47 : decode m_Pad_signOf.2.1 47 = .ok (.iconst (-1), 1) := by decide +kernel
theorem D_Pad_signOf_48 : decode m_Pad_signOf.2.1 48 = .ok (.ireturn, 1) := by decide +kernel
theorem D_Parts_init_0 : decode m_Parts_init.2.1 0 = .ok (.aload_n 0, 1) := by decide +kernel
theorem D_Parts_init_1 : decode m_Parts_init.2.1 1 = .ok (.invokespecial 3, 3) := by decide +kernel
theorem D_Parts_init_4 : decode m_Parts_init.2.1 4 = .ok (.aload_n 0, 1) := by decide +kernel
theorem D_Parts_init_5 : decode m_Parts_init.2.1 5 = .ok (.new 9, 3) := by decide +kernel
theorem D_Parts_init_8 : decode m_Parts_init.2.1 8 = .ok (.dup, 1) := by decide +kernel
theorem D_Parts_init_9 : decode m_Parts_init.2.1 9 = .ok (.bipush 6, 2) := by decide +kernel
theorem D_Parts_init_11 : decode m_Parts_init.2.1 11 = .ok (.invokespecial 11, 3) := by decide +kernel
theorem D_Parts_init_14 : decode m_Parts_init.2.1 14 = .ok (.putfield 14, 3) := by decide +kernel
theorem D_Parts_init_17 : decode m_Parts_init.2.1 17 = .ok (.aload_n 0, 1) := by decide +kernel
theorem D_Parts_init_18 : decode m_Parts_init.2.1 18 = .ok (.new 9, 3) := by decide +kernel
theorem D_Parts_init_21 : decode m_Parts_init.2.1 21 = .ok (.dup, 1) := by decide +kernel
theorem D_Parts_init_22 : decode m_Parts_init.2.1 22 = .ok (.bipush 6, 2) := by decide +kernel
theorem D_Parts_init_24 : decode m_Parts_init.2.1 24 = .ok (.invokespecial 11, 3) := by decide +kernel
theorem D_Parts_init_27 : decode m_Parts_init.2.1 27 = .ok (.putfield 20, 3) := by decide +kernel
theorem D_Parts_init_30 : decode m_Parts_init.2.1 30 = .ok (.aload_n 0, 1) := by decide +kernel
theorem D_Parts_init_31 : decode m_Parts_init.2.1 31 = .ok (.new 9, 3) := by decide +kernel
theorem D_Parts_init_34 : decode m_Parts_init.2.1 34 = .ok (.dup, 1) := by decide +kernel
theorem D_Parts_init_35 : decode m_Parts_init.2.1 35 = .ok (.bipush 6, 2) := by decide +kernel
theorem D_Parts_init_37 : decode m_Parts_init.2.1 37 = .ok (.invokespecial 11, 3) := by decide +kernel
theorem D_Parts_init_40 : decode m_Parts_init.2.1 40 = .ok (.putfield 23, 3) := by decide +kernel
theorem D_Parts_init_43 : decode m_Parts_init.2.1 43 = .ok (.aload_n 0, 1) := by decide +kernel
theorem D_Parts_init_44 : decode m_Parts_init.2.1 44 = .ok (.new 9, 3) := by decide +kernel
theorem D_Parts_init_47 : decode m_Parts_init.2.1 47 = .ok (.dup, 1) := by decide +kernel
theorem D_Parts_init_48 : decode m_Parts_init.2.1 48 = .ok (.bipush 6, 2) := by decide +kernel
theorem D_Parts_init_50 : decode m_Parts_init.2.1 50 = .ok (.invokespecial 11, 3) := by decide +kernel
theorem D_Parts_init_53 : decode m_Parts_init.2.1 53 = .ok (.putfield 26, 3) := by decide +kernel
theorem D_Parts_init_56 : decode m_Parts_init.2.1 56 = .ok (.return_, 1) := by decide +kernel
theorem D_Parts_find_0 : decode m_Parts_find.2.1 0 = .ok (.aload_n 0, 1) := by decide +kernel
theorem D_Parts_find_1 : decode m_Parts_find.2.1 1 = .ok (.iconst 0, 1) := by decide +kernel
theorem D_Parts_find_2 : decode m_Parts_find.2.1 2 = .ok (.putfield 29, 3) := by decide +kernel
theorem D_Parts_find_5 : decode m_Parts_find.2.1 5 = .ok (.aload_n 0, 1) := by decide +kernel
theorem D_Parts_find_6 : decode m_Parts_find.2.1 6 = .ok (.getfield 14, 3) := by decide +kernel
theorem D_Parts_find_9 : decode m_Parts_find.2.1 9 = .ok (.iconst (-1), 1) := by decide +kernel
theorem D_Parts_find_10 : decode m_Parts_find.2.1 10 = .ok (.invokevirtual 33, 3) := by decide +kernel
theorem D_Parts_find_13 : decode m_Parts_find.2.1 13 = .ok (.aload_n 0, 1) := by decide +kernel
theorem D_Parts_find_14 : decode m_Parts_find.2.1 14 = .ok (.getfield 20, 3) := by decide +kernel
theorem D_Parts_find_17 : decode m_Parts_find.2.1 17 = .ok (.iconst (-1), 1) := by decide +kernel
theorem D_Parts_find_18 : decode m_Parts_find.2.1 18 = .ok (.invokevirtual 33, 3) := by decide +kernel
theorem D_Parts_find_21 : decode m_Parts_find.2.1 21 = .ok (.iconst 0, 1) := by decide +kernel
theorem D_Parts_find_22 : decode m_Parts_find.2.1 22 = .ok (.istore_n 2, 1) := by decide +kernel
theorem D_Parts_find_23 : decode m_Parts_find.2.1 23 = .ok (.iload_n 2, 1) := by decide +kernel
theorem D_Parts_find_24 : decode m_Parts_find.2.1 24 = .ok (.aload_n 1, 1) := by decide +kernel
theorem D_Parts_find_25 : decode m_Parts_find.2.1 25 = .ok (.invokevirtual 36, 3) := by decide +kernel
theorem D_Parts_find_28 : decode m_Parts_find.2.1 28 = .ok (.if_icmp .ge 57, 3) := by decide +kernel
theorem D_Parts_find_31 : decode m_Parts_find.2.1 31 = .ok (.aload_n 0, 1) := by decide +kernel
theorem D_Parts_find_32 : decode m_Parts_find.2.1 32 = .ok (.getfield 14, 3) := by decide +kernel
theorem D_Parts_find_35 : decode m_Parts_find.2.1 35 = .ok (.iload_n 2, 1) := by decide +kernel
theorem D_Parts_find_36 : decode m_Parts_find.2.1 36 = .ok (.invokevirtual 42, 3) := by decide +kernel
theorem D_Parts_find_39 : decode m_Parts_find.2.1 39 = .ok (.iconst (-1), 1) := by decide +kernel
theorem D_Parts_find_40 : decode m_Parts_find.2.1 40 = .ok (.if_icmp .ne 39, 3) := by decide +kernel
theorem D_Parts_find_43 : decode m_Parts_find.2.1 43 = .ok (.aload_n 0, 1) := by decide +kernel
theorem D_Parts_find_44 : decode m_Parts_find.2.1 44 = .ok (.getfield 14, 3) := by decide +kernel
theorem D_Parts_find_47 : decode m_Parts_find.2.1 47 = .ok (.iload_n 2, 1) := by decide +kernel
theorem D_Parts_find_48 : decode m_Parts_find.2.1 48 = .ok (.aload_n 0, 1) := by decide +kernel
theorem D_Parts_find_49 : decode m_Parts_find.2.1 49 = .ok (.getfield 29, 3) := by decide +kernel
theorem D_Parts_find_52 : decode m_Parts_find.2.1 52 = .ok (.invokevirtual 46, 3) := by decide +kernel
theorem D_Parts_find_55 : decode m_Parts_find.2.1 55 = .ok (.aload_n 0, 1) := by decide +kernel
theorem D_Parts_find_56 : decode m_Parts_find.2.1 56 = .ok (.getfield 23, 3) := by decide +kernel
theorem D_Parts_find_59 : decode m_Parts_find.2.1 59 = .ok (.iload_n 2, 1) := by decide +kernel
theorem D_Parts_find_60 : decode m_Parts_find.2.1 60 = .ok (.iconst 1, 1) := by decide +kernel
theorem D_Parts_find_61 : decode m_Parts_find.2.1 61 = .ok (.invokevirtual 46, 3) := by decide +kernel
theorem D_Parts_find_64 : decode m_Parts_find.2.1 64 = .ok (.aload_n 0, 1) := by decide +kernel
theorem D_Parts_find_65 : decode m_Parts_find.2.1 65 = .ok (.dup, 1) := by decide +kernel
theorem D_Parts_find_66 : decode m_Parts_find.2.1 66 = .ok (.getfield 29, 3) := by decide +kernel
theorem D_Parts_find_69 : decode m_Parts_find.2.1 69 = .ok (.iconst 1, 1) := by decide +kernel
theorem D_Parts_find_70 : decode m_Parts_find.2.1 70 = .ok (.iadd, 1) := by decide +kernel
theorem D_Parts_find_71 : decode m_Parts_find.2.1 71 = .ok (.putfield 29, 3) := by decide +kernel
theorem D_Parts_find_74 : decode m_Parts_find.2.1 74 = .ok (.aload_n 0, 1) := by decide +kernel
theorem D_Parts_find_75 : decode m_Parts_find.2.1 75 = .ok (.aload_n 1, 1) := by decide +kernel
theorem D_Parts_find_76 : decode m_Parts_find.2.1 76 = .ok (.invokevirtual 50, 3) := by decide +kernel
theorem D_Parts_find_79 : decode m_Parts_find.2.1 79 = .ok (.iinc 2 1, 3) := by decide +kernel
theorem D_Parts_find_82 : decode m_Parts_find.2.1 82 = .ok (.goto (-59), 3) := by decide +kernel
theorem D_Parts_find_85 : decode m_Parts_find.2.1 85 = .ok (.iconst 0, 1) := by decide +kernel
theorem D_Parts_find_86 : decode m_Parts_find.2.1 86 = .ok (.istore_n 2, 1) := by decide +kernel
theorem D_Parts_find_87 : decode m_Parts_find.2.1 87 = .ok (.iload_n 2, 1) := by decide +kernel
theorem D_Parts_find_88 : decode m_Parts_find.2.1 88 = .ok (.aload_n 1, 1) := by decide +kernel
theorem D_Parts_find_89 : decode m_Parts_find.2.1 89 = .ok (.invokevirtual 54, 3) := by decide +kernel
theorem D_Parts_find_92 : decode m_Parts_find.2.1 92 = .ok (.if_icmp .ge 52, 3) := by decide +kernel
theorem D_Parts_find_95 : decode m_Parts_find.2.1 95 = .ok (.aload_n 0, 1) := by decide +kernel
theorem D_Parts_find_96 : decode m_Parts_find.2.1 96 = .ok (.getfield 20, 3) := by decide +kernel
theorem D_Parts_find_99 : decode m_Parts_find.2.1 99 = .ok (.iload_n 2, 1) := by decide +kernel
theorem D_Parts_find_100 : decode m_Parts_find.2.1 100 = .ok (.invokevirtual 42, 3) := by decide +kernel
theorem D_Parts_find_103 : decode m_Parts_find.2.1 103 = .ok (.iconst (-1), 1) := by decide +kernel
theorem D_Parts_find_104 : decode m_Parts_find.2.1 104 = .ok (.if_icmp .ne 34, 3) := by decide +kernel
theorem D_Parts_find_107 : decode m_Parts_find.2.1 107 = .ok (.aload_n 0, 1) := by decide +kernel
theorem D_Parts_find_108 : decode m_Parts_find.2.1 108 = .ok (.getfield 20, 3) := by decide +kernel
theorem D_Parts_find_111 : decode m_Parts_find.2.1 111 = .ok (.iload_n 2, 1) := by decide +kernel
theorem D_Parts_find_112 : decode m_Parts_find.2.1 112 = .ok (.aload_n 0, 1) := by decide +kernel
theorem D_Parts_find_113 : decode m_Parts_find.2.1 113 = .ok (.getfield 29, 3) := by decide +kernel
theorem D_Parts_find_116 : decode m_Parts_find.2.1 116 = .ok (.invokevirtual 46, 3) := by decide +kernel
theorem D_Parts_find_119 : decode m_Parts_find.2.1 119 = .ok (.aload_n 0, 1) := by decide +kernel
theorem D_Parts_find_120 : decode m_Parts_find.2.1 120 = .ok (.getfield 26, 3) := by decide +kernel
theorem D_Parts_find_123 : decode m_Parts_find.2.1 123 = .ok (.iload_n 2, 1) := by decide +kernel
theorem D_Parts_find_124 : decode m_Parts_find.2.1 124 = .ok (.iconst 1, 1) := by decide +kernel
theorem D_Parts_find_125 : decode m_Parts_find.2.1 125 = .ok (.invokevirtual 46, 3) := by decide +kernel
theorem D_Parts_find_128 : decode m_Parts_find.2.1 128 = .ok (.aload_n 0, 1) := by decide +kernel
theorem D_Parts_find_129 : decode m_Parts_find.2.1 129 = .ok (.dup, 1) := by decide +kernel
theorem D_Parts_find_130 : decode m_Parts_find.2.1 130 = .ok (.getfield 29, 3) := by decide +kernel
theorem D_Parts_find_133 : decode m_Parts_find.2.1 133 = .ok (.iconst 1, 1) := by decide +kernel
theorem D_Parts_find_134 : decode m_Parts_find.2.1 134 = .ok (.iadd, 1) := by decide +kernel
theorem D_Parts_find_135 : decode m_Parts_find.2.1 135 = .ok (.putfield 29, 3) := by decide +kernel
theorem D_Parts_find_138 : decode m_Parts_find.2.1 138 = .ok (.iinc 2 1, 3) := by decide +kernel
theorem D_Parts_find_141 : decode m_Parts_find.2.1 141 = .ok (.goto (-54), 3) := by decide +kernel
theorem D_Parts_find_144 : decode m_Parts_find.2.1 144 = .ok (.aload_n 0, 1) := by decide +kernel
theorem D_Parts_find_145 : decode m_Parts_find.2.1 145 = .ok (.aload_n 0, 1) := by decide +kernel
theorem D_Parts_find_146 : decode m_Parts_find.2.1 146 = .ok (.aload_n 1, 1) := by decide +kernel
theorem D_Parts_find_147 : decode m_Parts_find.2.1 147 = .ok (.invokevirtual 57, 3) := by decide +kernel
theorem D_Parts_find_150 : decode m_Parts_find.2.1 150 = .ok (.putfield 61, 3) := by decide +kernel
theorem D_Parts_find_153 : decode m_Parts_find.2.1 153 = .ok (.return_, 1) := by decide +kernel
theorem D_Parts_spread_0 : decode m_Parts_spread.2.1 0 = .ok (.iconst 1, 1) := by decide +kernel
theorem D_Parts_spread_1 : decode m_Parts_spread.2.1 1 = .ok (.istore_n 2, 1) := by decide +kernel
theorem D_Parts_spread_2 : decode m_Parts_spread.2.1 2 = .ok (.iconst 0, 1) := by decide +kernel
theorem D_Parts_spread_3 : decode m_Parts_spread.2.1 3 = .ok (.istore_n 3, 1) := by decide +kernel
theorem D_Parts_spread_4 : decode m_Parts_spread.2.1 4 = .ok (.iload_n 3, 1) := by decide +kernel
theorem D_Parts_spread_5 : decode m_Parts_spread.2.1 5 = .ok (.bipush 12, 2) := by decide +kernel
theorem D_Parts_spread_7 : decode m_Parts_spread.2.1 7 = .ok (.if_icmp .gt 76, 3) := by decide +kernel
theorem D_Parts_spread_10 : decode m_Parts_spread.2.1 10 = .ok (.iload_n 2, 1) := by decide +kernel
theorem D_Parts_spread_11 : decode m_Parts_spread.2.1 11 = .ok (.ifCond .eq 72, 3) := by decide +kernel
theorem D_Parts_spread_14 : decode m_Parts_spread.2.1 14 = .ok (.iconst 0, 1) := by decide +kernel
theorem D_Parts_spread_15 : decode m_Parts_spread.2.1 15 = .ok (.istore_n 2, 1) := by decide +kernel
theorem D_Parts_spread_16 : decode m_Parts_spread.2.1 16 = .ok (.iconst 0, 1) := by decide +kernel
theorem D_Parts_spread_17 : decode m_Parts_spread.2.1 17 = .ok (.istore 4, 2) := by decide +kernel
theorem D_Parts_spread_19 : decode m_Parts_spread.2.1 19 = .ok (.iload 4, 2) := by decide +kernel
theorem D_Parts_spread_21 : decode m_Parts_spread.2.1 21 = .ok (.aload_n 1, 1) := by decide +kernel
theorem D_Parts_spread_22 : decode m_Parts_spread.2.1 22 = .ok (.invokevirtual 36, 3) := by decide +kernel
theorem D_Parts_spread_25 : decode m_Parts_spread.2.1 25 = .ok (.if_icmp .ge 52, 3) := by decide +kernel
theorem D_Parts_spread_28 : decode m_Parts_spread.2.1 28 = .ok (.iconst 0, 1) := by decide +kernel
theorem D_Parts_spread_29 : decode m_Parts_spread.2.1 29 = .ok (.istore 5, 2) := by decide +kernel
theorem D_Parts_spread_31 : decode m_Parts_spread.2.1 31 = .ok (.iload 5, 2) := by decide +kernel
theorem D_Parts_spread_33 : decode m_Parts_spread.2.1 33 = .ok (.aload_n 1, 1) := by decide +kernel
theorem D_Parts_spread_34 : decode m_Parts_spread.2.1 34 = .ok (.invokevirtual 54, 3) := by decide +kernel
theorem D_Parts_spread_37 : decode m_Parts_spread.2.1 37 = .ok (.if_icmp .ge 34, 3) := by decide +kernel
theorem D_Parts_spread_40 : decode m_Parts_spread.2.1 40 = .ok (.aload_n 1, 1) := by decide +kernel
theorem D_Parts_spread_41 : decode m_Parts_spread.2.1 41 = .ok (.iload 4, 2) := by decide +kernel
theorem D_Parts_spread_43 : decode m_Parts_spread.2.1 43 = .ok (.iload 5, 2) := by decide +kernel
theorem D_Parts_spread_45 : decode m_Parts_spread.2.1 45 = .ok (.invokevirtual 65, 3) := by decide +kernel
theorem D_Parts_spread_48 : decode m_Parts_spread.2.1 48 = .ok (.ifCond .eq 17, 3) := by decide +kernel
theorem D_Parts_spread_51 : decode m_Parts_spread.2.1 51 = .ok (.aload_n 0, 1) := by decide +kernel
theorem D_Parts_spread_52 : decode m_Parts_spread.2.1 52 = .ok (.aload_n 1, 1) := by decide +kernel
theorem D_Parts_spread_53 : decode m_Parts_spread.2.1 53 = .ok (.iload 4, 2) := by decide +kernel
theorem D_Parts_spread_55 : decode m_Parts_spread.2.1 55 = .ok (.iload 5, 2) := by decide +kernel
theorem D_Parts_spread_57 : decode m_Parts_spread.2.1 57 = .ok (.invokevirtual 69, 3) := by decide +kernel
theorem D_Parts_spread_60 : decode m_Parts_spread.2.1 60 = .ok (.ifCond .eq 5, 3) := by decide +kernel
theorem D_Parts_spread_63 : decode m_Parts_spread.2.1 63 = .ok (.iconst 1, 1) := by decide +kernel
theorem D_Parts_spread_64 : decode m_Parts_spread.2.1 64 = .ok (.istore_n 2, 1) := by decide +kernel
theorem D_Parts_spread_65 : decode m_Parts_spread.2.1 65 = .ok (.iinc 5 1, 3) := by decide +kernel
theorem D_Parts_spread_68 : decode m_Parts_spread.2.1 68 = .ok (.goto (-37), 3) := by decide +kernel
theorem D_Parts_spread_71 : decode m_Parts_spread.2.1 71 = .ok (.iinc 4 1, 3) := by decide +kernel
theorem D_Parts_spread_74 : decode m_Parts_spread.2.1 74 = .ok (.goto (-55), 3) := by decide +kernel
theorem D_Parts_spread_77 : decode m_Parts_spread.2.1 77 = .ok (.iinc 3 1, 3) := by decide +kernel
theorem D_Parts_spread_80 : decode m_Parts_spread.2.1 80 = .ok (.goto (-76), 3) := by decide +kernel
theorem D_Parts_spread_83 : decode m_Parts_spread.2.1 83 = .ok (.return_, 1) := by decide +kernel
theorem D_Parts_reachOver_0 : decode m_Parts_reachOver.2.1 0 = .ok (.aload_n 0, 1) := by decide +kernel
theorem D_Parts_reachOver_1 : decode m_Parts_reachOver.2.1 1 = .ok (.getfield 14, 3) := by decide +kernel
theorem D_Parts_reachOver_4 : decode m_Parts_reachOver.2.1 4 = .ok (.iload_n 2, 1) := by decide +kernel
theorem D_Parts_reachOver_5 : decode m_Parts_reachOver.2.1 5 = .ok (.invokevirtual 42, 3) := by decide +kernel
theorem D_Parts_reachOver_8 : decode m_Parts_reachOver.2.1 8 = .ok (.istore 4, 2) := by decide +kernel
theorem D_Parts_reachOver_10 : decode m_Parts_reachOver.2.1 10 = .ok (.aload_n 0, 1) := by decide +kernel
theorem D_Parts_reachOver_11 : decode m_Parts_reachOver.2.1 11 = .ok (.getfield 20, 3) := by decide +kernel
theorem D_Parts_reachOver_14 : decode m_Parts_reachOver.2.1 14 = .ok (.iload_n 3, 1) := by decide +kernel
theorem D_Parts_reachOver_15 : decode m_Parts_reachOver.2.1 15 = .ok (.invokevirtual 42, 3) := by decide +kernel
theorem D_Parts_reachOver_18 : decode m_Parts_reachOver.2.1 18 = .ok (.istore 5, 2) := by decide +kernel
theorem D_Parts_reachOver_20 : decode m_Parts_reachOver.2.1 20 = .ok (.aload_n 1, 1) := by decide +kernel
theorem D_Parts_reachOver_21 : decode m_Parts_reachOver.2.1 21 = .ok (.iload_n 2, 1) := by decide +kernel
theorem D_Parts_reachOver_22 : decode m_Parts_reachOver.2.1 22 = .ok (.iload_n 3, 1) := by decide +kernel
theorem D_Parts_reachOver_23 : decode m_Parts_reachOver.2.1 23 = .ok (.invokevirtual 65, 3) := by decide +kernel
theorem D_Parts_reachOver_26 : decode m_Parts_reachOver.2.1 26 = .ok (.istore 6, 2) := by decide +kernel
theorem D_Parts_reachOver_28 : decode m_Parts_reachOver.2.1 28 = .ok (.iload 4, 2) := by decide +kernel
theorem D_Parts_reachOver_30 : decode m_Parts_reachOver.2.1 30 = .ok (.iconst (-1), 1) := by decide +kernel
theorem D_Parts_reachOver_31 : decode m_Parts_reachOver.2.1 31 = .ok (.if_icmp .ne 7, 3) := by decide +kernel
theorem D_Parts_reachOver_34 : decode m_Parts_reachOver.2.1 34 = .ok (.iconst 1, 1) := by decide +kernel
theorem D_Parts_reachOver_35 : decode m_Parts_reachOver.2.1 35 = .ok (.goto 4, 3) := by decide +kernel
theorem D_Parts_reachOver_38 : decode m_Parts_reachOver.2.1 38 = .ok (.iconst 0, 1) := by decide +kernel
theorem D_Parts_reachOver_39 : decode m_Parts_reachOver.2.1 39 = .ok (.iload 5, 2) := by decide +kernel
theorem D_Parts_reachOver_41 : decode m_Parts_reachOver.2.1 41 = .ok (.iconst (-1), 1) := by decide +kernel
theorem D_Parts_reachOver_42 : decode m_Parts_reachOver.2.1 42 = .ok (.if_icmp .ne 7, 3) := by decide +kernel
theorem D_Parts_reachOver_45 : decode m_Parts_reachOver.2.1 45 = .ok (.iconst 1, 1) := by decide +kernel
theorem D_Parts_reachOver_46 : decode m_Parts_reachOver.2.1 46 = .ok (.goto 4, 3) := by decide +kernel
theorem D_Parts_reachOver_49 : decode m_Parts_reachOver.2.1 49 = .ok (.iconst 0, 1) := by decide +kernel
theorem D_Parts_reachOver_50 : decode m_Parts_reachOver.2.1 50 = .ok (.if_icmp .ne 5, 3) := by decide +kernel
theorem D_Parts_reachOver_53 : decode m_Parts_reachOver.2.1 53 = .ok (.iconst 0, 1) := by decide +kernel
theorem D_Parts_reachOver_54 : decode m_Parts_reachOver.2.1 54 = .ok (.ireturn, 1) := by decide +kernel
theorem D_Parts_reachOver_55 : decode m_Parts_reachOver.2.1 55 = .ok (.iload 4, 2) := by decide +kernel
theorem D_Parts_reachOver_57 : decode m_Parts_reachOver.2.1 57 = .ok (.iconst (-1), 1) := by decide +kernel
theorem D_Parts_reachOver_58 : decode m_Parts_reachOver.2.1 58 = .ok (.if_icmp .ne 38, 3) := by decide +kernel
theorem D_Parts_reachOver_61 : decode m_Parts_reachOver.2.1 61 = .ok (.aload_n 0, 1) := by decide +kernel
theorem D_Parts_reachOver_62 : decode m_Parts_reachOver.2.1 62 = .ok (.getfield 14, 3) := by decide +kernel
theorem D_Parts_reachOver_65 : decode m_Parts_reachOver.2.1 65 = .ok (.iload_n 2, 1) := by decide +kernel
theorem D_Parts_reachOver_66 : decode m_Parts_reachOver.2.1 66 = .ok (.iload 5, 2) := by decide +kernel
theorem D_Parts_reachOver_68 : decode m_Parts_reachOver.2.1 68 = .ok (.invokevirtual 46, 3) := by decide +kernel
theorem D_Parts_reachOver_71 : decode m_Parts_reachOver.2.1 71 = .ok (.aload_n 0, 1) := by decide +kernel
theorem D_Parts_reachOver_72 : decode m_Parts_reachOver.2.1 72 = .ok (.getfield 23, 3) := by decide +kernel
theorem D_Parts_reachOver_75 : decode m_Parts_reachOver.2.1 75 = .ok (.iload_n 2, 1) := by decide +kernel
theorem D_Parts_reachOver_76 : decode m_Parts_reachOver.2.1 76 = .ok (.aload_n 1, 1) := by decide +kernel
theorem D_Parts_reachOver_77 : decode m_Parts_reachOver.2.1 77 = .ok (.iload 6, 2) := by decide +kernel
theorem D_Parts_reachOver_79 : decode m_Parts_reachOver.2.1 79 = .ok (.aload_n 0, 1) := by decide +kernel
theorem D_Parts_reachOver_80 : decode m_Parts_reachOver.2.1 80 = .ok (.getfield 26, 3) := by decide +kernel
theorem D_Parts_reachOver_83 : decode m_Parts_reachOver.2.1 83 = .ok (.iload_n 3, 1) := by decide +kernel
theorem D_Parts_reachOver_84 : decode m_Parts_reachOver.2.1 84 = .ok (.invokevirtual 42, 3) := by decide +kernel
theorem D_Parts_reachOver_87 : decode m_Parts_reachOver.2.1 87 = .ok (.invokevirtual 73, 3) := by decide +kernel
theorem D_Parts_reachOver_90 : decode m_Parts_reachOver.2.1 90 = .ok (.invokevirtual 46, 3) := by decide +kernel
theorem D_Parts_reachOver_93 : decode m_Parts_reachOver.2.1 93 = .ok (.goto 35, 3) := by decide +kernel
theorem D_Parts_reachOver_96 : decode m_Parts_reachOver.2.1 96 = .ok (.aload_n 0, 1) := by decide +kernel
theorem D_Parts_reachOver_97 : decode m_Parts_reachOver.2.1 97 = .ok (.getfield 20, 3) := by decide +kernel
theorem D_Parts_reachOver_100 : decode m_Parts_reachOver.2.1 100 = .ok (.iload_n 3, 1) := by decide +kernel
theorem D_Parts_reachOver_101 : decode m_Parts_reachOver.2.1 101 = .ok (.iload 4, 2) := by decide +kernel
theorem D_Parts_reachOver_103 : decode m_Parts_reachOver.2.1 103 = .ok (.invokevirtual 46, 3) := by decide +kernel
theorem D_Parts_reachOver_106 : decode m_Parts_reachOver.2.1 106 = .ok (.aload_n 0, 1) := by decide +kernel
theorem D_Parts_reachOver_107 : decode m_Parts_reachOver.2.1 107 = .ok (.getfield 26, 3) := by decide +kernel
theorem D_Parts_reachOver_110 : decode m_Parts_reachOver.2.1 110 = .ok (.iload_n 3, 1) := by decide +kernel
theorem D_Parts_reachOver_111 : decode m_Parts_reachOver.2.1 111 = .ok (.aload_n 1, 1) := by decide +kernel
theorem D_Parts_reachOver_112 : decode m_Parts_reachOver.2.1 112 = .ok (.iload 6, 2) := by decide +kernel
theorem D_Parts_reachOver_114 : decode m_Parts_reachOver.2.1 114 = .ok (.aload_n 0, 1) := by decide +kernel
theorem D_Parts_reachOver_115 : decode m_Parts_reachOver.2.1 115 = .ok (.getfield 23, 3) := by decide +kernel
theorem D_Parts_reachOver_118 : decode m_Parts_reachOver.2.1 118 = .ok (.iload_n 2, 1) := by decide +kernel
theorem D_Parts_reachOver_119 : decode m_Parts_reachOver.2.1 119 = .ok (.invokevirtual 42, 3) := by decide +kernel
theorem D_Parts_reachOver_122 : decode m_Parts_reachOver.2.1 122 = .ok (.invokevirtual 73, 3) := by decide +kernel
theorem D_Parts_reachOver_125 : decode m_Parts_reachOver.2.1 125 = .ok (.invokevirtual 46, 3) := by decide +kernel
theorem D_Parts_reachOver_128 : decode m_Parts_reachOver.2.1 128 = .ok (.iconst 1, 1) := by decide +kernel
theorem D_Parts_reachOver_129 : decode m_Parts_reachOver.2.1 129 = .ok (.ireturn, 1) := by decide +kernel
theorem D_Parts_allToldAreProducts_0 : decode m_Parts_allToldAreProducts.2.1 0 = .ok (.iconst 0, 1) := by decide +kernel
theorem D_Parts_allToldAreProducts_1 : decode m_Parts_allToldAreProducts.2.1 1 = .ok (.istore_n 2, 1) := by decide +kernel
theorem D_Parts_allToldAreProducts_2 : decode m_Parts_allToldAreProducts.2.1 2 = .ok (.iload_n 2, 1) := by decide +kernel
theorem D_Parts_allToldAreProducts_3 : decode m_Parts_allToldAreProducts.2.1 3 = .ok (.aload_n 1, 1) := by decide +kernel
theorem D_Parts_allToldAreProducts_4 : decode m_Parts_allToldAreProducts.2.1 4 = .ok (.invokevirtual 36, 3) := by decide +kernel
theorem D_Parts_allToldAreProducts_7 : decode m_Parts_allToldAreProducts.2.1 7 = .ok (.if_icmp .ge 52, 3) := by decide +kernel
theorem D_Parts_allToldAreProducts_10 : decode m_Parts_allToldAreProducts.2.1 10 = .ok (.iconst 0, 1) := by decide +kernel
theorem D_Parts_allToldAreProducts_11 : decode m_Parts_allToldAreProducts.2.1 11 = .ok (.istore_n 3, 1) := by decide +kernel
theorem D_Parts_allToldAreProducts_12 : decode m_Parts_allToldAreProducts.2.1 12 = .ok (.iload_n 3, 1) := by decide +kernel
theorem D_Parts_allToldAreProducts_13 : decode m_Parts_allToldAreProducts.2.1 13 = .ok (.aload_n 1, 1) := by decide +kernel
theorem D_Parts_allToldAreProducts_14 : decode m_Parts_allToldAreProducts.2.1 14 = .ok (.invokevirtual 54, 3) := by decide +kernel
theorem D_Parts_allToldAreProducts_17 : decode m_Parts_allToldAreProducts.2.1 17 = .ok (.if_icmp .ge 36, 3) := by decide +kernel
theorem D_Parts_allToldAreProducts_20 : decode m_Parts_allToldAreProducts.2.1 20 = .ok (.aload_n 1, 1) := by decide +kernel
theorem D_Parts_allToldAreProducts_21 : decode m_Parts_allToldAreProducts.2.1 21 = .ok (.iload_n 2, 1) := by decide +kernel
theorem D_Parts_allToldAreProducts_22 : decode m_Parts_allToldAreProducts.2.1 22 = .ok (.iload_n 3, 1) := by decide +kernel
theorem D_Parts_allToldAreProducts_23 : decode m_Parts_allToldAreProducts.2.1 23 = .ok (.invokevirtual 65, 3) := by decide +kernel
theorem D_Parts_allToldAreProducts_26 : decode m_Parts_allToldAreProducts.2.1 26 = .ok (.istore 4, 2) := by decide +kernel
theorem D_Parts_allToldAreProducts_28 : decode m_Parts_allToldAreProducts.2.1 28 = .ok (.iload 4, 2) := by decide +kernel
theorem D_Parts_allToldAreProducts_30 : decode m_Parts_allToldAreProducts.2.1 30 = .ok (.ifCond .eq 17, 3) := by decide +kernel
theorem D_Parts_allToldAreProducts_33 : decode m_Parts_allToldAreProducts.2.1 33 = .ok (.iload 4, 2) := by decide +kernel
theorem D_Parts_allToldAreProducts_35 : decode m_Parts_allToldAreProducts.2.1 35 = .ok (.aload_n 0, 1) := by decide +kernel
theorem D_Parts_allToldAreProducts_36 : decode m_Parts_allToldAreProducts.2.1 36 = .ok (.aload_n 1, 1) := by decide +kernel
theorem D_Parts_allToldAreProducts_37 : decode m_Parts_allToldAreProducts.2.1 37 = .ok (.iload_n 2, 1) := by decide +kernel
theorem D_Parts_allToldAreProducts_38 : decode m_Parts_allToldAreProducts.2.1 38 = .ok (.iload_n 3, 1) := by decide +kernel
theorem D_Parts_allToldAreProducts_39 : decode m_Parts_allToldAreProducts.2.1 39 = .ok (.invokevirtual 76, 3) := by decide +kernel
theorem D_Parts_allToldAreProducts_42 : decode m_Parts_allToldAreProducts.2.1 42 = .ok (.if_icmp .eq 5, 3) := by decide +kernel
theorem D_Parts_allToldAreProducts_45 : decode m_Parts_allToldAreProducts.2.1 45 = .ok (.iconst 0, 1) := by decide +kernel
theorem D_Parts_allToldAreProducts_46 : decode m_Parts_allToldAreProducts.2.1 46 = .ok (.ireturn, 1) := by decide +kernel
theorem D_Parts_allToldAreProducts_47 : decode m_Parts_allToldAreProducts.2.1 47 = .ok (.iinc 3 1, 3) := by decide +kernel
theorem D_Parts_allToldAreProducts_50 : decode m_Parts_allToldAreProducts.2.1 50 = .ok (.goto (-38), 3) := by decide +kernel
theorem D_Parts_allToldAreProducts_53 : decode m_Parts_allToldAreProducts.2.1 53 = .ok (.iinc 2 1, 3) := by decide +kernel
theorem D_Parts_allToldAreProducts_56 : decode m_Parts_allToldAreProducts.2.1 56 = .ok (.goto (-54), 3) := by decide +kernel
theorem D_Parts_allToldAreProducts_59 : decode m_Parts_allToldAreProducts.2.1 59 = .ok (.iconst 1, 1) := by decide +kernel
theorem D_Parts_allToldAreProducts_60 : decode m_Parts_allToldAreProducts.2.1 60 = .ok (.ireturn, 1) := by decide +kernel
theorem D_Parts_size_0 : decode m_Parts_size.2.1 0 = .ok (.aload_n 0, 1) := by decide +kernel
theorem D_Parts_size_1 : decode m_Parts_size.2.1 1 = .ok (.getfield 29, 3) := by decide +kernel
theorem D_Parts_size_4 : decode m_Parts_size.2.1 4 = .ok (.ireturn, 1) := by decide +kernel
theorem D_Parts_isConsistent_0 : decode m_Parts_isConsistent.2.1 0 = .ok (.aload_n 0, 1) := by decide +kernel
theorem D_Parts_isConsistent_1 : decode m_Parts_isConsistent.2.1 1 = .ok (.getfield 61, 3) := by decide +kernel
theorem D_Parts_isConsistent_4 : decode m_Parts_isConsistent.2.1 4 = .ok (.ireturn, 1) := by decide +kernel
theorem D_Parts_partOfRow_0 : decode m_Parts_partOfRow.2.1 0 = .ok (.aload_n 0, 1) := by decide +kernel
theorem D_Parts_partOfRow_1 : decode m_Parts_partOfRow.2.1 1 = .ok (.getfield 14, 3) := by decide +kernel
theorem D_Parts_partOfRow_4 : decode m_Parts_partOfRow.2.1 4 = .ok (.iload_n 1, 1) := by decide +kernel
theorem D_Parts_partOfRow_5 : decode m_Parts_partOfRow.2.1 5 = .ok (.invokevirtual 42, 3) := by decide +kernel
theorem D_Parts_partOfRow_8 : decode m_Parts_partOfRow.2.1 8 = .ok (.ireturn, 1) := by decide +kernel
theorem D_Parts_partOfColumn_0 : decode m_Parts_partOfColumn.2.1 0 = .ok (.aload_n 0, 1) := by decide +kernel
theorem D_Parts_partOfColumn_1 : decode m_Parts_partOfColumn.2.1 1 = .ok (.getfield 20, 3) := by decide +kernel
theorem D_Parts_partOfColumn_4 : decode m_Parts_partOfColumn.2.1 4 = .ok (.iload_n 1, 1) := by decide +kernel
theorem D_Parts_partOfColumn_5 : decode m_Parts_partOfColumn.2.1 5 = .ok (.invokevirtual 42, 3) := by decide +kernel
theorem D_Parts_partOfColumn_8 : decode m_Parts_partOfColumn.2.1 8 = .ok (.ireturn, 1) := by decide +kernel
theorem D_Parts_areJoined_0 : decode m_Parts_areJoined.2.1 0 = .ok (.aload_n 0, 1) := by decide +kernel
theorem D_Parts_areJoined_1 : decode m_Parts_areJoined.2.1 1 = .ok (.getfield 14, 3) := by decide +kernel
theorem D_Parts_areJoined_4 : decode m_Parts_areJoined.2.1 4 = .ok (.iload_n 1, 1) := by decide +kernel
theorem D_Parts_areJoined_5 : decode m_Parts_areJoined.2.1 5 = .ok (.invokevirtual 42, 3) := by decide +kernel
theorem D_Parts_areJoined_8 : decode m_Parts_areJoined.2.1 8 = .ok (.aload_n 0, 1) := by decide +kernel
theorem D_Parts_areJoined_9 : decode m_Parts_areJoined.2.1 9 = .ok (.getfield 20, 3) := by decide +kernel
theorem D_Parts_areJoined_12 : decode m_Parts_areJoined.2.1 12 = .ok (.iload_n 2, 1) := by decide +kernel
theorem D_Parts_areJoined_13 : decode m_Parts_areJoined.2.1 13 = .ok (.invokevirtual 42, 3) := by decide +kernel
theorem D_Parts_areJoined_16 : decode m_Parts_areJoined.2.1 16 = .ok (.if_icmp .ne 7, 3) := by decide +kernel
theorem D_Parts_areJoined_19 : decode m_Parts_areJoined.2.1 19 = .ok (.iconst 1, 1) := by decide +kernel
theorem D_Parts_areJoined_20 : decode m_Parts_areJoined.2.1 20 = .ok (.goto 4, 3) := by decide +kernel
theorem D_Parts_areJoined_23 : decode m_Parts_areJoined.2.1 23 = .ok (.iconst 0, 1) := by decide +kernel
theorem D_Parts_areJoined_24 : decode m_Parts_areJoined.2.1 24 = .ok (.ireturn, 1) := by decide +kernel
theorem D_Parts_product_0 : decode m_Parts_product.2.1 0 = .ok (.aload_n 1, 1) := by decide +kernel
theorem D_Parts_product_1 : decode m_Parts_product.2.1 1 = .ok (.aload_n 0, 1) := by decide +kernel
theorem D_Parts_product_2 : decode m_Parts_product.2.1 2 = .ok (.getfield 23, 3) := by decide +kernel
theorem D_Parts_product_5 : decode m_Parts_product.2.1 5 = .ok (.iload_n 2, 1) := by decide +kernel
theorem D_Parts_product_6 : decode m_Parts_product.2.1 6 = .ok (.invokevirtual 42, 3) := by decide +kernel
theorem D_Parts_product_9 : decode m_Parts_product.2.1 9 = .ok (.aload_n 0, 1) := by decide +kernel
theorem D_Parts_product_10 : decode m_Parts_product.2.1 10 = .ok (.getfield 26, 3) := by decide +kernel
theorem D_Parts_product_13 : decode m_Parts_product.2.1 13 = .ok (.iload_n 3, 1) := by decide +kernel
theorem D_Parts_product_14 : decode m_Parts_product.2.1 14 = .ok (.invokevirtual 42, 3) := by decide +kernel
theorem D_Parts_product_17 : decode m_Parts_product.2.1 17 = .ok (.invokevirtual 80, 3) := by decide +kernel
theorem D_Parts_product_20 : decode m_Parts_product.2.1 20 = .ok (.ireturn, 1) := by decide +kernel
theorem D_Parts_following_0 : decode m_Parts_following.2.1 0 = .ok (.aload_n 0, 1) := by decide +kernel
theorem D_Parts_following_1 : decode m_Parts_following.2.1 1 = .ok (.getfield 61, 3) := by decide +kernel
theorem D_Parts_following_4 : decode m_Parts_following.2.1 4 = .ok (.ifCond .eq 22, 3) := by decide +kernel
theorem D_Parts_following_7 : decode m_Parts_following.2.1 7 = .ok (.aload_n 0, 1) := by decide +kernel
theorem D_Parts_following_8 : decode m_Parts_following.2.1 8 = .ok (.iload_n 2, 1) := by decide +kernel
theorem D_Parts_following_9 : decode m_Parts_following.2.1 9 = .ok (.iload_n 3, 1) := by decide +kernel
theorem D_Parts_following_10 : decode m_Parts_following.2.1 10 = .ok (.invokevirtual 82, 3) := by decide +kernel
theorem D_Parts_following_13 : decode m_Parts_following.2.1 13 = .ok (.ifCond .eq 13, 3) := by decide +kernel
theorem D_Parts_following_16 : decode m_Parts_following.2.1 16 = .ok (.aload_n 0, 1) := by decide +kernel
theorem D_Parts_following_17 : decode m_Parts_following.2.1 17 = .ok (.aload_n 1, 1) := by decide +kernel
theorem D_Parts_following_18 : decode m_Parts_following.2.1 18 = .ok (.iload_n 2, 1) := by decide +kernel
theorem D_Parts_following_19 : decode m_Parts_following.2.1 19 = .ok (.iload_n 3, 1) := by decide +kernel
theorem D_Parts_following_20 : decode m_Parts_following.2.1 20 = .ok (.invokevirtual 76, 3) := by decide +kernel
theorem D_Parts_following_23 : decode m_Parts_following.2.1 23 = .ok (.goto 5, 3) := by decide +kernel
theorem D_Parts_following_26 : decode m_Parts_following.2.1 26 = .ok (.bipush (-6), 2) := by decide +kernel
theorem D_Parts_following_28 : decode m_Parts_following.2.1 28 = .ok (.ireturn, 1) := by decide +kernel
theorem D_Parts_rowsOf_0 : decode m_Parts_rowsOf.2.1 0 = .ok (.aload_n 0, 1) := by decide +kernel
theorem D_Parts_rowsOf_1 : decode m_Parts_rowsOf.2.1 1 = .ok (.getfield 14, 3) := by decide +kernel
theorem D_Parts_rowsOf_4 : decode m_Parts_rowsOf.2.1 4 = .ok (.iload_n 1, 1) := by decide +kernel
theorem D_Parts_rowsOf_5 : decode m_Parts_rowsOf.2.1 5 = .ok (.invokestatic 86, 3) := by decide +kernel
theorem D_Parts_rowsOf_8 : decode m_Parts_rowsOf.2.1 8 = .ok (.ireturn, 1) := by decide +kernel
theorem D_Parts_columnsOf_0 : decode m_Parts_columnsOf.2.1 0 = .ok (.aload_n 0, 1) := by decide +kernel
theorem D_Parts_columnsOf_1 : decode m_Parts_columnsOf.2.1 1 = .ok (.getfield 20, 3) := by decide +kernel
theorem D_Parts_columnsOf_4 : decode m_Parts_columnsOf.2.1 4 = .ok (.iload_n 1, 1) := by decide +kernel
theorem D_Parts_columnsOf_5 : decode m_Parts_columnsOf.2.1 5 = .ok (.invokestatic 86, 3) := by decide +kernel
theorem D_Parts_columnsOf_8 : decode m_Parts_columnsOf.2.1 8 = .ok (.ireturn, 1) := by decide +kernel
theorem D_Parts_membersOf_0 : decode m_Parts_membersOf.2.1 0 = .ok (.iconst 0, 1) := by decide +kernel
theorem D_Parts_membersOf_1 : decode m_Parts_membersOf.2.1 1 = .ok (.istore_n 2, 1) := by decide +kernel
theorem D_Parts_membersOf_2 : decode m_Parts_membersOf.2.1 2 = .ok (.iconst 0, 1) := by decide +kernel
theorem D_Parts_membersOf_3 : decode m_Parts_membersOf.2.1 3 = .ok (.istore_n 3, 1) := by decide +kernel
theorem D_Parts_membersOf_4 : decode m_Parts_membersOf.2.1 4 = .ok (.iload_n 3, 1) := by decide +kernel
theorem D_Parts_membersOf_5 : decode m_Parts_membersOf.2.1 5 = .ok (.bipush 6, 2) := by decide +kernel
theorem D_Parts_membersOf_7 : decode m_Parts_membersOf.2.1 7 = .ok (.if_icmp .ge 24, 3) := by decide +kernel
theorem D_Parts_membersOf_10 : decode m_Parts_membersOf.2.1 10 = .ok (.aload_n 0, 1) := by decide +kernel
theorem D_Parts_membersOf_11 : decode m_Parts_membersOf.2.1 11 = .ok (.iload_n 3, 1) := by decide +kernel
theorem D_Parts_membersOf_12 : decode m_Parts_membersOf.2.1 12 = .ok (.invokevirtual 42, 3) := by decide +kernel
theorem D_Parts_membersOf_15 : decode m_Parts_membersOf.2.1 15 = .ok (.iload_n 1, 1) := by decide +kernel
theorem D_Parts_membersOf_16 : decode m_Parts_membersOf.2.1 16 = .ok (.if_icmp .ne 9, 3) := by decide +kernel
theorem D_Parts_membersOf_19 : decode m_Parts_membersOf.2.1 19 = .ok (.iload_n 2, 1) := by decide +kernel
theorem D_Parts_membersOf_20 : decode m_Parts_membersOf.2.1 20 = .ok (.iconst 1, 1) := by decide +kernel
theorem D_Parts_membersOf_21 : decode m_Parts_membersOf.2.1 21 = .ok (.iload_n 3, 1) := by decide +kernel
theorem D_Parts_membersOf_22 : decode m_Parts_membersOf.2.1 22 = .ok (.ishl, 1) := by decide +kernel
theorem D_Parts_membersOf_23 : decode m_Parts_membersOf.2.1 23 = .ok (.ior, 1) := by decide +kernel
theorem D_Parts_membersOf_24 : decode m_Parts_membersOf.2.1 24 = .ok (.istore_n 2, 1) := by decide +kernel
theorem D_Parts_membersOf_25 : decode m_Parts_membersOf.2.1 25 = .ok (.iinc 3 1, 3) := by decide +kernel
theorem D_Parts_membersOf_28 : decode m_Parts_membersOf.2.1 28 = .ok (.goto (-24), 3) := by decide +kernel
theorem D_Parts_membersOf_31 : decode m_Parts_membersOf.2.1 31 = .ok (.iload_n 2, 1) := by decide +kernel
theorem D_Parts_membersOf_32 : decode m_Parts_membersOf.2.1 32 = .ok (.ireturn, 1) := by decide +kernel
theorem D_Parts_toldIn_0 : decode m_Parts_toldIn.2.1 0 = .ok (.iconst 0, 1) := by decide +kernel
theorem D_Parts_toldIn_1 : decode m_Parts_toldIn.2.1 1 = .ok (.istore_n 3, 1) := by decide +kernel
theorem D_Parts_toldIn_2 : decode m_Parts_toldIn.2.1 2 = .ok (.iconst 0, 1) := by decide +kernel
theorem D_Parts_toldIn_3 : decode m_Parts_toldIn.2.1 3 = .ok (.istore 4, 2) := by decide +kernel
theorem D_Parts_toldIn_5 : decode m_Parts_toldIn.2.1 5 = .ok (.iload 4, 2) := by decide +kernel
theorem D_Parts_toldIn_7 : decode m_Parts_toldIn.2.1 7 = .ok (.aload_n 1, 1) := by decide +kernel
theorem D_Parts_toldIn_8 : decode m_Parts_toldIn.2.1 8 = .ok (.invokevirtual 36, 3) := by decide +kernel
theorem D_Parts_toldIn_11 : decode m_Parts_toldIn.2.1 11 = .ok (.if_icmp .ge 34, 3) := by decide +kernel
theorem D_Parts_toldIn_14 : decode m_Parts_toldIn.2.1 14 = .ok (.aload_n 0, 1) := by decide +kernel
theorem D_Parts_toldIn_15 : decode m_Parts_toldIn.2.1 15 = .ok (.getfield 14, 3) := by decide +kernel
theorem D_Parts_toldIn_18 : decode m_Parts_toldIn.2.1 18 = .ok (.iload 4, 2) := by decide +kernel
theorem D_Parts_toldIn_20 : decode m_Parts_toldIn.2.1 20 = .ok (.invokevirtual 42, 3) := by decide +kernel
theorem D_Parts_toldIn_23 : decode m_Parts_toldIn.2.1 23 = .ok (.iload_n 2, 1) := by decide +kernel
theorem D_Parts_toldIn_24 : decode m_Parts_toldIn.2.1 24 = .ok (.if_icmp .ne 15, 3) := by decide +kernel
theorem D_Parts_toldIn_27 : decode m_Parts_toldIn.2.1 27 = .ok (.iload_n 3, 1) := by decide +kernel
theorem D_Parts_toldIn_28 : decode m_Parts_toldIn.2.1 28 = .ok (.aload_n 1, 1) := by decide +kernel
theorem D_Parts_toldIn_29 : decode m_Parts_toldIn.2.1 29 = .ok (.iload 4, 2) := by decide +kernel
theorem D_Parts_toldIn_31 : decode m_Parts_toldIn.2.1 31 = .ok (.invokevirtual 90, 3) := by decide +kernel
theorem D_Parts_toldIn_34 : decode m_Parts_toldIn.2.1 34 = .ok (.invokestatic 93, 3) := by decide +kernel
theorem D_Parts_toldIn_37 : decode m_Parts_toldIn.2.1 37 = .ok (.iadd, 1) := by decide +kernel
theorem D_Parts_toldIn_38 : decode m_Parts_toldIn.2.1 38 = .ok (.istore_n 3, 1) := by decide +kernel
theorem D_Parts_toldIn_39 : decode m_Parts_toldIn.2.1 39 = .ok (.iinc 4 1, 3) := by decide +kernel
theorem D_Parts_toldIn_42 : decode m_Parts_toldIn.2.1 42 = .ok (.goto (-37), 3) := by decide +kernel
theorem D_Parts_toldIn_45 : decode m_Parts_toldIn.2.1 45 = .ok (.iload_n 3, 1) := by decide +kernel
theorem D_Parts_toldIn_46 : decode m_Parts_toldIn.2.1 46 = .ok (.ireturn, 1) := by decide +kernel
theorem D_Parts_joinedEntries_0 : decode m_Parts_joinedEntries.2.1 0 = .ok (.iconst 0, 1) := by decide +kernel
theorem D_Parts_joinedEntries_1 : decode m_Parts_joinedEntries.2.1 1 = .ok (.istore_n 1, 1) := by decide +kernel
theorem D_Parts_joinedEntries_2 : decode m_Parts_joinedEntries.2.1 2 = .ok (.iconst 0, 1) := by decide +kernel
theorem D_Parts_joinedEntries_3 : decode m_Parts_joinedEntries.2.1 3 = .ok (.istore_n 2, 1) := by decide +kernel
theorem D_Parts_joinedEntries_4 : decode m_Parts_joinedEntries.2.1 4 = .ok (.iload_n 2, 1) := by decide +kernel
theorem D_Parts_joinedEntries_5 : decode m_Parts_joinedEntries.2.1 5 = .ok (.aload_n 0, 1) := by decide +kernel
theorem D_Parts_joinedEntries_6 : decode m_Parts_joinedEntries.2.1 6 = .ok (.getfield 29, 3) := by decide +kernel
theorem D_Parts_joinedEntries_9 : decode m_Parts_joinedEntries.2.1 9 = .ok (.if_icmp .ge 29, 3) := by decide +kernel
theorem D_Parts_joinedEntries_12 : decode m_Parts_joinedEntries.2.1 12 = .ok (.iload_n 1, 1) := by decide +kernel
theorem D_Parts_joinedEntries_13 : decode m_Parts_joinedEntries.2.1 13 = .ok (.aload_n 0, 1) := by decide +kernel
theorem D_Parts_joinedEntries_14 : decode m_Parts_joinedEntries.2.1 14 = .ok (.iload_n 2, 1) := by decide +kernel
theorem D_Parts_joinedEntries_15 : decode m_Parts_joinedEntries.2.1 15 = .ok (.invokevirtual 98, 3) := by decide +kernel
theorem D_Parts_joinedEntries_18 : decode m_Parts_joinedEntries.2.1 18 = .ok (.invokestatic 93, 3) := by decide +kernel
theorem D_Parts_joinedEntries_21 : decode m_Parts_joinedEntries.2.1 21 = .ok (.aload_n 0, 1) := by decide +kernel
theorem D_Parts_joinedEntries_22 : decode m_Parts_joinedEntries.2.1 22 = .ok (.iload_n 2, 1) := by decide +kernel
theorem D_Parts_joinedEntries_23 : decode m_Parts_joinedEntries.2.1 23 = .ok (.invokevirtual 101, 3) := by decide +kernel
theorem D_Parts_joinedEntries_26 : decode m_Parts_joinedEntries.2.1 26 = .ok (.invokestatic 93, 3) := by decide +kernel
theorem D_Parts_joinedEntries_29 : decode m_Parts_joinedEntries.2.1 29 = .ok (.imul, 1) := by decide +kernel
theorem D_Parts_joinedEntries_30 : decode m_Parts_joinedEntries.2.1 30 = .ok (.iadd, 1) := by decide +kernel
theorem D_Parts_joinedEntries_31 : decode m_Parts_joinedEntries.2.1 31 = .ok (.istore_n 1, 1) := by decide +kernel
theorem D_Parts_joinedEntries_32 : decode m_Parts_joinedEntries.2.1 32 = .ok (.iinc 2 1, 3) := by decide +kernel
theorem D_Parts_joinedEntries_35 : decode m_Parts_joinedEntries.2.1 35 = .ok (.goto (-31), 3) := by decide +kernel
theorem D_Parts_joinedEntries_38 : decode m_Parts_joinedEntries.2.1 38 = .ok (.iload_n 1, 1) := by decide +kernel
theorem D_Parts_joinedEntries_39 : decode m_Parts_joinedEntries.2.1 39 = .ok (.ireturn, 1) := by decide +kernel
theorem D_Parts_gain_0 : decode m_Parts_gain.2.1 0 = .ok (.aload_n 0, 1) := by decide +kernel
theorem D_Parts_gain_1 : decode m_Parts_gain.2.1 1 = .ok (.iload_n 1, 1) := by decide +kernel
theorem D_Parts_gain_2 : decode m_Parts_gain.2.1 2 = .ok (.iload_n 2, 1) := by decide +kernel
theorem D_Parts_gain_3 : decode m_Parts_gain.2.1 3 = .ok (.invokevirtual 82, 3) := by decide +kernel
theorem D_Parts_gain_6 : decode m_Parts_gain.2.1 6 = .ok (.ifCond .eq 5, 3) := by decide +kernel
theorem D_Parts_gain_9 : decode m_Parts_gain.2.1 9 = .ok (.iconst 0, 1) := by decide +kernel
theorem D_Parts_gain_10 : decode m_Parts_gain.2.1 10 = .ok (.ireturn, 1) := by decide +kernel
theorem D_Parts_gain_11 : decode m_Parts_gain.2.1 11 = .ok (.aload_n 0, 1) := by decide +kernel
theorem D_Parts_gain_12 : decode m_Parts_gain.2.1 12 = .ok (.getfield 14, 3) := by decide +kernel
theorem D_Parts_gain_15 : decode m_Parts_gain.2.1 15 = .ok (.iload_n 1, 1) := by decide +kernel
theorem D_Parts_gain_16 : decode m_Parts_gain.2.1 16 = .ok (.invokevirtual 42, 3) := by decide +kernel
theorem D_Parts_gain_19 : decode m_Parts_gain.2.1 19 = .ok (.istore_n 3, 1) := by decide +kernel
theorem D_Parts_gain_20 : decode m_Parts_gain.2.1 20 = .ok (.aload_n 0, 1) := by decide +kernel
theorem D_Parts_gain_21 : decode m_Parts_gain.2.1 21 = .ok (.getfield 20, 3) := by decide +kernel
theorem D_Parts_gain_24 : decode m_Parts_gain.2.1 24 = .ok (.iload_n 2, 1) := by decide +kernel
theorem D_Parts_gain_25 : decode m_Parts_gain.2.1 25 = .ok (.invokevirtual 42, 3) := by decide +kernel
theorem D_Parts_gain_28 : decode m_Parts_gain.2.1 28 = .ok (.istore 4, 2) := by decide +kernel
theorem D_Parts_gain_30 : decode m_Parts_gain.2.1 30 = .ok (.aload_n 0, 1) := by decide +kernel
theorem D_Parts_gain_31 : decode m_Parts_gain.2.1 31 = .ok (.iload_n 3, 1) := by decide +kernel
theorem D_Parts_gain_32 : decode m_Parts_gain.2.1 32 = .ok (.invokevirtual 98, 3) := by decide +kernel
theorem D_Parts_gain_35 : decode m_Parts_gain.2.1 35 = .ok (.invokestatic 93, 3) := by decide +kernel
theorem D_Parts_gain_38 : decode m_Parts_gain.2.1 38 = .ok (.aload_n 0, 1) := by decide +kernel
theorem D_Parts_gain_39 : decode m_Parts_gain.2.1 39 = .ok (.iload 4, 2) := by decide +kernel
theorem D_Parts_gain_41 : decode m_Parts_gain.2.1 41 = .ok (.invokevirtual 101, 3) := by decide +kernel
theorem D_Parts_gain_44 : decode m_Parts_gain.2.1 44 = .ok (.invokestatic 93, 3) := by decide +kernel
theorem D_Parts_gain_47 : decode m_Parts_gain.2.1 47 = .ok (.imul, 1) := by decide +kernel
theorem D_Parts_gain_48 : decode m_Parts_gain.2.1 48 = .ok (.aload_n 0, 1) := by decide +kernel
theorem D_Parts_gain_49 : decode m_Parts_gain.2.1 49 = .ok (.iload 4, 2) := by decide +kernel
theorem D_Parts_gain_51 : decode m_Parts_gain.2.1 51 = .ok (.invokevirtual 98, 3) := by decide +kernel
theorem D_Parts_gain_54 : decode m_Parts_gain.2.1 54 = .ok (.invokestatic 93, 3) := by decide +kernel
theorem D_Parts_gain_57 : decode m_Parts_gain.2.1 57 = .ok (.aload_n 0, 1) := by decide +kernel
theorem D_Parts_gain_58 : decode m_Parts_gain.2.1 58 = .ok (.iload_n 3, 1) := by decide +kernel
theorem D_Parts_gain_59 : decode m_Parts_gain.2.1 59 = .ok (.invokevirtual 101, 3) := by decide +kernel
theorem D_Parts_gain_62 : decode m_Parts_gain.2.1 62 = .ok (.invokestatic 93, 3) := by decide +kernel
theorem D_Parts_gain_65 : decode m_Parts_gain.2.1 65 = .ok (.imul, 1) := by decide +kernel
theorem D_Parts_gain_66 : decode m_Parts_gain.2.1 66 = .ok (.iadd, 1) := by decide +kernel
theorem D_Parts_gain_67 : decode m_Parts_gain.2.1 67 = .ok (.ireturn, 1) := by decide +kernel
theorem D_Rings_init_0 : decode m_Rings_init.2.1 0 = .ok (.aload_n 0, 1) := by decide +kernel
theorem D_Rings_init_1 : decode m_Rings_init.2.1 1 = .ok (.invokespecial 3, 3) := by decide +kernel
theorem D_Rings_init_4 : decode m_Rings_init.2.1 4 = .ok (.aload_n 0, 1) := by decide +kernel
theorem D_Rings_init_5 : decode m_Rings_init.2.1 5 = .ok (.new 9, 3) := by decide +kernel
theorem D_Rings_init_8 : decode m_Rings_init.2.1 8 = .ok (.dup, 1) := by decide +kernel
theorem D_Rings_init_9 : decode m_Rings_init.2.1 9 = .ok (.invokespecial 11, 3) := by decide +kernel
theorem D_Rings_init_12 : decode m_Rings_init.2.1 12 = .ok (.putfield 12, 3) := by decide +kernel
theorem D_Rings_init_15 : decode m_Rings_init.2.1 15 = .ok (.aload_n 0, 1) := by decide +kernel
theorem D_Rings_init_16 : decode m_Rings_init.2.1 16 = .ok (.new 18, 3) := by decide +kernel
theorem D_Rings_init_19 : decode m_Rings_init.2.1 19 = .ok (.dup, 1) := by decide +kernel
theorem D_Rings_init_20 : decode m_Rings_init.2.1 20 = .ok (.bipush 6, 2) := by decide +kernel
theorem D_Rings_init_22 : decode m_Rings_init.2.1 22 = .ok (.invokespecial 20, 3) := by decide +kernel
theorem D_Rings_init_25 : decode m_Rings_init.2.1 25 = .ok (.putfield 23, 3) := by decide +kernel
theorem D_Rings_init_28 : decode m_Rings_init.2.1 28 = .ok (.aload_n 0, 1) := by decide +kernel
theorem D_Rings_init_29 : decode m_Rings_init.2.1 29 = .ok (.new 18, 3) := by decide +kernel
theorem D_Rings_init_32 : decode m_Rings_init.2.1 32 = .ok (.dup, 1) := by decide +kernel
theorem D_Rings_init_33 : decode m_Rings_init.2.1 33 = .ok (.sipush 832, 3) := by decide +kernel
theorem D_Rings_init_36 : decode m_Rings_init.2.1 36 = .ok (.invokespecial 20, 3) := by decide +kernel
theorem D_Rings_init_39 : decode m_Rings_init.2.1 39 = .ok (.putfield 27, 3) := by decide +kernel
theorem D_Rings_init_42 : decode m_Rings_init.2.1 42 = .ok (.aload_n 0, 1) := by decide +kernel
theorem D_Rings_init_43 : decode m_Rings_init.2.1 43 = .ok (.new 18, 3) := by decide +kernel
theorem D_Rings_init_46 : decode m_Rings_init.2.1 46 = .ok (.dup, 1) := by decide +kernel
theorem D_Rings_init_47 : decode m_Rings_init.2.1 47 = .ok (.bipush 6, 2) := by decide +kernel
theorem D_Rings_init_49 : decode m_Rings_init.2.1 49 = .ok (.invokespecial 20, 3) := by decide +kernel
theorem D_Rings_init_52 : decode m_Rings_init.2.1 52 = .ok (.putfield 30, 3) := by decide +kernel
theorem D_Rings_init_55 : decode m_Rings_init.2.1 55 = .ok (.return_, 1) := by decide +kernel
theorem D_Rings_search_0 : decode m_Rings_search.2.1 0 = .ok (.aload_n 0, 1) := by decide +kernel
theorem D_Rings_search_1 : decode m_Rings_search.2.1 1 = .ok (.getfield 12, 3) := by decide +kernel
theorem D_Rings_search_4 : decode m_Rings_search.2.1 4 = .ok (.aload_n 1, 1) := by decide +kernel
theorem D_Rings_search_5 : decode m_Rings_search.2.1 5 = .ok (.invokevirtual 33, 3) := by decide +kernel
theorem D_Rings_search_8 : decode m_Rings_search.2.1 8 = .ok (.aload_n 0, 1) := by decide +kernel
theorem D_Rings_search_9 : decode m_Rings_search.2.1 9 = .ok (.iload_n 2, 1) := by decide +kernel
theorem D_Rings_search_10 : decode m_Rings_search.2.1 10 = .ok (.putfield 37, 3) := by decide +kernel
theorem D_Rings_search_13 : decode m_Rings_search.2.1 13 = .ok (.aload_n 0, 1) := by decide +kernel
theorem D_Rings_search_14 : decode m_Rings_search.2.1 14 = .ok (.iload_n 3, 1) := by decide +kernel
theorem D_Rings_search_15 : decode m_Rings_search.2.1 15 = .ok (.ifCond .eq 15, 3) := by decide +kernel
theorem D_Rings_search_18 : decode m_Rings_search.2.1 18 = .ok (.aload_n 0, 1) := by decide +kernel
theorem D_Rings_search_19 : decode m_Rings_search.2.1 19 = .ok (.getfield 12, 3) := by decide +kernel
theorem D_Rings_search_22 : decode m_Rings_search.2.1 22 = .ok (.invokevirtual 41, 3) := by decide +kernel
theorem D_Rings_search_25 : decode m_Rings_search.2.1 25 = .ok (.iconst 1, 1) := by decide +kernel
theorem D_Rings_search_26 : decode m_Rings_search.2.1 26 = .ok (.isub, 1) := by decide +kernel
theorem D_Rings_search_27 : decode m_Rings_search.2.1 27 = .ok (.goto 4, 3) := by decide +kernel
theorem D_Rings_search_30 : decode m_Rings_search.2.1 30 = .ok (.iconst 1, 1) := by decide +kernel
theorem D_Rings_search_31 : decode m_Rings_search.2.1 31 = .ok (.putfield 45, 3) := by decide +kernel
theorem D_Rings_search_34 : decode m_Rings_search.2.1 34 = .ok (.aload_n 0, 1) := by decide +kernel
theorem D_Rings_search_35 : decode m_Rings_search.2.1 35 = .ok (.iconst 0, 1) := by decide +kernel
theorem D_Rings_search_36 : decode m_Rings_search.2.1 36 = .ok (.putfield 48, 3) := by decide +kernel
theorem D_Rings_search_39 : decode m_Rings_search.2.1 39 = .ok (.aload_n 0, 1) := by decide +kernel
theorem D_Rings_search_40 : decode m_Rings_search.2.1 40 = .ok (.iconst 0, 1) := by decide +kernel
theorem D_Rings_search_41 : decode m_Rings_search.2.1 41 = .ok (.putfield 51, 3) := by decide +kernel
theorem D_Rings_search_44 : decode m_Rings_search.2.1 44 = .ok (.aload_n 0, 1) := by decide +kernel
theorem D_Rings_search_45 : decode m_Rings_search.2.1 45 = .ok (.iconst 0, 1) := by decide +kernel
theorem D_Rings_search_46 : decode m_Rings_search.2.1 46 = .ok (.putfield 54, 3) := by decide +kernel
theorem D_Rings_search_49 : decode m_Rings_search.2.1 49 = .ok (.aload_n 0, 1) := by decide +kernel
theorem D_Rings_search_50 : decode m_Rings_search.2.1 50 = .ok (.iconst 0, 1) := by decide +kernel
theorem D_Rings_search_51 : decode m_Rings_search.2.1 51 = .ok (.putfield 57, 3) := by decide +kernel
theorem D_Rings_search_54 : decode m_Rings_search.2.1 54 = .ok (.aload_n 0, 1) := by decide +kernel
theorem D_Rings_search_55 : decode m_Rings_search.2.1 55 = .ok (.getfield 27, 3) := by decide +kernel
theorem D_Rings_search_58 : decode m_Rings_search.2.1 58 = .ok (.iconst 1, 1) := by decide +kernel
theorem D_Rings_search_59 : decode m_Rings_search.2.1 59 = .ok (.iconst 1, 1) := by decide +kernel
theorem D_Rings_search_60 : decode m_Rings_search.2.1 60 = .ok (.invokevirtual 60, 3) := by decide +kernel
theorem D_Rings_search_63 : decode m_Rings_search.2.1 63 = .ok (.iconst 0, 1) := by decide +kernel
theorem D_Rings_search_64 : decode m_Rings_search.2.1 64 = .ok (.istore 4, 2) := by decide +kernel
theorem D_Rings_search_66 : decode m_Rings_search.2.1 66 = .ok (.iload 4, 2) := by decide +kernel
theorem D_Rings_search_68 : decode m_Rings_search.2.1 68 = .ok (.bipush 6, 2) := by decide +kernel
theorem D_Rings_search_70 : decode m_Rings_search.2.1 70 = .ok (.if_icmp .ge 27, 3) := by decide +kernel
theorem D_Rings_search_73 : decode m_Rings_search.2.1 73 = .ok (.aload_n 0, 1) := by decide +kernel
theorem D_Rings_search_74 : decode m_Rings_search.2.1 74 = .ok (.getfield 23, 3) := by decide +kernel
theorem D_Rings_search_77 : decode m_Rings_search.2.1 77 = .ok (.iload 4, 2) := by decide +kernel
theorem D_Rings_search_79 : decode m_Rings_search.2.1 79 = .ok (.aload_n 0, 1) := by decide +kernel
theorem D_Rings_search_80 : decode m_Rings_search.2.1 80 = .ok (.getfield 12, 3) := by decide +kernel
theorem D_Rings_search_83 : decode m_Rings_search.2.1 83 = .ok (.iload 4, 2) := by decide +kernel
theorem D_Rings_search_85 : decode m_Rings_search.2.1 85 = .ok (.invokevirtual 64, 3) := by decide +kernel
theorem D_Rings_search_88 : decode m_Rings_search.2.1 88 = .ok (.invokevirtual 60, 3) := by decide +kernel
theorem D_Rings_search_91 : decode m_Rings_search.2.1 91 = .ok (.iinc 4 1, 3) := by decide +kernel
theorem D_Rings_search_94 : decode m_Rings_search.2.1 94 = .ok (.goto (-28), 3) := by decide +kernel
theorem D_Rings_search_97 : decode m_Rings_search.2.1 97 = .ok (.iconst 0, 1) := by decide +kernel
theorem D_Rings_search_98 : decode m_Rings_search.2.1 98 = .ok (.istore 4, 2) := by decide +kernel
theorem D_Rings_search_100 : decode m_Rings_search.2.1 100 = .ok (.iload 4, 2) := by decide +kernel
theorem D_Rings_search_102 : decode m_Rings_search.2.1 102 = .ok (.aload_n 0, 1) := by decide +kernel
theorem D_Rings_search_103 : decode m_Rings_search.2.1 103 = .ok (.getfield 12, 3) := by decide +kernel
theorem D_Rings_search_106 : decode m_Rings_search.2.1 106 = .ok (.invokevirtual 67, 3) := by decide +kernel
theorem D_Rings_search_109 : decode m_Rings_search.2.1 109 = .ok (.if_icmp .ge 26, 3) := by decide +kernel
theorem D_Rings_search_112 : decode m_Rings_search.2.1 112 = .ok (.aload_n 0, 1) := by decide +kernel
theorem D_Rings_search_113 : decode m_Rings_search.2.1 113 = .ok (.iload 4, 2) := by decide +kernel
theorem D_Rings_search_115 : decode m_Rings_search.2.1 115 = .ok (.putfield 70, 3) := by decide +kernel
theorem D_Rings_search_118 : decode m_Rings_search.2.1 118 = .ok (.aload_n 0, 1) := by decide +kernel
theorem D_Rings_search_119 : decode m_Rings_search.2.1 119 = .ok (.iconst 1, 1) := by decide +kernel
theorem D_Rings_search_120 : decode m_Rings_search.2.1 120 = .ok (.iload 4, 2) := by decide +kernel
theorem D_Rings_search_122 : decode m_Rings_search.2.1 122 = .ok (.iconst 1, 1) := by decide +kernel
theorem D_Rings_search_123 : decode m_Rings_search.2.1 123 = .ok (.iload 4, 2) := by decide +kernel
theorem D_Rings_search_125 : decode m_Rings_search.2.1 125 = .ok (.ishl, 1) := by decide +kernel
theorem D_Rings_search_126 : decode m_Rings_search.2.1 126 = .ok (.invokevirtual 73, 3) := by decide +kernel
theorem D_Rings_search_129 : decode m_Rings_search.2.1 129 = .ok (.iinc 4 1, 3) := by decide +kernel
theorem D_Rings_search_132 : decode m_Rings_search.2.1 132 = .ok (.goto (-32), 3) := by decide +kernel
theorem D_Rings_search_135 : decode m_Rings_search.2.1 135 = .ok (.return_, 1) := by decide +kernel
theorem D_Rings_walk_0 : decode m_Rings_walk.2.1 0 = .ok (.iload_n 1, 1) := by decide +kernel
theorem D_Rings_walk_1 : decode m_Rings_walk.2.1 1 = .ok (.aload_n 0, 1) := by decide +kernel
theorem D_Rings_walk_2 : decode m_Rings_walk.2.1 2 = .ok (.getfield 37, 3) := by decide +kernel
theorem D_Rings_walk_5 : decode m_Rings_walk.2.1 5 = .ok (.if_icmp .lt 22, 3) := by decide +kernel
theorem D_Rings_walk_8 : decode m_Rings_walk.2.1 8 = .ok (.aload_n 0, 1) := by decide +kernel
theorem D_Rings_walk_9 : decode m_Rings_walk.2.1 9 = .ok (.iload_n 1, 1) := by decide +kernel
theorem D_Rings_walk_10 : decode m_Rings_walk.2.1 10 = .ok (.iload_n 2, 1) := by decide +kernel
theorem D_Rings_walk_11 : decode m_Rings_walk.2.1 11 = .ok (.aload_n 0, 1) := by decide +kernel
theorem D_Rings_walk_12 : decode m_Rings_walk.2.1 12 = .ok (.getfield 70, 3) := by decide +kernel
theorem D_Rings_walk_15 : decode m_Rings_walk.2.1 15 = .ok (.invokevirtual 77, 3) := by decide +kernel
theorem D_Rings_walk_18 : decode m_Rings_walk.2.1 18 = .ok (.ifCond .eq 8, 3) := by decide +kernel
theorem D_Rings_walk_21 : decode m_Rings_walk.2.1 21 = .ok (.aload_n 0, 1) := by decide +kernel
theorem D_Rings_walk_22 : decode m_Rings_walk.2.1 22 = .ok (.iload_n 3, 1) := by decide +kernel
theorem D_Rings_walk_23 : decode m_Rings_walk.2.1 23 = .ok (.invokevirtual 81, 3) := by decide +kernel
theorem D_Rings_walk_26 : decode m_Rings_walk.2.1 26 = .ok (.return_, 1) := by decide +kernel
theorem D_Rings_walk_27 : decode m_Rings_walk.2.1 27 = .ok (.aload_n 0, 1) := by decide +kernel
theorem D_Rings_walk_28 : decode m_Rings_walk.2.1 28 = .ok (.getfield 70, 3) := by decide +kernel
theorem D_Rings_walk_31 : decode m_Rings_walk.2.1 31 = .ok (.iconst 1, 1) := by decide +kernel
theorem D_Rings_walk_32 : decode m_Rings_walk.2.1 32 = .ok (.iadd, 1) := by decide +kernel
theorem D_Rings_walk_33 : decode m_Rings_walk.2.1 33 = .ok (.istore 4, 2) := by decide +kernel
theorem D_Rings_walk_35 : decode m_Rings_walk.2.1 35 = .ok (.iload 4, 2) := by decide +kernel
theorem D_Rings_walk_37 : decode m_Rings_walk.2.1 37 = .ok (.aload_n 0, 1) := by decide +kernel
theorem D_Rings_walk_38 : decode m_Rings_walk.2.1 38 = .ok (.getfield 12, 3) := by decide +kernel
theorem D_Rings_walk_41 : decode m_Rings_walk.2.1 41 = .ok (.invokevirtual 67, 3) := by decide +kernel
theorem D_Rings_walk_44 : decode m_Rings_walk.2.1 44 = .ok (.if_icmp .ge 44, 3) := by decide +kernel
theorem D_Rings_walk_47 : decode m_Rings_walk.2.1 47 = .ok (.iload_n 3, 1) := by decide +kernel
theorem D_Rings_walk_48 : decode m_Rings_walk.2.1 48 = .ok (.iload 4, 2) := by decide +kernel
theorem D_Rings_walk_50 : decode m_Rings_walk.2.1 50 = .ok (.invokestatic 84, 3) := by decide +kernel
theorem D_Rings_walk_53 : decode m_Rings_walk.2.1 53 = .ok (.ifCond .ne 29, 3) := by decide +kernel
theorem D_Rings_walk_56 : decode m_Rings_walk.2.1 56 = .ok (.aload_n 0, 1) := by decide +kernel
theorem D_Rings_walk_57 : decode m_Rings_walk.2.1 57 = .ok (.iload_n 1, 1) := by decide +kernel
theorem D_Rings_walk_58 : decode m_Rings_walk.2.1 58 = .ok (.iload_n 2, 1) := by decide +kernel
theorem D_Rings_walk_59 : decode m_Rings_walk.2.1 59 = .ok (.iload 4, 2) := by decide +kernel
theorem D_Rings_walk_61 : decode m_Rings_walk.2.1 61 = .ok (.invokevirtual 77, 3) := by decide +kernel
theorem D_Rings_walk_64 : decode m_Rings_walk.2.1 64 = .ok (.ifCond .eq 18, 3) := by decide +kernel
theorem D_Rings_walk_67 : decode m_Rings_walk.2.1 67 = .ok (.aload_n 0, 1) := by decide +kernel
theorem D_Rings_walk_68 : decode m_Rings_walk.2.1 68 = .ok (.iload_n 1, 1) := by decide +kernel
theorem D_Rings_walk_69 : decode m_Rings_walk.2.1 69 = .ok (.iconst 1, 1) := by decide +kernel
theorem D_Rings_walk_70 : decode m_Rings_walk.2.1 70 = .ok (.iadd, 1) := by decide +kernel
theorem D_Rings_walk_71 : decode m_Rings_walk.2.1 71 = .ok (.iload 4, 2) := by decide +kernel
theorem D_Rings_walk_73 : decode m_Rings_walk.2.1 73 = .ok (.iload_n 3, 1) := by decide +kernel
theorem D_Rings_walk_74 : decode m_Rings_walk.2.1 74 = .ok (.iconst 1, 1) := by decide +kernel
theorem D_Rings_walk_75 : decode m_Rings_walk.2.1 75 = .ok (.iload 4, 2) := by decide +kernel
theorem D_Rings_walk_77 : decode m_Rings_walk.2.1 77 = .ok (.ishl, 1) := by decide +kernel
theorem D_Rings_walk_78 : decode m_Rings_walk.2.1 78 = .ok (.ior, 1) := by decide +kernel
theorem D_Rings_walk_79 : decode m_Rings_walk.2.1 79 = .ok (.invokevirtual 73, 3) := by decide +kernel
theorem D_Rings_walk_82 : decode m_Rings_walk.2.1 82 = .ok (.iinc 4 1, 3) := by decide +kernel
theorem D_Rings_walk_85 : decode m_Rings_walk.2.1 85 = .ok (.goto (-50), 3) := by decide +kernel
theorem D_Rings_walk_88 : decode m_Rings_walk.2.1 88 = .ok (.return_, 1) := by decide +kernel
theorem D_Rings_lead_0 : decode m_Rings_lead.2.1 0 = .ok (.aload_n 0, 1) := by decide +kernel
theorem D_Rings_lead_1 : decode m_Rings_lead.2.1 1 = .ok (.getfield 23, 3) := by decide +kernel
theorem D_Rings_lead_4 : decode m_Rings_lead.2.1 4 = .ok (.iload_n 2, 1) := by decide +kernel
theorem D_Rings_lead_5 : decode m_Rings_lead.2.1 5 = .ok (.invokevirtual 88, 3) := by decide +kernel
theorem D_Rings_lead_8 : decode m_Rings_lead.2.1 8 = .ok (.aload_n 0, 1) := by decide +kernel
theorem D_Rings_lead_9 : decode m_Rings_lead.2.1 9 = .ok (.getfield 23, 3) := by decide +kernel
theorem D_Rings_lead_12 : decode m_Rings_lead.2.1 12 = .ok (.iload_n 3, 1) := by decide +kernel
theorem D_Rings_lead_13 : decode m_Rings_lead.2.1 13 = .ok (.invokevirtual 88, 3) := by decide +kernel
theorem D_Rings_lead_16 : decode m_Rings_lead.2.1 16 = .ok (.iand, 1) := by decide +kernel
theorem D_Rings_lead_17 : decode m_Rings_lead.2.1 17 = .ok (.istore 4, 2) := by decide +kernel
theorem D_Rings_lead_19 : decode m_Rings_lead.2.1 19 = .ok (.aload_n 0, 1) := by decide +kernel
theorem D_Rings_lead_20 : decode m_Rings_lead.2.1 20 = .ok (.iload 4, 2) := by decide +kernel
theorem D_Rings_lead_22 : decode m_Rings_lead.2.1 22 = .ok (.iload_n 2, 1) := by decide +kernel
theorem D_Rings_lead_23 : decode m_Rings_lead.2.1 23 = .ok (.iload_n 3, 1) := by decide +kernel
theorem D_Rings_lead_24 : decode m_Rings_lead.2.1 24 = .ok (.invokevirtual 91, 3) := by decide +kernel
theorem D_Rings_lead_27 : decode m_Rings_lead.2.1 27 = .ok (.aload_n 0, 1) := by decide +kernel
theorem D_Rings_lead_28 : decode m_Rings_lead.2.1 28 = .ok (.iload_n 1, 1) := by decide +kernel
theorem D_Rings_lead_29 : decode m_Rings_lead.2.1 29 = .ok (.invokevirtual 94, 3) := by decide +kernel
theorem D_Rings_lead_32 : decode m_Rings_lead.2.1 32 = .ok (.iconst 0, 1) := by decide +kernel
theorem D_Rings_lead_33 : decode m_Rings_lead.2.1 33 = .ok (.istore 5, 2) := by decide +kernel
theorem D_Rings_lead_35 : decode m_Rings_lead.2.1 35 = .ok (.iconst 0, 1) := by decide +kernel
theorem D_Rings_lead_36 : decode m_Rings_lead.2.1 36 = .ok (.istore 6, 2) := by decide +kernel
theorem D_Rings_lead_38 : decode m_Rings_lead.2.1 38 = .ok (.iload 6, 2) := by decide +kernel
theorem D_Rings_lead_40 : decode m_Rings_lead.2.1 40 = .ok (.bipush 64, 2) := by decide +kernel
theorem D_Rings_lead_42 : decode m_Rings_lead.2.1 42 = .ok (.if_icmp .ge 74, 3) := by decide +kernel
theorem D_Rings_lead_45 : decode m_Rings_lead.2.1 45 = .ok (.iload 4, 2) := by decide +kernel
theorem D_Rings_lead_47 : decode m_Rings_lead.2.1 47 = .ok (.iload 6, 2) := by decide +kernel
theorem D_Rings_lead_49 : decode m_Rings_lead.2.1 49 = .ok (.iconst (-1), 1) := by decide +kernel
theorem D_Rings_lead_50 : decode m_Rings_lead.2.1 50 = .ok (.ixor, 1) := by decide +kernel
theorem D_Rings_lead_51 : decode m_Rings_lead.2.1 51 = .ok (.iand, 1) := by decide +kernel
theorem D_Rings_lead_52 : decode m_Rings_lead.2.1 52 = .ok (.istore 7, 2) := by decide +kernel
theorem D_Rings_lead_54 : decode m_Rings_lead.2.1 54 = .ok (.iload 7, 2) := by decide +kernel
theorem D_Rings_lead_56 : decode m_Rings_lead.2.1 56 = .ok (.ifCond .eq 54, 3) := by decide +kernel
theorem D_Rings_lead_59 : decode m_Rings_lead.2.1 59 = .ok (.iload 6, 2) := by decide +kernel
theorem D_Rings_lead_61 : decode m_Rings_lead.2.1 61 = .ok (.invokestatic 97, 3) := by decide +kernel
theorem D_Rings_lead_64 : decode m_Rings_lead.2.1 64 = .ok (.iload_n 1, 1) := by decide +kernel
theorem D_Rings_lead_65 : decode m_Rings_lead.2.1 65 = .ok (.iconst 1, 1) := by decide +kernel
theorem D_Rings_lead_66 : decode m_Rings_lead.2.1 66 = .ok (.isub, 1) := by decide +kernel
theorem D_Rings_lead_67 : decode m_Rings_lead.2.1 67 = .ok (.if_icmp .ne 43, 3) := by decide +kernel
theorem D_Rings_lead_70 : decode m_Rings_lead.2.1 70 = .ok (.iconst 0, 1) := by decide +kernel
theorem D_Rings_lead_71 : decode m_Rings_lead.2.1 71 = .ok (.istore 8, 2) := by decide +kernel
theorem D_Rings_lead_73 : decode m_Rings_lead.2.1 73 = .ok (.iload 8, 2) := by decide +kernel
theorem D_Rings_lead_75 : decode m_Rings_lead.2.1 75 = .ok (.bipush 6, 2) := by decide +kernel
theorem D_Rings_lead_77 : decode m_Rings_lead.2.1 77 = .ok (.if_icmp .ge 33, 3) := by decide +kernel
theorem D_Rings_lead_80 : decode m_Rings_lead.2.1 80 = .ok (.iload 7, 2) := by decide +kernel
theorem D_Rings_lead_82 : decode m_Rings_lead.2.1 82 = .ok (.iload 8, 2) := by decide +kernel
theorem D_Rings_lead_84 : decode m_Rings_lead.2.1 84 = .ok (.invokestatic 84, 3) := by decide +kernel
theorem D_Rings_lead_87 : decode m_Rings_lead.2.1 87 = .ok (.ifCond .eq 17, 3) := by decide +kernel
theorem D_Rings_lead_90 : decode m_Rings_lead.2.1 90 = .ok (.aload_n 0, 1) := by decide +kernel
theorem D_Rings_lead_91 : decode m_Rings_lead.2.1 91 = .ok (.iload 6, 2) := by decide +kernel
theorem D_Rings_lead_93 : decode m_Rings_lead.2.1 93 = .ok (.iload 8, 2) := by decide +kernel
theorem D_Rings_lead_95 : decode m_Rings_lead.2.1 95 = .ok (.invokevirtual 102, 3) := by decide +kernel
theorem D_Rings_lead_98 : decode m_Rings_lead.2.1 98 = .ok (.ifCond .eq 6, 3) := by decide +kernel
theorem D_Rings_lead_101 : decode m_Rings_lead.2.1 101 = .ok (.iconst 1, 1) := by decide +kernel
theorem D_Rings_lead_102 : decode m_Rings_lead.2.1 102 = .ok (.istore 5, 2) := by decide +kernel
theorem D_Rings_lead_104 : decode m_Rings_lead.2.1 104 = .ok (.iinc 8 1, 3) := by decide +kernel
theorem D_Rings_lead_107 : decode m_Rings_lead.2.1 107 = .ok (.goto (-34), 3) := by decide +kernel
theorem D_Rings_lead_110 : decode m_Rings_lead.2.1 110 = .ok (.iinc 6 1, 3) := by decide +kernel
theorem D_Rings_lead_113 : decode m_Rings_lead.2.1 113 = .ok (.goto (-75), 3) := by decide +kernel
theorem D_Rings_lead_116 : decode m_Rings_lead.2.1 116 = .ok (.iload 5, 2) := by decide +kernel
theorem D_Rings_lead_118 : decode m_Rings_lead.2.1 118 = .ok (.ireturn, 1) := by decide +kernel
theorem D_Rings_findRatios_0 : decode m_Rings_findRatios.2.1 0 = .ok (.iconst 0, 1) := by decide +kernel
theorem D_Rings_findRatios_1 : decode m_Rings_findRatios.2.1 1 = .ok (.istore 4, 2) := by decide +kernel
theorem D_Rings_findRatios_3 : decode m_Rings_findRatios.2.1 3 = .ok (.iload 4, 2) := by decide +kernel
theorem D_Rings_findRatios_5 : decode m_Rings_findRatios.2.1 5 = .ok (.bipush 6, 2) := by decide +kernel
theorem D_Rings_findRatios_7 : decode m_Rings_findRatios.2.1 7 = .ok (.if_icmp .ge 75, 3) := by decide +kernel
theorem D_Rings_findRatios_10 : decode m_Rings_findRatios.2.1 10 = .ok (.aload_n 0, 1) := by decide +kernel
theorem D_Rings_findRatios_11 : decode m_Rings_findRatios.2.1 11 = .ok (.getfield 45, 3) := by decide +kernel
theorem D_Rings_findRatios_14 : decode m_Rings_findRatios.2.1 14 = .ok (.iconst 1, 1) := by decide +kernel
theorem D_Rings_findRatios_15 : decode m_Rings_findRatios.2.1 15 = .ok (.if_icmp .le 51, 3) := by decide +kernel
theorem D_Rings_findRatios_18 : decode m_Rings_findRatios.2.1 18 = .ok (.iload_n 1, 1) := by decide +kernel
theorem D_Rings_findRatios_19 : decode m_Rings_findRatios.2.1 19 = .ok (.iload 4, 2) := by decide +kernel
theorem D_Rings_findRatios_21 : decode m_Rings_findRatios.2.1 21 = .ok (.invokestatic 84, 3) := by decide +kernel
theorem D_Rings_findRatios_24 : decode m_Rings_findRatios.2.1 24 = .ok (.ifCond .eq 42, 3) := by decide +kernel
theorem D_Rings_findRatios_27 : decode m_Rings_findRatios.2.1 27 = .ok (.aload_n 0, 1) := by decide +kernel
theorem D_Rings_findRatios_28 : decode m_Rings_findRatios.2.1 28 = .ok (.getfield 30, 3) := by decide +kernel
theorem D_Rings_findRatios_31 : decode m_Rings_findRatios.2.1 31 = .ok (.iload 4, 2) := by decide +kernel
theorem D_Rings_findRatios_33 : decode m_Rings_findRatios.2.1 33 = .ok (.aload_n 0, 1) := by decide +kernel
theorem D_Rings_findRatios_34 : decode m_Rings_findRatios.2.1 34 = .ok (.getfield 12, 3) := by decide +kernel
theorem D_Rings_findRatios_37 : decode m_Rings_findRatios.2.1 37 = .ok (.aload_n 0, 1) := by decide +kernel
theorem D_Rings_findRatios_38 : decode m_Rings_findRatios.2.1 38 = .ok (.getfield 12, 3) := by decide +kernel
theorem D_Rings_findRatios_41 : decode m_Rings_findRatios.2.1 41 = .ok (.iload_n 2, 1) := by decide +kernel
theorem D_Rings_findRatios_42 : decode m_Rings_findRatios.2.1 42 = .ok (.iload 4, 2) := by decide +kernel
theorem D_Rings_findRatios_44 : decode m_Rings_findRatios.2.1 44 = .ok (.invokevirtual 105, 3) := by decide +kernel
theorem D_Rings_findRatios_47 : decode m_Rings_findRatios.2.1 47 = .ok (.aload_n 0, 1) := by decide +kernel
theorem D_Rings_findRatios_48 : decode m_Rings_findRatios.2.1 48 = .ok (.getfield 12, 3) := by decide +kernel
theorem D_Rings_findRatios_51 : decode m_Rings_findRatios.2.1 51 = .ok (.iload_n 3, 1) := by decide +kernel
theorem D_Rings_findRatios_52 : decode m_Rings_findRatios.2.1 52 = .ok (.iload 4, 2) := by decide +kernel
theorem D_Rings_findRatios_54 : decode m_Rings_findRatios.2.1 54 = .ok (.invokevirtual 105, 3) := by decide +kernel
theorem D_Rings_findRatios_57 : decode m_Rings_findRatios.2.1 57 = .ok (.invokevirtual 109, 3) := by decide +kernel
theorem D_Rings_findRatios_60 : decode m_Rings_findRatios.2.1 60 = .ok (.invokevirtual 60, 3) := by decide +kernel
theorem D_Rings_findRatios_63 : decode m_Rings_findRatios.2.1 63 = .ok (.goto 13, 3) := by decide +kernel
theorem D_Rings_findRatios_66 : decode m_Rings_findRatios.2.1 66 = .ok (.aload_n 0, 1) := by decide +kernel
theorem D_Rings_findRatios_67 : decode m_Rings_findRatios.2.1 67 = .ok (.getfield 30, 3) := by decide +kernel
theorem D_Rings_findRatios_70 : decode m_Rings_findRatios.2.1 70 = .ok (.iload 4, 2) := by decide +kernel
theorem D_Rings_findRatios_72 : decode m_Rings_findRatios.2.1 72 = .ok (.iconst 1, 1) := by decide +kernel
theorem D_Rings_findRatios_73 : decode m_Rings_findRatios.2.1 73 = .ok (.invokevirtual 60, 3) := by decide +kernel
theorem D_Rings_findRatios_76 : decode m_Rings_findRatios.2.1 76 = .ok (.iinc 4 1, 3) := by decide +kernel
theorem D_Rings_findRatios_79 : decode m_Rings_findRatios.2.1 79 = .ok (.goto (-76), 3) := by decide +kernel
theorem D_Rings_findRatios_82 : decode m_Rings_findRatios.2.1 82 = .ok (.return_, 1) := by decide +kernel
theorem D_Rings_leadOn_0 : decode m_Rings_leadOn.2.1 0 = .ok (.iload_n 1, 1) := by decide +kernel
theorem D_Rings_leadOn_1 : decode m_Rings_leadOn.2.1 1 = .ok (.iconst 1, 1) := by decide +kernel
theorem D_Rings_leadOn_2 : decode m_Rings_leadOn.2.1 2 = .ok (.iload_n 2, 1) := by decide +kernel
theorem D_Rings_leadOn_3 : decode m_Rings_leadOn.2.1 3 = .ok (.ishl, 1) := by decide +kernel
theorem D_Rings_leadOn_4 : decode m_Rings_leadOn.2.1 4 = .ok (.ior, 1) := by decide +kernel
theorem D_Rings_leadOn_5 : decode m_Rings_leadOn.2.1 5 = .ok (.istore_n 3, 1) := by decide +kernel
theorem D_Rings_leadOn_6 : decode m_Rings_leadOn.2.1 6 = .ok (.aload_n 0, 1) := by decide +kernel
theorem D_Rings_leadOn_7 : decode m_Rings_leadOn.2.1 7 = .ok (.getfield 30, 3) := by decide +kernel
theorem D_Rings_leadOn_10 : decode m_Rings_leadOn.2.1 10 = .ok (.iload_n 2, 1) := by decide +kernel
theorem D_Rings_leadOn_11 : decode m_Rings_leadOn.2.1 11 = .ok (.invokevirtual 88, 3) := by decide +kernel
theorem D_Rings_leadOn_14 : decode m_Rings_leadOn.2.1 14 = .ok (.istore 4, 2) := by decide +kernel
theorem D_Rings_leadOn_16 : decode m_Rings_leadOn.2.1 16 = .ok (.iconst 0, 1) := by decide +kernel
theorem D_Rings_leadOn_17 : decode m_Rings_leadOn.2.1 17 = .ok (.istore 5, 2) := by decide +kernel
theorem D_Rings_leadOn_19 : decode m_Rings_leadOn.2.1 19 = .ok (.iconst 1, 1) := by decide +kernel
theorem D_Rings_leadOn_20 : decode m_Rings_leadOn.2.1 20 = .ok (.istore 6, 2) := by decide +kernel
theorem D_Rings_leadOn_22 : decode m_Rings_leadOn.2.1 22 = .ok (.iload 6, 2) := by decide +kernel
theorem D_Rings_leadOn_24 : decode m_Rings_leadOn.2.1 24 = .ok (.aload_n 0, 1) := by decide +kernel
theorem D_Rings_leadOn_25 : decode m_Rings_leadOn.2.1 25 = .ok (.getfield 45, 3) := by decide +kernel
theorem D_Rings_leadOn_28 : decode m_Rings_leadOn.2.1 28 = .ok (.if_icmp .gt 72, 3) := by decide +kernel
theorem D_Rings_leadOn_31 : decode m_Rings_leadOn.2.1 31 = .ok (.aload_n 0, 1) := by decide +kernel
theorem D_Rings_leadOn_32 : decode m_Rings_leadOn.2.1 32 = .ok (.getfield 27, 3) := by decide +kernel
theorem D_Rings_leadOn_35 : decode m_Rings_leadOn.2.1 35 = .ok (.bipush 13, 2) := by decide +kernel
theorem D_Rings_leadOn_37 : decode m_Rings_leadOn.2.1 37 = .ok (.iload_n 1, 1) := by decide +kernel
theorem D_Rings_leadOn_38 : decode m_Rings_leadOn.2.1 38 = .ok (.imul, 1) := by decide +kernel
theorem D_Rings_leadOn_39 : decode m_Rings_leadOn.2.1 39 = .ok (.iload 6, 2) := by decide +kernel
theorem D_Rings_leadOn_41 : decode m_Rings_leadOn.2.1 41 = .ok (.iadd, 1) := by decide +kernel
theorem D_Rings_leadOn_42 : decode m_Rings_leadOn.2.1 42 = .ok (.invokevirtual 88, 3) := by decide +kernel
theorem D_Rings_leadOn_45 : decode m_Rings_leadOn.2.1 45 = .ok (.istore 7, 2) := by decide +kernel
theorem D_Rings_leadOn_47 : decode m_Rings_leadOn.2.1 47 = .ok (.iload 7, 2) := by decide +kernel
theorem D_Rings_leadOn_49 : decode m_Rings_leadOn.2.1 49 = .ok (.ifCond .eq 45, 3) := by decide +kernel
theorem D_Rings_leadOn_52 : decode m_Rings_leadOn.2.1 52 = .ok (.bipush 13, 2) := by decide +kernel
theorem D_Rings_leadOn_54 : decode m_Rings_leadOn.2.1 54 = .ok (.iload_n 3, 1) := by decide +kernel
theorem D_Rings_leadOn_55 : decode m_Rings_leadOn.2.1 55 = .ok (.imul, 1) := by decide +kernel
theorem D_Rings_leadOn_56 : decode m_Rings_leadOn.2.1 56 = .ok (.aload_n 0, 1) := by decide +kernel
theorem D_Rings_leadOn_57 : decode m_Rings_leadOn.2.1 57 = .ok (.getfield 12, 3) := by decide +kernel
theorem D_Rings_leadOn_60 : decode m_Rings_leadOn.2.1 60 = .ok (.iload 6, 2) := by decide +kernel
theorem D_Rings_leadOn_62 : decode m_Rings_leadOn.2.1 62 = .ok (.iload 4, 2) := by decide +kernel
theorem D_Rings_leadOn_64 : decode m_Rings_leadOn.2.1 64 = .ok (.invokevirtual 112, 3) := by decide +kernel
theorem D_Rings_leadOn_67 : decode m_Rings_leadOn.2.1 67 = .ok (.iadd, 1) := by decide +kernel
theorem D_Rings_leadOn_68 : decode m_Rings_leadOn.2.1 68 = .ok (.istore 8, 2) := by decide +kernel
theorem D_Rings_leadOn_70 : decode m_Rings_leadOn.2.1 70 = .ok (.aload_n 0, 1) := by decide +kernel
theorem D_Rings_leadOn_71 : decode m_Rings_leadOn.2.1 71 = .ok (.getfield 27, 3) := by decide +kernel
theorem D_Rings_leadOn_74 : decode m_Rings_leadOn.2.1 74 = .ok (.iload 8, 2) := by decide +kernel
theorem D_Rings_leadOn_76 : decode m_Rings_leadOn.2.1 76 = .ok (.aload_n 0, 1) := by decide +kernel
theorem D_Rings_leadOn_77 : decode m_Rings_leadOn.2.1 77 = .ok (.getfield 27, 3) := by decide +kernel
theorem D_Rings_leadOn_80 : decode m_Rings_leadOn.2.1 80 = .ok (.iload 8, 2) := by decide +kernel
theorem D_Rings_leadOn_82 : decode m_Rings_leadOn.2.1 82 = .ok (.invokevirtual 88, 3) := by decide +kernel
theorem D_Rings_leadOn_85 : decode m_Rings_leadOn.2.1 85 = .ok (.iload 7, 2) := by decide +kernel
theorem D_Rings_leadOn_87 : decode m_Rings_leadOn.2.1 87 = .ok (.iadd, 1) := by decide +kernel
theorem D_Rings_leadOn_88 : decode m_Rings_leadOn.2.1 88 = .ok (.invokevirtual 60, 3) := by decide +kernel
theorem D_Rings_leadOn_91 : decode m_Rings_leadOn.2.1 91 = .ok (.iconst 1, 1) := by decide +kernel
theorem D_Rings_leadOn_92 : decode m_Rings_leadOn.2.1 92 = .ok (.istore 5, 2) := by decide +kernel
theorem D_Rings_leadOn_94 : decode m_Rings_leadOn.2.1 94 = .ok (.iinc 6 1, 3) := by decide +kernel
theorem D_Rings_leadOn_97 : decode m_Rings_leadOn.2.1 97 = .ok (.goto (-75), 3) := by decide +kernel
theorem D_Rings_leadOn_100 : decode m_Rings_leadOn.2.1 100 = .ok (.iload 5, 2) := by decide +kernel
theorem D_Rings_leadOn_102 : decode m_Rings_leadOn.2.1 102 = .ok (.ireturn, 1) := by decide +kernel
theorem D_Rings_forgetSetsOf_0 : decode m_Rings_forgetSetsOf.2.1 0 = .ok (.iconst 0, 1) := by decide +kernel
theorem D_Rings_forgetSetsOf_1 : decode m_Rings_forgetSetsOf.2.1 1 = .ok (.istore_n 2, 1) := by decide +kernel
theorem D_Rings_forgetSetsOf_2 : decode m_Rings_forgetSetsOf.2.1 2 = .ok (.iload_n 2, 1) := by decide +kernel
theorem D_Rings_forgetSetsOf_3 : decode m_Rings_forgetSetsOf.2.1 3 = .ok (.bipush 64, 2) := by decide +kernel
theorem D_Rings_forgetSetsOf_5 : decode m_Rings_forgetSetsOf.2.1 5 = .ok (.if_icmp .ge 47, 3) := by decide +kernel
theorem D_Rings_forgetSetsOf_8 : decode m_Rings_forgetSetsOf.2.1 8 = .ok (.iload_n 2, 1) := by decide +kernel
theorem D_Rings_forgetSetsOf_9 : decode m_Rings_forgetSetsOf.2.1 9 = .ok (.invokestatic 97, 3) := by decide +kernel
theorem D_Rings_forgetSetsOf_12 : decode m_Rings_forgetSetsOf.2.1 12 = .ok (.iload_n 1, 1) := by decide +kernel
theorem D_Rings_forgetSetsOf_13 : decode m_Rings_forgetSetsOf.2.1 13 = .ok (.if_icmp .ne 33, 3) := by decide +kernel
theorem D_Rings_forgetSetsOf_16 : decode m_Rings_forgetSetsOf.2.1 16 = .ok (.iconst 1, 1) := by decide +kernel
theorem D_Rings_forgetSetsOf_17 : decode m_Rings_forgetSetsOf.2.1 17 = .ok (.istore_n 3, 1) := by decide +kernel
theorem D_Rings_forgetSetsOf_18 : decode m_Rings_forgetSetsOf.2.1 18 = .ok (.iload_n 3, 1) := by decide +kernel
theorem D_Rings_forgetSetsOf_19 : decode m_Rings_forgetSetsOf.2.1 19 = .ok (.aload_n 0, 1) := by decide +kernel
theorem D_Rings_forgetSetsOf_20 : decode m_Rings_forgetSetsOf.2.1 20 = .ok (.getfield 45, 3) := by decide +kernel
theorem D_Rings_forgetSetsOf_23 : decode m_Rings_forgetSetsOf.2.1 23 = .ok (.if_icmp .gt 23, 3) := by decide +kernel
theorem D_Rings_forgetSetsOf_26 : decode m_Rings_forgetSetsOf.2.1 26 = .ok (.aload_n 0, 1) := by decide +kernel
theorem D_Rings_forgetSetsOf_27 : decode m_Rings_forgetSetsOf.2.1 27 = .ok (.getfield 27, 3) := by decide +kernel
theorem D_Rings_forgetSetsOf_30 : decode m_Rings_forgetSetsOf.2.1 30 = .ok (.bipush 13, 2) := by decide +kernel
theorem D_Rings_forgetSetsOf_32 : decode m_Rings_forgetSetsOf.2.1 32 = .ok (.iload_n 2, 1) := by decide +kernel
theorem D_Rings_forgetSetsOf_33 : decode m_Rings_forgetSetsOf.2.1 33 = .ok (.imul, 1) := by decide +kernel
theorem D_Rings_forgetSetsOf_34 : decode m_Rings_forgetSetsOf.2.1 34 = .ok (.iload_n 3, 1) := by decide +kernel
theorem D_Rings_forgetSetsOf_35 : decode m_Rings_forgetSetsOf.2.1 35 = .ok (.iadd, 1) := by decide +kernel
theorem D_Rings_forgetSetsOf_36 : decode m_Rings_forgetSetsOf.2.1 36 = .ok (.iconst 0, 1) := by decide +kernel
theorem D_Rings_forgetSetsOf_37 : decode m_Rings_forgetSetsOf.2.1 37 = .ok (.invokevirtual 60, 3) := by decide +kernel
theorem D_Rings_forgetSetsOf_40 : decode m_Rings_forgetSetsOf.2.1 40 = .ok (.iinc 3 1, 3) := by decide +kernel
theorem D_Rings_forgetSetsOf_43 : decode m_Rings_forgetSetsOf.2.1 43 = .ok (.goto (-25), 3) := by decide +kernel
theorem D_Rings_forgetSetsOf_46 : decode m_Rings_forgetSetsOf.2.1 46 = .ok (.iinc 2 1, 3) := by decide +kernel
theorem D_Rings_forgetSetsOf_49 : decode m_Rings_forgetSetsOf.2.1 49 = .ok (.goto (-47), 3) := by decide +kernel
theorem D_Rings_forgetSetsOf_52 : decode m_Rings_forgetSetsOf.2.1 52 = .ok (.return_, 1) := by decide +kernel
theorem D_Rings_collect_0 : decode m_Rings_collect.2.1 0 = .ok (.iconst 0, 1) := by decide +kernel
theorem D_Rings_collect_1 : decode m_Rings_collect.2.1 1 = .ok (.istore_n 2, 1) := by decide +kernel
theorem D_Rings_collect_2 : decode m_Rings_collect.2.1 2 = .ok (.iload_n 2, 1) := by decide +kernel
theorem D_Rings_collect_3 : decode m_Rings_collect.2.1 3 = .ok (.bipush 64, 2) := by decide +kernel
theorem D_Rings_collect_5 : decode m_Rings_collect.2.1 5 = .ok (.if_icmp .ge 77, 3) := by decide +kernel
theorem D_Rings_collect_8 : decode m_Rings_collect.2.1 8 = .ok (.iload_n 2, 1) := by decide +kernel
theorem D_Rings_collect_9 : decode m_Rings_collect.2.1 9 = .ok (.invokestatic 97, 3) := by decide +kernel
theorem D_Rings_collect_12 : decode m_Rings_collect.2.1 12 = .ok (.aload_n 0, 1) := by decide +kernel
theorem D_Rings_collect_13 : decode m_Rings_collect.2.1 13 = .ok (.getfield 37, 3) := by decide +kernel
theorem D_Rings_collect_16 : decode m_Rings_collect.2.1 16 = .ok (.if_icmp .ne 60, 3) := by decide +kernel
theorem D_Rings_collect_19 : decode m_Rings_collect.2.1 19 = .ok (.aload_n 0, 1) := by decide +kernel
theorem D_Rings_collect_20 : decode m_Rings_collect.2.1 20 = .ok (.dup, 1) := by decide +kernel
theorem D_Rings_collect_21 : decode m_Rings_collect.2.1 21 = .ok (.getfield 48, 3) := by decide +kernel
theorem D_Rings_collect_24 : decode m_Rings_collect.2.1 24 = .ok (.aload_n 0, 1) := by decide +kernel
theorem D_Rings_collect_25 : decode m_Rings_collect.2.1 25 = .ok (.getfield 27, 3) := by decide +kernel
theorem D_Rings_collect_28 : decode m_Rings_collect.2.1 28 = .ok (.bipush 13, 2) := by decide +kernel
theorem D_Rings_collect_30 : decode m_Rings_collect.2.1 30 = .ok (.iload_n 2, 1) := by decide +kernel
theorem D_Rings_collect_31 : decode m_Rings_collect.2.1 31 = .ok (.imul, 1) := by decide +kernel
theorem D_Rings_collect_32 : decode m_Rings_collect.2.1 32 = .ok (.iconst 1, 1) := by decide +kernel
theorem D_Rings_collect_33 : decode m_Rings_collect.2.1 33 = .ok (.iadd, 1) := by decide +kernel
theorem D_Rings_collect_34 : decode m_Rings_collect.2.1 34 = .ok (.invokevirtual 88, 3) := by decide +kernel
theorem D_Rings_collect_37 : decode m_Rings_collect.2.1 37 = .ok (.iadd, 1) := by decide +kernel
theorem D_Rings_collect_38 : decode m_Rings_collect.2.1 38 = .ok (.putfield 48, 3) := by decide +kernel
theorem D_Rings_collect_41 : decode m_Rings_collect.2.1 41 = .ok (.iconst 2, 1) := by decide +kernel
theorem D_Rings_collect_42 : decode m_Rings_collect.2.1 42 = .ok (.istore_n 3, 1) := by decide +kernel
theorem D_Rings_collect_43 : decode m_Rings_collect.2.1 43 = .ok (.iload_n 3, 1) := by decide +kernel
theorem D_Rings_collect_44 : decode m_Rings_collect.2.1 44 = .ok (.aload_n 0, 1) := by decide +kernel
theorem D_Rings_collect_45 : decode m_Rings_collect.2.1 45 = .ok (.getfield 45, 3) := by decide +kernel
theorem D_Rings_collect_48 : decode m_Rings_collect.2.1 48 = .ok (.if_icmp .gt 28, 3) := by decide +kernel
theorem D_Rings_collect_51 : decode m_Rings_collect.2.1 51 = .ok (.aload_n 0, 1) := by decide +kernel
theorem D_Rings_collect_52 : decode m_Rings_collect.2.1 52 = .ok (.aload_n 0, 1) := by decide +kernel
theorem D_Rings_collect_53 : decode m_Rings_collect.2.1 53 = .ok (.getfield 27, 3) := by decide +kernel
theorem D_Rings_collect_56 : decode m_Rings_collect.2.1 56 = .ok (.bipush 13, 2) := by decide +kernel
theorem D_Rings_collect_58 : decode m_Rings_collect.2.1 58 = .ok (.iload_n 2, 1) := by decide +kernel
theorem D_Rings_collect_59 : decode m_Rings_collect.2.1 59 = .ok (.imul, 1) := by decide +kernel
theorem D_Rings_collect_60 : decode m_Rings_collect.2.1 60 = .ok (.iload_n 3, 1) := by decide +kernel
theorem D_Rings_collect_61 : decode m_Rings_collect.2.1 61 = .ok (.iadd, 1) := by decide +kernel
theorem D_Rings_collect_62 : decode m_Rings_collect.2.1 62 = .ok (.invokevirtual 88, 3) := by decide +kernel
theorem D_Rings_collect_65 : decode m_Rings_collect.2.1 65 = .ok (.iload_n 1, 1) := by decide +kernel
theorem D_Rings_collect_66 : decode m_Rings_collect.2.1 66 = .ok (.iload_n 2, 1) := by decide +kernel
theorem D_Rings_collect_67 : decode m_Rings_collect.2.1 67 = .ok (.invokevirtual 115, 3) := by decide +kernel
theorem D_Rings_collect_70 : decode m_Rings_collect.2.1 70 = .ok (.iinc 3 1, 3) := by decide +kernel
theorem D_Rings_collect_73 : decode m_Rings_collect.2.1 73 = .ok (.goto (-30), 3) := by decide +kernel
theorem D_Rings_collect_76 : decode m_Rings_collect.2.1 76 = .ok (.iinc 2 1, 3) := by decide +kernel
theorem D_Rings_collect_79 : decode m_Rings_collect.2.1 79 = .ok (.goto (-77), 3) := by decide +kernel
theorem D_Rings_collect_82 : decode m_Rings_collect.2.1 82 = .ok (.return_, 1) := by decide +kernel
theorem D_Rings_noteWrong_0 : decode m_Rings_noteWrong.2.1 0 = .ok (.iload_n 1, 1) := by decide +kernel
theorem D_Rings_noteWrong_1 : decode m_Rings_noteWrong.2.1 1 = .ok (.ifCond .ne 4, 3) := by decide +kernel
theorem D_Rings_noteWrong_4 : decode m_Rings_noteWrong.2.1 4 = .ok (.return_, 1) := by decide +kernel
theorem D_Rings_noteWrong_5 : decode m_Rings_noteWrong.2.1 5 = .ok (.iload_n 2, 1) := by decide +kernel
theorem D_Rings_noteWrong_6 : decode m_Rings_noteWrong.2.1 6 = .ok (.aload_n 0, 1) := by decide +kernel
theorem D_Rings_noteWrong_7 : decode m_Rings_noteWrong.2.1 7 = .ok (.getfield 54, 3) := by decide +kernel
theorem D_Rings_noteWrong_10 : decode m_Rings_noteWrong.2.1 10 = .ok (.if_icmp .lt 19, 3) := by decide +kernel
theorem D_Rings_noteWrong_13 : decode m_Rings_noteWrong.2.1 13 = .ok (.iload_n 2, 1) := by decide +kernel
theorem D_Rings_noteWrong_14 : decode m_Rings_noteWrong.2.1 14 = .ok (.aload_n 0, 1) := by decide +kernel
theorem D_Rings_noteWrong_15 : decode m_Rings_noteWrong.2.1 15 = .ok (.getfield 54, 3) := by decide +kernel
theorem D_Rings_noteWrong_18 : decode m_Rings_noteWrong.2.1 18 = .ok (.if_icmp .ne 15, 3) := by decide +kernel
theorem D_Rings_noteWrong_21 : decode m_Rings_noteWrong.2.1 21 = .ok (.iload_n 3, 1) := by decide +kernel
theorem D_Rings_noteWrong_22 : decode m_Rings_noteWrong.2.1 22 = .ok (.aload_n 0, 1) := by decide +kernel
theorem D_Rings_noteWrong_23 : decode m_Rings_noteWrong.2.1 23 = .ok (.getfield 57, 3) := by decide +kernel
theorem D_Rings_noteWrong_26 : decode m_Rings_noteWrong.2.1 26 = .ok (.if_icmp .ge 7, 3) := by decide +kernel
theorem D_Rings_noteWrong_29 : decode m_Rings_noteWrong.2.1 29 = .ok (.iconst 1, 1) := by decide +kernel
theorem D_Rings_noteWrong_30 : decode m_Rings_noteWrong.2.1 30 = .ok (.goto 4, 3) := by decide +kernel
theorem D_Rings_noteWrong_33 : decode m_Rings_noteWrong.2.1 33 = .ok (.iconst 0, 1) := by decide +kernel
theorem D_Rings_noteWrong_34 : decode m_Rings_noteWrong.2.1 34 = .ok (.istore 4, 2) := by decide +kernel
theorem D_Rings_noteWrong_36 : decode m_Rings_noteWrong.2.1 36 = .ok (.aload_n 0, 1) := by decide +kernel
theorem D_Rings_noteWrong_37 : decode m_Rings_noteWrong.2.1 37 = .ok (.getfield 51, 3) := by decide +kernel
theorem D_Rings_noteWrong_40 : decode m_Rings_noteWrong.2.1 40 = .ok (.ifCond .eq 8, 3) := by decide +kernel
theorem D_Rings_noteWrong_43 : decode m_Rings_noteWrong.2.1 43 = .ok (.iload 4, 2) := by decide +kernel
theorem D_Rings_noteWrong_45 : decode m_Rings_noteWrong.2.1 45 = .ok (.ifCond .eq 13, 3) := by decide +kernel
theorem D_Rings_noteWrong_48 : decode m_Rings_noteWrong.2.1 48 = .ok (.aload_n 0, 1) := by decide +kernel
theorem D_Rings_noteWrong_49 : decode m_Rings_noteWrong.2.1 49 = .ok (.iload_n 2, 1) := by decide +kernel
theorem D_Rings_noteWrong_50 : decode m_Rings_noteWrong.2.1 50 = .ok (.putfield 54, 3) := by decide +kernel
theorem D_Rings_noteWrong_53 : decode m_Rings_noteWrong.2.1 53 = .ok (.aload_n 0, 1) := by decide +kernel
theorem D_Rings_noteWrong_54 : decode m_Rings_noteWrong.2.1 54 = .ok (.iload_n 3, 1) := by decide +kernel
theorem D_Rings_noteWrong_55 : decode m_Rings_noteWrong.2.1 55 = .ok (.putfield 57, 3) := by decide +kernel
theorem D_Rings_noteWrong_58 : decode m_Rings_noteWrong.2.1 58 = .ok (.aload_n 0, 1) := by decide +kernel
theorem D_Rings_noteWrong_59 : decode m_Rings_noteWrong.2.1 59 = .ok (.dup, 1) := by decide +kernel
theorem D_Rings_noteWrong_60 : decode m_Rings_noteWrong.2.1 60 = .ok (.getfield 48, 3) := by decide +kernel
theorem D_Rings_noteWrong_63 : decode m_Rings_noteWrong.2.1 63 = .ok (.iload_n 1, 1) := by decide +kernel
theorem D_Rings_noteWrong_64 : decode m_Rings_noteWrong.2.1 64 = .ok (.iadd, 1) := by decide +kernel
theorem D_Rings_noteWrong_65 : decode m_Rings_noteWrong.2.1 65 = .ok (.putfield 48, 3) := by decide +kernel
theorem D_Rings_noteWrong_68 : decode m_Rings_noteWrong.2.1 68 = .ok (.aload_n 0, 1) := by decide +kernel
theorem D_Rings_noteWrong_69 : decode m_Rings_noteWrong.2.1 69 = .ok (.dup, 1) := by decide +kernel
theorem D_Rings_noteWrong_70 : decode m_Rings_noteWrong.2.1 70 = .ok (.getfield 51, 3) := by decide +kernel
theorem D_Rings_noteWrong_73 : decode m_Rings_noteWrong.2.1 73 = .ok (.iload_n 1, 1) := by decide +kernel
theorem D_Rings_noteWrong_74 : decode m_Rings_noteWrong.2.1 74 = .ok (.iadd, 1) := by decide +kernel
theorem D_Rings_noteWrong_75 : decode m_Rings_noteWrong.2.1 75 = .ok (.putfield 51, 3) := by decide +kernel
theorem D_Rings_noteWrong_78 : decode m_Rings_noteWrong.2.1 78 = .ok (.return_, 1) := by decide +kernel
theorem D_Rings_all_0 : decode m_Rings_all.2.1 0 = .ok (.aload_n 0, 1) := by decide +kernel
theorem D_Rings_all_1 : decode m_Rings_all.2.1 1 = .ok (.getfield 48, 3) := by decide +kernel
theorem D_Rings_all_4 : decode m_Rings_all.2.1 4 = .ok (.iconst 2, 1) := by decide +kernel
theorem D_Rings_all_5 : decode m_Rings_all.2.1 5 = .ok (.idiv, 1) := by decide +kernel
theorem D_Rings_all_6 : decode m_Rings_all.2.1 6 = .ok (.ireturn, 1) := by decide +kernel
theorem D_Rings_wrongOnes_0 : decode m_Rings_wrongOnes.2.1 0 = .ok (.aload_n 0, 1) := by decide +kernel
theorem D_Rings_wrongOnes_1 : decode m_Rings_wrongOnes.2.1 1 = .ok (.getfield 51, 3) := by decide +kernel
theorem D_Rings_wrongOnes_4 : decode m_Rings_wrongOnes.2.1 4 = .ok (.iconst 2, 1) := by decide +kernel
theorem D_Rings_wrongOnes_5 : decode m_Rings_wrongOnes.2.1 5 = .ok (.idiv, 1) := by decide +kernel
theorem D_Rings_wrongOnes_6 : decode m_Rings_wrongOnes.2.1 6 = .ok (.ireturn, 1) := by decide +kernel
theorem D_Rings_wrongRows_0 : decode m_Rings_wrongRows.2.1 0 = .ok (.aload_n 0, 1) := by decide +kernel
theorem D_Rings_wrongRows_1 : decode m_Rings_wrongRows.2.1 1 = .ok (.getfield 54, 3) := by decide +kernel
theorem D_Rings_wrongRows_4 : decode m_Rings_wrongRows.2.1 4 = .ok (.ireturn, 1) := by decide +kernel
theorem D_Rings_wrongColumns_0 : decode m_Rings_wrongColumns.2.1 0 = .ok (.aload_n 0, 1) := by decide +kernel
theorem D_Rings_wrongColumns_1 : decode m_Rings_wrongColumns.2.1 1 = .ok (.getfield 57, 3) := by decide +kernel
theorem D_Rings_wrongColumns_4 : decode m_Rings_wrongColumns.2.1 4 = .ok (.ireturn, 1) := by decide +kernel
theorem D_Slot_init_0 : decode m_Slot_init.2.1 0 = .ok (.aload_n 0, 1) := by decide +kernel
theorem D_Slot_init_1 : decode m_Slot_init.2.1 1 = .ok (.invokespecial 1, 3) := by decide +kernel
theorem D_Slot_init_4 : decode m_Slot_init.2.1 4 = .ok (.aload_n 0, 1) := by decide +kernel
theorem D_Slot_init_5 : decode m_Slot_init.2.1 5 = .ok (.new 7, 3) := by decide +kernel
theorem D_Slot_init_8 : decode m_Slot_init.2.1 8 = .ok (.dup, 1) := by decide +kernel
theorem D_Slot_init_9 : decode m_Slot_init.2.1 9 = .ok (.invokespecial 9, 3) := by decide +kernel
theorem D_Slot_init_12 : decode m_Slot_init.2.1 12 = .ok (.putfield 10, 3) := by decide +kernel
theorem D_Slot_init_15 : decode m_Slot_init.2.1 15 = .ok (.return_, 1) := by decide +kernel
theorem D_Slot_isFilled_0 : decode m_Slot_isFilled.2.1 0 = .ok (.aload_n 0, 1) := by decide +kernel
theorem D_Slot_isFilled_1 : decode m_Slot_isFilled.2.1 1 = .ok (.getfield 16, 3) := by decide +kernel
theorem D_Slot_isFilled_4 : decode m_Slot_isFilled.2.1 4 = .ok (.ireturn, 1) := by decide +kernel
theorem D_Slot_keep_0 : decode m_Slot_keep.2.1 0 = .ok (.aload_n 0, 1) := by decide +kernel
theorem D_Slot_keep_1 : decode m_Slot_keep.2.1 1 = .ok (.getfield 10, 3) := by decide +kernel
theorem D_Slot_keep_4 : decode m_Slot_keep.2.1 4 = .ok (.aload_n 1, 1) := by decide +kernel
theorem D_Slot_keep_5 : decode m_Slot_keep.2.1 5 = .ok (.invokevirtual 20, 3) := by decide +kernel
theorem D_Slot_keep_8 : decode m_Slot_keep.2.1 8 = .ok (.aload_n 0, 1) := by decide +kernel
theorem D_Slot_keep_9 : decode m_Slot_keep.2.1 9 = .ok (.iconst 1, 1) := by decide +kernel
theorem D_Slot_keep_10 : decode m_Slot_keep.2.1 10 = .ok (.putfield 16, 3) := by decide +kernel
theorem D_Slot_keep_13 : decode m_Slot_keep.2.1 13 = .ok (.return_, 1) := by decide +kernel
theorem D_Slot_giveTo_0 : decode m_Slot_giveTo.2.1 0 = .ok (.aload_n 1, 1) := by decide +kernel
theorem D_Slot_giveTo_1 : decode m_Slot_giveTo.2.1 1 = .ok (.aload_n 0, 1) := by decide +kernel
theorem D_Slot_giveTo_2 : decode m_Slot_giveTo.2.1 2 = .ok (.getfield 10, 3) := by decide +kernel
theorem D_Slot_giveTo_5 : decode m_Slot_giveTo.2.1 5 = .ok (.invokevirtual 20, 3) := by decide +kernel
theorem D_Slot_giveTo_8 : decode m_Slot_giveTo.2.1 8 = .ok (.return_, 1) := by decide +kernel
theorem D_O_init_0 : decode m_O_init.2.1 0 = .ok (.aload_n 0, 1) := by decide +kernel
theorem D_O_init_1 : decode m_O_init.2.1 1 = .ok (.invokespecial 1, 3) := by decide +kernel
theorem D_O_init_4 : decode m_O_init.2.1 4 = .ok (.aload_n 0, 1) := by decide +kernel
theorem D_O_init_5 : decode m_O_init.2.1 5 = .ok (.new 7, 3) := by decide +kernel
theorem D_O_init_8 : decode m_O_init.2.1 8 = .ok (.dup, 1) := by decide +kernel
theorem D_O_init_9 : decode m_O_init.2.1 9 = .ok (.invokespecial 9, 3) := by decide +kernel
theorem D_O_init_12 : decode m_O_init.2.1 12 = .ok (.putfield 10, 3) := by decide +kernel
theorem D_O_init_15 : decode m_O_init.2.1 15 = .ok (.aload_n 0, 1) := by decide +kernel
theorem D_O_init_16 : decode m_O_init.2.1 16 = .ok (.new 7, 3) := by decide +kernel
theorem D_O_init_19 : decode m_O_init.2.1 19 = .ok (.dup, 1) := by decide +kernel
theorem D_O_init_20 : decode m_O_init.2.1 20 = .ok (.invokespecial 9, 3) := by decide +kernel
theorem D_O_init_23 : decode m_O_init.2.1 23 = .ok (.putfield 16, 3) := by decide +kernel
theorem D_O_init_26 : decode m_O_init.2.1 26 = .ok (.aload_n 0, 1) := by decide +kernel
theorem D_O_init_27 : decode m_O_init.2.1 27 = .ok (.new 19, 3) := by decide +kernel
theorem D_O_init_30 : decode m_O_init.2.1 30 = .ok (.dup, 1) := by decide +kernel
theorem D_O_init_31 : decode m_O_init.2.1 31 = .ok (.invokespecial 21, 3) := by decide +kernel
theorem D_O_init_34 : decode m_O_init.2.1 34 = .ok (.putfield 22, 3) := by decide +kernel
theorem D_O_init_37 : decode m_O_init.2.1 37 = .ok (.aload_n 0, 1) := by decide +kernel
theorem D_O_init_38 : decode m_O_init.2.1 38 = .ok (.new 26, 3) := by decide +kernel
theorem D_O_init_41 : decode m_O_init.2.1 41 = .ok (.dup, 1) := by decide +kernel
theorem D_O_init_42 : decode m_O_init.2.1 42 = .ok (.invokespecial 28, 3) := by decide +kernel
theorem D_O_init_45 : decode m_O_init.2.1 45 = .ok (.putfield 29, 3) := by decide +kernel
theorem D_O_init_48 : decode m_O_init.2.1 48 = .ok (.aload_n 0, 1) := by decide +kernel
theorem D_O_init_49 : decode m_O_init.2.1 49 = .ok (.new 33, 3) := by decide +kernel
theorem D_O_init_52 : decode m_O_init.2.1 52 = .ok (.dup, 1) := by decide +kernel
theorem D_O_init_53 : decode m_O_init.2.1 53 = .ok (.invokespecial 35, 3) := by decide +kernel
theorem D_O_init_56 : decode m_O_init.2.1 56 = .ok (.putfield 36, 3) := by decide +kernel
theorem D_O_init_59 : decode m_O_init.2.1 59 = .ok (.aload_n 0, 1) := by decide +kernel
theorem D_O_init_60 : decode m_O_init.2.1 60 = .ok (.new 40, 3) := by decide +kernel
theorem D_O_init_63 : decode m_O_init.2.1 63 = .ok (.dup, 1) := by decide +kernel
theorem D_O_init_64 : decode m_O_init.2.1 64 = .ok (.invokespecial 42, 3) := by decide +kernel
theorem D_O_init_67 : decode m_O_init.2.1 67 = .ok (.putfield 43, 3) := by decide +kernel
theorem D_O_init_70 : decode m_O_init.2.1 70 = .ok (.aload_n 0, 1) := by decide +kernel
theorem D_O_init_71 : decode m_O_init.2.1 71 = .ok (.new 47, 3) := by decide +kernel
theorem D_O_init_74 : decode m_O_init.2.1 74 = .ok (.dup, 1) := by decide +kernel
theorem D_O_init_75 : decode m_O_init.2.1 75 = .ok (.invokespecial 49, 3) := by decide +kernel
theorem D_O_init_78 : decode m_O_init.2.1 78 = .ok (.putfield 50, 3) := by decide +kernel
theorem D_O_init_81 : decode m_O_init.2.1 81 = .ok (.aload_n 0, 1) := by decide +kernel
theorem D_O_init_82 : decode m_O_init.2.1 82 = .ok (.iconst 2, 1) := by decide +kernel
theorem D_O_init_83 : decode m_O_init.2.1 83 = .ok (.anewarray 54, 3) := by decide +kernel
theorem D_O_init_86 : decode m_O_init.2.1 86 = .ok (.putfield 56, 3) := by decide +kernel
theorem D_O_init_89 : decode m_O_init.2.1 89 = .ok (.iconst 0, 1) := by decide +kernel
theorem D_O_init_90 : decode m_O_init.2.1 90 = .ok (.istore_n 1, 1) := by decide +kernel
theorem D_O_init_91 : decode m_O_init.2.1 91 = .ok (.iload_n 1, 1) := by decide +kernel
theorem D_O_init_92 : decode m_O_init.2.1 92 = .ok (.aload_n 0, 1) := by decide +kernel
theorem D_O_init_93 : decode m_O_init.2.1 93 = .ok (.getfield 56, 3) := by decide +kernel
theorem D_O_init_96 : decode m_O_init.2.1 96 = .ok (.arraylength, 1) := by decide +kernel
theorem D_O_init_97 : decode m_O_init.2.1 97 = .ok (.if_icmp .ge 22, 3) := by decide +kernel
theorem D_O_init_100 : decode m_O_init.2.1 100 = .ok (.aload_n 0, 1) := by decide +kernel
theorem D_O_init_101 : decode m_O_init.2.1 101 = .ok (.getfield 56, 3) := by decide +kernel
theorem D_O_init_104 : decode m_O_init.2.1 104 = .ok (.iload_n 1, 1) := by decide +kernel
theorem D_O_init_105 : decode m_O_init.2.1 105 = .ok (.new 54, 3) := by decide +kernel
theorem D_O_init_108 : decode m_O_init.2.1 108 = .ok (.dup, 1) := by decide +kernel
theorem D_O_init_109 : decode m_O_init.2.1 109 = .ok (.invokespecial 60, 3) := by decide +kernel
theorem D_O_init_112 : decode m_O_init.2.1 112 = .ok (.aastore, 1) := by decide +kernel
theorem D_O_init_113 : decode m_O_init.2.1 113 = .ok (.iinc 1 1, 3) := by decide +kernel
theorem D_O_init_116 : decode m_O_init.2.1 116 = .ok (.goto (-25), 3) := by decide +kernel
theorem D_O_init_119 : decode m_O_init.2.1 119 = .ok (.return_, 1) := by decide +kernel
theorem D_O_begin_0 : decode m_O_begin.2.1 0 = .ok (.iload_n 1, 1) := by decide +kernel
theorem D_O_begin_1 : decode m_O_begin.2.1 1 = .ok (.iconst 2, 1) := by decide +kernel
theorem D_O_begin_2 : decode m_O_begin.2.1 2 = .ok (.bipush 6, 2) := by decide +kernel
theorem D_O_begin_4 : decode m_O_begin.2.1 4 = .ok (.invokestatic 61, 3) := by decide +kernel
theorem D_O_begin_7 : decode m_O_begin.2.1 7 = .ok (.ifCond .ne 20, 3) := by decide +kernel
theorem D_O_begin_10 : decode m_O_begin.2.1 10 = .ok (.iload_n 2, 1) := by decide +kernel
theorem D_O_begin_11 : decode m_O_begin.2.1 11 = .ok (.iconst 2, 1) := by decide +kernel
theorem D_O_begin_12 : decode m_O_begin.2.1 12 = .ok (.bipush 6, 2) := by decide +kernel
theorem D_O_begin_14 : decode m_O_begin.2.1 14 = .ok (.invokestatic 61, 3) := by decide +kernel
theorem D_O_begin_17 : decode m_O_begin.2.1 17 = .ok (.ifCond .ne 10, 3) := by decide +kernel
theorem D_O_begin_20 : decode m_O_begin.2.1 20 = .ok (.iload_n 3, 1) := by decide +kernel
theorem D_O_begin_21 : decode m_O_begin.2.1 21 = .ok (.invokestatic 65, 3) := by decide +kernel
theorem D_O_begin_24 : decode m_O_begin.2.1 24 = .ok (.ifCond .ne 6, 3) := by decide +kernel
theorem D_O_begin_27 : decode m_O_begin.2.1 27 = .ok (.bipush (-2), 2) := by decide +kernel
theorem D_O_begin_29 : decode m_O_begin.2.1 29 = .ok (.ireturn, 1) := by decide +kernel
theorem D_O_begin_30 : decode m_O_begin.2.1 30 = .ok (.aload_n 0, 1) := by decide +kernel
theorem D_O_begin_31 : decode m_O_begin.2.1 31 = .ok (.getfield 10, 3) := by decide +kernel
theorem D_O_begin_34 : decode m_O_begin.2.1 34 = .ok (.invokevirtual 69, 3) := by decide +kernel
theorem D_O_begin_37 : decode m_O_begin.2.1 37 = .ok (.istore 4, 2) := by decide +kernel
theorem D_O_begin_39 : decode m_O_begin.2.1 39 = .ok (.aload_n 0, 1) := by decide +kernel
theorem D_O_begin_40 : decode m_O_begin.2.1 40 = .ok (.getfield 50, 3) := by decide +kernel
theorem D_O_begin_43 : decode m_O_begin.2.1 43 = .ok (.aload_n 0, 1) := by decide +kernel
theorem D_O_begin_44 : decode m_O_begin.2.1 44 = .ok (.getfield 10, 3) := by decide +kernel
theorem D_O_begin_47 : decode m_O_begin.2.1 47 = .ok (.invokevirtual 73, 3) := by decide +kernel
theorem D_O_begin_50 : decode m_O_begin.2.1 50 = .ok (.aload_n 0, 1) := by decide +kernel
theorem D_O_begin_51 : decode m_O_begin.2.1 51 = .ok (.getfield 10, 3) := by decide +kernel
theorem D_O_begin_54 : decode m_O_begin.2.1 54 = .ok (.iload_n 1, 1) := by decide +kernel
theorem D_O_begin_55 : decode m_O_begin.2.1 55 = .ok (.iload_n 2, 1) := by decide +kernel
theorem D_O_begin_56 : decode m_O_begin.2.1 56 = .ok (.iload_n 3, 1) := by decide +kernel
theorem D_O_begin_57 : decode m_O_begin.2.1 57 = .ok (.invokevirtual 77, 3) := by decide +kernel
theorem D_O_begin_60 : decode m_O_begin.2.1 60 = .ok (.iload 4, 2) := by decide +kernel
theorem D_O_begin_62 : decode m_O_begin.2.1 62 = .ok (.ireturn, 1) := by decide +kernel
theorem D_O_tell_0 : decode m_O_tell.2.1 0 = .ok (.aload_n 0, 1) := by decide +kernel
theorem D_O_tell_1 : decode m_O_tell.2.1 1 = .ok (.iload_n 1, 1) := by decide +kernel
theorem D_O_tell_2 : decode m_O_tell.2.1 2 = .ok (.iload_n 2, 1) := by decide +kernel
theorem D_O_tell_3 : decode m_O_tell.2.1 3 = .ok (.iload_n 3, 1) := by decide +kernel
theorem D_O_tell_4 : decode m_O_tell.2.1 4 = .ok (.invokevirtual 81, 3) := by decide +kernel
theorem D_O_tell_7 : decode m_O_tell.2.1 7 = .ok (.istore 4, 2) := by decide +kernel
theorem D_O_tell_9 : decode m_O_tell.2.1 9 = .ok (.iload 4, 2) := by decide +kernel
theorem D_O_tell_11 : decode m_O_tell.2.1 11 = .ok (.ifCond .eq 6, 3) := by decide +kernel
theorem D_O_tell_14 : decode m_O_tell.2.1 14 = .ok (.iload 4, 2) := by decide +kernel
theorem D_O_tell_16 : decode m_O_tell.2.1 16 = .ok (.ireturn, 1) := by decide +kernel
theorem D_O_tell_17 : decode m_O_tell.2.1 17 = .ok (.aload_n 0, 1) := by decide +kernel
theorem D_O_tell_18 : decode m_O_tell.2.1 18 = .ok (.getfield 10, 3) := by decide +kernel
theorem D_O_tell_21 : decode m_O_tell.2.1 21 = .ok (.iload_n 1, 1) := by decide +kernel
theorem D_O_tell_22 : decode m_O_tell.2.1 22 = .ok (.iload_n 2, 1) := by decide +kernel
theorem D_O_tell_23 : decode m_O_tell.2.1 23 = .ok (.invokevirtual 85, 3) := by decide +kernel
theorem D_O_tell_26 : decode m_O_tell.2.1 26 = .ok (.istore 5, 2) := by decide +kernel
theorem D_O_tell_28 : decode m_O_tell.2.1 28 = .ok (.aload_n 0, 1) := by decide +kernel
theorem D_O_tell_29 : decode m_O_tell.2.1 29 = .ok (.getfield 50, 3) := by decide +kernel
theorem D_O_tell_32 : decode m_O_tell.2.1 32 = .ok (.aload_n 0, 1) := by decide +kernel
theorem D_O_tell_33 : decode m_O_tell.2.1 33 = .ok (.getfield 10, 3) := by decide +kernel
theorem D_O_tell_36 : decode m_O_tell.2.1 36 = .ok (.invokevirtual 73, 3) := by decide +kernel
theorem D_O_tell_39 : decode m_O_tell.2.1 39 = .ok (.aload_n 0, 1) := by decide +kernel
theorem D_O_tell_40 : decode m_O_tell.2.1 40 = .ok (.getfield 10, 3) := by decide +kernel
theorem D_O_tell_43 : decode m_O_tell.2.1 43 = .ok (.iload_n 1, 1) := by decide +kernel
theorem D_O_tell_44 : decode m_O_tell.2.1 44 = .ok (.iload_n 2, 1) := by decide +kernel
theorem D_O_tell_45 : decode m_O_tell.2.1 45 = .ok (.iload_n 3, 1) := by decide +kernel
theorem D_O_tell_46 : decode m_O_tell.2.1 46 = .ok (.invokevirtual 89, 3) := by decide +kernel
theorem D_O_tell_49 : decode m_O_tell.2.1 49 = .ok (.iload 5, 2) := by decide +kernel
theorem D_O_tell_51 : decode m_O_tell.2.1 51 = .ok (.ireturn, 1) := by decide +kernel
theorem D_O_tellAll_0 : decode m_O_tellAll.2.1 0 = .ok (.aload_n 0, 1) := by decide +kernel
theorem D_O_tellAll_1 : decode m_O_tellAll.2.1 1 = .ok (.getfield 22, 3) := by decide +kernel
theorem D_O_tellAll_4 : decode m_O_tellAll.2.1 4 = .ok (.aload_n 0, 1) := by decide +kernel
theorem D_O_tellAll_5 : decode m_O_tellAll.2.1 5 = .ok (.getfield 10, 3) := by decide +kernel
theorem D_O_tellAll_8 : decode m_O_tellAll.2.1 8 = .ok (.invokevirtual 92, 3) := by decide +kernel
theorem D_O_tellAll_11 : decode m_O_tellAll.2.1 11 = .ok (.aload_n 0, 1) := by decide +kernel
theorem D_O_tellAll_12 : decode m_O_tellAll.2.1 12 = .ok (.getfield 22, 3) := by decide +kernel
theorem D_O_tellAll_15 : decode m_O_tellAll.2.1 15 = .ok (.invokevirtual 95, 3) := by decide +kernel
theorem D_O_tellAll_18 : decode m_O_tellAll.2.1 18 = .ok (.ifCond .ne 6, 3) := by decide +kernel
theorem D_O_tellAll_21 : decode m_O_tellAll.2.1 21 = .ok (.bipush (-5), 2) := by decide +kernel
theorem D_O_tellAll_23 : decode m_O_tellAll.2.1 23 = .ok (.ireturn, 1) := by decide +kernel
theorem D_O_tellAll_24 : decode m_O_tellAll.2.1 24 = .ok (.aload_n 0, 1) := by decide +kernel
theorem D_O_tellAll_25 : decode m_O_tellAll.2.1 25 = .ok (.getfield 10, 3) := by decide +kernel
theorem D_O_tellAll_28 : decode m_O_tellAll.2.1 28 = .ok (.invokevirtual 69, 3) := by decide +kernel
theorem D_O_tellAll_31 : decode m_O_tellAll.2.1 31 = .ok (.istore_n 1, 1) := by decide +kernel
theorem D_O_tellAll_32 : decode m_O_tellAll.2.1 32 = .ok (.aload_n 0, 1) := by decide +kernel
theorem D_O_tellAll_33 : decode m_O_tellAll.2.1 33 = .ok (.getfield 50, 3) := by decide +kernel
theorem D_O_tellAll_36 : decode m_O_tellAll.2.1 36 = .ok (.aload_n 0, 1) := by decide +kernel
theorem D_O_tellAll_37 : decode m_O_tellAll.2.1 37 = .ok (.getfield 10, 3) := by decide +kernel
theorem D_O_tellAll_40 : decode m_O_tellAll.2.1 40 = .ok (.invokevirtual 73, 3) := by decide +kernel
theorem D_O_tellAll_43 : decode m_O_tellAll.2.1 43 = .ok (.iconst 0, 1) := by decide +kernel
theorem D_O_tellAll_44 : decode m_O_tellAll.2.1 44 = .ok (.istore_n 2, 1) := by decide +kernel
theorem D_O_tellAll_45 : decode m_O_tellAll.2.1 45 = .ok (.iload_n 2, 1) := by decide +kernel
theorem D_O_tellAll_46 : decode m_O_tellAll.2.1 46 = .ok (.aload_n 0, 1) := by decide +kernel
theorem D_O_tellAll_47 : decode m_O_tellAll.2.1 47 = .ok (.getfield 10, 3) := by decide +kernel
theorem D_O_tellAll_50 : decode m_O_tellAll.2.1 50 = .ok (.invokevirtual 99, 3) := by decide +kernel
theorem D_O_tellAll_53 : decode m_O_tellAll.2.1 53 = .ok (.if_icmp .ge 62, 3) := by decide +kernel
theorem D_O_tellAll_56 : decode m_O_tellAll.2.1 56 = .ok (.iconst 0, 1) := by decide +kernel
theorem D_O_tellAll_57 : decode m_O_tellAll.2.1 57 = .ok (.istore_n 3, 1) := by decide +kernel
theorem D_O_tellAll_58 : decode m_O_tellAll.2.1 58 = .ok (.iload_n 3, 1) := by decide +kernel
theorem D_O_tellAll_59 : decode m_O_tellAll.2.1 59 = .ok (.aload_n 0, 1) := by decide +kernel
theorem D_O_tellAll_60 : decode m_O_tellAll.2.1 60 = .ok (.getfield 10, 3) := by decide +kernel
theorem D_O_tellAll_63 : decode m_O_tellAll.2.1 63 = .ok (.invokevirtual 102, 3) := by decide +kernel
theorem D_O_tellAll_66 : decode m_O_tellAll.2.1 66 = .ok (.if_icmp .ge 43, 3) := by decide +kernel
theorem D_O_tellAll_69 : decode m_O_tellAll.2.1 69 = .ok (.aload_n 0, 1) := by decide +kernel
theorem D_O_tellAll_70 : decode m_O_tellAll.2.1 70 = .ok (.getfield 22, 3) := by decide +kernel
theorem D_O_tellAll_73 : decode m_O_tellAll.2.1 73 = .ok (.iload_n 2, 1) := by decide +kernel
theorem D_O_tellAll_74 : decode m_O_tellAll.2.1 74 = .ok (.iload_n 3, 1) := by decide +kernel
theorem D_O_tellAll_75 : decode m_O_tellAll.2.1 75 = .ok (.invokevirtual 105, 3) := by decide +kernel
theorem D_O_tellAll_78 : decode m_O_tellAll.2.1 78 = .ok (.ifCond .eq 25, 3) := by decide +kernel
theorem D_O_tellAll_81 : decode m_O_tellAll.2.1 81 = .ok (.aload_n 0, 1) := by decide +kernel
theorem D_O_tellAll_82 : decode m_O_tellAll.2.1 82 = .ok (.getfield 10, 3) := by decide +kernel
theorem D_O_tellAll_85 : decode m_O_tellAll.2.1 85 = .ok (.iload_n 2, 1) := by decide +kernel
theorem D_O_tellAll_86 : decode m_O_tellAll.2.1 86 = .ok (.iload_n 3, 1) := by decide +kernel
theorem D_O_tellAll_87 : decode m_O_tellAll.2.1 87 = .ok (.aload_n 0, 1) := by decide +kernel
theorem D_O_tellAll_88 : decode m_O_tellAll.2.1 88 = .ok (.getfield 22, 3) := by decide +kernel
theorem D_O_tellAll_91 : decode m_O_tellAll.2.1 91 = .ok (.aload_n 0, 1) := by decide +kernel
theorem D_O_tellAll_92 : decode m_O_tellAll.2.1 92 = .ok (.getfield 10, 3) := by decide +kernel
theorem D_O_tellAll_95 : decode m_O_tellAll.2.1 95 = .ok (.iload_n 2, 1) := by decide +kernel
theorem D_O_tellAll_96 : decode m_O_tellAll.2.1 96 = .ok (.iload_n 3, 1) := by decide +kernel
theorem D_O_tellAll_97 : decode m_O_tellAll.2.1 97 = .ok (.invokevirtual 109, 3) := by decide +kernel
theorem D_O_tellAll_100 : decode m_O_tellAll.2.1 100 = .ok (.invokevirtual 89, 3) := by decide +kernel
theorem D_O_tellAll_103 : decode m_O_tellAll.2.1 103 = .ok (.iinc 3 1, 3) := by decide +kernel
theorem D_O_tellAll_106 : decode m_O_tellAll.2.1 106 = .ok (.goto (-48), 3) := by decide +kernel
theorem D_O_tellAll_109 : decode m_O_tellAll.2.1 109 = .ok (.iinc 2 1, 3) := by decide +kernel
theorem D_O_tellAll_112 : decode m_O_tellAll.2.1 112 = .ok (.goto (-67), 3) := by decide +kernel
theorem D_O_tellAll_115 : decode m_O_tellAll.2.1 115 = .ok (.aload_n 0, 1) := by decide +kernel
theorem D_O_tellAll_116 : decode m_O_tellAll.2.1 116 = .ok (.getfield 10, 3) := by decide +kernel
theorem D_O_tellAll_119 : decode m_O_tellAll.2.1 119 = .ok (.invokevirtual 69, 3) := by decide +kernel
theorem D_O_tellAll_122 : decode m_O_tellAll.2.1 122 = .ok (.iload_n 1, 1) := by decide +kernel
theorem D_O_tellAll_123 : decode m_O_tellAll.2.1 123 = .ok (.isub, 1) := by decide +kernel
theorem D_O_tellAll_124 : decode m_O_tellAll.2.1 124 = .ok (.ireturn, 1) := by decide +kernel
theorem D_O_read_0 : decode m_O_read.2.1 0 = .ok (.aload_n 0, 1) := by decide +kernel
theorem D_O_read_1 : decode m_O_read.2.1 1 = .ok (.getfield 43, 3) := by decide +kernel
theorem D_O_read_4 : decode m_O_read.2.1 4 = .ok (.invokevirtual 113, 3) := by decide +kernel
theorem D_O_read_7 : decode m_O_read.2.1 7 = .ok (.bipush (-6), 2) := by decide +kernel
theorem D_O_read_9 : decode m_O_read.2.1 9 = .ok (.if_icmp .eq 6, 3) := by decide +kernel
theorem D_O_read_12 : decode m_O_read.2.1 12 = .ok (.bipush (-3), 2) := by decide +kernel
theorem D_O_read_14 : decode m_O_read.2.1 14 = .ok (.ireturn, 1) := by decide +kernel
theorem D_O_read_15 : decode m_O_read.2.1 15 = .ok (.aload_n 0, 1) := by decide +kernel
theorem D_O_read_16 : decode m_O_read.2.1 16 = .ok (.getfield 43, 3) := by decide +kernel
theorem D_O_read_19 : decode m_O_read.2.1 19 = .ok (.invokevirtual 116, 3) := by decide +kernel
theorem D_O_read_22 : decode m_O_read.2.1 22 = .ok (.aload_n 0, 1) := by decide +kernel
theorem D_O_read_23 : decode m_O_read.2.1 23 = .ok (.getfield 10, 3) := by decide +kernel
theorem D_O_read_26 : decode m_O_read.2.1 26 = .ok (.invokevirtual 119, 3) := by decide +kernel
theorem D_O_read_29 : decode m_O_read.2.1 29 = .ok (.if_icmp .lt 6, 3) := by decide +kernel
theorem D_O_read_32 : decode m_O_read.2.1 32 = .ok (.bipush (-2), 2) := by decide +kernel
theorem D_O_read_34 : decode m_O_read.2.1 34 = .ok (.ireturn, 1) := by decide +kernel
theorem D_O_read_35 : decode m_O_read.2.1 35 = .ok (.aload_n 0, 1) := by decide +kernel
theorem D_O_read_36 : decode m_O_read.2.1 36 = .ok (.getfield 50, 3) := by decide +kernel
theorem D_O_read_39 : decode m_O_read.2.1 39 = .ok (.aload_n 0, 1) := by decide +kernel
theorem D_O_read_40 : decode m_O_read.2.1 40 = .ok (.getfield 10, 3) := by decide +kernel
theorem D_O_read_43 : decode m_O_read.2.1 43 = .ok (.invokevirtual 73, 3) := by decide +kernel
theorem D_O_read_46 : decode m_O_read.2.1 46 = .ok (.aload_n 0, 1) := by decide +kernel
theorem D_O_read_47 : decode m_O_read.2.1 47 = .ok (.getfield 10, 3) := by decide +kernel
theorem D_O_read_50 : decode m_O_read.2.1 50 = .ok (.aload_n 0, 1) := by decide +kernel
theorem D_O_read_51 : decode m_O_read.2.1 51 = .ok (.getfield 43, 3) := by decide +kernel
theorem D_O_read_54 : decode m_O_read.2.1 54 = .ok (.invokevirtual 122, 3) := by decide +kernel
theorem D_O_read_57 : decode m_O_read.2.1 57 = .ok (.aload_n 0, 1) := by decide +kernel
theorem D_O_read_58 : decode m_O_read.2.1 58 = .ok (.getfield 43, 3) := by decide +kernel
theorem D_O_read_61 : decode m_O_read.2.1 61 = .ok (.invokevirtual 123, 3) := by decide +kernel
theorem D_O_read_64 : decode m_O_read.2.1 64 = .ok (.aload_n 0, 1) := by decide +kernel
theorem D_O_read_65 : decode m_O_read.2.1 65 = .ok (.getfield 10, 3) := by decide +kernel
theorem D_O_read_68 : decode m_O_read.2.1 68 = .ok (.invokevirtual 119, 3) := by decide +kernel
theorem D_O_read_71 : decode m_O_read.2.1 71 = .ok (.invokevirtual 77, 3) := by decide +kernel
theorem D_O_read_74 : decode m_O_read.2.1 74 = .ok (.iconst 0, 1) := by decide +kernel
theorem D_O_read_75 : decode m_O_read.2.1 75 = .ok (.istore_n 1, 1) := by decide +kernel
theorem D_O_read_76 : decode m_O_read.2.1 76 = .ok (.iload_n 1, 1) := by decide +kernel
theorem D_O_read_77 : decode m_O_read.2.1 77 = .ok (.aload_n 0, 1) := by decide +kernel
theorem D_O_read_78 : decode m_O_read.2.1 78 = .ok (.getfield 10, 3) := by decide +kernel
theorem D_O_read_81 : decode m_O_read.2.1 81 = .ok (.invokevirtual 99, 3) := by decide +kernel
theorem D_O_read_84 : decode m_O_read.2.1 84 = .ok (.if_icmp .ge 46, 3) := by decide +kernel
theorem D_O_read_87 : decode m_O_read.2.1 87 = .ok (.iconst 0, 1) := by decide +kernel
theorem D_O_read_88 : decode m_O_read.2.1 88 = .ok (.istore_n 2, 1) := by decide +kernel
theorem D_O_read_89 : decode m_O_read.2.1 89 = .ok (.iload_n 2, 1) := by decide +kernel
theorem D_O_read_90 : decode m_O_read.2.1 90 = .ok (.aload_n 0, 1) := by decide +kernel
theorem D_O_read_91 : decode m_O_read.2.1 91 = .ok (.getfield 10, 3) := by decide +kernel
theorem D_O_read_94 : decode m_O_read.2.1 94 = .ok (.invokevirtual 102, 3) := by decide +kernel
theorem D_O_read_97 : decode m_O_read.2.1 97 = .ok (.if_icmp .ge 27, 3) := by decide +kernel
theorem D_O_read_100 : decode m_O_read.2.1 100 = .ok (.aload_n 0, 1) := by decide +kernel
theorem D_O_read_101 : decode m_O_read.2.1 101 = .ok (.getfield 10, 3) := by decide +kernel
theorem D_O_read_104 : decode m_O_read.2.1 104 = .ok (.iload_n 1, 1) := by decide +kernel
theorem D_O_read_105 : decode m_O_read.2.1 105 = .ok (.iload_n 2, 1) := by decide +kernel
theorem D_O_read_106 : decode m_O_read.2.1 106 = .ok (.aload_n 0, 1) := by decide +kernel
theorem D_O_read_107 : decode m_O_read.2.1 107 = .ok (.getfield 43, 3) := by decide +kernel
theorem D_O_read_110 : decode m_O_read.2.1 110 = .ok (.iload_n 1, 1) := by decide +kernel
theorem D_O_read_111 : decode m_O_read.2.1 111 = .ok (.iload_n 2, 1) := by decide +kernel
theorem D_O_read_112 : decode m_O_read.2.1 112 = .ok (.invokevirtual 124, 3) := by decide +kernel
theorem D_O_read_115 : decode m_O_read.2.1 115 = .ok (.invokevirtual 89, 3) := by decide +kernel
theorem D_O_read_118 : decode m_O_read.2.1 118 = .ok (.iinc 2 1, 3) := by decide +kernel
theorem D_O_read_121 : decode m_O_read.2.1 121 = .ok (.goto (-32), 3) := by decide +kernel
theorem D_O_read_124 : decode m_O_read.2.1 124 = .ok (.iinc 1 1, 3) := by decide +kernel
theorem D_O_read_127 : decode m_O_read.2.1 127 = .ok (.goto (-51), 3) := by decide +kernel
theorem D_O_read_130 : decode m_O_read.2.1 130 = .ok (.aload_n 0, 1) := by decide +kernel
theorem D_O_read_131 : decode m_O_read.2.1 131 = .ok (.getfield 43, 3) := by decide +kernel
theorem D_O_read_134 : decode m_O_read.2.1 134 = .ok (.invokevirtual 125, 3) := by decide +kernel
theorem D_O_read_137 : decode m_O_read.2.1 137 = .ok (.aload_n 0, 1) := by decide +kernel
theorem D_O_read_138 : decode m_O_read.2.1 138 = .ok (.getfield 10, 3) := by decide +kernel
theorem D_O_read_141 : decode m_O_read.2.1 141 = .ok (.invokevirtual 69, 3) := by decide +kernel
theorem D_O_read_144 : decode m_O_read.2.1 144 = .ok (.ireturn, 1) := by decide +kernel
theorem D_O_entry_0 : decode m_O_entry.2.1 0 = .ok (.aload_n 0, 1) := by decide +kernel
theorem D_O_entry_1 : decode m_O_entry.2.1 1 = .ok (.getfield 10, 3) := by decide +kernel
theorem D_O_entry_4 : decode m_O_entry.2.1 4 = .ok (.iload_n 1, 1) := by decide +kernel
theorem D_O_entry_5 : decode m_O_entry.2.1 5 = .ok (.iload_n 2, 1) := by decide +kernel
theorem D_O_entry_6 : decode m_O_entry.2.1 6 = .ok (.invokevirtual 128, 3) := by decide +kernel
theorem D_O_entry_9 : decode m_O_entry.2.1 9 = .ok (.ifCond .ne 5, 3) := by decide +kernel
theorem D_O_entry_12 : decode m_O_entry.2.1 12 = .ok (.iconst (-1), 1) := by decide +kernel
theorem D_O_entry_13 : decode m_O_entry.2.1 13 = .ok (.ireturn, 1) := by decide +kernel
theorem D_O_entry_14 : decode m_O_entry.2.1 14 = .ok (.iload_n 3, 1) := by decide +kernel
theorem D_O_entry_15 : decode m_O_entry.2.1 15 = .ok (.tableswitch 124 0 3 #[29, 39, 64, 110], 29) := by decide +kernel
theorem D_O_entry_44 : decode m_O_entry.2.1 44 = .ok (.aload_n 0, 1) := by decide +kernel
theorem D_O_entry_45 : decode m_O_entry.2.1 45 = .ok (.getfield 10, 3) := by decide +kernel
theorem D_O_entry_48 : decode m_O_entry.2.1 48 = .ok (.iload_n 1, 1) := by decide +kernel
theorem D_O_entry_49 : decode m_O_entry.2.1 49 = .ok (.iload_n 2, 1) := by decide +kernel
theorem D_O_entry_50 : decode m_O_entry.2.1 50 = .ok (.invokevirtual 85, 3) := by decide +kernel
theorem D_O_entry_53 : decode m_O_entry.2.1 53 = .ok (.ireturn, 1) := by decide +kernel
theorem D_O_entry_54 : decode m_O_entry.2.1 54 = .ok (.aload_n 0, 1) := by decide +kernel
theorem D_O_entry_55 : decode m_O_entry.2.1 55 = .ok (.getfield 22, 3) := by decide +kernel
theorem D_O_entry_58 : decode m_O_entry.2.1 58 = .ok (.aload_n 0, 1) := by decide +kernel
theorem D_O_entry_59 : decode m_O_entry.2.1 59 = .ok (.getfield 10, 3) := by decide +kernel
theorem D_O_entry_62 : decode m_O_entry.2.1 62 = .ok (.invokevirtual 92, 3) := by decide +kernel
theorem D_O_entry_65 : decode m_O_entry.2.1 65 = .ok (.aload_n 0, 1) := by decide +kernel
theorem D_O_entry_66 : decode m_O_entry.2.1 66 = .ok (.getfield 22, 3) := by decide +kernel
theorem D_O_entry_69 : decode m_O_entry.2.1 69 = .ok (.aload_n 0, 1) := by decide +kernel
theorem D_O_entry_70 : decode m_O_entry.2.1 70 = .ok (.getfield 10, 3) := by decide +kernel
theorem D_O_entry_73 : decode m_O_entry.2.1 73 = .ok (.iload_n 1, 1) := by decide +kernel
theorem D_O_entry_74 : decode m_O_entry.2.1 74 = .ok (.iload_n 2, 1) := by decide +kernel
theorem D_O_entry_75 : decode m_O_entry.2.1 75 = .ok (.invokevirtual 131, 3) := by decide +kernel
theorem D_O_entry_78 : decode m_O_entry.2.1 78 = .ok (.ireturn, 1) := by decide +kernel
theorem D_O_entry_79 : decode m_O_entry.2.1 79 = .ok (.aload_n 0, 1) := by decide +kernel
theorem D_O_entry_80 : decode m_O_entry.2.1 80 = .ok (.getfield 16, 3) := by decide +kernel
theorem D_O_entry_83 : decode m_O_entry.2.1 83 = .ok (.aload_n 0, 1) := by decide +kernel
theorem D_O_entry_84 : decode m_O_entry.2.1 84 = .ok (.getfield 10, 3) := by decide +kernel
theorem D_O_entry_87 : decode m_O_entry.2.1 87 = .ok (.invokevirtual 134, 3) := by decide +kernel
theorem D_O_entry_90 : decode m_O_entry.2.1 90 = .ok (.aload_n 0, 1) := by decide +kernel
theorem D_O_entry_91 : decode m_O_entry.2.1 91 = .ok (.getfield 16, 3) := by decide +kernel
theorem D_O_entry_94 : decode m_O_entry.2.1 94 = .ok (.iload_n 1, 1) := by decide +kernel
theorem D_O_entry_95 : decode m_O_entry.2.1 95 = .ok (.iload_n 2, 1) := by decide +kernel
theorem D_O_entry_96 : decode m_O_entry.2.1 96 = .ok (.iconst 0, 1) := by decide +kernel
theorem D_O_entry_97 : decode m_O_entry.2.1 97 = .ok (.invokevirtual 89, 3) := by decide +kernel
theorem D_O_entry_100 : decode m_O_entry.2.1 100 = .ok (.aload_n 0, 1) := by decide +kernel
theorem D_O_entry_101 : decode m_O_entry.2.1 101 = .ok (.getfield 22, 3) := by decide +kernel
theorem D_O_entry_104 : decode m_O_entry.2.1 104 = .ok (.aload_n 0, 1) := by decide +kernel
theorem D_O_entry_105 : decode m_O_entry.2.1 105 = .ok (.getfield 16, 3) := by decide +kernel
theorem D_O_entry_108 : decode m_O_entry.2.1 108 = .ok (.invokevirtual 92, 3) := by decide +kernel
theorem D_O_entry_111 : decode m_O_entry.2.1 111 = .ok (.aload_n 0, 1) := by decide +kernel
theorem D_O_entry_112 : decode m_O_entry.2.1 112 = .ok (.getfield 22, 3) := by decide +kernel
theorem D_O_entry_115 : decode m_O_entry.2.1 115 = .ok (.aload_n 0, 1) := by decide +kernel
theorem D_O_entry_116 : decode m_O_entry.2.1 116 = .ok (.getfield 16, 3) := by decide +kernel
theorem D_O_entry_119 : decode m_O_entry.2.1 119 = .ok (.iload_n 1, 1) := by decide +kernel
theorem D_O_entry_120 : decode m_O_entry.2.1 120 = .ok (.iload_n 2, 1) := by decide +kernel
theorem D_O_entry_121 : decode m_O_entry.2.1 121 = .ok (.invokevirtual 131, 3) := by decide +kernel
theorem D_O_entry_124 : decode m_O_entry.2.1 124 = .ok (.ireturn, 1) := by decide +kernel
theorem D_O_entry_125 : decode m_O_entry.2.1 125 = .ok (.aload_n 0, 1) := by decide +kernel
theorem D_O_entry_126 : decode m_O_entry.2.1 126 = .ok (.getfield 36, 3) := by decide +kernel
theorem D_O_entry_129 : decode m_O_entry.2.1 129 = .ok (.aload_n 0, 1) := by decide +kernel
theorem D_O_entry_130 : decode m_O_entry.2.1 130 = .ok (.getfield 10, 3) := by decide +kernel
theorem D_O_entry_133 : decode m_O_entry.2.1 133 = .ok (.iload_n 1, 1) := by decide +kernel
theorem D_O_entry_134 : decode m_O_entry.2.1 134 = .ok (.iload_n 2, 1) := by decide +kernel
theorem D_O_entry_135 : decode m_O_entry.2.1 135 = .ok (.invokevirtual 137, 3) := by decide +kernel
theorem D_O_entry_138 : decode m_O_entry.2.1 138 = .ok (.ireturn, 1) := by decide +kernel
theorem D_O_entry_139 : decode m_O_entry.2.1 139 = .ok (.bipush (-2), 2) := by decide +kernel
theorem D_O_entry_141 : decode m_O_entry.2.1 141 = .ok (.ireturn, 1) := by decide +kernel
theorem D_O_part_0 : decode m_O_part.2.1 0 = .ok (.aload_n 0, 1) := by decide +kernel
theorem D_O_part_1 : decode m_O_part.2.1 1 = .ok (.getfield 22, 3) := by decide +kernel
theorem D_O_part_4 : decode m_O_part.2.1 4 = .ok (.aload_n 0, 1) := by decide +kernel
theorem D_O_part_5 : decode m_O_part.2.1 5 = .ok (.getfield 10, 3) := by decide +kernel
theorem D_O_part_8 : decode m_O_part.2.1 8 = .ok (.invokevirtual 92, 3) := by decide +kernel
theorem D_O_part_11 : decode m_O_part.2.1 11 = .ok (.iload_n 1, 1) := by decide +kernel
theorem D_O_part_12 : decode m_O_part.2.1 12 = .ok (.iconst 0, 1) := by decide +kernel
theorem D_O_part_13 : decode m_O_part.2.1 13 = .ok (.aload_n 0, 1) := by decide +kernel
theorem D_O_part_14 : decode m_O_part.2.1 14 = .ok (.getfield 22, 3) := by decide +kernel
theorem D_O_part_17 : decode m_O_part.2.1 17 = .ok (.invokevirtual 140, 3) := by decide +kernel
theorem D_O_part_20 : decode m_O_part.2.1 20 = .ok (.iconst 1, 1) := by decide +kernel
theorem D_O_part_21 : decode m_O_part.2.1 21 = .ok (.isub, 1) := by decide +kernel
theorem D_O_part_22 : decode m_O_part.2.1 22 = .ok (.invokestatic 61, 3) := by decide +kernel
theorem D_O_part_25 : decode m_O_part.2.1 25 = .ok (.ifCond .eq 5, 3) := by decide +kernel
theorem D_O_part_28 : decode m_O_part.2.1 28 = .ok (.iconst (-1), 1) := by decide +kernel
theorem D_O_part_29 : decode m_O_part.2.1 29 = .ok (.ireturn, 1) := by decide +kernel
theorem D_O_part_30 : decode m_O_part.2.1 30 = .ok (.iload_n 2, 1) := by decide +kernel
theorem D_O_part_31 : decode m_O_part.2.1 31 = .ok (.tableswitch 56 0 2 #[25, 34, 43], 25) := by decide +kernel
theorem D_O_part_56 : decode m_O_part.2.1 56 = .ok (.aload_n 0, 1) := by decide +kernel
theorem D_O_part_57 : decode m_O_part.2.1 57 = .ok (.getfield 22, 3) := by decide +kernel
theorem D_O_part_60 : decode m_O_part.2.1 60 = .ok (.iload_n 1, 1) := by decide +kernel
theorem D_O_part_61 : decode m_O_part.2.1 61 = .ok (.invokevirtual 143, 3) := by decide +kernel
theorem D_O_part_64 : decode m_O_part.2.1 64 = .ok (.ireturn, 1) := by decide +kernel
theorem D_O_part_65 : decode m_O_part.2.1 65 = .ok (.aload_n 0, 1) := by decide +kernel
theorem D_O_part_66 : decode m_O_part.2.1 66 = .ok (.getfield 22, 3) := by decide +kernel
theorem D_O_part_69 : decode m_O_part.2.1 69 = .ok (.iload_n 1, 1) := by decide +kernel
theorem D_O_part_70 : decode m_O_part.2.1 70 = .ok (.invokevirtual 147, 3) := by decide +kernel
theorem D_O_part_73 : decode m_O_part.2.1 73 = .ok (.ireturn, 1) := by decide +kernel
theorem D_O_part_74 : decode m_O_part.2.1 74 = .ok (.aload_n 0, 1) := by decide +kernel
theorem D_O_part_75 : decode m_O_part.2.1 75 = .ok (.getfield 22, 3) := by decide +kernel
theorem D_O_part_78 : decode m_O_part.2.1 78 = .ok (.aload_n 0, 1) := by decide +kernel
theorem D_O_part_79 : decode m_O_part.2.1 79 = .ok (.getfield 10, 3) := by decide +kernel
theorem D_O_part_82 : decode m_O_part.2.1 82 = .ok (.iload_n 1, 1) := by decide +kernel
theorem D_O_part_83 : decode m_O_part.2.1 83 = .ok (.invokevirtual 150, 3) := by decide +kernel
theorem D_O_part_86 : decode m_O_part.2.1 86 = .ok (.ireturn, 1) := by decide +kernel
theorem D_O_part_87 : decode m_O_part.2.1 87 = .ok (.bipush (-2), 2) := by decide +kernel
theorem D_O_part_89 : decode m_O_part.2.1 89 = .ok (.ireturn, 1) := by decide +kernel
theorem D_O_count_0 : decode m_O_count.2.1 0 = .ok (.iload_n 1, 1) := by decide +kernel
theorem D_O_count_1 : decode m_O_count.2.1 1 = .ok (.tableswitch 155 0 11 #[63, 71, 79, 87, 95, 95, 95, 101, 114, 127, 139, 147], 63) := by decide +kernel
theorem D_O_count_64 : decode m_O_count.2.1 64 = .ok (.aload_n 0, 1) := by decide +kernel
theorem D_O_count_65 : decode m_O_count.2.1 65 = .ok (.getfield 10, 3) := by decide +kernel
theorem D_O_count_68 : decode m_O_count.2.1 68 = .ok (.invokevirtual 99, 3) := by decide +kernel
theorem D_O_count_71 : decode m_O_count.2.1 71 = .ok (.ireturn, 1) := by decide +kernel
theorem D_O_count_72 : decode m_O_count.2.1 72 = .ok (.aload_n 0, 1) := by decide +kernel
theorem D_O_count_73 : decode m_O_count.2.1 73 = .ok (.getfield 10, 3) := by decide +kernel
theorem D_O_count_76 : decode m_O_count.2.1 76 = .ok (.invokevirtual 102, 3) := by decide +kernel
theorem D_O_count_79 : decode m_O_count.2.1 79 = .ok (.ireturn, 1) := by decide +kernel
theorem D_O_count_80 : decode m_O_count.2.1 80 = .ok (.aload_n 0, 1) := by decide +kernel
theorem D_O_count_81 : decode m_O_count.2.1 81 = .ok (.getfield 10, 3) := by decide +kernel
theorem D_O_count_84 : decode m_O_count.2.1 84 = .ok (.invokevirtual 119, 3) := by decide +kernel
theorem D_O_count_87 : decode m_O_count.2.1 87 = .ok (.ireturn, 1) := by decide +kernel
theorem D_O_count_88 : decode m_O_count.2.1 88 = .ok (.aload_n 0, 1) := by decide +kernel
theorem D_O_count_89 : decode m_O_count.2.1 89 = .ok (.getfield 10, 3) := by decide +kernel
theorem D_O_count_92 : decode m_O_count.2.1 92 = .ok (.invokevirtual 69, 3) := by decide +kernel
theorem D_O_count_95 : decode m_O_count.2.1 95 = .ok (.ireturn, 1) := by decide +kernel
theorem D_O_count_96 : decode m_O_count.2.1 96 = .ok (.aload_n 0, 1) := by decide +kernel
theorem D_O_count_97 : decode m_O_count.2.1 97 = .ok (.iload_n 1, 1) := by decide +kernel
theorem D_O_count_98 : decode m_O_count.2.1 98 = .ok (.invokevirtual 154, 3) := by decide +kernel
theorem D_O_count_101 : decode m_O_count.2.1 101 = .ok (.ireturn, 1) := by decide +kernel
theorem D_O_count_102 : decode m_O_count.2.1 102 = .ok (.aload_n 0, 1) := by decide +kernel
theorem D_O_count_103 : decode m_O_count.2.1 103 = .ok (.getfield 36, 3) := by decide +kernel
theorem D_O_count_106 : decode m_O_count.2.1 106 = .ok (.aload_n 0, 1) := by decide +kernel
theorem D_O_count_107 : decode m_O_count.2.1 107 = .ok (.getfield 10, 3) := by decide +kernel
theorem D_O_count_110 : decode m_O_count.2.1 110 = .ok (.iconst 0, 1) := by decide +kernel
theorem D_O_count_111 : decode m_O_count.2.1 111 = .ok (.invokevirtual 157, 3) := by decide +kernel
theorem D_O_count_114 : decode m_O_count.2.1 114 = .ok (.ireturn, 1) := by decide +kernel
theorem D_O_count_115 : decode m_O_count.2.1 115 = .ok (.aload_n 0, 1) := by decide +kernel
theorem D_O_count_116 : decode m_O_count.2.1 116 = .ok (.getfield 36, 3) := by decide +kernel
theorem D_O_count_119 : decode m_O_count.2.1 119 = .ok (.aload_n 0, 1) := by decide +kernel
theorem D_O_count_120 : decode m_O_count.2.1 120 = .ok (.getfield 10, 3) := by decide +kernel
theorem D_O_count_123 : decode m_O_count.2.1 123 = .ok (.iconst 1, 1) := by decide +kernel
theorem D_O_count_124 : decode m_O_count.2.1 124 = .ok (.invokevirtual 157, 3) := by decide +kernel
theorem D_O_count_127 : decode m_O_count.2.1 127 = .ok (.ireturn, 1) := by decide +kernel
theorem D_O_count_128 : decode m_O_count.2.1 128 = .ok (.aload_n 0, 1) := by decide +kernel
theorem D_O_count_129 : decode m_O_count.2.1 129 = .ok (.getfield 36, 3) := by decide +kernel
theorem D_O_count_132 : decode m_O_count.2.1 132 = .ok (.aload_n 0, 1) := by decide +kernel
theorem D_O_count_133 : decode m_O_count.2.1 133 = .ok (.getfield 10, 3) := by decide +kernel
theorem D_O_count_136 : decode m_O_count.2.1 136 = .ok (.invokevirtual 161, 3) := by decide +kernel
theorem D_O_count_139 : decode m_O_count.2.1 139 = .ok (.ireturn, 1) := by decide +kernel
theorem D_O_count_140 : decode m_O_count.2.1 140 = .ok (.aload_n 0, 1) := by decide +kernel
theorem D_O_count_141 : decode m_O_count.2.1 141 = .ok (.getfield 43, 3) := by decide +kernel
theorem D_O_count_144 : decode m_O_count.2.1 144 = .ok (.invokevirtual 165, 3) := by decide +kernel
theorem D_O_count_147 : decode m_O_count.2.1 147 = .ok (.ireturn, 1) := by decide +kernel
theorem D_O_count_148 : decode m_O_count.2.1 148 = .ok (.aload_n 0, 1) := by decide +kernel
theorem D_O_count_149 : decode m_O_count.2.1 149 = .ok (.getfield 50, 3) := by decide +kernel
theorem D_O_count_152 : decode m_O_count.2.1 152 = .ok (.invokevirtual 168, 3) := by decide +kernel
theorem D_O_count_155 : decode m_O_count.2.1 155 = .ok (.ireturn, 1) := by decide +kernel
theorem D_O_count_156 : decode m_O_count.2.1 156 = .ok (.bipush (-2), 2) := by decide +kernel
theorem D_O_count_158 : decode m_O_count.2.1 158 = .ok (.ireturn, 1) := by decide +kernel
theorem D_O_countOfParts_0 : decode m_O_countOfParts.2.1 0 = .ok (.aload_n 0, 1) := by decide +kernel
theorem D_O_countOfParts_1 : decode m_O_countOfParts.2.1 1 = .ok (.getfield 22, 3) := by decide +kernel
theorem D_O_countOfParts_4 : decode m_O_countOfParts.2.1 4 = .ok (.aload_n 0, 1) := by decide +kernel
theorem D_O_countOfParts_5 : decode m_O_countOfParts.2.1 5 = .ok (.getfield 10, 3) := by decide +kernel
theorem D_O_countOfParts_8 : decode m_O_countOfParts.2.1 8 = .ok (.invokevirtual 92, 3) := by decide +kernel
theorem D_O_countOfParts_11 : decode m_O_countOfParts.2.1 11 = .ok (.iload_n 1, 1) := by decide +kernel
theorem D_O_countOfParts_12 : decode m_O_countOfParts.2.1 12 = .ok (.iconst 4, 1) := by decide +kernel
theorem D_O_countOfParts_13 : decode m_O_countOfParts.2.1 13 = .ok (.if_icmp .ne 11, 3) := by decide +kernel
theorem D_O_countOfParts_16 : decode m_O_countOfParts.2.1 16 = .ok (.aload_n 0, 1) := by decide +kernel
theorem D_O_countOfParts_17 : decode m_O_countOfParts.2.1 17 = .ok (.getfield 22, 3) := by decide +kernel
theorem D_O_countOfParts_20 : decode m_O_countOfParts.2.1 20 = .ok (.invokevirtual 140, 3) := by decide +kernel
theorem D_O_countOfParts_23 : decode m_O_countOfParts.2.1 23 = .ok (.ireturn, 1) := by decide +kernel
theorem D_O_countOfParts_24 : decode m_O_countOfParts.2.1 24 = .ok (.iload_n 1, 1) := by decide +kernel
theorem D_O_countOfParts_25 : decode m_O_countOfParts.2.1 25 = .ok (.iconst 5, 1) := by decide +kernel
theorem D_O_countOfParts_26 : decode m_O_countOfParts.2.1 26 = .ok (.if_icmp .ne 19, 3) := by decide +kernel
theorem D_O_countOfParts_29 : decode m_O_countOfParts.2.1 29 = .ok (.aload_n 0, 1) := by decide +kernel
theorem D_O_countOfParts_30 : decode m_O_countOfParts.2.1 30 = .ok (.getfield 22, 3) := by decide +kernel
theorem D_O_countOfParts_33 : decode m_O_countOfParts.2.1 33 = .ok (.invokevirtual 95, 3) := by decide +kernel
theorem D_O_countOfParts_36 : decode m_O_countOfParts.2.1 36 = .ok (.ifCond .eq 7, 3) := by decide +kernel
theorem D_O_countOfParts_39 : decode m_O_countOfParts.2.1 39 = .ok (.iconst 1, 1) := by decide +kernel
theorem D_O_countOfParts_40 : decode m_O_countOfParts.2.1 40 = .ok (.goto 4, 3) := by decide +kernel
theorem D_O_countOfParts_43 : decode m_O_countOfParts.2.1 43 = .ok (.iconst 0, 1) := by decide +kernel
theorem D_O_countOfParts_44 : decode m_O_countOfParts.2.1 44 = .ok (.ireturn, 1) := by decide +kernel
theorem D_O_countOfParts_45 : decode m_O_countOfParts.2.1 45 = .ok (.aload_n 0, 1) := by decide +kernel
theorem D_O_countOfParts_46 : decode m_O_countOfParts.2.1 46 = .ok (.getfield 22, 3) := by decide +kernel
theorem D_O_countOfParts_49 : decode m_O_countOfParts.2.1 49 = .ok (.invokevirtual 169, 3) := by decide +kernel
theorem D_O_countOfParts_52 : decode m_O_countOfParts.2.1 52 = .ok (.ireturn, 1) := by decide +kernel
theorem D_O_cycles_0 : decode m_O_cycles.2.1 0 = .ok (.iload_n 1, 1) := by decide +kernel
theorem D_O_cycles_1 : decode m_O_cycles.2.1 1 = .ok (.iconst 4, 1) := by decide +kernel
theorem D_O_cycles_2 : decode m_O_cycles.2.1 2 = .ok (.bipush 12, 2) := by decide +kernel
theorem D_O_cycles_4 : decode m_O_cycles.2.1 4 = .ok (.invokestatic 61, 3) := by decide +kernel
theorem D_O_cycles_7 : decode m_O_cycles.2.1 7 = .ok (.ifCond .ne 18, 3) := by decide +kernel
theorem D_O_cycles_10 : decode m_O_cycles.2.1 10 = .ok (.iload_n 1, 1) := by decide +kernel
theorem D_O_cycles_11 : decode m_O_cycles.2.1 11 = .ok (.iconst 1, 1) := by decide +kernel
theorem D_O_cycles_12 : decode m_O_cycles.2.1 12 = .ok (.iand, 1) := by decide +kernel
theorem D_O_cycles_13 : decode m_O_cycles.2.1 13 = .ok (.ifCond .ne 12, 3) := by decide +kernel
theorem D_O_cycles_16 : decode m_O_cycles.2.1 16 = .ok (.iload_n 2, 1) := by decide +kernel
theorem D_O_cycles_17 : decode m_O_cycles.2.1 17 = .ok (.iconst 0, 1) := by decide +kernel
theorem D_O_cycles_18 : decode m_O_cycles.2.1 18 = .ok (.iconst 1, 1) := by decide +kernel
theorem D_O_cycles_19 : decode m_O_cycles.2.1 19 = .ok (.invokestatic 61, 3) := by decide +kernel
theorem D_O_cycles_22 : decode m_O_cycles.2.1 22 = .ok (.ifCond .eq 6, 3) := by decide +kernel
theorem D_O_cycles_25 : decode m_O_cycles.2.1 25 = .ok (.bipush (-2), 2) := by decide +kernel
theorem D_O_cycles_27 : decode m_O_cycles.2.1 27 = .ok (.ireturn, 1) := by decide +kernel
theorem D_O_cycles_28 : decode m_O_cycles.2.1 28 = .ok (.aload_n 0, 1) := by decide +kernel
theorem D_O_cycles_29 : decode m_O_cycles.2.1 29 = .ok (.getfield 29, 3) := by decide +kernel
theorem D_O_cycles_32 : decode m_O_cycles.2.1 32 = .ok (.aload_n 0, 1) := by decide +kernel
theorem D_O_cycles_33 : decode m_O_cycles.2.1 33 = .ok (.getfield 10, 3) := by decide +kernel
theorem D_O_cycles_36 : decode m_O_cycles.2.1 36 = .ok (.iload_n 1, 1) := by decide +kernel
theorem D_O_cycles_37 : decode m_O_cycles.2.1 37 = .ok (.iconst 1, 1) := by decide +kernel
theorem D_O_cycles_38 : decode m_O_cycles.2.1 38 = .ok (.ishr, 1) := by decide +kernel
theorem D_O_cycles_39 : decode m_O_cycles.2.1 39 = .ok (.iload_n 2, 1) := by decide +kernel
theorem D_O_cycles_40 : decode m_O_cycles.2.1 40 = .ok (.iconst 1, 1) := by decide +kernel
theorem D_O_cycles_41 : decode m_O_cycles.2.1 41 = .ok (.if_icmp .ne 7, 3) := by decide +kernel
theorem D_O_cycles_44 : decode m_O_cycles.2.1 44 = .ok (.iconst 1, 1) := by decide +kernel
theorem D_O_cycles_45 : decode m_O_cycles.2.1 45 = .ok (.goto 4, 3) := by decide +kernel
theorem D_O_cycles_48 : decode m_O_cycles.2.1 48 = .ok (.iconst 0, 1) := by decide +kernel
theorem D_O_cycles_49 : decode m_O_cycles.2.1 49 = .ok (.invokevirtual 172, 3) := by decide +kernel
theorem D_O_cycles_52 : decode m_O_cycles.2.1 52 = .ok (.iload_n 2, 1) := by decide +kernel
theorem D_O_cycles_53 : decode m_O_cycles.2.1 53 = .ok (.ifCond .ne 13, 3) := by decide +kernel
theorem D_O_cycles_56 : decode m_O_cycles.2.1 56 = .ok (.aload_n 0, 1) := by decide +kernel
theorem D_O_cycles_57 : decode m_O_cycles.2.1 57 = .ok (.getfield 29, 3) := by decide +kernel
theorem D_O_cycles_60 : decode m_O_cycles.2.1 60 = .ok (.invokevirtual 176, 3) := by decide +kernel
theorem D_O_cycles_63 : decode m_O_cycles.2.1 63 = .ok (.goto 10, 3) := by decide +kernel
theorem D_O_cycles_66 : decode m_O_cycles.2.1 66 = .ok (.aload_n 0, 1) := by decide +kernel
theorem D_O_cycles_67 : decode m_O_cycles.2.1 67 = .ok (.getfield 29, 3) := by decide +kernel
theorem D_O_cycles_70 : decode m_O_cycles.2.1 70 = .ok (.invokevirtual 179, 3) := by decide +kernel
theorem D_O_cycles_73 : decode m_O_cycles.2.1 73 = .ok (.ireturn, 1) := by decide +kernel
theorem D_O_wrong_0 : decode m_O_wrong.2.1 0 = .ok (.iload_n 1, 1) := by decide +kernel
theorem D_O_wrong_1 : decode m_O_wrong.2.1 1 = .ok (.iconst 0, 1) := by decide +kernel
theorem D_O_wrong_2 : decode m_O_wrong.2.1 2 = .ok (.iconst 2, 1) := by decide +kernel
theorem D_O_wrong_3 : decode m_O_wrong.2.1 3 = .ok (.invokestatic 61, 3) := by decide +kernel
theorem D_O_wrong_6 : decode m_O_wrong.2.1 6 = .ok (.ifCond .eq 6, 3) := by decide +kernel
theorem D_O_wrong_9 : decode m_O_wrong.2.1 9 = .ok (.bipush (-2), 2) := by decide +kernel
theorem D_O_wrong_11 : decode m_O_wrong.2.1 11 = .ok (.ireturn, 1) := by decide +kernel
theorem D_O_wrong_12 : decode m_O_wrong.2.1 12 = .ok (.aload_n 0, 1) := by decide +kernel
theorem D_O_wrong_13 : decode m_O_wrong.2.1 13 = .ok (.invokevirtual 182, 3) := by decide +kernel
theorem D_O_wrong_16 : decode m_O_wrong.2.1 16 = .ok (.istore_n 2, 1) := by decide +kernel
theorem D_O_wrong_17 : decode m_O_wrong.2.1 17 = .ok (.iload_n 2, 1) := by decide +kernel
theorem D_O_wrong_18 : decode m_O_wrong.2.1 18 = .ok (.ifCond .ne 6, 3) := by decide +kernel
theorem D_O_wrong_21 : decode m_O_wrong.2.1 21 = .ok (.bipush (-6), 2) := by decide +kernel
theorem D_O_wrong_23 : decode m_O_wrong.2.1 23 = .ok (.ireturn, 1) := by decide +kernel
theorem D_O_wrong_24 : decode m_O_wrong.2.1 24 = .ok (.iload_n 1, 1) := by decide +kernel
theorem D_O_wrong_25 : decode m_O_wrong.2.1 25 = .ok (.ifCond .ne 7, 3) := by decide +kernel
theorem D_O_wrong_28 : decode m_O_wrong.2.1 28 = .ok (.iconst 2, 1) := by decide +kernel
theorem D_O_wrong_29 : decode m_O_wrong.2.1 29 = .ok (.iload_n 2, 1) := by decide +kernel
theorem D_O_wrong_30 : decode m_O_wrong.2.1 30 = .ok (.imul, 1) := by decide +kernel
theorem D_O_wrong_31 : decode m_O_wrong.2.1 31 = .ok (.ireturn, 1) := by decide +kernel
theorem D_O_wrong_32 : decode m_O_wrong.2.1 32 = .ok (.iload_n 1, 1) := by decide +kernel
theorem D_O_wrong_33 : decode m_O_wrong.2.1 33 = .ok (.iconst 1, 1) := by decide +kernel
theorem D_O_wrong_34 : decode m_O_wrong.2.1 34 = .ok (.if_icmp .ne 13, 3) := by decide +kernel
theorem D_O_wrong_37 : decode m_O_wrong.2.1 37 = .ok (.aload_n 0, 1) := by decide +kernel
theorem D_O_wrong_38 : decode m_O_wrong.2.1 38 = .ok (.getfield 29, 3) := by decide +kernel
theorem D_O_wrong_41 : decode m_O_wrong.2.1 41 = .ok (.invokevirtual 185, 3) := by decide +kernel
theorem D_O_wrong_44 : decode m_O_wrong.2.1 44 = .ok (.goto 10, 3) := by decide +kernel
theorem D_O_wrong_47 : decode m_O_wrong.2.1 47 = .ok (.aload_n 0, 1) := by decide +kernel
theorem D_O_wrong_48 : decode m_O_wrong.2.1 48 = .ok (.getfield 29, 3) := by decide +kernel
theorem D_O_wrong_51 : decode m_O_wrong.2.1 51 = .ok (.invokevirtual 188, 3) := by decide +kernel
theorem D_O_wrong_54 : decode m_O_wrong.2.1 54 = .ok (.ireturn, 1) := by decide +kernel
theorem D_O_shortestWrongTurns_0 : decode m_O_shortestWrongTurns.2.1 0 = .ok (.aload_n 0, 1) := by decide +kernel
theorem D_O_shortestWrongTurns_1 : decode m_O_shortestWrongTurns.2.1 1 = .ok (.getfield 22, 3) := by decide +kernel
theorem D_O_shortestWrongTurns_4 : decode m_O_shortestWrongTurns.2.1 4 = .ok (.aload_n 0, 1) := by decide +kernel
theorem D_O_shortestWrongTurns_5 : decode m_O_shortestWrongTurns.2.1 5 = .ok (.getfield 10, 3) := by decide +kernel
theorem D_O_shortestWrongTurns_8 : decode m_O_shortestWrongTurns.2.1 8 = .ok (.invokevirtual 92, 3) := by decide +kernel
theorem D_O_shortestWrongTurns_11 : decode m_O_shortestWrongTurns.2.1 11 = .ok (.aload_n 0, 1) := by decide +kernel
theorem D_O_shortestWrongTurns_12 : decode m_O_shortestWrongTurns.2.1 12 = .ok (.getfield 22, 3) := by decide +kernel
theorem D_O_shortestWrongTurns_15 : decode m_O_shortestWrongTurns.2.1 15 = .ok (.invokevirtual 95, 3) := by decide +kernel
theorem D_O_shortestWrongTurns_18 : decode m_O_shortestWrongTurns.2.1 18 = .ok (.ifCond .eq 5, 3) := by decide +kernel
theorem D_O_shortestWrongTurns_21 : decode m_O_shortestWrongTurns.2.1 21 = .ok (.iconst 0, 1) := by decide +kernel
theorem D_O_shortestWrongTurns_22 : decode m_O_shortestWrongTurns.2.1 22 = .ok (.ireturn, 1) := by decide +kernel
theorem D_O_shortestWrongTurns_23 : decode m_O_shortestWrongTurns.2.1 23 = .ok (.iconst 2, 1) := by decide +kernel
theorem D_O_shortestWrongTurns_24 : decode m_O_shortestWrongTurns.2.1 24 = .ok (.istore_n 1, 1) := by decide +kernel
theorem D_O_shortestWrongTurns_25 : decode m_O_shortestWrongTurns.2.1 25 = .ok (.iload_n 1, 1) := by decide +kernel
theorem D_O_shortestWrongTurns_26 : decode m_O_shortestWrongTurns.2.1 26 = .ok (.bipush 6, 2) := by decide +kernel
theorem D_O_shortestWrongTurns_28 : decode m_O_shortestWrongTurns.2.1 28 = .ok (.if_icmp .gt 34, 3) := by decide +kernel
theorem D_O_shortestWrongTurns_31 : decode m_O_shortestWrongTurns.2.1 31 = .ok (.aload_n 0, 1) := by decide +kernel
theorem D_O_shortestWrongTurns_32 : decode m_O_shortestWrongTurns.2.1 32 = .ok (.getfield 29, 3) := by decide +kernel
theorem D_O_shortestWrongTurns_35 : decode m_O_shortestWrongTurns.2.1 35 = .ok (.aload_n 0, 1) := by decide +kernel
theorem D_O_shortestWrongTurns_36 : decode m_O_shortestWrongTurns.2.1 36 = .ok (.getfield 10, 3) := by decide +kernel
theorem D_O_shortestWrongTurns_39 : decode m_O_shortestWrongTurns.2.1 39 = .ok (.iload_n 1, 1) := by decide +kernel
theorem D_O_shortestWrongTurns_40 : decode m_O_shortestWrongTurns.2.1 40 = .ok (.iconst 1, 1) := by decide +kernel
theorem D_O_shortestWrongTurns_41 : decode m_O_shortestWrongTurns.2.1 41 = .ok (.invokevirtual 172, 3) := by decide +kernel
theorem D_O_shortestWrongTurns_44 : decode m_O_shortestWrongTurns.2.1 44 = .ok (.aload_n 0, 1) := by decide +kernel
theorem D_O_shortestWrongTurns_45 : decode m_O_shortestWrongTurns.2.1 45 = .ok (.getfield 29, 3) := by decide +kernel
theorem D_O_shortestWrongTurns_48 : decode m_O_shortestWrongTurns.2.1 48 = .ok (.invokevirtual 179, 3) := by decide +kernel
theorem D_O_shortestWrongTurns_51 : decode m_O_shortestWrongTurns.2.1 51 = .ok (.ifCond .le 5, 3) := by decide +kernel
theorem D_O_shortestWrongTurns_54 : decode m_O_shortestWrongTurns.2.1 54 = .ok (.iload_n 1, 1) := by decide +kernel
theorem D_O_shortestWrongTurns_55 : decode m_O_shortestWrongTurns.2.1 55 = .ok (.ireturn, 1) := by decide +kernel
theorem D_O_shortestWrongTurns_56 : decode m_O_shortestWrongTurns.2.1 56 = .ok (.iinc 1 1, 3) := by decide +kernel
theorem D_O_shortestWrongTurns_59 : decode m_O_shortestWrongTurns.2.1 59 = .ok (.goto (-34), 3) := by decide +kernel
theorem D_O_shortestWrongTurns_62 : decode m_O_shortestWrongTurns.2.1 62 = .ok (.iconst 0, 1) := by decide +kernel
theorem D_O_shortestWrongTurns_63 : decode m_O_shortestWrongTurns.2.1 63 = .ok (.ireturn, 1) := by decide +kernel
theorem D_O_completions_0 : decode m_O_completions.2.1 0 = .ok (.aload_n 0, 1) := by decide +kernel
theorem D_O_completions_1 : decode m_O_completions.2.1 1 = .ok (.getfield 22, 3) := by decide +kernel
theorem D_O_completions_4 : decode m_O_completions.2.1 4 = .ok (.aload_n 0, 1) := by decide +kernel
theorem D_O_completions_5 : decode m_O_completions.2.1 5 = .ok (.getfield 10, 3) := by decide +kernel
theorem D_O_completions_8 : decode m_O_completions.2.1 8 = .ok (.invokevirtual 92, 3) := by decide +kernel
theorem D_O_completions_11 : decode m_O_completions.2.1 11 = .ok (.aload_n 0, 1) := by decide +kernel
theorem D_O_completions_12 : decode m_O_completions.2.1 12 = .ok (.invokevirtual 191, 3) := by decide +kernel
theorem D_O_completions_15 : decode m_O_completions.2.1 15 = .ok (.lreturn, 1) := by decide +kernel
theorem D_O_completed_0 : decode m_O_completed.2.1 0 = .ok (.aload_n 0, 1) := by decide +kernel
theorem D_O_completed_1 : decode m_O_completed.2.1 1 = .ok (.getfield 22, 3) := by decide +kernel
theorem D_O_completed_4 : decode m_O_completed.2.1 4 = .ok (.aload_n 0, 1) := by decide +kernel
theorem D_O_completed_5 : decode m_O_completed.2.1 5 = .ok (.getfield 10, 3) := by decide +kernel
theorem D_O_completed_8 : decode m_O_completed.2.1 8 = .ok (.invokevirtual 92, 3) := by decide +kernel
theorem D_O_completed_11 : decode m_O_completed.2.1 11 = .ok (.lload_n 1, 1) := by decide +kernel
theorem D_O_completed_12 : decode m_O_completed.2.1 12 = .ok (.lconst 0, 1) := by decide +kernel
theorem D_O_completed_13 : decode m_O_completed.2.1 13 = .ok (.lcmp, 1) := by decide +kernel
theorem D_O_completed_14 : decode m_O_completed.2.1 14 = .ok (.ifCond .lt 25, 3) := by decide +kernel
theorem D_O_completed_17 : decode m_O_completed.2.1 17 = .ok (.lload_n 1, 1) := by decide +kernel
theorem D_O_completed_18 : decode m_O_completed.2.1 18 = .ok (.aload_n 0, 1) := by decide +kernel
theorem D_O_completed_19 : decode m_O_completed.2.1 19 = .ok (.invokevirtual 191, 3) := by decide +kernel
theorem D_O_completed_22 : decode m_O_completed.2.1 22 = .ok (.lcmp, 1) := by decide +kernel
theorem D_O_completed_23 : decode m_O_completed.2.1 23 = .ok (.ifCond .ge 16, 3) := by decide +kernel
theorem D_O_completed_26 : decode m_O_completed.2.1 26 = .ok (.aload_n 0, 1) := by decide +kernel
theorem D_O_completed_27 : decode m_O_completed.2.1 27 = .ok (.getfield 10, 3) := by decide +kernel
theorem D_O_completed_30 : decode m_O_completed.2.1 30 = .ok (.iload_n 3, 1) := by decide +kernel
theorem D_O_completed_31 : decode m_O_completed.2.1 31 = .ok (.iload 4, 2) := by decide +kernel
theorem D_O_completed_33 : decode m_O_completed.2.1 33 = .ok (.invokevirtual 128, 3) := by decide +kernel
theorem D_O_completed_36 : decode m_O_completed.2.1 36 = .ok (.ifCond .ne 5, 3) := by decide +kernel
theorem D_O_completed_39 : decode m_O_completed.2.1 39 = .ok (.iconst (-1), 1) := by decide +kernel
theorem D_O_completed_40 : decode m_O_completed.2.1 40 = .ok (.ireturn, 1) := by decide +kernel
theorem D_O_completed_41 : decode m_O_completed.2.1 41 = .ok (.aload_n 0, 1) := by decide +kernel
theorem D_O_completed_42 : decode m_O_completed.2.1 42 = .ok (.lload_n 1, 1) := by decide +kernel
theorem D_O_completed_43 : decode m_O_completed.2.1 43 = .ok (.aload_n 0, 1) := by decide +kernel
theorem D_O_completed_44 : decode m_O_completed.2.1 44 = .ok (.getfield 22, 3) := by decide +kernel
theorem D_O_completed_47 : decode m_O_completed.2.1 47 = .ok (.iload_n 3, 1) := by decide +kernel
theorem D_O_completed_48 : decode m_O_completed.2.1 48 = .ok (.invokevirtual 195, 3) := by decide +kernel
theorem D_O_completed_51 : decode m_O_completed.2.1 51 = .ok (.invokevirtual 198, 3) := by decide +kernel
theorem D_O_completed_54 : decode m_O_completed.2.1 54 = .ok (.istore 5, 2) := by decide +kernel
theorem D_O_completed_56 : decode m_O_completed.2.1 56 = .ok (.aload_n 0, 1) := by decide +kernel
theorem D_O_completed_57 : decode m_O_completed.2.1 57 = .ok (.lload_n 1, 1) := by decide +kernel
theorem D_O_completed_58 : decode m_O_completed.2.1 58 = .ok (.aload_n 0, 1) := by decide +kernel
theorem D_O_completed_59 : decode m_O_completed.2.1 59 = .ok (.getfield 22, 3) := by decide +kernel
theorem D_O_completed_62 : decode m_O_completed.2.1 62 = .ok (.iload 4, 2) := by decide +kernel
theorem D_O_completed_64 : decode m_O_completed.2.1 64 = .ok (.invokevirtual 202, 3) := by decide +kernel
theorem D_O_completed_67 : decode m_O_completed.2.1 67 = .ok (.invokevirtual 198, 3) := by decide +kernel
theorem D_O_completed_70 : decode m_O_completed.2.1 70 = .ok (.istore 6, 2) := by decide +kernel
theorem D_O_completed_72 : decode m_O_completed.2.1 72 = .ok (.aload_n 0, 1) := by decide +kernel
theorem D_O_completed_73 : decode m_O_completed.2.1 73 = .ok (.getfield 10, 3) := by decide +kernel
theorem D_O_completed_76 : decode m_O_completed.2.1 76 = .ok (.aload_n 0, 1) := by decide +kernel
theorem D_O_completed_77 : decode m_O_completed.2.1 77 = .ok (.getfield 22, 3) := by decide +kernel
theorem D_O_completed_80 : decode m_O_completed.2.1 80 = .ok (.aload_n 0, 1) := by decide +kernel
theorem D_O_completed_81 : decode m_O_completed.2.1 81 = .ok (.getfield 10, 3) := by decide +kernel
theorem D_O_completed_84 : decode m_O_completed.2.1 84 = .ok (.iload_n 3, 1) := by decide +kernel
theorem D_O_completed_85 : decode m_O_completed.2.1 85 = .ok (.iload 4, 2) := by decide +kernel
theorem D_O_completed_87 : decode m_O_completed.2.1 87 = .ok (.invokevirtual 109, 3) := by decide +kernel
theorem D_O_completed_90 : decode m_O_completed.2.1 90 = .ok (.iload 5, 2) := by decide +kernel
theorem D_O_completed_92 : decode m_O_completed.2.1 92 = .ok (.invokevirtual 205, 3) := by decide +kernel
theorem D_O_completed_95 : decode m_O_completed.2.1 95 = .ok (.istore 7, 2) := by decide +kernel
theorem D_O_completed_97 : decode m_O_completed.2.1 97 = .ok (.aload_n 0, 1) := by decide +kernel
theorem D_O_completed_98 : decode m_O_completed.2.1 98 = .ok (.getfield 10, 3) := by decide +kernel
theorem D_O_completed_101 : decode m_O_completed.2.1 101 = .ok (.iload 7, 2) := by decide +kernel
theorem D_O_completed_103 : decode m_O_completed.2.1 103 = .ok (.iload 6, 2) := by decide +kernel
theorem D_O_completed_105 : decode m_O_completed.2.1 105 = .ok (.invokevirtual 207, 3) := by decide +kernel
theorem D_O_completed_108 : decode m_O_completed.2.1 108 = .ok (.ireturn, 1) := by decide +kernel
theorem D_O_countCompletions_0 : decode m_O_countCompletions.2.1 0 = .ok (.aload_n 0, 1) := by decide +kernel
theorem D_O_countCompletions_1 : decode m_O_countCompletions.2.1 1 = .ok (.getfield 22, 3) := by decide +kernel
theorem D_O_countCompletions_4 : decode m_O_countCompletions.2.1 4 = .ok (.invokevirtual 95, 3) := by decide +kernel
theorem D_O_countCompletions_7 : decode m_O_countCompletions.2.1 7 = .ok (.ifCond .ne 5, 3) := by decide +kernel
theorem D_O_countCompletions_10 : decode m_O_countCompletions.2.1 10 = .ok (.lconst 0, 1) := by decide +kernel
theorem D_O_countCompletions_11 : decode m_O_countCompletions.2.1 11 = .ok (.lreturn, 1) := by decide +kernel
theorem D_O_countCompletions_12 : decode m_O_countCompletions.2.1 12 = .ok (.lconst 1, 1) := by decide +kernel
theorem D_O_countCompletions_13 : decode m_O_countCompletions.2.1 13 = .ok (.lstore_n 1, 1) := by decide +kernel
theorem D_O_countCompletions_14 : decode m_O_countCompletions.2.1 14 = .ok (.iconst 1, 1) := by decide +kernel
theorem D_O_countCompletions_15 : decode m_O_countCompletions.2.1 15 = .ok (.istore_n 3, 1) := by decide +kernel
theorem D_O_countCompletions_16 : decode m_O_countCompletions.2.1 16 = .ok (.iload_n 3, 1) := by decide +kernel
theorem D_O_countCompletions_17 : decode m_O_countCompletions.2.1 17 = .ok (.aload_n 0, 1) := by decide +kernel
theorem D_O_countCompletions_18 : decode m_O_countCompletions.2.1 18 = .ok (.getfield 22, 3) := by decide +kernel
theorem D_O_countCompletions_21 : decode m_O_countCompletions.2.1 21 = .ok (.invokevirtual 140, 3) := by decide +kernel
theorem D_O_countCompletions_24 : decode m_O_countCompletions.2.1 24 = .ok (.if_icmp .ge 22, 3) := by decide +kernel
theorem D_O_countCompletions_27 : decode m_O_countCompletions.2.1 27 = .ok (.lload_n 1, 1) := by decide +kernel
theorem D_O_countCompletions_28 : decode m_O_countCompletions.2.1 28 = .ok (.aload_n 0, 1) := by decide +kernel
theorem D_O_countCompletions_29 : decode m_O_countCompletions.2.1 29 = .ok (.getfield 10, 3) := by decide +kernel
theorem D_O_countCompletions_32 : decode m_O_countCompletions.2.1 32 = .ok (.invokevirtual 119, 3) := by decide +kernel
theorem D_O_countCompletions_35 : decode m_O_countCompletions.2.1 35 = .ok (.iconst 1, 1) := by decide +kernel
theorem D_O_countCompletions_36 : decode m_O_countCompletions.2.1 36 = .ok (.isub, 1) := by decide +kernel
theorem D_O_countCompletions_37 : decode m_O_countCompletions.2.1 37 = .ok (.i2l, 1) := by decide +kernel
theorem D_O_countCompletions_38 : decode m_O_countCompletions.2.1 38 = .ok (.lmul, 1) := by decide +kernel
theorem D_O_countCompletions_39 : decode m_O_countCompletions.2.1 39 = .ok (.lstore_n 1, 1) := by decide +kernel
theorem D_O_countCompletions_40 : decode m_O_countCompletions.2.1 40 = .ok (.iinc 3 1, 3) := by decide +kernel
theorem D_O_countCompletions_43 : decode m_O_countCompletions.2.1 43 = .ok (.goto (-27), 3) := by decide +kernel
theorem D_O_countCompletions_46 : decode m_O_countCompletions.2.1 46 = .ok (.lload_n 1, 1) := by decide +kernel
theorem D_O_countCompletions_47 : decode m_O_countCompletions.2.1 47 = .ok (.lreturn, 1) := by decide +kernel
theorem D_O_factorOf_0 : decode m_O_factorOf.2.1 0 = .ok (.aload_n 0, 1) := by decide +kernel
theorem D_O_factorOf_1 : decode m_O_factorOf.2.1 1 = .ok (.getfield 10, 3) := by decide +kernel
theorem D_O_factorOf_4 : decode m_O_factorOf.2.1 4 = .ok (.invokevirtual 119, 3) := by decide +kernel
theorem D_O_factorOf_7 : decode m_O_factorOf.2.1 7 = .ok (.iconst 1, 1) := by decide +kernel
theorem D_O_factorOf_8 : decode m_O_factorOf.2.1 8 = .ok (.isub, 1) := by decide +kernel
theorem D_O_factorOf_9 : decode m_O_factorOf.2.1 9 = .ok (.istore 4, 2) := by decide +kernel
theorem D_O_factorOf_11 : decode m_O_factorOf.2.1 11 = .ok (.iload_n 3, 1) := by decide +kernel
theorem D_O_factorOf_12 : decode m_O_factorOf.2.1 12 = .ok (.ifCond .le 8, 3) := by decide +kernel
theorem D_O_factorOf_15 : decode m_O_factorOf.2.1 15 = .ok (.iload 4, 2) := by decide +kernel
theorem D_O_factorOf_17 : decode m_O_factorOf.2.1 17 = .ok (.ifCond .gt 5, 3) := by decide +kernel
theorem D_O_factorOf_20 : decode m_O_factorOf.2.1 20 = .ok (.iconst 1, 1) := by decide +kernel
theorem D_O_factorOf_21 : decode m_O_factorOf.2.1 21 = .ok (.ireturn, 1) := by decide +kernel
theorem D_O_factorOf_22 : decode m_O_factorOf.2.1 22 = .ok (.lload_n 1, 1) := by decide +kernel
theorem D_O_factorOf_23 : decode m_O_factorOf.2.1 23 = .ok (.lstore 5, 2) := by decide +kernel
theorem D_O_factorOf_25 : decode m_O_factorOf.2.1 25 = .ok (.iconst 1, 1) := by decide +kernel
theorem D_O_factorOf_26 : decode m_O_factorOf.2.1 26 = .ok (.istore 7, 2) := by decide +kernel
theorem D_O_factorOf_28 : decode m_O_factorOf.2.1 28 = .ok (.iload 7, 2) := by decide +kernel
theorem D_O_factorOf_30 : decode m_O_factorOf.2.1 30 = .ok (.iload_n 3, 1) := by decide +kernel
theorem D_O_factorOf_31 : decode m_O_factorOf.2.1 31 = .ok (.if_icmp .ge 17, 3) := by decide +kernel
theorem D_O_factorOf_34 : decode m_O_factorOf.2.1 34 = .ok (.lload 5, 2) := by decide +kernel
theorem D_O_factorOf_36 : decode m_O_factorOf.2.1 36 = .ok (.iload 4, 2) := by decide +kernel
theorem D_O_factorOf_38 : decode m_O_factorOf.2.1 38 = .ok (.i2l, 1) := by decide +kernel
theorem D_O_factorOf_39 : decode m_O_factorOf.2.1 39 = .ok (.ldiv, 1) := by decide +kernel
theorem D_O_factorOf_40 : decode m_O_factorOf.2.1 40 = .ok (.lstore 5, 2) := by decide +kernel
theorem D_O_factorOf_42 : decode m_O_factorOf.2.1 42 = .ok (.iinc 7 1, 3) := by decide +kernel
theorem D_O_factorOf_45 : decode m_O_factorOf.2.1 45 = .ok (.goto (-17), 3) := by decide +kernel
theorem D_O_factorOf_48 : decode m_O_factorOf.2.1 48 = .ok (.iconst 1, 1) := by decide +kernel
theorem D_O_factorOf_49 : decode m_O_factorOf.2.1 49 = .ok (.lload 5, 2) := by decide +kernel
theorem D_O_factorOf_51 : decode m_O_factorOf.2.1 51 = .ok (.iload 4, 2) := by decide +kernel
theorem D_O_factorOf_53 : decode m_O_factorOf.2.1 53 = .ok (.i2l, 1) := by decide +kernel
theorem D_O_factorOf_54 : decode m_O_factorOf.2.1 54 = .ok (.lrem, 1) := by decide +kernel
theorem D_O_factorOf_55 : decode m_O_factorOf.2.1 55 = .ok (.l2i, 1) := by decide +kernel
theorem D_O_factorOf_56 : decode m_O_factorOf.2.1 56 = .ok (.iadd, 1) := by decide +kernel
theorem D_O_factorOf_57 : decode m_O_factorOf.2.1 57 = .ok (.ireturn, 1) := by decide +kernel
theorem D_O_isWellIf_0 : decode m_O_isWellIf.2.1 0 = .ok (.aload_n 0, 1) := by decide +kernel
theorem D_O_isWellIf_1 : decode m_O_isWellIf.2.1 1 = .ok (.iload_n 1, 1) := by decide +kernel
theorem D_O_isWellIf_2 : decode m_O_isWellIf.2.1 2 = .ok (.iload_n 2, 1) := by decide +kernel
theorem D_O_isWellIf_3 : decode m_O_isWellIf.2.1 3 = .ok (.iload_n 3, 1) := by decide +kernel
theorem D_O_isWellIf_4 : decode m_O_isWellIf.2.1 4 = .ok (.invokevirtual 81, 3) := by decide +kernel
theorem D_O_isWellIf_7 : decode m_O_isWellIf.2.1 7 = .ok (.istore 4, 2) := by decide +kernel
theorem D_O_isWellIf_9 : decode m_O_isWellIf.2.1 9 = .ok (.iload 4, 2) := by decide +kernel
theorem D_O_isWellIf_11 : decode m_O_isWellIf.2.1 11 = .ok (.ifCond .eq 6, 3) := by decide +kernel
theorem D_O_isWellIf_14 : decode m_O_isWellIf.2.1 14 = .ok (.iload 4, 2) := by decide +kernel
theorem D_O_isWellIf_16 : decode m_O_isWellIf.2.1 16 = .ok (.ireturn, 1) := by decide +kernel
theorem D_O_isWellIf_17 : decode m_O_isWellIf.2.1 17 = .ok (.aload_n 0, 1) := by decide +kernel
theorem D_O_isWellIf_18 : decode m_O_isWellIf.2.1 18 = .ok (.getfield 16, 3) := by decide +kernel
theorem D_O_isWellIf_21 : decode m_O_isWellIf.2.1 21 = .ok (.aload_n 0, 1) := by decide +kernel
theorem D_O_isWellIf_22 : decode m_O_isWellIf.2.1 22 = .ok (.getfield 10, 3) := by decide +kernel
theorem D_O_isWellIf_25 : decode m_O_isWellIf.2.1 25 = .ok (.invokevirtual 134, 3) := by decide +kernel
theorem D_O_isWellIf_28 : decode m_O_isWellIf.2.1 28 = .ok (.aload_n 0, 1) := by decide +kernel
theorem D_O_isWellIf_29 : decode m_O_isWellIf.2.1 29 = .ok (.getfield 16, 3) := by decide +kernel
theorem D_O_isWellIf_32 : decode m_O_isWellIf.2.1 32 = .ok (.iload_n 1, 1) := by decide +kernel
theorem D_O_isWellIf_33 : decode m_O_isWellIf.2.1 33 = .ok (.iload_n 2, 1) := by decide +kernel
theorem D_O_isWellIf_34 : decode m_O_isWellIf.2.1 34 = .ok (.iload_n 3, 1) := by decide +kernel
theorem D_O_isWellIf_35 : decode m_O_isWellIf.2.1 35 = .ok (.invokevirtual 89, 3) := by decide +kernel
theorem D_O_isWellIf_38 : decode m_O_isWellIf.2.1 38 = .ok (.aload_n 0, 1) := by decide +kernel
theorem D_O_isWellIf_39 : decode m_O_isWellIf.2.1 39 = .ok (.getfield 22, 3) := by decide +kernel
theorem D_O_isWellIf_42 : decode m_O_isWellIf.2.1 42 = .ok (.aload_n 0, 1) := by decide +kernel
theorem D_O_isWellIf_43 : decode m_O_isWellIf.2.1 43 = .ok (.getfield 16, 3) := by decide +kernel
theorem D_O_isWellIf_46 : decode m_O_isWellIf.2.1 46 = .ok (.invokevirtual 92, 3) := by decide +kernel
theorem D_O_isWellIf_49 : decode m_O_isWellIf.2.1 49 = .ok (.aload_n 0, 1) := by decide +kernel
theorem D_O_isWellIf_50 : decode m_O_isWellIf.2.1 50 = .ok (.getfield 22, 3) := by decide +kernel
theorem D_O_isWellIf_53 : decode m_O_isWellIf.2.1 53 = .ok (.invokevirtual 95, 3) := by decide +kernel
theorem D_O_isWellIf_56 : decode m_O_isWellIf.2.1 56 = .ok (.ifCond .eq 7, 3) := by decide +kernel
theorem D_O_isWellIf_59 : decode m_O_isWellIf.2.1 59 = .ok (.iconst 1, 1) := by decide +kernel
theorem D_O_isWellIf_60 : decode m_O_isWellIf.2.1 60 = .ok (.goto 4, 3) := by decide +kernel
theorem D_O_isWellIf_63 : decode m_O_isWellIf.2.1 63 = .ok (.iconst 0, 1) := by decide +kernel
theorem D_O_isWellIf_64 : decode m_O_isWellIf.2.1 64 = .ok (.ireturn, 1) := by decide +kernel
theorem D_O_spoilers_0 : decode m_O_spoilers.2.1 0 = .ok (.aload_n 0, 1) := by decide +kernel
theorem D_O_spoilers_1 : decode m_O_spoilers.2.1 1 = .ok (.getfield 22, 3) := by decide +kernel
theorem D_O_spoilers_4 : decode m_O_spoilers.2.1 4 = .ok (.aload_n 0, 1) := by decide +kernel
theorem D_O_spoilers_5 : decode m_O_spoilers.2.1 5 = .ok (.getfield 10, 3) := by decide +kernel
theorem D_O_spoilers_8 : decode m_O_spoilers.2.1 8 = .ok (.invokevirtual 92, 3) := by decide +kernel
theorem D_O_spoilers_11 : decode m_O_spoilers.2.1 11 = .ok (.aload_n 0, 1) := by decide +kernel
theorem D_O_spoilers_12 : decode m_O_spoilers.2.1 12 = .ok (.getfield 22, 3) := by decide +kernel
theorem D_O_spoilers_15 : decode m_O_spoilers.2.1 15 = .ok (.invokevirtual 95, 3) := by decide +kernel
theorem D_O_spoilers_18 : decode m_O_spoilers.2.1 18 = .ok (.ifCond .eq 7, 3) := by decide +kernel
theorem D_O_spoilers_21 : decode m_O_spoilers.2.1 21 = .ok (.ldc2_w 210, 3) := by decide +kernel
theorem D_O_spoilers_24 : decode m_O_spoilers.2.1 24 = .ok (.lreturn, 1) := by decide +kernel
theorem D_O_spoilers_25 : decode m_O_spoilers.2.1 25 = .ok (.lconst 0, 1) := by decide +kernel
theorem D_O_spoilers_26 : decode m_O_spoilers.2.1 26 = .ok (.lstore_n 1, 1) := by decide +kernel
theorem D_O_spoilers_27 : decode m_O_spoilers.2.1 27 = .ok (.iconst 0, 1) := by decide +kernel
theorem D_O_spoilers_28 : decode m_O_spoilers.2.1 28 = .ok (.istore_n 3, 1) := by decide +kernel
theorem D_O_spoilers_29 : decode m_O_spoilers.2.1 29 = .ok (.iload_n 3, 1) := by decide +kernel
theorem D_O_spoilers_30 : decode m_O_spoilers.2.1 30 = .ok (.aload_n 0, 1) := by decide +kernel
theorem D_O_spoilers_31 : decode m_O_spoilers.2.1 31 = .ok (.getfield 10, 3) := by decide +kernel
theorem D_O_spoilers_34 : decode m_O_spoilers.2.1 34 = .ok (.invokevirtual 99, 3) := by decide +kernel
theorem D_O_spoilers_37 : decode m_O_spoilers.2.1 37 = .ok (.if_icmp .ge 67, 3) := by decide +kernel
theorem D_O_spoilers_40 : decode m_O_spoilers.2.1 40 = .ok (.iconst 0, 1) := by decide +kernel
theorem D_O_spoilers_41 : decode m_O_spoilers.2.1 41 = .ok (.istore 4, 2) := by decide +kernel
theorem D_O_spoilers_43 : decode m_O_spoilers.2.1 43 = .ok (.iload 4, 2) := by decide +kernel
theorem D_O_spoilers_45 : decode m_O_spoilers.2.1 45 = .ok (.aload_n 0, 1) := by decide +kernel
theorem D_O_spoilers_46 : decode m_O_spoilers.2.1 46 = .ok (.getfield 10, 3) := by decide +kernel
theorem D_O_spoilers_49 : decode m_O_spoilers.2.1 49 = .ok (.invokevirtual 102, 3) := by decide +kernel
theorem D_O_spoilers_52 : decode m_O_spoilers.2.1 52 = .ok (.if_icmp .ge 46, 3) := by decide +kernel
theorem D_O_spoilers_55 : decode m_O_spoilers.2.1 55 = .ok (.aload_n 0, 1) := by decide +kernel
theorem D_O_spoilers_56 : decode m_O_spoilers.2.1 56 = .ok (.getfield 10, 3) := by decide +kernel
theorem D_O_spoilers_59 : decode m_O_spoilers.2.1 59 = .ok (.iload_n 3, 1) := by decide +kernel
theorem D_O_spoilers_60 : decode m_O_spoilers.2.1 60 = .ok (.iload 4, 2) := by decide +kernel
theorem D_O_spoilers_62 : decode m_O_spoilers.2.1 62 = .ok (.invokevirtual 85, 3) := by decide +kernel
theorem D_O_spoilers_65 : decode m_O_spoilers.2.1 65 = .ok (.ifCond .eq 27, 3) := by decide +kernel
theorem D_O_spoilers_68 : decode m_O_spoilers.2.1 68 = .ok (.aload_n 0, 1) := by decide +kernel
theorem D_O_spoilers_69 : decode m_O_spoilers.2.1 69 = .ok (.iload_n 3, 1) := by decide +kernel
theorem D_O_spoilers_70 : decode m_O_spoilers.2.1 70 = .ok (.iload 4, 2) := by decide +kernel
theorem D_O_spoilers_72 : decode m_O_spoilers.2.1 72 = .ok (.iconst 0, 1) := by decide +kernel
theorem D_O_spoilers_73 : decode m_O_spoilers.2.1 73 = .ok (.invokevirtual 212, 3) := by decide +kernel
theorem D_O_spoilers_76 : decode m_O_spoilers.2.1 76 = .ok (.iconst 1, 1) := by decide +kernel
theorem D_O_spoilers_77 : decode m_O_spoilers.2.1 77 = .ok (.if_icmp .ne 15, 3) := by decide +kernel
theorem D_O_spoilers_80 : decode m_O_spoilers.2.1 80 = .ok (.lload_n 1, 1) := by decide +kernel
theorem D_O_spoilers_81 : decode m_O_spoilers.2.1 81 = .ok (.lconst 1, 1) := by decide +kernel
theorem D_O_spoilers_82 : decode m_O_spoilers.2.1 82 = .ok (.bipush 6, 2) := by decide +kernel
theorem D_O_spoilers_84 : decode m_O_spoilers.2.1 84 = .ok (.iload_n 3, 1) := by decide +kernel
theorem D_O_spoilers_85 : decode m_O_spoilers.2.1 85 = .ok (.imul, 1) := by decide +kernel
theorem D_O_spoilers_86 : decode m_O_spoilers.2.1 86 = .ok (.iload 4, 2) := by decide +kernel
theorem D_O_spoilers_88 : decode m_O_spoilers.2.1 88 = .ok (.iadd, 1) := by decide +kernel
theorem D_O_spoilers_89 : decode m_O_spoilers.2.1 89 = .ok (.lshl, 1) := by decide +kernel
theorem D_O_spoilers_90 : decode m_O_spoilers.2.1 90 = .ok (.lor, 1) := by decide +kernel
theorem D_O_spoilers_91 : decode m_O_spoilers.2.1 91 = .ok (.lstore_n 1, 1) := by decide +kernel
theorem D_O_spoilers_92 : decode m_O_spoilers.2.1 92 = .ok (.iinc 4 1, 3) := by decide +kernel
theorem D_O_spoilers_95 : decode m_O_spoilers.2.1 95 = .ok (.goto (-52), 3) := by decide +kernel
theorem D_O_spoilers_98 : decode m_O_spoilers.2.1 98 = .ok (.iinc 3 1, 3) := by decide +kernel
theorem D_O_spoilers_101 : decode m_O_spoilers.2.1 101 = .ok (.goto (-72), 3) := by decide +kernel
theorem D_O_spoilers_104 : decode m_O_spoilers.2.1 104 = .ok (.lload_n 1, 1) := by decide +kernel
theorem D_O_spoilers_105 : decode m_O_spoilers.2.1 105 = .ok (.lreturn, 1) := by decide +kernel
theorem D_O_bestEntry_0 : decode m_O_bestEntry.2.1 0 = .ok (.iload_n 1, 1) := by decide +kernel
theorem D_O_bestEntry_1 : decode m_O_bestEntry.2.1 1 = .ok (.iconst 0, 1) := by decide +kernel
theorem D_O_bestEntry_2 : decode m_O_bestEntry.2.1 2 = .ok (.iconst 2, 1) := by decide +kernel
theorem D_O_bestEntry_3 : decode m_O_bestEntry.2.1 3 = .ok (.invokestatic 61, 3) := by decide +kernel
theorem D_O_bestEntry_6 : decode m_O_bestEntry.2.1 6 = .ok (.ifCond .eq 6, 3) := by decide +kernel
theorem D_O_bestEntry_9 : decode m_O_bestEntry.2.1 9 = .ok (.bipush (-2), 2) := by decide +kernel
theorem D_O_bestEntry_11 : decode m_O_bestEntry.2.1 11 = .ok (.ireturn, 1) := by decide +kernel
theorem D_O_bestEntry_12 : decode m_O_bestEntry.2.1 12 = .ok (.aload_n 0, 1) := by decide +kernel
theorem D_O_bestEntry_13 : decode m_O_bestEntry.2.1 13 = .ok (.getfield 22, 3) := by decide +kernel
theorem D_O_bestEntry_16 : decode m_O_bestEntry.2.1 16 = .ok (.aload_n 0, 1) := by decide +kernel
theorem D_O_bestEntry_17 : decode m_O_bestEntry.2.1 17 = .ok (.getfield 10, 3) := by decide +kernel
theorem D_O_bestEntry_20 : decode m_O_bestEntry.2.1 20 = .ok (.invokevirtual 92, 3) := by decide +kernel
theorem D_O_bestEntry_23 : decode m_O_bestEntry.2.1 23 = .ok (.iconst 0, 1) := by decide +kernel
theorem D_O_bestEntry_24 : decode m_O_bestEntry.2.1 24 = .ok (.istore_n 2, 1) := by decide +kernel
theorem D_O_bestEntry_25 : decode m_O_bestEntry.2.1 25 = .ok (.iconst 0, 1) := by decide +kernel
theorem D_O_bestEntry_26 : decode m_O_bestEntry.2.1 26 = .ok (.istore_n 3, 1) := by decide +kernel
theorem D_O_bestEntry_27 : decode m_O_bestEntry.2.1 27 = .ok (.iconst 0, 1) := by decide +kernel
theorem D_O_bestEntry_28 : decode m_O_bestEntry.2.1 28 = .ok (.istore 4, 2) := by decide +kernel
theorem D_O_bestEntry_30 : decode m_O_bestEntry.2.1 30 = .ok (.iconst 0, 1) := by decide +kernel
theorem D_O_bestEntry_31 : decode m_O_bestEntry.2.1 31 = .ok (.istore 5, 2) := by decide +kernel
theorem D_O_bestEntry_33 : decode m_O_bestEntry.2.1 33 = .ok (.iload 5, 2) := by decide +kernel
theorem D_O_bestEntry_35 : decode m_O_bestEntry.2.1 35 = .ok (.aload_n 0, 1) := by decide +kernel
theorem D_O_bestEntry_36 : decode m_O_bestEntry.2.1 36 = .ok (.getfield 10, 3) := by decide +kernel
theorem D_O_bestEntry_39 : decode m_O_bestEntry.2.1 39 = .ok (.invokevirtual 99, 3) := by decide +kernel
theorem D_O_bestEntry_42 : decode m_O_bestEntry.2.1 42 = .ok (.if_icmp .ge 60, 3) := by decide +kernel
theorem D_O_bestEntry_45 : decode m_O_bestEntry.2.1 45 = .ok (.iconst 0, 1) := by decide +kernel
theorem D_O_bestEntry_46 : decode m_O_bestEntry.2.1 46 = .ok (.istore 6, 2) := by decide +kernel
theorem D_O_bestEntry_48 : decode m_O_bestEntry.2.1 48 = .ok (.iload 6, 2) := by decide +kernel
theorem D_O_bestEntry_50 : decode m_O_bestEntry.2.1 50 = .ok (.aload_n 0, 1) := by decide +kernel
theorem D_O_bestEntry_51 : decode m_O_bestEntry.2.1 51 = .ok (.getfield 10, 3) := by decide +kernel
theorem D_O_bestEntry_54 : decode m_O_bestEntry.2.1 54 = .ok (.invokevirtual 102, 3) := by decide +kernel
theorem D_O_bestEntry_57 : decode m_O_bestEntry.2.1 57 = .ok (.if_icmp .ge 39, 3) := by decide +kernel
theorem D_O_bestEntry_60 : decode m_O_bestEntry.2.1 60 = .ok (.aload_n 0, 1) := by decide +kernel
theorem D_O_bestEntry_61 : decode m_O_bestEntry.2.1 61 = .ok (.getfield 22, 3) := by decide +kernel
theorem D_O_bestEntry_64 : decode m_O_bestEntry.2.1 64 = .ok (.iload 5, 2) := by decide +kernel
theorem D_O_bestEntry_66 : decode m_O_bestEntry.2.1 66 = .ok (.iload 6, 2) := by decide +kernel
theorem D_O_bestEntry_68 : decode m_O_bestEntry.2.1 68 = .ok (.invokevirtual 215, 3) := by decide +kernel
theorem D_O_bestEntry_71 : decode m_O_bestEntry.2.1 71 = .ok (.istore 7, 2) := by decide +kernel
theorem D_O_bestEntry_73 : decode m_O_bestEntry.2.1 73 = .ok (.iload 7, 2) := by decide +kernel
theorem D_O_bestEntry_75 : decode m_O_bestEntry.2.1 75 = .ok (.iload 4, 2) := by decide +kernel
theorem D_O_bestEntry_77 : decode m_O_bestEntry.2.1 77 = .ok (.if_icmp .le 13, 3) := by decide +kernel
theorem D_O_bestEntry_80 : decode m_O_bestEntry.2.1 80 = .ok (.iload 5, 2) := by decide +kernel
theorem D_O_bestEntry_82 : decode m_O_bestEntry.2.1 82 = .ok (.istore_n 2, 1) := by decide +kernel
theorem D_O_bestEntry_83 : decode m_O_bestEntry.2.1 83 = .ok (.iload 6, 2) := by decide +kernel
theorem D_O_bestEntry_85 : decode m_O_bestEntry.2.1 85 = .ok (.istore_n 3, 1) := by decide +kernel
theorem D_O_bestEntry_86 : decode m_O_bestEntry.2.1 86 = .ok (.iload 7, 2) := by decide +kernel
theorem D_O_bestEntry_88 : decode m_O_bestEntry.2.1 88 = .ok (.istore 4, 2) := by decide +kernel
theorem D_O_bestEntry_90 : decode m_O_bestEntry.2.1 90 = .ok (.iinc 6 1, 3) := by decide +kernel
theorem D_O_bestEntry_93 : decode m_O_bestEntry.2.1 93 = .ok (.goto (-45), 3) := by decide +kernel
theorem D_O_bestEntry_96 : decode m_O_bestEntry.2.1 96 = .ok (.iinc 5 1, 3) := by decide +kernel
theorem D_O_bestEntry_99 : decode m_O_bestEntry.2.1 99 = .ok (.goto (-66), 3) := by decide +kernel
theorem D_O_bestEntry_102 : decode m_O_bestEntry.2.1 102 = .ok (.iload 4, 2) := by decide +kernel
theorem D_O_bestEntry_104 : decode m_O_bestEntry.2.1 104 = .ok (.ifCond .ne 6, 3) := by decide +kernel
theorem D_O_bestEntry_107 : decode m_O_bestEntry.2.1 107 = .ok (.bipush (-6), 2) := by decide +kernel
theorem D_O_bestEntry_109 : decode m_O_bestEntry.2.1 109 = .ok (.ireturn, 1) := by decide +kernel
theorem D_O_bestEntry_110 : decode m_O_bestEntry.2.1 110 = .ok (.iload_n 1, 1) := by decide +kernel
theorem D_O_bestEntry_111 : decode m_O_bestEntry.2.1 111 = .ok (.ifCond .ne 5, 3) := by decide +kernel
theorem D_O_bestEntry_114 : decode m_O_bestEntry.2.1 114 = .ok (.iload_n 2, 1) := by decide +kernel
theorem D_O_bestEntry_115 : decode m_O_bestEntry.2.1 115 = .ok (.ireturn, 1) := by decide +kernel
theorem D_O_bestEntry_116 : decode m_O_bestEntry.2.1 116 = .ok (.iload_n 1, 1) := by decide +kernel
theorem D_O_bestEntry_117 : decode m_O_bestEntry.2.1 117 = .ok (.iconst 1, 1) := by decide +kernel
theorem D_O_bestEntry_118 : decode m_O_bestEntry.2.1 118 = .ok (.if_icmp .ne 7, 3) := by decide +kernel
theorem D_O_bestEntry_121 : decode m_O_bestEntry.2.1 121 = .ok (.iload_n 3, 1) := by decide +kernel
theorem D_O_bestEntry_122 : decode m_O_bestEntry.2.1 122 = .ok (.goto 5, 3) := by decide +kernel
theorem D_O_bestEntry_125 : decode m_O_bestEntry.2.1 125 = .ok (.iload 4, 2) := by decide +kernel
theorem D_O_bestEntry_127 : decode m_O_bestEntry.2.1 127 = .ok (.ireturn, 1) := by decide +kernel
theorem D_O_put_0 : decode m_O_put.2.1 0 = .ok (.lload_n 1, 1) := by decide +kernel
theorem D_O_put_1 : decode m_O_put.2.1 1 = .ok (.invokestatic 218, 3) := by decide +kernel
theorem D_O_put_4 : decode m_O_put.2.1 4 = .ok (.istore_n 3, 1) := by decide +kernel
theorem D_O_put_5 : decode m_O_put.2.1 5 = .ok (.iload_n 3, 1) := by decide +kernel
theorem D_O_put_6 : decode m_O_put.2.1 6 = .ok (.ifCond .ne 6, 3) := by decide +kernel
theorem D_O_put_9 : decode m_O_put.2.1 9 = .ok (.bipush (-2), 2) := by decide +kernel
theorem D_O_put_11 : decode m_O_put.2.1 11 = .ok (.ireturn, 1) := by decide +kernel
theorem D_O_put_12 : decode m_O_put.2.1 12 = .ok (.aload_n 0, 1) := by decide +kernel
theorem D_O_put_13 : decode m_O_put.2.1 13 = .ok (.getfield 43, 3) := by decide +kernel
theorem D_O_put_16 : decode m_O_put.2.1 16 = .ok (.invokevirtual 165, 3) := by decide +kernel
theorem D_O_put_19 : decode m_O_put.2.1 19 = .ok (.iload_n 3, 1) := by decide +kernel
theorem D_O_put_20 : decode m_O_put.2.1 20 = .ok (.iadd, 1) := by decide +kernel
theorem D_O_put_21 : decode m_O_put.2.1 21 = .ok (.bipush 50, 2) := by decide +kernel
theorem D_O_put_23 : decode m_O_put.2.1 23 = .ok (.if_icmp .le 6, 3) := by decide +kernel
theorem D_O_put_26 : decode m_O_put.2.1 26 = .ok (.bipush (-4), 2) := by decide +kernel
theorem D_O_put_28 : decode m_O_put.2.1 28 = .ok (.ireturn, 1) := by decide +kernel
theorem D_O_put_29 : decode m_O_put.2.1 29 = .ok (.iload_n 3, 1) := by decide +kernel
theorem D_O_put_30 : decode m_O_put.2.1 30 = .ok (.iconst 1, 1) := by decide +kernel
theorem D_O_put_31 : decode m_O_put.2.1 31 = .ok (.isub, 1) := by decide +kernel
theorem D_O_put_32 : decode m_O_put.2.1 32 = .ok (.istore 4, 2) := by decide +kernel
theorem D_O_put_34 : decode m_O_put.2.1 34 = .ok (.iload 4, 2) := by decide +kernel
theorem D_O_put_36 : decode m_O_put.2.1 36 = .ok (.ifCond .lt 28, 3) := by decide +kernel
theorem D_O_put_39 : decode m_O_put.2.1 39 = .ok (.aload_n 0, 1) := by decide +kernel
theorem D_O_put_40 : decode m_O_put.2.1 40 = .ok (.getfield 43, 3) := by decide +kernel
theorem D_O_put_43 : decode m_O_put.2.1 43 = .ok (.lload_n 1, 1) := by decide +kernel
theorem D_O_put_44 : decode m_O_put.2.1 44 = .ok (.bipush 8, 2) := by decide +kernel
theorem D_O_put_46 : decode m_O_put.2.1 46 = .ok (.iload 4, 2) := by decide +kernel
theorem D_O_put_48 : decode m_O_put.2.1 48 = .ok (.imul, 1) := by decide +kernel
theorem D_O_put_49 : decode m_O_put.2.1 49 = .ok (.lushr, 1) := by decide +kernel
theorem D_O_put_50 : decode m_O_put.2.1 50 = .ok (.l2i, 1) := by decide +kernel
theorem D_O_put_51 : decode m_O_put.2.1 51 = .ok (.sipush 255, 3) := by decide +kernel
theorem D_O_put_54 : decode m_O_put.2.1 54 = .ok (.iand, 1) := by decide +kernel
theorem D_O_put_55 : decode m_O_put.2.1 55 = .ok (.invokevirtual 222, 3) := by decide +kernel
theorem D_O_put_58 : decode m_O_put.2.1 58 = .ok (.iinc 4 (-1), 3) := by decide +kernel
theorem D_O_put_61 : decode m_O_put.2.1 61 = .ok (.goto (-27), 3) := by decide +kernel
theorem D_O_put_64 : decode m_O_put.2.1 64 = .ok (.aload_n 0, 1) := by decide +kernel
theorem D_O_put_65 : decode m_O_put.2.1 65 = .ok (.getfield 43, 3) := by decide +kernel
theorem D_O_put_68 : decode m_O_put.2.1 68 = .ok (.invokevirtual 165, 3) := by decide +kernel
theorem D_O_put_71 : decode m_O_put.2.1 71 = .ok (.ireturn, 1) := by decide +kernel
theorem D_O_wipe_0 : decode m_O_wipe.2.1 0 = .ok (.aload_n 0, 1) := by decide +kernel
theorem D_O_wipe_1 : decode m_O_wipe.2.1 1 = .ok (.getfield 43, 3) := by decide +kernel
theorem D_O_wipe_4 : decode m_O_wipe.2.1 4 = .ok (.invokevirtual 165, 3) := by decide +kernel
theorem D_O_wipe_7 : decode m_O_wipe.2.1 7 = .ok (.istore_n 1, 1) := by decide +kernel
theorem D_O_wipe_8 : decode m_O_wipe.2.1 8 = .ok (.aload_n 0, 1) := by decide +kernel
theorem D_O_wipe_9 : decode m_O_wipe.2.1 9 = .ok (.getfield 43, 3) := by decide +kernel
theorem D_O_wipe_12 : decode m_O_wipe.2.1 12 = .ok (.invokevirtual 125, 3) := by decide +kernel
theorem D_O_wipe_15 : decode m_O_wipe.2.1 15 = .ok (.iload_n 1, 1) := by decide +kernel
theorem D_O_wipe_16 : decode m_O_wipe.2.1 16 = .ok (.ireturn, 1) := by decide +kernel
theorem D_O_fault_0 : decode m_O_fault.2.1 0 = .ok (.aload_n 0, 1) := by decide +kernel
theorem D_O_fault_1 : decode m_O_fault.2.1 1 = .ok (.getfield 43, 3) := by decide +kernel
theorem D_O_fault_4 : decode m_O_fault.2.1 4 = .ok (.invokevirtual 113, 3) := by decide +kernel
theorem D_O_fault_7 : decode m_O_fault.2.1 7 = .ok (.ireturn, 1) := by decide +kernel
theorem D_O_sizeOf_0 : decode m_O_sizeOf.2.1 0 = .ok (.lload_n 0, 1) := by decide +kernel
theorem D_O_sizeOf_1 : decode m_O_sizeOf.2.1 1 = .ok (.lstore_n 2, 1) := by decide +kernel
theorem D_O_sizeOf_2 : decode m_O_sizeOf.2.1 2 = .ok (.iconst 0, 1) := by decide +kernel
theorem D_O_sizeOf_3 : decode m_O_sizeOf.2.1 3 = .ok (.istore 4, 2) := by decide +kernel
theorem D_O_sizeOf_5 : decode m_O_sizeOf.2.1 5 = .ok (.iconst 0, 1) := by decide +kernel
theorem D_O_sizeOf_6 : decode m_O_sizeOf.2.1 6 = .ok (.istore 5, 2) := by decide +kernel
theorem D_O_sizeOf_8 : decode m_O_sizeOf.2.1 8 = .ok (.iload 5, 2) := by decide +kernel
theorem D_O_sizeOf_10 : decode m_O_sizeOf.2.1 10 = .ok (.bipush 8, 2) := by decide +kernel
theorem D_O_sizeOf_12 : decode m_O_sizeOf.2.1 12 = .ok (.if_icmp .ge 41, 3) := by decide +kernel
theorem D_O_sizeOf_15 : decode m_O_sizeOf.2.1 15 = .ok (.lload_n 2, 1) := by decide +kernel
theorem D_O_sizeOf_16 : decode m_O_sizeOf.2.1 16 = .ok (.lconst 0, 1) := by decide +kernel
theorem D_O_sizeOf_17 : decode m_O_sizeOf.2.1 17 = .ok (.lcmp, 1) := by decide +kernel
theorem D_O_sizeOf_18 : decode m_O_sizeOf.2.1 18 = .ok (.ifCond .eq 35, 3) := by decide +kernel
theorem D_O_sizeOf_21 : decode m_O_sizeOf.2.1 21 = .ok (.lload_n 2, 1) := by decide +kernel
theorem D_O_sizeOf_22 : decode m_O_sizeOf.2.1 22 = .ok (.ldc2_w 226, 3) := by decide +kernel
theorem D_O_sizeOf_25 : decode m_O_sizeOf.2.1 25 = .ok (.land, 1) := by decide +kernel
theorem D_O_sizeOf_26 : decode m_O_sizeOf.2.1 26 = .ok (.l2i, 1) := by decide +kernel
theorem D_O_sizeOf_27 : decode m_O_sizeOf.2.1 27 = .ok (.bipush 33, 2) := by decide +kernel
theorem D_O_sizeOf_29 : decode m_O_sizeOf.2.1 29 = .ok (.bipush 126, 2) := by decide +kernel
theorem D_O_sizeOf_31 : decode m_O_sizeOf.2.1 31 = .ok (.invokestatic 61, 3) := by decide +kernel
theorem D_O_sizeOf_34 : decode m_O_sizeOf.2.1 34 = .ok (.ifCond .eq 5, 3) := by decide +kernel
theorem D_O_sizeOf_37 : decode m_O_sizeOf.2.1 37 = .ok (.iconst 0, 1) := by decide +kernel
theorem D_O_sizeOf_38 : decode m_O_sizeOf.2.1 38 = .ok (.ireturn, 1) := by decide +kernel
theorem D_O_sizeOf_39 : decode m_O_sizeOf.2.1 39 = .ok (.iinc 4 1, 3) := by decide +kernel
theorem D_O_sizeOf_42 : decode m_O_sizeOf.2.1 42 = .ok (.lload_n 2, 1) := by decide +kernel
theorem D_O_sizeOf_43 : decode m_O_sizeOf.2.1 43 = .ok (.bipush 8, 2) := by decide +kernel
theorem D_O_sizeOf_45 : decode m_O_sizeOf.2.1 45 = .ok (.lushr, 1) := by decide +kernel
theorem D_O_sizeOf_46 : decode m_O_sizeOf.2.1 46 = .ok (.lstore_n 2, 1) := by decide +kernel
theorem D_O_sizeOf_47 : decode m_O_sizeOf.2.1 47 = .ok (.iinc 5 1, 3) := by decide +kernel
theorem D_O_sizeOf_50 : decode m_O_sizeOf.2.1 50 = .ok (.goto (-42), 3) := by decide +kernel
theorem D_O_sizeOf_53 : decode m_O_sizeOf.2.1 53 = .ok (.iload 4, 2) := by decide +kernel
theorem D_O_sizeOf_55 : decode m_O_sizeOf.2.1 55 = .ok (.ireturn, 1) := by decide +kernel
theorem D_O_undo_0 : decode m_O_undo.2.1 0 = .ok (.aload_n 0, 1) := by decide +kernel
theorem D_O_undo_1 : decode m_O_undo.2.1 1 = .ok (.getfield 50, 3) := by decide +kernel
theorem D_O_undo_4 : decode m_O_undo.2.1 4 = .ok (.invokevirtual 228, 3) := by decide +kernel
theorem D_O_undo_7 : decode m_O_undo.2.1 7 = .ok (.astore_n 1, 1) := by decide +kernel
theorem D_O_undo_8 : decode m_O_undo.2.1 8 = .ok (.aload_n 1, 1) := by decide +kernel
theorem D_O_undo_9 : decode m_O_undo.2.1 9 = .ok (.ifnonnull 6, 3) := by decide +kernel
theorem D_O_undo_12 : decode m_O_undo.2.1 12 = .ok (.bipush (-5), 2) := by decide +kernel
theorem D_O_undo_14 : decode m_O_undo.2.1 14 = .ok (.ireturn, 1) := by decide +kernel
theorem D_O_undo_15 : decode m_O_undo.2.1 15 = .ok (.aload_n 0, 1) := by decide +kernel
theorem D_O_undo_16 : decode m_O_undo.2.1 16 = .ok (.getfield 10, 3) := by decide +kernel
theorem D_O_undo_19 : decode m_O_undo.2.1 19 = .ok (.aload_n 1, 1) := by decide +kernel
theorem D_O_undo_20 : decode m_O_undo.2.1 20 = .ok (.invokevirtual 134, 3) := by decide +kernel
theorem D_O_undo_23 : decode m_O_undo.2.1 23 = .ok (.aload_n 0, 1) := by decide +kernel
theorem D_O_undo_24 : decode m_O_undo.2.1 24 = .ok (.getfield 50, 3) := by decide +kernel
theorem D_O_undo_27 : decode m_O_undo.2.1 27 = .ok (.invokevirtual 168, 3) := by decide +kernel
theorem D_O_undo_30 : decode m_O_undo.2.1 30 = .ok (.ireturn, 1) := by decide +kernel
theorem D_O_save_0 : decode m_O_save.2.1 0 = .ok (.aload_n 0, 1) := by decide +kernel
theorem D_O_save_1 : decode m_O_save.2.1 1 = .ok (.iload_n 1, 1) := by decide +kernel
theorem D_O_save_2 : decode m_O_save.2.1 2 = .ok (.invokevirtual 232, 3) := by decide +kernel
theorem D_O_save_5 : decode m_O_save.2.1 5 = .ok (.astore_n 2, 1) := by decide +kernel
theorem D_O_save_6 : decode m_O_save.2.1 6 = .ok (.aload_n 2, 1) := by decide +kernel
theorem D_O_save_7 : decode m_O_save.2.1 7 = .ok (.ifnonnull 6, 3) := by decide +kernel
theorem D_O_save_10 : decode m_O_save.2.1 10 = .ok (.bipush (-2), 2) := by decide +kernel
theorem D_O_save_12 : decode m_O_save.2.1 12 = .ok (.ireturn, 1) := by decide +kernel
theorem D_O_save_13 : decode m_O_save.2.1 13 = .ok (.aload_n 2, 1) := by decide +kernel
theorem D_O_save_14 : decode m_O_save.2.1 14 = .ok (.aload_n 0, 1) := by decide +kernel
theorem D_O_save_15 : decode m_O_save.2.1 15 = .ok (.getfield 10, 3) := by decide +kernel
theorem D_O_save_18 : decode m_O_save.2.1 18 = .ok (.invokevirtual 236, 3) := by decide +kernel
theorem D_O_save_21 : decode m_O_save.2.1 21 = .ok (.aload_n 0, 1) := by decide +kernel
theorem D_O_save_22 : decode m_O_save.2.1 22 = .ok (.getfield 10, 3) := by decide +kernel
theorem D_O_save_25 : decode m_O_save.2.1 25 = .ok (.invokevirtual 69, 3) := by decide +kernel
theorem D_O_save_28 : decode m_O_save.2.1 28 = .ok (.ireturn, 1) := by decide +kernel
theorem D_O_restore_0 : decode m_O_restore.2.1 0 = .ok (.aload_n 0, 1) := by decide +kernel
theorem D_O_restore_1 : decode m_O_restore.2.1 1 = .ok (.iload_n 1, 1) := by decide +kernel
theorem D_O_restore_2 : decode m_O_restore.2.1 2 = .ok (.invokevirtual 232, 3) := by decide +kernel
theorem D_O_restore_5 : decode m_O_restore.2.1 5 = .ok (.astore_n 2, 1) := by decide +kernel
theorem D_O_restore_6 : decode m_O_restore.2.1 6 = .ok (.aload_n 2, 1) := by decide +kernel
theorem D_O_restore_7 : decode m_O_restore.2.1 7 = .ok (.ifnonnull 6, 3) := by decide +kernel
theorem D_O_restore_10 : decode m_O_restore.2.1 10 = .ok (.bipush (-2), 2) := by decide +kernel
theorem D_O_restore_12 : decode m_O_restore.2.1 12 = .ok (.ireturn, 1) := by decide +kernel
theorem D_O_restore_13 : decode m_O_restore.2.1 13 = .ok (.aload_n 2, 1) := by decide +kernel
theorem D_O_restore_14 : decode m_O_restore.2.1 14 = .ok (.invokevirtual 239, 3) := by decide +kernel
theorem D_O_restore_17 : decode m_O_restore.2.1 17 = .ok (.ifCond .ne 6, 3) := by decide +kernel
theorem D_O_restore_20 : decode m_O_restore.2.1 20 = .ok (.bipush (-5), 2) := by decide +kernel
theorem D_O_restore_22 : decode m_O_restore.2.1 22 = .ok (.ireturn, 1) := by decide +kernel
theorem D_O_restore_23 : decode m_O_restore.2.1 23 = .ok (.aload_n 0, 1) := by decide +kernel
theorem D_O_restore_24 : decode m_O_restore.2.1 24 = .ok (.getfield 50, 3) := by decide +kernel
theorem D_O_restore_27 : decode m_O_restore.2.1 27 = .ok (.aload_n 0, 1) := by decide +kernel
theorem D_O_restore_28 : decode m_O_restore.2.1 28 = .ok (.getfield 10, 3) := by decide +kernel
theorem D_O_restore_31 : decode m_O_restore.2.1 31 = .ok (.invokevirtual 73, 3) := by decide +kernel
theorem D_O_restore_34 : decode m_O_restore.2.1 34 = .ok (.aload_n 2, 1) := by decide +kernel
theorem D_O_restore_35 : decode m_O_restore.2.1 35 = .ok (.aload_n 0, 1) := by decide +kernel
theorem D_O_restore_36 : decode m_O_restore.2.1 36 = .ok (.getfield 10, 3) := by decide +kernel
theorem D_O_restore_39 : decode m_O_restore.2.1 39 = .ok (.invokevirtual 242, 3) := by decide +kernel
theorem D_O_restore_42 : decode m_O_restore.2.1 42 = .ok (.aload_n 0, 1) := by decide +kernel
theorem D_O_restore_43 : decode m_O_restore.2.1 43 = .ok (.getfield 10, 3) := by decide +kernel
theorem D_O_restore_46 : decode m_O_restore.2.1 46 = .ok (.invokevirtual 69, 3) := by decide +kernel
theorem D_O_restore_49 : decode m_O_restore.2.1 49 = .ok (.ireturn, 1) := by decide +kernel
theorem D_O_slotAt_0 : decode m_O_slotAt.2.1 0 = .ok (.iload_n 1, 1) := by decide +kernel
theorem D_O_slotAt_1 : decode m_O_slotAt.2.1 1 = .ok (.ifCond .lt 21, 3) := by decide +kernel
theorem D_O_slotAt_4 : decode m_O_slotAt.2.1 4 = .ok (.iload_n 1, 1) := by decide +kernel
theorem D_O_slotAt_5 : decode m_O_slotAt.2.1 5 = .ok (.aload_n 0, 1) := by decide +kernel
theorem D_O_slotAt_6 : decode m_O_slotAt.2.1 6 = .ok (.getfield 56, 3) := by decide +kernel
theorem D_O_slotAt_9 : decode m_O_slotAt.2.1 9 = .ok (.arraylength, 1) := by decide +kernel
theorem D_O_slotAt_10 : decode m_O_slotAt.2.1 10 = .ok (.if_icmp .ge 12, 3) := by decide +kernel
theorem D_O_slotAt_13 : decode m_O_slotAt.2.1 13 = .ok (.aload_n 0, 1) := by decide +kernel
theorem D_O_slotAt_14 : decode m_O_slotAt.2.1 14 = .ok (.getfield 56, 3) := by decide +kernel
theorem D_O_slotAt_17 : decode m_O_slotAt.2.1 17 = .ok (.iload_n 1, 1) := by decide +kernel
theorem D_O_slotAt_18 : decode m_O_slotAt.2.1 18 = .ok (.aaload, 1) := by decide +kernel
theorem D_O_slotAt_19 : decode m_O_slotAt.2.1 19 = .ok (.goto 4, 3) := by decide +kernel
theorem D_O_slotAt_22 : decode m_O_slotAt.2.1 22 = .ok (.aconst_null, 1) := by decide +kernel
theorem D_O_slotAt_23 : decode m_O_slotAt.2.1 23 = .ok (.areturn, 1) := by decide +kernel
theorem D_O_errorOfTelling_0 : decode m_O_errorOfTelling.2.1 0 = .ok (.aload_n 0, 1) := by decide +kernel
theorem D_O_errorOfTelling_1 : decode m_O_errorOfTelling.2.1 1 = .ok (.getfield 10, 3) := by decide +kernel
theorem D_O_errorOfTelling_4 : decode m_O_errorOfTelling.2.1 4 = .ok (.iload_n 1, 1) := by decide +kernel
theorem D_O_errorOfTelling_5 : decode m_O_errorOfTelling.2.1 5 = .ok (.iload_n 2, 1) := by decide +kernel
theorem D_O_errorOfTelling_6 : decode m_O_errorOfTelling.2.1 6 = .ok (.invokevirtual 128, 3) := by decide +kernel
theorem D_O_errorOfTelling_9 : decode m_O_errorOfTelling.2.1 9 = .ok (.ifCond .ne 5, 3) := by decide +kernel
theorem D_O_errorOfTelling_12 : decode m_O_errorOfTelling.2.1 12 = .ok (.iconst (-1), 1) := by decide +kernel
theorem D_O_errorOfTelling_13 : decode m_O_errorOfTelling.2.1 13 = .ok (.ireturn, 1) := by decide +kernel
theorem D_O_errorOfTelling_14 : decode m_O_errorOfTelling.2.1 14 = .ok (.iload_n 3, 1) := by decide +kernel
theorem D_O_errorOfTelling_15 : decode m_O_errorOfTelling.2.1 15 = .ok (.iconst 0, 1) := by decide +kernel
theorem D_O_errorOfTelling_16 : decode m_O_errorOfTelling.2.1 16 = .ok (.aload_n 0, 1) := by decide +kernel
theorem D_O_errorOfTelling_17 : decode m_O_errorOfTelling.2.1 17 = .ok (.getfield 10, 3) := by decide +kernel
theorem D_O_errorOfTelling_20 : decode m_O_errorOfTelling.2.1 20 = .ok (.invokevirtual 119, 3) := by decide +kernel
theorem D_O_errorOfTelling_23 : decode m_O_errorOfTelling.2.1 23 = .ok (.iconst 1, 1) := by decide +kernel
theorem D_O_errorOfTelling_24 : decode m_O_errorOfTelling.2.1 24 = .ok (.isub, 1) := by decide +kernel
theorem D_O_errorOfTelling_25 : decode m_O_errorOfTelling.2.1 25 = .ok (.invokestatic 61, 3) := by decide +kernel
theorem D_O_errorOfTelling_28 : decode m_O_errorOfTelling.2.1 28 = .ok (.ifCond .eq 8, 3) := by decide +kernel
theorem D_O_errorOfTelling_31 : decode m_O_errorOfTelling.2.1 31 = .ok (.bipush (-2), 2) := by decide +kernel
theorem D_O_errorOfTelling_33 : decode m_O_errorOfTelling.2.1 33 = .ok (.goto 4, 3) := by decide +kernel
theorem D_O_errorOfTelling_36 : decode m_O_errorOfTelling.2.1 36 = .ok (.iconst 0, 1) := by decide +kernel
theorem D_O_errorOfTelling_37 : decode m_O_errorOfTelling.2.1 37 = .ok (.ireturn, 1) := by decide +kernel
theorem D_O_isOutside_0 : decode m_O_isOutside.2.1 0 = .ok (.iload_n 0, 1) := by decide +kernel
theorem D_O_isOutside_1 : decode m_O_isOutside.2.1 1 = .ok (.iload_n 1, 1) := by decide +kernel
theorem D_O_isOutside_2 : decode m_O_isOutside.2.1 2 = .ok (.if_icmp .lt 8, 3) := by decide +kernel
theorem D_O_isOutside_5 : decode m_O_isOutside.2.1 5 = .ok (.iload_n 0, 1) := by decide +kernel
theorem D_O_isOutside_6 : decode m_O_isOutside.2.1 6 = .ok (.iload_n 2, 1) := by decide +kernel
theorem D_O_isOutside_7 : decode m_O_isOutside.2.1 7 = .ok (.if_icmp .le 7, 3) := by decide +kernel
theorem D_O_isOutside_10 : decode m_O_isOutside.2.1 10 = .ok (.iconst 1, 1) := by decide +kernel
theorem D_O_isOutside_11 : decode m_O_isOutside.2.1 11 = .ok (.goto 4, 3) := by decide +kernel
theorem D_O_isOutside_14 : decode m_O_isOutside.2.1 14 = .ok (.iconst 0, 1) := by decide +kernel
theorem D_O_isOutside_15 : decode m_O_isOutside.2.1 15 = .ok (.ireturn, 1) := by decide +kernel
theorem D_O_isModulus_0 : decode m_O_isModulus.2.1 0 = .ok (.iload_n 0, 1) := by decide +kernel
theorem D_O_isModulus_1 : decode m_O_isModulus.2.1 1 = .ok (.iconst 5, 1) := by decide +kernel
theorem D_O_isModulus_2 : decode m_O_isModulus.2.1 2 = .ok (.if_icmp .eq 21, 3) := by decide +kernel
theorem D_O_isModulus_5 : decode m_O_isModulus.2.1 5 = .ok (.iload_n 0, 1) := by decide +kernel
theorem D_O_isModulus_6 : decode m_O_isModulus.2.1 6 = .ok (.bipush 7, 2) := by decide +kernel
theorem D_O_isModulus_8 : decode m_O_isModulus.2.1 8 = .ok (.if_icmp .eq 15, 3) := by decide +kernel
theorem D_O_isModulus_11 : decode m_O_isModulus.2.1 11 = .ok (.iload_n 0, 1) := by decide +kernel
theorem D_O_isModulus_12 : decode m_O_isModulus.2.1 12 = .ok (.bipush 11, 2) := by decide +kernel
theorem D_O_isModulus_14 : decode m_O_isModulus.2.1 14 = .ok (.if_icmp .eq 9, 3) := by decide +kernel
theorem D_O_isModulus_17 : decode m_O_isModulus.2.1 17 = .ok (.iload_n 0, 1) := by decide +kernel
theorem D_O_isModulus_18 : decode m_O_isModulus.2.1 18 = .ok (.bipush 13, 2) := by decide +kernel
theorem D_O_isModulus_20 : decode m_O_isModulus.2.1 20 = .ok (.if_icmp .ne 7, 3) := by decide +kernel
theorem D_O_isModulus_23 : decode m_O_isModulus.2.1 23 = .ok (.iconst 1, 1) := by decide +kernel
theorem D_O_isModulus_24 : decode m_O_isModulus.2.1 24 = .ok (.goto 4, 3) := by decide +kernel
theorem D_O_isModulus_27 : decode m_O_isModulus.2.1 27 = .ok (.iconst 0, 1) := by decide +kernel
theorem D_O_isModulus_28 : decode m_O_isModulus.2.1 28 = .ok (.ireturn, 1) := by decide +kernel
theorem D_O_holds_0 : decode m_O_holds.2.1 0 = .ok (.iload_n 0, 1) := by decide +kernel
theorem D_O_holds_1 : decode m_O_holds.2.1 1 = .ok (.iload_n 1, 1) := by decide +kernel
theorem D_O_holds_2 : decode m_O_holds.2.1 2 = .ok (.ishr, 1) := by decide +kernel
theorem D_O_holds_3 : decode m_O_holds.2.1 3 = .ok (.iconst 1, 1) := by decide +kernel
theorem D_O_holds_4 : decode m_O_holds.2.1 4 = .ok (.iand, 1) := by decide +kernel
theorem D_O_holds_5 : decode m_O_holds.2.1 5 = .ok (.ifCond .eq 7, 3) := by decide +kernel
theorem D_O_holds_8 : decode m_O_holds.2.1 8 = .ok (.iconst 1, 1) := by decide +kernel
theorem D_O_holds_9 : decode m_O_holds.2.1 9 = .ok (.goto 4, 3) := by decide +kernel
theorem D_O_holds_12 : decode m_O_holds.2.1 12 = .ok (.iconst 0, 1) := by decide +kernel
theorem D_O_holds_13 : decode m_O_holds.2.1 13 = .ok (.ireturn, 1) := by decide +kernel
theorem D_Int_bitCount_0 : decode m_Int_bitCount.2.1 0 = .ok (.iload_n 0, 1) := by decide +kernel
theorem D_Int_bitCount_1 : decode m_Int_bitCount.2.1 1 = .ok (.iload_n 0, 1) := by decide +kernel
theorem D_Int_bitCount_2 : decode m_Int_bitCount.2.1 2 = .ok (.iconst 1, 1) := by decide +kernel
theorem D_Int_bitCount_3 : decode m_Int_bitCount.2.1 3 = .ok (.iushr, 1) := by decide +kernel
theorem D_Int_bitCount_4 : decode m_Int_bitCount.2.1 4 = .ok (.ldc_w 265, 3) := by decide +kernel
theorem D_Int_bitCount_7 : decode m_Int_bitCount.2.1 7 = .ok (.iand, 1) := by decide +kernel
theorem D_Int_bitCount_8 : decode m_Int_bitCount.2.1 8 = .ok (.isub, 1) := by decide +kernel
theorem D_Int_bitCount_9 : decode m_Int_bitCount.2.1 9 = .ok (.istore_n 0, 1) := by decide +kernel
theorem D_Int_bitCount_10 : decode m_Int_bitCount.2.1 10 = .ok (.iload_n 0, 1) := by decide +kernel
theorem D_Int_bitCount_11 : decode m_Int_bitCount.2.1 11 = .ok (.ldc_w 266, 3) := by decide +kernel
theorem D_Int_bitCount_14 : decode m_Int_bitCount.2.1 14 = .ok (.iand, 1) := by decide +kernel
theorem D_Int_bitCount_15 : decode m_Int_bitCount.2.1 15 = .ok (.iload_n 0, 1) := by decide +kernel
theorem D_Int_bitCount_16 : decode m_Int_bitCount.2.1 16 = .ok (.iconst 2, 1) := by decide +kernel
theorem D_Int_bitCount_17 : decode m_Int_bitCount.2.1 17 = .ok (.iushr, 1) := by decide +kernel
theorem D_Int_bitCount_18 : decode m_Int_bitCount.2.1 18 = .ok (.ldc_w 266, 3) := by decide +kernel
theorem D_Int_bitCount_21 : decode m_Int_bitCount.2.1 21 = .ok (.iand, 1) := by decide +kernel
theorem D_Int_bitCount_22 : decode m_Int_bitCount.2.1 22 = .ok (.iadd, 1) := by decide +kernel
theorem D_Int_bitCount_23 : decode m_Int_bitCount.2.1 23 = .ok (.istore_n 0, 1) := by decide +kernel
theorem D_Int_bitCount_24 : decode m_Int_bitCount.2.1 24 = .ok (.iload_n 0, 1) := by decide +kernel
theorem D_Int_bitCount_25 : decode m_Int_bitCount.2.1 25 = .ok (.iload_n 0, 1) := by decide +kernel
theorem D_Int_bitCount_26 : decode m_Int_bitCount.2.1 26 = .ok (.iconst 4, 1) := by decide +kernel
theorem D_Int_bitCount_27 : decode m_Int_bitCount.2.1 27 = .ok (.iushr, 1) := by decide +kernel
theorem D_Int_bitCount_28 : decode m_Int_bitCount.2.1 28 = .ok (.iadd, 1) := by decide +kernel
theorem D_Int_bitCount_29 : decode m_Int_bitCount.2.1 29 = .ok (.ldc_w 267, 3) := by decide +kernel
theorem D_Int_bitCount_32 : decode m_Int_bitCount.2.1 32 = .ok (.iand, 1) := by decide +kernel
theorem D_Int_bitCount_33 : decode m_Int_bitCount.2.1 33 = .ok (.istore_n 0, 1) := by decide +kernel
theorem D_Int_bitCount_34 : decode m_Int_bitCount.2.1 34 = .ok (.iload_n 0, 1) := by decide +kernel
theorem D_Int_bitCount_35 : decode m_Int_bitCount.2.1 35 = .ok (.iload_n 0, 1) := by decide +kernel
theorem D_Int_bitCount_36 : decode m_Int_bitCount.2.1 36 = .ok (.bipush 8, 2) := by decide +kernel
theorem D_Int_bitCount_38 : decode m_Int_bitCount.2.1 38 = .ok (.iushr, 1) := by decide +kernel
theorem D_Int_bitCount_39 : decode m_Int_bitCount.2.1 39 = .ok (.iadd, 1) := by decide +kernel
theorem D_Int_bitCount_40 : decode m_Int_bitCount.2.1 40 = .ok (.istore_n 0, 1) := by decide +kernel
theorem D_Int_bitCount_41 : decode m_Int_bitCount.2.1 41 = .ok (.iload_n 0, 1) := by decide +kernel
theorem D_Int_bitCount_42 : decode m_Int_bitCount.2.1 42 = .ok (.iload_n 0, 1) := by decide +kernel
theorem D_Int_bitCount_43 : decode m_Int_bitCount.2.1 43 = .ok (.bipush 16, 2) := by decide +kernel
theorem D_Int_bitCount_45 : decode m_Int_bitCount.2.1 45 = .ok (.iushr, 1) := by decide +kernel
theorem D_Int_bitCount_46 : decode m_Int_bitCount.2.1 46 = .ok (.iadd, 1) := by decide +kernel
theorem D_Int_bitCount_47 : decode m_Int_bitCount.2.1 47 = .ok (.istore_n 0, 1) := by decide +kernel
theorem D_Int_bitCount_48 : decode m_Int_bitCount.2.1 48 = .ok (.iload_n 0, 1) := by decide +kernel
theorem D_Int_bitCount_49 : decode m_Int_bitCount.2.1 49 = .ok (.bipush 63, 2) := by decide +kernel
theorem D_Int_bitCount_51 : decode m_Int_bitCount.2.1 51 = .ok (.iand, 1) := by decide +kernel
theorem D_Int_bitCount_52 : decode m_Int_bitCount.2.1 52 = .ok (.ireturn, 1) := by decide +kernel
theorem D_Math_max_0 : decode m_Math_max.2.1 0 = .ok (.iload_n 0, 1) := by decide +kernel
theorem D_Math_max_1 : decode m_Math_max.2.1 1 = .ok (.iload_n 1, 1) := by decide +kernel
theorem D_Math_max_2 : decode m_Math_max.2.1 2 = .ok (.if_icmp .lt 7, 3) := by decide +kernel
theorem D_Math_max_5 : decode m_Math_max.2.1 5 = .ok (.iload_n 0, 1) := by decide +kernel
theorem D_Math_max_6 : decode m_Math_max.2.1 6 = .ok (.goto 4, 3) := by decide +kernel
theorem D_Math_max_9 : decode m_Math_max.2.1 9 = .ok (.iload_n 1, 1) := by decide +kernel
theorem D_Math_max_10 : decode m_Math_max.2.1 10 = .ok (.ireturn, 1) := by decide +kernel
end
section
/-! ===== printed by wip/whole/links.py: each instruction, decoded ===== -/
theorem D_M_init_0 : decode m_M_init.2.1 0 = .ok (.aload_n 0, 1) := by decide +kernel
theorem D_M_init_1 : decode m_M_init.2.1 1 = .ok (.invokespecial 1, 3) := by decide +kernel
theorem D_M_init_4 : decode m_M_init.2.1 4 = .ok (.aload_n 0, 1) := by decide +kernel
theorem D_M_init_5 : decode m_M_init.2.1 5 = .ok (.bipush 39, 2) := by decide +kernel
theorem D_M_init_7 : decode m_M_init.2.1 7 = .ok (.newarray .int, 2) := by decide +kernel
theorem D_M_init_9 : decode m_M_init.2.1 9 = .ok (.putfield 7, 3) := by decide +kernel
theorem D_M_init_12 : decode m_M_init.2.1 12 = .ok (.aload_n 0, 1) := by decide +kernel
theorem D_M_init_13 : decode m_M_init.2.1 13 = .ok (.sipush 234, 3) := by decide +kernel
theorem D_M_init_16 : decode m_M_init.2.1 16 = .ok (.newarray .int, 2) := by decide +kernel
theorem D_M_init_18 : decode m_M_init.2.1 18 = .ok (.putfield 13, 3) := by decide +kernel
theorem D_M_init_21 : decode m_M_init.2.1 21 = .ok (.aload_n 0, 1) := by decide +kernel
theorem D_M_init_22 : decode m_M_init.2.1 22 = .ok (.bipush 78, 2) := by decide +kernel
theorem D_M_init_24 : decode m_M_init.2.1 24 = .ok (.newarray .int, 2) := by decide +kernel
theorem D_M_init_26 : decode m_M_init.2.1 26 = .ok (.putfield 16, 3) := by decide +kernel
theorem D_M_init_29 : decode m_M_init.2.1 29 = .ok (.aload_n 0, 1) := by decide +kernel
theorem D_M_init_30 : decode m_M_init.2.1 30 = .ok (.iconst 2, 1) := by decide +kernel
theorem D_M_init_31 : decode m_M_init.2.1 31 = .ok (.newarray .boolean, 2) := by decide +kernel
theorem D_M_init_33 : decode m_M_init.2.1 33 = .ok (.putfield 19, 3) := by decide +kernel
theorem D_M_init_36 : decode m_M_init.2.1 36 = .ok (.aload_n 0, 1) := by decide +kernel
theorem D_M_init_37 : decode m_M_init.2.1 37 = .ok (.bipush 50, 2) := by decide +kernel
theorem D_M_init_39 : decode m_M_init.2.1 39 = .ok (.newarray .char, 2) := by decide +kernel
theorem D_M_init_41 : decode m_M_init.2.1 41 = .ok (.putfield 23, 3) := by decide +kernel
theorem D_M_init_44 : decode m_M_init.2.1 44 = .ok (.aload_n 0, 1) := by decide +kernel
theorem D_M_init_45 : decode m_M_init.2.1 45 = .ok (.bipush 6, 2) := by decide +kernel
theorem D_M_init_47 : decode m_M_init.2.1 47 = .ok (.newarray .int, 2) := by decide +kernel
theorem D_M_init_49 : decode m_M_init.2.1 49 = .ok (.putfield 27, 3) := by decide +kernel
theorem D_M_init_52 : decode m_M_init.2.1 52 = .ok (.aload_n 0, 1) := by decide +kernel
theorem D_M_init_53 : decode m_M_init.2.1 53 = .ok (.bipush 6, 2) := by decide +kernel
theorem D_M_init_55 : decode m_M_init.2.1 55 = .ok (.newarray .int, 2) := by decide +kernel
theorem D_M_init_57 : decode m_M_init.2.1 57 = .ok (.putfield 30, 3) := by decide +kernel
theorem D_M_init_60 : decode m_M_init.2.1 60 = .ok (.aload_n 0, 1) := by decide +kernel
theorem D_M_init_61 : decode m_M_init.2.1 61 = .ok (.bipush 6, 2) := by decide +kernel
theorem D_M_init_63 : decode m_M_init.2.1 63 = .ok (.newarray .int, 2) := by decide +kernel
theorem D_M_init_65 : decode m_M_init.2.1 65 = .ok (.putfield 33, 3) := by decide +kernel
theorem D_M_init_68 : decode m_M_init.2.1 68 = .ok (.aload_n 0, 1) := by decide +kernel
theorem D_M_init_69 : decode m_M_init.2.1 69 = .ok (.bipush 6, 2) := by decide +kernel
theorem D_M_init_71 : decode m_M_init.2.1 71 = .ok (.newarray .int, 2) := by decide +kernel
theorem D_M_init_73 : decode m_M_init.2.1 73 = .ok (.putfield 36, 3) := by decide +kernel
theorem D_M_init_76 : decode m_M_init.2.1 76 = .ok (.aload_n 0, 1) := by decide +kernel
theorem D_M_init_77 : decode m_M_init.2.1 77 = .ok (.bipush 36, 2) := by decide +kernel
theorem D_M_init_79 : decode m_M_init.2.1 79 = .ok (.newarray .int, 2) := by decide +kernel
theorem D_M_init_81 : decode m_M_init.2.1 81 = .ok (.putfield 39, 3) := by decide +kernel
theorem D_M_init_84 : decode m_M_init.2.1 84 = .ok (.aload_n 0, 1) := by decide +kernel
theorem D_M_init_85 : decode m_M_init.2.1 85 = .ok (.bipush 12, 2) := by decide +kernel
theorem D_M_init_87 : decode m_M_init.2.1 87 = .ok (.newarray .int, 2) := by decide +kernel
theorem D_M_init_89 : decode m_M_init.2.1 89 = .ok (.putfield 42, 3) := by decide +kernel
theorem D_M_init_92 : decode m_M_init.2.1 92 = .ok (.aload_n 0, 1) := by decide +kernel
theorem D_M_init_93 : decode m_M_init.2.1 93 = .ok (.bipush 36, 2) := by decide +kernel
theorem D_M_init_95 : decode m_M_init.2.1 95 = .ok (.newarray .int, 2) := by decide +kernel
theorem D_M_init_97 : decode m_M_init.2.1 97 = .ok (.putfield 45, 3) := by decide +kernel
theorem D_M_init_100 : decode m_M_init.2.1 100 = .ok (.aload_n 0, 1) := by decide +kernel
theorem D_M_init_101 : decode m_M_init.2.1 101 = .ok (.getfield 7, 3) := by decide +kernel
theorem D_M_init_104 : decode m_M_init.2.1 104 = .ok (.bipush 36, 2) := by decide +kernel
theorem D_M_init_106 : decode m_M_init.2.1 106 = .ok (.iconst 3, 1) := by decide +kernel
theorem D_M_init_107 : decode m_M_init.2.1 107 = .ok (.iastore, 1) := by decide +kernel
theorem D_M_init_108 : decode m_M_init.2.1 108 = .ok (.aload_n 0, 1) := by decide +kernel
theorem D_M_init_109 : decode m_M_init.2.1 109 = .ok (.getfield 7, 3) := by decide +kernel
theorem D_M_init_112 : decode m_M_init.2.1 112 = .ok (.bipush 37, 2) := by decide +kernel
theorem D_M_init_114 : decode m_M_init.2.1 114 = .ok (.iconst 3, 1) := by decide +kernel
theorem D_M_init_115 : decode m_M_init.2.1 115 = .ok (.iastore, 1) := by decide +kernel
theorem D_M_init_116 : decode m_M_init.2.1 116 = .ok (.aload_n 0, 1) := by decide +kernel
theorem D_M_init_117 : decode m_M_init.2.1 117 = .ok (.getfield 7, 3) := by decide +kernel
theorem D_M_init_120 : decode m_M_init.2.1 120 = .ok (.bipush 38, 2) := by decide +kernel
theorem D_M_init_122 : decode m_M_init.2.1 122 = .ok (.bipush 7, 2) := by decide +kernel
theorem D_M_init_124 : decode m_M_init.2.1 124 = .ok (.iastore, 1) := by decide +kernel
theorem D_M_init_125 : decode m_M_init.2.1 125 = .ok (.return_, 1) := by decide +kernel
theorem D_M_in_0 : decode m_M_in.2.1 0 = .ok (.iload_n 0, 1) := by decide +kernel
theorem D_M_in_1 : decode m_M_in.2.1 1 = .ok (.iload_n 1, 1) := by decide +kernel
theorem D_M_in_2 : decode m_M_in.2.1 2 = .ok (.if_icmp .lt 12, 3) := by decide +kernel
theorem D_M_in_5 : decode m_M_in.2.1 5 = .ok (.iload_n 0, 1) := by decide +kernel
theorem D_M_in_6 : decode m_M_in.2.1 6 = .ok (.iload_n 2, 1) := by decide +kernel
theorem D_M_in_7 : decode m_M_in.2.1 7 = .ok (.if_icmp .gt 7, 3) := by decide +kernel
theorem D_M_in_10 : decode m_M_in.2.1 10 = .ok (.iconst 1, 1) := by decide +kernel
theorem D_M_in_11 : decode m_M_in.2.1 11 = .ok (.goto 4, 3) := by decide +kernel
theorem D_M_in_14 : decode m_M_in.2.1 14 = .ok (.iconst 0, 1) := by decide +kernel
theorem D_M_in_15 : decode m_M_in.2.1 15 = .ok (.ireturn, 1) := by decide +kernel
theorem D_M_isEntry_0 : decode m_M_isEntry.2.1 0 = .ok (.iload_n 1, 1) := by decide +kernel
theorem D_M_isEntry_1 : decode m_M_isEntry.2.1 1 = .ok (.ifCond .lt 33, 3) := by decide +kernel
theorem D_M_isEntry_4 : decode m_M_isEntry.2.1 4 = .ok (.iload_n 1, 1) := by decide +kernel
theorem D_M_isEntry_5 : decode m_M_isEntry.2.1 5 = .ok (.aload_n 0, 1) := by decide +kernel
theorem D_M_isEntry_6 : decode m_M_isEntry.2.1 6 = .ok (.getfield 7, 3) := by decide +kernel
theorem D_M_isEntry_9 : decode m_M_isEntry.2.1 9 = .ok (.bipush 36, 2) := by decide +kernel
theorem D_M_isEntry_11 : decode m_M_isEntry.2.1 11 = .ok (.iaload, 1) := by decide +kernel
theorem D_M_isEntry_12 : decode m_M_isEntry.2.1 12 = .ok (.if_icmp .ge 22, 3) := by decide +kernel
theorem D_M_isEntry_15 : decode m_M_isEntry.2.1 15 = .ok (.iload_n 2, 1) := by decide +kernel
theorem D_M_isEntry_16 : decode m_M_isEntry.2.1 16 = .ok (.ifCond .lt 18, 3) := by decide +kernel
theorem D_M_isEntry_19 : decode m_M_isEntry.2.1 19 = .ok (.iload_n 2, 1) := by decide +kernel
theorem D_M_isEntry_20 : decode m_M_isEntry.2.1 20 = .ok (.aload_n 0, 1) := by decide +kernel
theorem D_M_isEntry_21 : decode m_M_isEntry.2.1 21 = .ok (.getfield 7, 3) := by decide +kernel
theorem D_M_isEntry_24 : decode m_M_isEntry.2.1 24 = .ok (.bipush 37, 2) := by decide +kernel
theorem D_M_isEntry_26 : decode m_M_isEntry.2.1 26 = .ok (.iaload, 1) := by decide +kernel
theorem D_M_isEntry_27 : decode m_M_isEntry.2.1 27 = .ok (.if_icmp .ge 7, 3) := by decide +kernel
theorem D_M_isEntry_30 : decode m_M_isEntry.2.1 30 = .ok (.iconst 1, 1) := by decide +kernel
theorem D_M_isEntry_31 : decode m_M_isEntry.2.1 31 = .ok (.goto 4, 3) := by decide +kernel
theorem D_M_isEntry_34 : decode m_M_isEntry.2.1 34 = .ok (.iconst 0, 1) := by decide +kernel
theorem D_M_isEntry_35 : decode m_M_isEntry.2.1 35 = .ok (.ireturn, 1) := by decide +kernel
theorem D_M_record_0 : decode m_M_record.2.1 0 = .ok (.aload_n 0, 1) := by decide +kernel
theorem D_M_record_1 : decode m_M_record.2.1 1 = .ok (.getfield 48, 3) := by decide +kernel
theorem D_M_record_4 : decode m_M_record.2.1 4 = .ok (.bipush 6, 2) := by decide +kernel
theorem D_M_record_6 : decode m_M_record.2.1 6 = .ok (.if_icmp .ne 43, 3) := by decide +kernel
theorem D_M_record_9 : decode m_M_record.2.1 9 = .ok (.iconst 0, 1) := by decide +kernel
theorem D_M_record_10 : decode m_M_record.2.1 10 = .ok (.istore_n 1, 1) := by decide +kernel
theorem D_M_record_11 : decode m_M_record.2.1 11 = .ok (.iload_n 1, 1) := by decide +kernel
theorem D_M_record_12 : decode m_M_record.2.1 12 = .ok (.sipush 195, 3) := by decide +kernel
theorem D_M_record_15 : decode m_M_record.2.1 15 = .ok (.if_icmp .ge 24, 3) := by decide +kernel
theorem D_M_record_18 : decode m_M_record.2.1 18 = .ok (.aload_n 0, 1) := by decide +kernel
theorem D_M_record_19 : decode m_M_record.2.1 19 = .ok (.getfield 13, 3) := by decide +kernel
theorem D_M_record_22 : decode m_M_record.2.1 22 = .ok (.iload_n 1, 1) := by decide +kernel
theorem D_M_record_23 : decode m_M_record.2.1 23 = .ok (.aload_n 0, 1) := by decide +kernel
theorem D_M_record_24 : decode m_M_record.2.1 24 = .ok (.getfield 13, 3) := by decide +kernel
theorem D_M_record_27 : decode m_M_record.2.1 27 = .ok (.iload_n 1, 1) := by decide +kernel
theorem D_M_record_28 : decode m_M_record.2.1 28 = .ok (.bipush 39, 2) := by decide +kernel
theorem D_M_record_30 : decode m_M_record.2.1 30 = .ok (.iadd, 1) := by decide +kernel
theorem D_M_record_31 : decode m_M_record.2.1 31 = .ok (.iaload, 1) := by decide +kernel
theorem D_M_record_32 : decode m_M_record.2.1 32 = .ok (.iastore, 1) := by decide +kernel
theorem D_M_record_33 : decode m_M_record.2.1 33 = .ok (.iinc 1 1, 3) := by decide +kernel
theorem D_M_record_36 : decode m_M_record.2.1 36 = .ok (.goto (-25), 3) := by decide +kernel
theorem D_M_record_39 : decode m_M_record.2.1 39 = .ok (.aload_n 0, 1) := by decide +kernel
theorem D_M_record_40 : decode m_M_record.2.1 40 = .ok (.dup, 1) := by decide +kernel
theorem D_M_record_41 : decode m_M_record.2.1 41 = .ok (.getfield 48, 3) := by decide +kernel
theorem D_M_record_44 : decode m_M_record.2.1 44 = .ok (.iconst 1, 1) := by decide +kernel
theorem D_M_record_45 : decode m_M_record.2.1 45 = .ok (.isub, 1) := by decide +kernel
theorem D_M_record_46 : decode m_M_record.2.1 46 = .ok (.putfield 48, 3) := by decide +kernel
theorem D_M_record_49 : decode m_M_record.2.1 49 = .ok (.iconst 0, 1) := by decide +kernel
theorem D_M_record_50 : decode m_M_record.2.1 50 = .ok (.istore_n 1, 1) := by decide +kernel
theorem D_M_record_51 : decode m_M_record.2.1 51 = .ok (.iload_n 1, 1) := by decide +kernel
theorem D_M_record_52 : decode m_M_record.2.1 52 = .ok (.bipush 39, 2) := by decide +kernel
theorem D_M_record_54 : decode m_M_record.2.1 54 = .ok (.if_icmp .ge 29, 3) := by decide +kernel
theorem D_M_record_57 : decode m_M_record.2.1 57 = .ok (.aload_n 0, 1) := by decide +kernel
theorem D_M_record_58 : decode m_M_record.2.1 58 = .ok (.getfield 13, 3) := by decide +kernel
theorem D_M_record_61 : decode m_M_record.2.1 61 = .ok (.aload_n 0, 1) := by decide +kernel
theorem D_M_record_62 : decode m_M_record.2.1 62 = .ok (.getfield 48, 3) := by decide +kernel
theorem D_M_record_65 : decode m_M_record.2.1 65 = .ok (.bipush 39, 2) := by decide +kernel
theorem D_M_record_67 : decode m_M_record.2.1 67 = .ok (.imul, 1) := by decide +kernel
theorem D_M_record_68 : decode m_M_record.2.1 68 = .ok (.iload_n 1, 1) := by decide +kernel
theorem D_M_record_69 : decode m_M_record.2.1 69 = .ok (.iadd, 1) := by decide +kernel
theorem D_M_record_70 : decode m_M_record.2.1 70 = .ok (.aload_n 0, 1) := by decide +kernel
theorem D_M_record_71 : decode m_M_record.2.1 71 = .ok (.getfield 7, 3) := by decide +kernel
theorem D_M_record_74 : decode m_M_record.2.1 74 = .ok (.iload_n 1, 1) := by decide +kernel
theorem D_M_record_75 : decode m_M_record.2.1 75 = .ok (.iaload, 1) := by decide +kernel
theorem D_M_record_76 : decode m_M_record.2.1 76 = .ok (.iastore, 1) := by decide +kernel
theorem D_M_record_77 : decode m_M_record.2.1 77 = .ok (.iinc 1 1, 3) := by decide +kernel
theorem D_M_record_80 : decode m_M_record.2.1 80 = .ok (.goto (-29), 3) := by decide +kernel
theorem D_M_record_83 : decode m_M_record.2.1 83 = .ok (.aload_n 0, 1) := by decide +kernel
theorem D_M_record_84 : decode m_M_record.2.1 84 = .ok (.dup, 1) := by decide +kernel
theorem D_M_record_85 : decode m_M_record.2.1 85 = .ok (.getfield 48, 3) := by decide +kernel
theorem D_M_record_88 : decode m_M_record.2.1 88 = .ok (.iconst 1, 1) := by decide +kernel
theorem D_M_record_89 : decode m_M_record.2.1 89 = .ok (.iadd, 1) := by decide +kernel
theorem D_M_record_90 : decode m_M_record.2.1 90 = .ok (.putfield 48, 3) := by decide +kernel
theorem D_M_record_93 : decode m_M_record.2.1 93 = .ok (.return_, 1) := by decide +kernel
theorem D_M_undo_0 : decode m_M_undo.2.1 0 = .ok (.aload_n 0, 1) := by decide +kernel
theorem D_M_undo_1 : decode m_M_undo.2.1 1 = .ok (.getfield 48, 3) := by decide +kernel
theorem D_M_undo_4 : decode m_M_undo.2.1 4 = .ok (.ifCond .ne 6, 3) := by decide +kernel
theorem D_M_undo_7 : decode m_M_undo.2.1 7 = .ok (.bipush (-5), 2) := by decide +kernel
theorem D_M_undo_9 : decode m_M_undo.2.1 9 = .ok (.ireturn, 1) := by decide +kernel
theorem D_M_undo_10 : decode m_M_undo.2.1 10 = .ok (.aload_n 0, 1) := by decide +kernel
theorem D_M_undo_11 : decode m_M_undo.2.1 11 = .ok (.dup, 1) := by decide +kernel
theorem D_M_undo_12 : decode m_M_undo.2.1 12 = .ok (.getfield 48, 3) := by decide +kernel
theorem D_M_undo_15 : decode m_M_undo.2.1 15 = .ok (.iconst 1, 1) := by decide +kernel
theorem D_M_undo_16 : decode m_M_undo.2.1 16 = .ok (.isub, 1) := by decide +kernel
theorem D_M_undo_17 : decode m_M_undo.2.1 17 = .ok (.putfield 48, 3) := by decide +kernel
theorem D_M_undo_20 : decode m_M_undo.2.1 20 = .ok (.iconst 0, 1) := by decide +kernel
theorem D_M_undo_21 : decode m_M_undo.2.1 21 = .ok (.istore_n 1, 1) := by decide +kernel
theorem D_M_undo_22 : decode m_M_undo.2.1 22 = .ok (.iload_n 1, 1) := by decide +kernel
theorem D_M_undo_23 : decode m_M_undo.2.1 23 = .ok (.bipush 39, 2) := by decide +kernel
theorem D_M_undo_25 : decode m_M_undo.2.1 25 = .ok (.if_icmp .ge 29, 3) := by decide +kernel
theorem D_M_undo_28 : decode m_M_undo.2.1 28 = .ok (.aload_n 0, 1) := by decide +kernel
theorem D_M_undo_29 : decode m_M_undo.2.1 29 = .ok (.getfield 7, 3) := by decide +kernel
theorem D_M_undo_32 : decode m_M_undo.2.1 32 = .ok (.iload_n 1, 1) := by decide +kernel
theorem D_M_undo_33 : decode m_M_undo.2.1 33 = .ok (.aload_n 0, 1) := by decide +kernel
theorem D_M_undo_34 : decode m_M_undo.2.1 34 = .ok (.getfield 13, 3) := by decide +kernel
theorem D_M_undo_37 : decode m_M_undo.2.1 37 = .ok (.aload_n 0, 1) := by decide +kernel
theorem D_M_undo_38 : decode m_M_undo.2.1 38 = .ok (.getfield 48, 3) := by decide +kernel
theorem D_M_undo_41 : decode m_M_undo.2.1 41 = .ok (.bipush 39, 2) := by decide +kernel
theorem D_M_undo_43 : decode m_M_undo.2.1 43 = .ok (.imul, 1) := by decide +kernel
theorem D_M_undo_44 : decode m_M_undo.2.1 44 = .ok (.iload_n 1, 1) := by decide +kernel
theorem D_M_undo_45 : decode m_M_undo.2.1 45 = .ok (.iadd, 1) := by decide +kernel
theorem D_M_undo_46 : decode m_M_undo.2.1 46 = .ok (.iaload, 1) := by decide +kernel
theorem D_M_undo_47 : decode m_M_undo.2.1 47 = .ok (.iastore, 1) := by decide +kernel
theorem D_M_undo_48 : decode m_M_undo.2.1 48 = .ok (.iinc 1 1, 3) := by decide +kernel
theorem D_M_undo_51 : decode m_M_undo.2.1 51 = .ok (.goto (-29), 3) := by decide +kernel
theorem D_M_undo_54 : decode m_M_undo.2.1 54 = .ok (.aload_n 0, 1) := by decide +kernel
theorem D_M_undo_55 : decode m_M_undo.2.1 55 = .ok (.getfield 48, 3) := by decide +kernel
theorem D_M_undo_58 : decode m_M_undo.2.1 58 = .ok (.ireturn, 1) := by decide +kernel
theorem D_M_toldMany_0 : decode m_M_toldMany.2.1 0 = .ok (.iconst 0, 1) := by decide +kernel
theorem D_M_toldMany_1 : decode m_M_toldMany.2.1 1 = .ok (.istore_n 1, 1) := by decide +kernel
theorem D_M_toldMany_2 : decode m_M_toldMany.2.1 2 = .ok (.iconst 0, 1) := by decide +kernel
theorem D_M_toldMany_3 : decode m_M_toldMany.2.1 3 = .ok (.istore_n 2, 1) := by decide +kernel
theorem D_M_toldMany_4 : decode m_M_toldMany.2.1 4 = .ok (.iload_n 2, 1) := by decide +kernel
theorem D_M_toldMany_5 : decode m_M_toldMany.2.1 5 = .ok (.bipush 36, 2) := by decide +kernel
theorem D_M_toldMany_7 : decode m_M_toldMany.2.1 7 = .ok (.if_icmp .ge 26, 3) := by decide +kernel
theorem D_M_toldMany_10 : decode m_M_toldMany.2.1 10 = .ok (.iload_n 1, 1) := by decide +kernel
theorem D_M_toldMany_11 : decode m_M_toldMany.2.1 11 = .ok (.aload_n 0, 1) := by decide +kernel
theorem D_M_toldMany_12 : decode m_M_toldMany.2.1 12 = .ok (.getfield 7, 3) := by decide +kernel
theorem D_M_toldMany_15 : decode m_M_toldMany.2.1 15 = .ok (.iload_n 2, 1) := by decide +kernel
theorem D_M_toldMany_16 : decode m_M_toldMany.2.1 16 = .ok (.iaload, 1) := by decide +kernel
theorem D_M_toldMany_17 : decode m_M_toldMany.2.1 17 = .ok (.ifCond .le 7, 3) := by decide +kernel
theorem D_M_toldMany_20 : decode m_M_toldMany.2.1 20 = .ok (.iconst 1, 1) := by decide +kernel
theorem D_M_toldMany_21 : decode m_M_toldMany.2.1 21 = .ok (.goto 4, 3) := by decide +kernel
theorem D_M_toldMany_24 : decode m_M_toldMany.2.1 24 = .ok (.iconst 0, 1) := by decide +kernel
theorem D_M_toldMany_25 : decode m_M_toldMany.2.1 25 = .ok (.iadd, 1) := by decide +kernel
theorem D_M_toldMany_26 : decode m_M_toldMany.2.1 26 = .ok (.istore_n 1, 1) := by decide +kernel
theorem D_M_toldMany_27 : decode m_M_toldMany.2.1 27 = .ok (.iinc 2 1, 3) := by decide +kernel
theorem D_M_toldMany_30 : decode m_M_toldMany.2.1 30 = .ok (.goto (-26), 3) := by decide +kernel
theorem D_M_toldMany_33 : decode m_M_toldMany.2.1 33 = .ok (.iload_n 1, 1) := by decide +kernel
theorem D_M_toldMany_34 : decode m_M_toldMany.2.1 34 = .ok (.ireturn, 1) := by decide +kernel
theorem D_M_save_0 : decode m_M_save.2.1 0 = .ok (.iload_n 1, 1) := by decide +kernel
theorem D_M_save_1 : decode m_M_save.2.1 1 = .ok (.iconst 0, 1) := by decide +kernel
theorem D_M_save_2 : decode m_M_save.2.1 2 = .ok (.iconst 1, 1) := by decide +kernel
theorem D_M_save_3 : decode m_M_save.2.1 3 = .ok (.invokestatic 52, 3) := by decide +kernel
theorem D_M_save_6 : decode m_M_save.2.1 6 = .ok (.ifCond .ne 6, 3) := by decide +kernel
theorem D_M_save_9 : decode m_M_save.2.1 9 = .ok (.bipush (-2), 2) := by decide +kernel
theorem D_M_save_11 : decode m_M_save.2.1 11 = .ok (.ireturn, 1) := by decide +kernel
theorem D_M_save_12 : decode m_M_save.2.1 12 = .ok (.aload_n 0, 1) := by decide +kernel
theorem D_M_save_13 : decode m_M_save.2.1 13 = .ok (.getfield 19, 3) := by decide +kernel
theorem D_M_save_16 : decode m_M_save.2.1 16 = .ok (.iload_n 1, 1) := by decide +kernel
theorem D_M_save_17 : decode m_M_save.2.1 17 = .ok (.iconst 1, 1) := by decide +kernel
theorem D_M_save_18 : decode m_M_save.2.1 18 = .ok (.bastore, 1) := by decide +kernel
theorem D_M_save_19 : decode m_M_save.2.1 19 = .ok (.iconst 0, 1) := by decide +kernel
theorem D_M_save_20 : decode m_M_save.2.1 20 = .ok (.istore_n 2, 1) := by decide +kernel
theorem D_M_save_21 : decode m_M_save.2.1 21 = .ok (.iload_n 2, 1) := by decide +kernel
theorem D_M_save_22 : decode m_M_save.2.1 22 = .ok (.bipush 39, 2) := by decide +kernel
theorem D_M_save_24 : decode m_M_save.2.1 24 = .ok (.if_icmp .ge 26, 3) := by decide +kernel
theorem D_M_save_27 : decode m_M_save.2.1 27 = .ok (.aload_n 0, 1) := by decide +kernel
theorem D_M_save_28 : decode m_M_save.2.1 28 = .ok (.getfield 16, 3) := by decide +kernel
theorem D_M_save_31 : decode m_M_save.2.1 31 = .ok (.iload_n 1, 1) := by decide +kernel
theorem D_M_save_32 : decode m_M_save.2.1 32 = .ok (.bipush 39, 2) := by decide +kernel
theorem D_M_save_34 : decode m_M_save.2.1 34 = .ok (.imul, 1) := by decide +kernel
theorem D_M_save_35 : decode m_M_save.2.1 35 = .ok (.iload_n 2, 1) := by decide +kernel
theorem D_M_save_36 : decode m_M_save.2.1 36 = .ok (.iadd, 1) := by decide +kernel
theorem D_M_save_37 : decode m_M_save.2.1 37 = .ok (.aload_n 0, 1) := by decide +kernel
theorem D_M_save_38 : decode m_M_save.2.1 38 = .ok (.getfield 7, 3) := by decide +kernel
theorem D_M_save_41 : decode m_M_save.2.1 41 = .ok (.iload_n 2, 1) := by decide +kernel
theorem D_M_save_42 : decode m_M_save.2.1 42 = .ok (.iaload, 1) := by decide +kernel
theorem D_M_save_43 : decode m_M_save.2.1 43 = .ok (.iastore, 1) := by decide +kernel
theorem D_M_save_44 : decode m_M_save.2.1 44 = .ok (.iinc 2 1, 3) := by decide +kernel
theorem D_M_save_47 : decode m_M_save.2.1 47 = .ok (.goto (-26), 3) := by decide +kernel
theorem D_M_save_50 : decode m_M_save.2.1 50 = .ok (.aload_n 0, 1) := by decide +kernel
theorem D_M_save_51 : decode m_M_save.2.1 51 = .ok (.invokevirtual 56, 3) := by decide +kernel
theorem D_M_save_54 : decode m_M_save.2.1 54 = .ok (.ireturn, 1) := by decide +kernel
theorem D_M_restore_0 : decode m_M_restore.2.1 0 = .ok (.iload_n 1, 1) := by decide +kernel
theorem D_M_restore_1 : decode m_M_restore.2.1 1 = .ok (.iconst 0, 1) := by decide +kernel
theorem D_M_restore_2 : decode m_M_restore.2.1 2 = .ok (.iconst 1, 1) := by decide +kernel
theorem D_M_restore_3 : decode m_M_restore.2.1 3 = .ok (.invokestatic 52, 3) := by decide +kernel
theorem D_M_restore_6 : decode m_M_restore.2.1 6 = .ok (.ifCond .ne 6, 3) := by decide +kernel
theorem D_M_restore_9 : decode m_M_restore.2.1 9 = .ok (.bipush (-2), 2) := by decide +kernel
theorem D_M_restore_11 : decode m_M_restore.2.1 11 = .ok (.ireturn, 1) := by decide +kernel
theorem D_M_restore_12 : decode m_M_restore.2.1 12 = .ok (.aload_n 0, 1) := by decide +kernel
theorem D_M_restore_13 : decode m_M_restore.2.1 13 = .ok (.getfield 19, 3) := by decide +kernel
theorem D_M_restore_16 : decode m_M_restore.2.1 16 = .ok (.iload_n 1, 1) := by decide +kernel
theorem D_M_restore_17 : decode m_M_restore.2.1 17 = .ok (.baload, 1) := by decide +kernel
theorem D_M_restore_18 : decode m_M_restore.2.1 18 = .ok (.ifCond .ne 6, 3) := by decide +kernel
theorem D_M_restore_21 : decode m_M_restore.2.1 21 = .ok (.bipush (-5), 2) := by decide +kernel
theorem D_M_restore_23 : decode m_M_restore.2.1 23 = .ok (.ireturn, 1) := by decide +kernel
theorem D_M_restore_24 : decode m_M_restore.2.1 24 = .ok (.aload_n 0, 1) := by decide +kernel
theorem D_M_restore_25 : decode m_M_restore.2.1 25 = .ok (.invokevirtual 60, 3) := by decide +kernel
theorem D_M_restore_28 : decode m_M_restore.2.1 28 = .ok (.iconst 0, 1) := by decide +kernel
theorem D_M_restore_29 : decode m_M_restore.2.1 29 = .ok (.istore_n 2, 1) := by decide +kernel
theorem D_M_restore_30 : decode m_M_restore.2.1 30 = .ok (.iload_n 2, 1) := by decide +kernel
theorem D_M_restore_31 : decode m_M_restore.2.1 31 = .ok (.bipush 39, 2) := by decide +kernel
theorem D_M_restore_33 : decode m_M_restore.2.1 33 = .ok (.if_icmp .ge 26, 3) := by decide +kernel
theorem D_M_restore_36 : decode m_M_restore.2.1 36 = .ok (.aload_n 0, 1) := by decide +kernel
theorem D_M_restore_37 : decode m_M_restore.2.1 37 = .ok (.getfield 7, 3) := by decide +kernel
theorem D_M_restore_40 : decode m_M_restore.2.1 40 = .ok (.iload_n 2, 1) := by decide +kernel
theorem D_M_restore_41 : decode m_M_restore.2.1 41 = .ok (.aload_n 0, 1) := by decide +kernel
theorem D_M_restore_42 : decode m_M_restore.2.1 42 = .ok (.getfield 16, 3) := by decide +kernel
theorem D_M_restore_45 : decode m_M_restore.2.1 45 = .ok (.iload_n 1, 1) := by decide +kernel
theorem D_M_restore_46 : decode m_M_restore.2.1 46 = .ok (.bipush 39, 2) := by decide +kernel
theorem D_M_restore_48 : decode m_M_restore.2.1 48 = .ok (.imul, 1) := by decide +kernel
theorem D_M_restore_49 : decode m_M_restore.2.1 49 = .ok (.iload_n 2, 1) := by decide +kernel
theorem D_M_restore_50 : decode m_M_restore.2.1 50 = .ok (.iadd, 1) := by decide +kernel
theorem D_M_restore_51 : decode m_M_restore.2.1 51 = .ok (.iaload, 1) := by decide +kernel
theorem D_M_restore_52 : decode m_M_restore.2.1 52 = .ok (.iastore, 1) := by decide +kernel
theorem D_M_restore_53 : decode m_M_restore.2.1 53 = .ok (.iinc 2 1, 3) := by decide +kernel
theorem D_M_restore_56 : decode m_M_restore.2.1 56 = .ok (.goto (-26), 3) := by decide +kernel
theorem D_M_restore_59 : decode m_M_restore.2.1 59 = .ok (.aload_n 0, 1) := by decide +kernel
theorem D_M_restore_60 : decode m_M_restore.2.1 60 = .ok (.invokevirtual 56, 3) := by decide +kernel
theorem D_M_restore_63 : decode m_M_restore.2.1 63 = .ok (.ireturn, 1) := by decide +kernel
theorem D_M_times_0 : decode m_M_times.2.1 0 = .ok (.iload_n 1, 1) := by decide +kernel
theorem D_M_times_1 : decode m_M_times.2.1 1 = .ok (.iload_n 2, 1) := by decide +kernel
theorem D_M_times_2 : decode m_M_times.2.1 2 = .ok (.imul, 1) := by decide +kernel
theorem D_M_times_3 : decode m_M_times.2.1 3 = .ok (.aload_n 0, 1) := by decide +kernel
theorem D_M_times_4 : decode m_M_times.2.1 4 = .ok (.getfield 7, 3) := by decide +kernel
theorem D_M_times_7 : decode m_M_times.2.1 7 = .ok (.bipush 38, 2) := by decide +kernel
theorem D_M_times_9 : decode m_M_times.2.1 9 = .ok (.iaload, 1) := by decide +kernel
theorem D_M_times_10 : decode m_M_times.2.1 10 = .ok (.irem, 1) := by decide +kernel
theorem D_M_times_11 : decode m_M_times.2.1 11 = .ok (.ireturn, 1) := by decide +kernel
theorem D_M_over_0 : decode m_M_over.2.1 0 = .ok (.iconst 1, 1) := by decide +kernel
theorem D_M_over_1 : decode m_M_over.2.1 1 = .ok (.istore_n 2, 1) := by decide +kernel
theorem D_M_over_2 : decode m_M_over.2.1 2 = .ok (.iconst 1, 1) := by decide +kernel
theorem D_M_over_3 : decode m_M_over.2.1 3 = .ok (.istore_n 3, 1) := by decide +kernel
theorem D_M_over_4 : decode m_M_over.2.1 4 = .ok (.iload_n 3, 1) := by decide +kernel
theorem D_M_over_5 : decode m_M_over.2.1 5 = .ok (.aload_n 0, 1) := by decide +kernel
theorem D_M_over_6 : decode m_M_over.2.1 6 = .ok (.getfield 7, 3) := by decide +kernel
theorem D_M_over_9 : decode m_M_over.2.1 9 = .ok (.bipush 38, 2) := by decide +kernel
theorem D_M_over_11 : decode m_M_over.2.1 11 = .ok (.iaload, 1) := by decide +kernel
theorem D_M_over_12 : decode m_M_over.2.1 12 = .ok (.if_icmp .ge 25, 3) := by decide +kernel
theorem D_M_over_15 : decode m_M_over.2.1 15 = .ok (.aload_n 0, 1) := by decide +kernel
theorem D_M_over_16 : decode m_M_over.2.1 16 = .ok (.iload_n 1, 1) := by decide +kernel
theorem D_M_over_17 : decode m_M_over.2.1 17 = .ok (.iload_n 3, 1) := by decide +kernel
theorem D_M_over_18 : decode m_M_over.2.1 18 = .ok (.invokevirtual 63, 3) := by decide +kernel
theorem D_M_over_21 : decode m_M_over.2.1 21 = .ok (.iconst 1, 1) := by decide +kernel
theorem D_M_over_22 : decode m_M_over.2.1 22 = .ok (.if_icmp .ne 7, 3) := by decide +kernel
theorem D_M_over_25 : decode m_M_over.2.1 25 = .ok (.iload_n 3, 1) := by decide +kernel
theorem D_M_over_26 : decode m_M_over.2.1 26 = .ok (.goto 4, 3) := by decide +kernel
theorem D_M_over_29 : decode m_M_over.2.1 29 = .ok (.iload_n 2, 1) := by decide +kernel
theorem D_M_over_30 : decode m_M_over.2.1 30 = .ok (.istore_n 2, 1) := by decide +kernel
theorem D_M_over_31 : decode m_M_over.2.1 31 = .ok (.iinc 3 1, 3) := by decide +kernel
theorem D_M_over_34 : decode m_M_over.2.1 34 = .ok (.goto (-30), 3) := by decide +kernel
theorem D_M_over_37 : decode m_M_over.2.1 37 = .ok (.iload_n 2, 1) := by decide +kernel
theorem D_M_over_38 : decode m_M_over.2.1 38 = .ok (.ireturn, 1) := by decide +kernel
theorem D_M_at_0 : decode m_M_at.2.1 0 = .ok (.aload_n 0, 1) := by decide +kernel
theorem D_M_at_1 : decode m_M_at.2.1 1 = .ok (.getfield 7, 3) := by decide +kernel
theorem D_M_at_4 : decode m_M_at.2.1 4 = .ok (.bipush 6, 2) := by decide +kernel
theorem D_M_at_6 : decode m_M_at.2.1 6 = .ok (.iload_n 1, 1) := by decide +kernel
theorem D_M_at_7 : decode m_M_at.2.1 7 = .ok (.imul, 1) := by decide +kernel
theorem D_M_at_8 : decode m_M_at.2.1 8 = .ok (.iload_n 2, 1) := by decide +kernel
theorem D_M_at_9 : decode m_M_at.2.1 9 = .ok (.iadd, 1) := by decide +kernel
theorem D_M_at_10 : decode m_M_at.2.1 10 = .ok (.iaload, 1) := by decide +kernel
theorem D_M_at_11 : decode m_M_at.2.1 11 = .ok (.ireturn, 1) := by decide +kernel
theorem D_M_spread_0 : decode m_M_spread.2.1 0 = .ok (.iconst 1, 1) := by decide +kernel
theorem D_M_spread_1 : decode m_M_spread.2.1 1 = .ok (.istore_n 2, 1) := by decide +kernel
theorem D_M_spread_2 : decode m_M_spread.2.1 2 = .ok (.iload_n 2, 1) := by decide +kernel
theorem D_M_spread_3 : decode m_M_spread.2.1 3 = .ok (.ifCond .eq 190, 3) := by decide +kernel
theorem D_M_spread_6 : decode m_M_spread.2.1 6 = .ok (.iconst 0, 1) := by decide +kernel
theorem D_M_spread_7 : decode m_M_spread.2.1 7 = .ok (.istore_n 2, 1) := by decide +kernel
theorem D_M_spread_8 : decode m_M_spread.2.1 8 = .ok (.iconst 0, 1) := by decide +kernel
theorem D_M_spread_9 : decode m_M_spread.2.1 9 = .ok (.istore_n 3, 1) := by decide +kernel
theorem D_M_spread_10 : decode m_M_spread.2.1 10 = .ok (.iload_n 3, 1) := by decide +kernel
theorem D_M_spread_11 : decode m_M_spread.2.1 11 = .ok (.aload_n 0, 1) := by decide +kernel
theorem D_M_spread_12 : decode m_M_spread.2.1 12 = .ok (.getfield 7, 3) := by decide +kernel
theorem D_M_spread_15 : decode m_M_spread.2.1 15 = .ok (.bipush 36, 2) := by decide +kernel
theorem D_M_spread_17 : decode m_M_spread.2.1 17 = .ok (.iaload, 1) := by decide +kernel
theorem D_M_spread_18 : decode m_M_spread.2.1 18 = .ok (.if_icmp .ge 172, 3) := by decide +kernel
theorem D_M_spread_21 : decode m_M_spread.2.1 21 = .ok (.iconst 0, 1) := by decide +kernel
theorem D_M_spread_22 : decode m_M_spread.2.1 22 = .ok (.istore 4, 2) := by decide +kernel
theorem D_M_spread_24 : decode m_M_spread.2.1 24 = .ok (.iload 4, 2) := by decide +kernel
theorem D_M_spread_26 : decode m_M_spread.2.1 26 = .ok (.aload_n 0, 1) := by decide +kernel
theorem D_M_spread_27 : decode m_M_spread.2.1 27 = .ok (.getfield 7, 3) := by decide +kernel
theorem D_M_spread_30 : decode m_M_spread.2.1 30 = .ok (.bipush 37, 2) := by decide +kernel
theorem D_M_spread_32 : decode m_M_spread.2.1 32 = .ok (.iaload, 1) := by decide +kernel
theorem D_M_spread_33 : decode m_M_spread.2.1 33 = .ok (.if_icmp .ge 151, 3) := by decide +kernel
theorem D_M_spread_36 : decode m_M_spread.2.1 36 = .ok (.aload_n 0, 1) := by decide +kernel
theorem D_M_spread_37 : decode m_M_spread.2.1 37 = .ok (.iload_n 3, 1) := by decide +kernel
theorem D_M_spread_38 : decode m_M_spread.2.1 38 = .ok (.iload 4, 2) := by decide +kernel
theorem D_M_spread_40 : decode m_M_spread.2.1 40 = .ok (.invokevirtual 67, 3) := by decide +kernel
theorem D_M_spread_43 : decode m_M_spread.2.1 43 = .ok (.ifCond .le 66, 3) := by decide +kernel
theorem D_M_spread_46 : decode m_M_spread.2.1 46 = .ok (.aload_n 0, 1) := by decide +kernel
theorem D_M_spread_47 : decode m_M_spread.2.1 47 = .ok (.getfield 27, 3) := by decide +kernel
theorem D_M_spread_50 : decode m_M_spread.2.1 50 = .ok (.iload_n 3, 1) := by decide +kernel
theorem D_M_spread_51 : decode m_M_spread.2.1 51 = .ok (.iaload, 1) := by decide +kernel
theorem D_M_spread_52 : decode m_M_spread.2.1 52 = .ok (.iload_n 1, 1) := by decide +kernel
theorem D_M_spread_53 : decode m_M_spread.2.1 53 = .ok (.if_icmp .ne 56, 3) := by decide +kernel
theorem D_M_spread_56 : decode m_M_spread.2.1 56 = .ok (.aload_n 0, 1) := by decide +kernel
theorem D_M_spread_57 : decode m_M_spread.2.1 57 = .ok (.getfield 30, 3) := by decide +kernel
theorem D_M_spread_60 : decode m_M_spread.2.1 60 = .ok (.iload 4, 2) := by decide +kernel
theorem D_M_spread_62 : decode m_M_spread.2.1 62 = .ok (.iaload, 1) := by decide +kernel
theorem D_M_spread_63 : decode m_M_spread.2.1 63 = .ok (.bipush (-6), 2) := by decide +kernel
theorem D_M_spread_65 : decode m_M_spread.2.1 65 = .ok (.if_icmp .ne 44, 3) := by decide +kernel
theorem D_M_spread_68 : decode m_M_spread.2.1 68 = .ok (.aload_n 0, 1) := by decide +kernel
theorem D_M_spread_69 : decode m_M_spread.2.1 69 = .ok (.getfield 30, 3) := by decide +kernel
theorem D_M_spread_72 : decode m_M_spread.2.1 72 = .ok (.iload 4, 2) := by decide +kernel
theorem D_M_spread_74 : decode m_M_spread.2.1 74 = .ok (.iload_n 1, 1) := by decide +kernel
theorem D_M_spread_75 : decode m_M_spread.2.1 75 = .ok (.iastore, 1) := by decide +kernel
theorem D_M_spread_76 : decode m_M_spread.2.1 76 = .ok (.aload_n 0, 1) := by decide +kernel
theorem D_M_spread_77 : decode m_M_spread.2.1 77 = .ok (.getfield 36, 3) := by decide +kernel
theorem D_M_spread_80 : decode m_M_spread.2.1 80 = .ok (.iload 4, 2) := by decide +kernel
theorem D_M_spread_82 : decode m_M_spread.2.1 82 = .ok (.aload_n 0, 1) := by decide +kernel
theorem D_M_spread_83 : decode m_M_spread.2.1 83 = .ok (.aload_n 0, 1) := by decide +kernel
theorem D_M_spread_84 : decode m_M_spread.2.1 84 = .ok (.iload_n 3, 1) := by decide +kernel
theorem D_M_spread_85 : decode m_M_spread.2.1 85 = .ok (.iload 4, 2) := by decide +kernel
theorem D_M_spread_87 : decode m_M_spread.2.1 87 = .ok (.invokevirtual 67, 3) := by decide +kernel
theorem D_M_spread_90 : decode m_M_spread.2.1 90 = .ok (.aload_n 0, 1) := by decide +kernel
theorem D_M_spread_91 : decode m_M_spread.2.1 91 = .ok (.aload_n 0, 1) := by decide +kernel
theorem D_M_spread_92 : decode m_M_spread.2.1 92 = .ok (.getfield 33, 3) := by decide +kernel
theorem D_M_spread_95 : decode m_M_spread.2.1 95 = .ok (.iload_n 3, 1) := by decide +kernel
theorem D_M_spread_96 : decode m_M_spread.2.1 96 = .ok (.iaload, 1) := by decide +kernel
theorem D_M_spread_97 : decode m_M_spread.2.1 97 = .ok (.invokevirtual 70, 3) := by decide +kernel
theorem D_M_spread_100 : decode m_M_spread.2.1 100 = .ok (.invokevirtual 63, 3) := by decide +kernel
theorem D_M_spread_103 : decode m_M_spread.2.1 103 = .ok (.iastore, 1) := by decide +kernel
theorem D_M_spread_104 : decode m_M_spread.2.1 104 = .ok (.iconst 1, 1) := by decide +kernel
theorem D_M_spread_105 : decode m_M_spread.2.1 105 = .ok (.istore_n 2, 1) := by decide +kernel
theorem D_M_spread_106 : decode m_M_spread.2.1 106 = .ok (.goto 72, 3) := by decide +kernel
theorem D_M_spread_109 : decode m_M_spread.2.1 109 = .ok (.aload_n 0, 1) := by decide +kernel
theorem D_M_spread_110 : decode m_M_spread.2.1 110 = .ok (.iload_n 3, 1) := by decide +kernel
theorem D_M_spread_111 : decode m_M_spread.2.1 111 = .ok (.iload 4, 2) := by decide +kernel
theorem D_M_spread_113 : decode m_M_spread.2.1 113 = .ok (.invokevirtual 67, 3) := by decide +kernel
theorem D_M_spread_116 : decode m_M_spread.2.1 116 = .ok (.ifCond .le 62, 3) := by decide +kernel
theorem D_M_spread_119 : decode m_M_spread.2.1 119 = .ok (.aload_n 0, 1) := by decide +kernel
theorem D_M_spread_120 : decode m_M_spread.2.1 120 = .ok (.getfield 30, 3) := by decide +kernel
theorem D_M_spread_123 : decode m_M_spread.2.1 123 = .ok (.iload 4, 2) := by decide +kernel
theorem D_M_spread_125 : decode m_M_spread.2.1 125 = .ok (.iaload, 1) := by decide +kernel
theorem D_M_spread_126 : decode m_M_spread.2.1 126 = .ok (.iload_n 1, 1) := by decide +kernel
theorem D_M_spread_127 : decode m_M_spread.2.1 127 = .ok (.if_icmp .ne 51, 3) := by decide +kernel
theorem D_M_spread_130 : decode m_M_spread.2.1 130 = .ok (.aload_n 0, 1) := by decide +kernel
theorem D_M_spread_131 : decode m_M_spread.2.1 131 = .ok (.getfield 27, 3) := by decide +kernel
theorem D_M_spread_134 : decode m_M_spread.2.1 134 = .ok (.iload_n 3, 1) := by decide +kernel
theorem D_M_spread_135 : decode m_M_spread.2.1 135 = .ok (.iaload, 1) := by decide +kernel
theorem D_M_spread_136 : decode m_M_spread.2.1 136 = .ok (.bipush (-6), 2) := by decide +kernel
theorem D_M_spread_138 : decode m_M_spread.2.1 138 = .ok (.if_icmp .ne 40, 3) := by decide +kernel
theorem D_M_spread_141 : decode m_M_spread.2.1 141 = .ok (.aload_n 0, 1) := by decide +kernel
theorem D_M_spread_142 : decode m_M_spread.2.1 142 = .ok (.getfield 27, 3) := by decide +kernel
theorem D_M_spread_145 : decode m_M_spread.2.1 145 = .ok (.iload_n 3, 1) := by decide +kernel
theorem D_M_spread_146 : decode m_M_spread.2.1 146 = .ok (.iload_n 1, 1) := by decide +kernel
theorem D_M_spread_147 : decode m_M_spread.2.1 147 = .ok (.iastore, 1) := by decide +kernel
theorem D_M_spread_148 : decode m_M_spread.2.1 148 = .ok (.aload_n 0, 1) := by decide +kernel
theorem D_M_spread_149 : decode m_M_spread.2.1 149 = .ok (.getfield 33, 3) := by decide +kernel
theorem D_M_spread_152 : decode m_M_spread.2.1 152 = .ok (.iload_n 3, 1) := by decide +kernel
theorem D_M_spread_153 : decode m_M_spread.2.1 153 = .ok (.aload_n 0, 1) := by decide +kernel
theorem D_M_spread_154 : decode m_M_spread.2.1 154 = .ok (.aload_n 0, 1) := by decide +kernel
theorem D_M_spread_155 : decode m_M_spread.2.1 155 = .ok (.iload_n 3, 1) := by decide +kernel
theorem D_M_spread_156 : decode m_M_spread.2.1 156 = .ok (.iload 4, 2) := by decide +kernel
theorem D_M_spread_158 : decode m_M_spread.2.1 158 = .ok (.invokevirtual 67, 3) := by decide +kernel
theorem D_M_spread_161 : decode m_M_spread.2.1 161 = .ok (.aload_n 0, 1) := by decide +kernel
theorem D_M_spread_162 : decode m_M_spread.2.1 162 = .ok (.aload_n 0, 1) := by decide +kernel
theorem D_M_spread_163 : decode m_M_spread.2.1 163 = .ok (.getfield 36, 3) := by decide +kernel
theorem D_M_spread_166 : decode m_M_spread.2.1 166 = .ok (.iload 4, 2) := by decide +kernel
theorem D_M_spread_168 : decode m_M_spread.2.1 168 = .ok (.iaload, 1) := by decide +kernel
theorem D_M_spread_169 : decode m_M_spread.2.1 169 = .ok (.invokevirtual 70, 3) := by decide +kernel
theorem D_M_spread_172 : decode m_M_spread.2.1 172 = .ok (.invokevirtual 63, 3) := by decide +kernel
theorem D_M_spread_175 : decode m_M_spread.2.1 175 = .ok (.iastore, 1) := by decide +kernel
theorem D_M_spread_176 : decode m_M_spread.2.1 176 = .ok (.iconst 1, 1) := by decide +kernel
theorem D_M_spread_177 : decode m_M_spread.2.1 177 = .ok (.istore_n 2, 1) := by decide +kernel
theorem D_M_spread_178 : decode m_M_spread.2.1 178 = .ok (.iinc 4 1, 3) := by decide +kernel
theorem D_M_spread_181 : decode m_M_spread.2.1 181 = .ok (.goto (-157), 3) := by decide +kernel
theorem D_M_spread_184 : decode m_M_spread.2.1 184 = .ok (.iinc 3 1, 3) := by decide +kernel
theorem D_M_spread_187 : decode m_M_spread.2.1 187 = .ok (.goto (-177), 3) := by decide +kernel
theorem D_M_spread_190 : decode m_M_spread.2.1 190 = .ok (.goto (-188), 3) := by decide +kernel
theorem D_M_spread_193 : decode m_M_spread.2.1 193 = .ok (.return_, 1) := by decide +kernel
theorem D_M_layParts_0 : decode m_M_layParts.2.1 0 = .ok (.aload_n 0, 1) := by decide +kernel
theorem D_M_layParts_1 : decode m_M_layParts.2.1 1 = .ok (.iconst 0, 1) := by decide +kernel
theorem D_M_layParts_2 : decode m_M_layParts.2.1 2 = .ok (.putfield 74, 3) := by decide +kernel
theorem D_M_layParts_5 : decode m_M_layParts.2.1 5 = .ok (.iconst 0, 1) := by decide +kernel
theorem D_M_layParts_6 : decode m_M_layParts.2.1 6 = .ok (.istore_n 1, 1) := by decide +kernel
theorem D_M_layParts_7 : decode m_M_layParts.2.1 7 = .ok (.iload_n 1, 1) := by decide +kernel
theorem D_M_layParts_8 : decode m_M_layParts.2.1 8 = .ok (.bipush 6, 2) := by decide +kernel
theorem D_M_layParts_10 : decode m_M_layParts.2.1 10 = .ok (.if_icmp .ge 39, 3) := by decide +kernel
theorem D_M_layParts_13 : decode m_M_layParts.2.1 13 = .ok (.aload_n 0, 1) := by decide +kernel
theorem D_M_layParts_14 : decode m_M_layParts.2.1 14 = .ok (.getfield 27, 3) := by decide +kernel
theorem D_M_layParts_17 : decode m_M_layParts.2.1 17 = .ok (.iload_n 1, 1) := by decide +kernel
theorem D_M_layParts_18 : decode m_M_layParts.2.1 18 = .ok (.bipush (-6), 2) := by decide +kernel
theorem D_M_layParts_20 : decode m_M_layParts.2.1 20 = .ok (.iastore, 1) := by decide +kernel
theorem D_M_layParts_21 : decode m_M_layParts.2.1 21 = .ok (.aload_n 0, 1) := by decide +kernel
theorem D_M_layParts_22 : decode m_M_layParts.2.1 22 = .ok (.getfield 30, 3) := by decide +kernel
theorem D_M_layParts_25 : decode m_M_layParts.2.1 25 = .ok (.iload_n 1, 1) := by decide +kernel
theorem D_M_layParts_26 : decode m_M_layParts.2.1 26 = .ok (.bipush (-6), 2) := by decide +kernel
theorem D_M_layParts_28 : decode m_M_layParts.2.1 28 = .ok (.iastore, 1) := by decide +kernel
theorem D_M_layParts_29 : decode m_M_layParts.2.1 29 = .ok (.aload_n 0, 1) := by decide +kernel
theorem D_M_layParts_30 : decode m_M_layParts.2.1 30 = .ok (.getfield 33, 3) := by decide +kernel
theorem D_M_layParts_33 : decode m_M_layParts.2.1 33 = .ok (.iload_n 1, 1) := by decide +kernel
theorem D_M_layParts_34 : decode m_M_layParts.2.1 34 = .ok (.iconst 1, 1) := by decide +kernel
theorem D_M_layParts_35 : decode m_M_layParts.2.1 35 = .ok (.iastore, 1) := by decide +kernel
theorem D_M_layParts_36 : decode m_M_layParts.2.1 36 = .ok (.aload_n 0, 1) := by decide +kernel
theorem D_M_layParts_37 : decode m_M_layParts.2.1 37 = .ok (.getfield 36, 3) := by decide +kernel
theorem D_M_layParts_40 : decode m_M_layParts.2.1 40 = .ok (.iload_n 1, 1) := by decide +kernel
theorem D_M_layParts_41 : decode m_M_layParts.2.1 41 = .ok (.iconst 1, 1) := by decide +kernel
theorem D_M_layParts_42 : decode m_M_layParts.2.1 42 = .ok (.iastore, 1) := by decide +kernel
theorem D_M_layParts_43 : decode m_M_layParts.2.1 43 = .ok (.iinc 1 1, 3) := by decide +kernel
theorem D_M_layParts_46 : decode m_M_layParts.2.1 46 = .ok (.goto (-39), 3) := by decide +kernel
theorem D_M_layParts_49 : decode m_M_layParts.2.1 49 = .ok (.iconst 0, 1) := by decide +kernel
theorem D_M_layParts_50 : decode m_M_layParts.2.1 50 = .ok (.istore_n 1, 1) := by decide +kernel
theorem D_M_layParts_51 : decode m_M_layParts.2.1 51 = .ok (.iload_n 1, 1) := by decide +kernel
theorem D_M_layParts_52 : decode m_M_layParts.2.1 52 = .ok (.aload_n 0, 1) := by decide +kernel
theorem D_M_layParts_53 : decode m_M_layParts.2.1 53 = .ok (.getfield 7, 3) := by decide +kernel
theorem D_M_layParts_56 : decode m_M_layParts.2.1 56 = .ok (.bipush 36, 2) := by decide +kernel
theorem D_M_layParts_58 : decode m_M_layParts.2.1 58 = .ok (.iaload, 1) := by decide +kernel
theorem D_M_layParts_59 : decode m_M_layParts.2.1 59 = .ok (.if_icmp .ge 48, 3) := by decide +kernel
theorem D_M_layParts_62 : decode m_M_layParts.2.1 62 = .ok (.aload_n 0, 1) := by decide +kernel
theorem D_M_layParts_63 : decode m_M_layParts.2.1 63 = .ok (.getfield 27, 3) := by decide +kernel
theorem D_M_layParts_66 : decode m_M_layParts.2.1 66 = .ok (.iload_n 1, 1) := by decide +kernel
theorem D_M_layParts_67 : decode m_M_layParts.2.1 67 = .ok (.iaload, 1) := by decide +kernel
theorem D_M_layParts_68 : decode m_M_layParts.2.1 68 = .ok (.bipush (-6), 2) := by decide +kernel
theorem D_M_layParts_70 : decode m_M_layParts.2.1 70 = .ok (.if_icmp .ne 31, 3) := by decide +kernel
theorem D_M_layParts_73 : decode m_M_layParts.2.1 73 = .ok (.aload_n 0, 1) := by decide +kernel
theorem D_M_layParts_74 : decode m_M_layParts.2.1 74 = .ok (.getfield 27, 3) := by decide +kernel
theorem D_M_layParts_77 : decode m_M_layParts.2.1 77 = .ok (.iload_n 1, 1) := by decide +kernel
theorem D_M_layParts_78 : decode m_M_layParts.2.1 78 = .ok (.aload_n 0, 1) := by decide +kernel
theorem D_M_layParts_79 : decode m_M_layParts.2.1 79 = .ok (.getfield 74, 3) := by decide +kernel
theorem D_M_layParts_82 : decode m_M_layParts.2.1 82 = .ok (.iastore, 1) := by decide +kernel
theorem D_M_layParts_83 : decode m_M_layParts.2.1 83 = .ok (.aload_n 0, 1) := by decide +kernel
theorem D_M_layParts_84 : decode m_M_layParts.2.1 84 = .ok (.aload_n 0, 1) := by decide +kernel
theorem D_M_layParts_85 : decode m_M_layParts.2.1 85 = .ok (.getfield 74, 3) := by decide +kernel
theorem D_M_layParts_88 : decode m_M_layParts.2.1 88 = .ok (.invokevirtual 77, 3) := by decide +kernel
theorem D_M_layParts_91 : decode m_M_layParts.2.1 91 = .ok (.aload_n 0, 1) := by decide +kernel
theorem D_M_layParts_92 : decode m_M_layParts.2.1 92 = .ok (.dup, 1) := by decide +kernel
theorem D_M_layParts_93 : decode m_M_layParts.2.1 93 = .ok (.getfield 74, 3) := by decide +kernel
theorem D_M_layParts_96 : decode m_M_layParts.2.1 96 = .ok (.iconst 1, 1) := by decide +kernel
theorem D_M_layParts_97 : decode m_M_layParts.2.1 97 = .ok (.iadd, 1) := by decide +kernel
theorem D_M_layParts_98 : decode m_M_layParts.2.1 98 = .ok (.putfield 74, 3) := by decide +kernel
theorem D_M_layParts_101 : decode m_M_layParts.2.1 101 = .ok (.iinc 1 1, 3) := by decide +kernel
theorem D_M_layParts_104 : decode m_M_layParts.2.1 104 = .ok (.goto (-53), 3) := by decide +kernel
theorem D_M_layParts_107 : decode m_M_layParts.2.1 107 = .ok (.iconst 0, 1) := by decide +kernel
theorem D_M_layParts_108 : decode m_M_layParts.2.1 108 = .ok (.istore_n 1, 1) := by decide +kernel
theorem D_M_layParts_109 : decode m_M_layParts.2.1 109 = .ok (.iload_n 1, 1) := by decide +kernel
theorem D_M_layParts_110 : decode m_M_layParts.2.1 110 = .ok (.aload_n 0, 1) := by decide +kernel
theorem D_M_layParts_111 : decode m_M_layParts.2.1 111 = .ok (.getfield 7, 3) := by decide +kernel
theorem D_M_layParts_114 : decode m_M_layParts.2.1 114 = .ok (.bipush 37, 2) := by decide +kernel
theorem D_M_layParts_116 : decode m_M_layParts.2.1 116 = .ok (.iaload, 1) := by decide +kernel
theorem D_M_layParts_117 : decode m_M_layParts.2.1 117 = .ok (.if_icmp .ge 40, 3) := by decide +kernel
theorem D_M_layParts_120 : decode m_M_layParts.2.1 120 = .ok (.aload_n 0, 1) := by decide +kernel
theorem D_M_layParts_121 : decode m_M_layParts.2.1 121 = .ok (.getfield 30, 3) := by decide +kernel
theorem D_M_layParts_124 : decode m_M_layParts.2.1 124 = .ok (.iload_n 1, 1) := by decide +kernel
theorem D_M_layParts_125 : decode m_M_layParts.2.1 125 = .ok (.iaload, 1) := by decide +kernel
theorem D_M_layParts_126 : decode m_M_layParts.2.1 126 = .ok (.bipush (-6), 2) := by decide +kernel
theorem D_M_layParts_128 : decode m_M_layParts.2.1 128 = .ok (.if_icmp .ne 23, 3) := by decide +kernel
theorem D_M_layParts_131 : decode m_M_layParts.2.1 131 = .ok (.aload_n 0, 1) := by decide +kernel
theorem D_M_layParts_132 : decode m_M_layParts.2.1 132 = .ok (.getfield 30, 3) := by decide +kernel
theorem D_M_layParts_135 : decode m_M_layParts.2.1 135 = .ok (.iload_n 1, 1) := by decide +kernel
theorem D_M_layParts_136 : decode m_M_layParts.2.1 136 = .ok (.aload_n 0, 1) := by decide +kernel
theorem D_M_layParts_137 : decode m_M_layParts.2.1 137 = .ok (.getfield 74, 3) := by decide +kernel
theorem D_M_layParts_140 : decode m_M_layParts.2.1 140 = .ok (.iastore, 1) := by decide +kernel
theorem D_M_layParts_141 : decode m_M_layParts.2.1 141 = .ok (.aload_n 0, 1) := by decide +kernel
theorem D_M_layParts_142 : decode m_M_layParts.2.1 142 = .ok (.dup, 1) := by decide +kernel
theorem D_M_layParts_143 : decode m_M_layParts.2.1 143 = .ok (.getfield 74, 3) := by decide +kernel
theorem D_M_layParts_146 : decode m_M_layParts.2.1 146 = .ok (.iconst 1, 1) := by decide +kernel
theorem D_M_layParts_147 : decode m_M_layParts.2.1 147 = .ok (.iadd, 1) := by decide +kernel
theorem D_M_layParts_148 : decode m_M_layParts.2.1 148 = .ok (.putfield 74, 3) := by decide +kernel
theorem D_M_layParts_151 : decode m_M_layParts.2.1 151 = .ok (.iinc 1 1, 3) := by decide +kernel
theorem D_M_layParts_154 : decode m_M_layParts.2.1 154 = .ok (.goto (-45), 3) := by decide +kernel
theorem D_M_layParts_157 : decode m_M_layParts.2.1 157 = .ok (.aload_n 0, 1) := by decide +kernel
theorem D_M_layParts_158 : decode m_M_layParts.2.1 158 = .ok (.iconst 1, 1) := by decide +kernel
theorem D_M_layParts_159 : decode m_M_layParts.2.1 159 = .ok (.putfield 81, 3) := by decide +kernel
theorem D_M_layParts_162 : decode m_M_layParts.2.1 162 = .ok (.iconst 0, 1) := by decide +kernel
theorem D_M_layParts_163 : decode m_M_layParts.2.1 163 = .ok (.istore_n 1, 1) := by decide +kernel
theorem D_M_layParts_164 : decode m_M_layParts.2.1 164 = .ok (.iload_n 1, 1) := by decide +kernel
theorem D_M_layParts_165 : decode m_M_layParts.2.1 165 = .ok (.aload_n 0, 1) := by decide +kernel
theorem D_M_layParts_166 : decode m_M_layParts.2.1 166 = .ok (.getfield 7, 3) := by decide +kernel
theorem D_M_layParts_169 : decode m_M_layParts.2.1 169 = .ok (.bipush 36, 2) := by decide +kernel
theorem D_M_layParts_171 : decode m_M_layParts.2.1 171 = .ok (.iaload, 1) := by decide +kernel
theorem D_M_layParts_172 : decode m_M_layParts.2.1 172 = .ok (.if_icmp .ge 78, 3) := by decide +kernel
theorem D_M_layParts_175 : decode m_M_layParts.2.1 175 = .ok (.iconst 0, 1) := by decide +kernel
theorem D_M_layParts_176 : decode m_M_layParts.2.1 176 = .ok (.istore_n 2, 1) := by decide +kernel
theorem D_M_layParts_177 : decode m_M_layParts.2.1 177 = .ok (.iload_n 2, 1) := by decide +kernel
theorem D_M_layParts_178 : decode m_M_layParts.2.1 178 = .ok (.aload_n 0, 1) := by decide +kernel
theorem D_M_layParts_179 : decode m_M_layParts.2.1 179 = .ok (.getfield 7, 3) := by decide +kernel
theorem D_M_layParts_182 : decode m_M_layParts.2.1 182 = .ok (.bipush 37, 2) := by decide +kernel
theorem D_M_layParts_184 : decode m_M_layParts.2.1 184 = .ok (.iaload, 1) := by decide +kernel
theorem D_M_layParts_185 : decode m_M_layParts.2.1 185 = .ok (.if_icmp .ge 59, 3) := by decide +kernel
theorem D_M_layParts_188 : decode m_M_layParts.2.1 188 = .ok (.aload_n 0, 1) := by decide +kernel
theorem D_M_layParts_189 : decode m_M_layParts.2.1 189 = .ok (.aload_n 0, 1) := by decide +kernel
theorem D_M_layParts_190 : decode m_M_layParts.2.1 190 = .ok (.getfield 81, 3) := by decide +kernel
theorem D_M_layParts_193 : decode m_M_layParts.2.1 193 = .ok (.ifCond .eq 41, 3) := by decide +kernel
theorem D_M_layParts_196 : decode m_M_layParts.2.1 196 = .ok (.aload_n 0, 1) := by decide +kernel
theorem D_M_layParts_197 : decode m_M_layParts.2.1 197 = .ok (.iload_n 1, 1) := by decide +kernel
theorem D_M_layParts_198 : decode m_M_layParts.2.1 198 = .ok (.iload_n 2, 1) := by decide +kernel
theorem D_M_layParts_199 : decode m_M_layParts.2.1 199 = .ok (.invokevirtual 67, 3) := by decide +kernel
theorem D_M_layParts_202 : decode m_M_layParts.2.1 202 = .ok (.ifCond .eq 28, 3) := by decide +kernel
theorem D_M_layParts_205 : decode m_M_layParts.2.1 205 = .ok (.aload_n 0, 1) := by decide +kernel
theorem D_M_layParts_206 : decode m_M_layParts.2.1 206 = .ok (.iload_n 1, 1) := by decide +kernel
theorem D_M_layParts_207 : decode m_M_layParts.2.1 207 = .ok (.iload_n 2, 1) := by decide +kernel
theorem D_M_layParts_208 : decode m_M_layParts.2.1 208 = .ok (.invokevirtual 67, 3) := by decide +kernel
theorem D_M_layParts_211 : decode m_M_layParts.2.1 211 = .ok (.aload_n 0, 1) := by decide +kernel
theorem D_M_layParts_212 : decode m_M_layParts.2.1 212 = .ok (.aload_n 0, 1) := by decide +kernel
theorem D_M_layParts_213 : decode m_M_layParts.2.1 213 = .ok (.getfield 33, 3) := by decide +kernel
theorem D_M_layParts_216 : decode m_M_layParts.2.1 216 = .ok (.iload_n 1, 1) := by decide +kernel
theorem D_M_layParts_217 : decode m_M_layParts.2.1 217 = .ok (.iaload, 1) := by decide +kernel
theorem D_M_layParts_218 : decode m_M_layParts.2.1 218 = .ok (.aload_n 0, 1) := by decide +kernel
theorem D_M_layParts_219 : decode m_M_layParts.2.1 219 = .ok (.getfield 36, 3) := by decide +kernel
theorem D_M_layParts_222 : decode m_M_layParts.2.1 222 = .ok (.iload_n 2, 1) := by decide +kernel
theorem D_M_layParts_223 : decode m_M_layParts.2.1 223 = .ok (.iaload, 1) := by decide +kernel
theorem D_M_layParts_224 : decode m_M_layParts.2.1 224 = .ok (.invokevirtual 63, 3) := by decide +kernel
theorem D_M_layParts_227 : decode m_M_layParts.2.1 227 = .ok (.if_icmp .ne 7, 3) := by decide +kernel
theorem D_M_layParts_230 : decode m_M_layParts.2.1 230 = .ok (.iconst 1, 1) := by decide +kernel
theorem D_M_layParts_231 : decode m_M_layParts.2.1 231 = .ok (.goto 4, 3) := by decide +kernel
theorem D_M_layParts_234 : decode m_M_layParts.2.1 234 = .ok (.iconst 0, 1) := by decide +kernel
theorem D_M_layParts_235 : decode m_M_layParts.2.1 235 = .ok (.putfield 81, 3) := by decide +kernel
theorem D_M_layParts_238 : decode m_M_layParts.2.1 238 = .ok (.iinc 2 1, 3) := by decide +kernel
theorem D_M_layParts_241 : decode m_M_layParts.2.1 241 = .ok (.goto (-64), 3) := by decide +kernel
theorem D_M_layParts_244 : decode m_M_layParts.2.1 244 = .ok (.iinc 1 1, 3) := by decide +kernel
theorem D_M_layParts_247 : decode m_M_layParts.2.1 247 = .ok (.goto (-83), 3) := by decide +kernel
theorem D_M_layParts_250 : decode m_M_layParts.2.1 250 = .ok (.return_, 1) := by decide +kernel
theorem D_M_isWellWith_0 : decode m_M_isWellWith.2.1 0 = .ok (.aload_n 0, 1) := by decide +kernel
theorem D_M_isWellWith_1 : decode m_M_isWellWith.2.1 1 = .ok (.getfield 7, 3) := by decide +kernel
theorem D_M_isWellWith_4 : decode m_M_isWellWith.2.1 4 = .ok (.iload_n 1, 1) := by decide +kernel
theorem D_M_isWellWith_5 : decode m_M_isWellWith.2.1 5 = .ok (.iaload, 1) := by decide +kernel
theorem D_M_isWellWith_6 : decode m_M_isWellWith.2.1 6 = .ok (.istore_n 3, 1) := by decide +kernel
theorem D_M_isWellWith_7 : decode m_M_isWellWith.2.1 7 = .ok (.aload_n 0, 1) := by decide +kernel
theorem D_M_isWellWith_8 : decode m_M_isWellWith.2.1 8 = .ok (.getfield 7, 3) := by decide +kernel
theorem D_M_isWellWith_11 : decode m_M_isWellWith.2.1 11 = .ok (.iload_n 1, 1) := by decide +kernel
theorem D_M_isWellWith_12 : decode m_M_isWellWith.2.1 12 = .ok (.iload_n 2, 1) := by decide +kernel
theorem D_M_isWellWith_13 : decode m_M_isWellWith.2.1 13 = .ok (.iastore, 1) := by decide +kernel
theorem D_M_isWellWith_14 : decode m_M_isWellWith.2.1 14 = .ok (.aload_n 0, 1) := by decide +kernel
theorem D_M_isWellWith_15 : decode m_M_isWellWith.2.1 15 = .ok (.invokevirtual 85, 3) := by decide +kernel
theorem D_M_isWellWith_18 : decode m_M_isWellWith.2.1 18 = .ok (.aload_n 0, 1) := by decide +kernel
theorem D_M_isWellWith_19 : decode m_M_isWellWith.2.1 19 = .ok (.getfield 7, 3) := by decide +kernel
theorem D_M_isWellWith_22 : decode m_M_isWellWith.2.1 22 = .ok (.iload_n 1, 1) := by decide +kernel
theorem D_M_isWellWith_23 : decode m_M_isWellWith.2.1 23 = .ok (.iload_n 3, 1) := by decide +kernel
theorem D_M_isWellWith_24 : decode m_M_isWellWith.2.1 24 = .ok (.iastore, 1) := by decide +kernel
theorem D_M_isWellWith_25 : decode m_M_isWellWith.2.1 25 = .ok (.aload_n 0, 1) := by decide +kernel
theorem D_M_isWellWith_26 : decode m_M_isWellWith.2.1 26 = .ok (.getfield 81, 3) := by decide +kernel
theorem D_M_isWellWith_29 : decode m_M_isWellWith.2.1 29 = .ok (.ireturn, 1) := by decide +kernel
theorem D_M_begin_0 : decode m_M_begin.2.1 0 = .ok (.iload_n 3, 1) := by decide +kernel
theorem D_M_begin_1 : decode m_M_begin.2.1 1 = .ok (.iconst 5, 1) := by decide +kernel
theorem D_M_begin_2 : decode m_M_begin.2.1 2 = .ok (.if_icmp .eq 21, 3) := by decide +kernel
theorem D_M_begin_5 : decode m_M_begin.2.1 5 = .ok (.iload_n 3, 1) := by decide +kernel
theorem D_M_begin_6 : decode m_M_begin.2.1 6 = .ok (.bipush 7, 2) := by decide +kernel
theorem D_M_begin_8 : decode m_M_begin.2.1 8 = .ok (.if_icmp .eq 15, 3) := by decide +kernel
theorem D_M_begin_11 : decode m_M_begin.2.1 11 = .ok (.iload_n 3, 1) := by decide +kernel
theorem D_M_begin_12 : decode m_M_begin.2.1 12 = .ok (.bipush 11, 2) := by decide +kernel
theorem D_M_begin_14 : decode m_M_begin.2.1 14 = .ok (.if_icmp .eq 9, 3) := by decide +kernel
theorem D_M_begin_17 : decode m_M_begin.2.1 17 = .ok (.iload_n 3, 1) := by decide +kernel
theorem D_M_begin_18 : decode m_M_begin.2.1 18 = .ok (.bipush 13, 2) := by decide +kernel
theorem D_M_begin_20 : decode m_M_begin.2.1 20 = .ok (.if_icmp .ne 7, 3) := by decide +kernel
theorem D_M_begin_23 : decode m_M_begin.2.1 23 = .ok (.iconst 1, 1) := by decide +kernel
theorem D_M_begin_24 : decode m_M_begin.2.1 24 = .ok (.goto 4, 3) := by decide +kernel
theorem D_M_begin_27 : decode m_M_begin.2.1 27 = .ok (.iconst 0, 1) := by decide +kernel
theorem D_M_begin_28 : decode m_M_begin.2.1 28 = .ok (.istore 4, 2) := by decide +kernel
theorem D_M_begin_30 : decode m_M_begin.2.1 30 = .ok (.iload 4, 2) := by decide +kernel
theorem D_M_begin_32 : decode m_M_begin.2.1 32 = .ok (.ifCond .eq 23, 3) := by decide +kernel
theorem D_M_begin_35 : decode m_M_begin.2.1 35 = .ok (.iload_n 1, 1) := by decide +kernel
theorem D_M_begin_36 : decode m_M_begin.2.1 36 = .ok (.iconst 2, 1) := by decide +kernel
theorem D_M_begin_37 : decode m_M_begin.2.1 37 = .ok (.bipush 6, 2) := by decide +kernel
theorem D_M_begin_39 : decode m_M_begin.2.1 39 = .ok (.invokestatic 52, 3) := by decide +kernel
theorem D_M_begin_42 : decode m_M_begin.2.1 42 = .ok (.ifCond .eq 13, 3) := by decide +kernel
theorem D_M_begin_45 : decode m_M_begin.2.1 45 = .ok (.iload_n 2, 1) := by decide +kernel
theorem D_M_begin_46 : decode m_M_begin.2.1 46 = .ok (.iconst 2, 1) := by decide +kernel
theorem D_M_begin_47 : decode m_M_begin.2.1 47 = .ok (.bipush 6, 2) := by decide +kernel
theorem D_M_begin_49 : decode m_M_begin.2.1 49 = .ok (.invokestatic 52, 3) := by decide +kernel
theorem D_M_begin_52 : decode m_M_begin.2.1 52 = .ok (.ifCond .ne 6, 3) := by decide +kernel
theorem D_M_begin_55 : decode m_M_begin.2.1 55 = .ok (.bipush (-2), 2) := by decide +kernel
theorem D_M_begin_57 : decode m_M_begin.2.1 57 = .ok (.ireturn, 1) := by decide +kernel
theorem D_M_begin_58 : decode m_M_begin.2.1 58 = .ok (.aload_n 0, 1) := by decide +kernel
theorem D_M_begin_59 : decode m_M_begin.2.1 59 = .ok (.invokevirtual 60, 3) := by decide +kernel
theorem D_M_begin_62 : decode m_M_begin.2.1 62 = .ok (.aload_n 0, 1) := by decide +kernel
theorem D_M_begin_63 : decode m_M_begin.2.1 63 = .ok (.invokevirtual 56, 3) := by decide +kernel
theorem D_M_begin_66 : decode m_M_begin.2.1 66 = .ok (.istore 5, 2) := by decide +kernel
theorem D_M_begin_68 : decode m_M_begin.2.1 68 = .ok (.iconst 0, 1) := by decide +kernel
theorem D_M_begin_69 : decode m_M_begin.2.1 69 = .ok (.istore 6, 2) := by decide +kernel
theorem D_M_begin_71 : decode m_M_begin.2.1 71 = .ok (.iload 6, 2) := by decide +kernel
theorem D_M_begin_73 : decode m_M_begin.2.1 73 = .ok (.bipush 36, 2) := by decide +kernel
theorem D_M_begin_75 : decode m_M_begin.2.1 75 = .ok (.if_icmp .ge 17, 3) := by decide +kernel
theorem D_M_begin_78 : decode m_M_begin.2.1 78 = .ok (.aload_n 0, 1) := by decide +kernel
theorem D_M_begin_79 : decode m_M_begin.2.1 79 = .ok (.getfield 7, 3) := by decide +kernel
theorem D_M_begin_82 : decode m_M_begin.2.1 82 = .ok (.iload 6, 2) := by decide +kernel
theorem D_M_begin_84 : decode m_M_begin.2.1 84 = .ok (.iconst 0, 1) := by decide +kernel
theorem D_M_begin_85 : decode m_M_begin.2.1 85 = .ok (.iastore, 1) := by decide +kernel
theorem D_M_begin_86 : decode m_M_begin.2.1 86 = .ok (.iinc 6 1, 3) := by decide +kernel
theorem D_M_begin_89 : decode m_M_begin.2.1 89 = .ok (.goto (-18), 3) := by decide +kernel
theorem D_M_begin_92 : decode m_M_begin.2.1 92 = .ok (.aload_n 0, 1) := by decide +kernel
theorem D_M_begin_93 : decode m_M_begin.2.1 93 = .ok (.getfield 7, 3) := by decide +kernel
theorem D_M_begin_96 : decode m_M_begin.2.1 96 = .ok (.bipush 36, 2) := by decide +kernel
theorem D_M_begin_98 : decode m_M_begin.2.1 98 = .ok (.iload_n 1, 1) := by decide +kernel
theorem D_M_begin_99 : decode m_M_begin.2.1 99 = .ok (.iastore, 1) := by decide +kernel
theorem D_M_begin_100 : decode m_M_begin.2.1 100 = .ok (.aload_n 0, 1) := by decide +kernel
theorem D_M_begin_101 : decode m_M_begin.2.1 101 = .ok (.getfield 7, 3) := by decide +kernel
theorem D_M_begin_104 : decode m_M_begin.2.1 104 = .ok (.bipush 37, 2) := by decide +kernel
theorem D_M_begin_106 : decode m_M_begin.2.1 106 = .ok (.iload_n 2, 1) := by decide +kernel
theorem D_M_begin_107 : decode m_M_begin.2.1 107 = .ok (.iastore, 1) := by decide +kernel
theorem D_M_begin_108 : decode m_M_begin.2.1 108 = .ok (.aload_n 0, 1) := by decide +kernel
theorem D_M_begin_109 : decode m_M_begin.2.1 109 = .ok (.getfield 7, 3) := by decide +kernel
theorem D_M_begin_112 : decode m_M_begin.2.1 112 = .ok (.bipush 38, 2) := by decide +kernel
theorem D_M_begin_114 : decode m_M_begin.2.1 114 = .ok (.iload_n 3, 1) := by decide +kernel
theorem D_M_begin_115 : decode m_M_begin.2.1 115 = .ok (.iastore, 1) := by decide +kernel
theorem D_M_begin_116 : decode m_M_begin.2.1 116 = .ok (.iload 5, 2) := by decide +kernel
theorem D_M_begin_118 : decode m_M_begin.2.1 118 = .ok (.ireturn, 1) := by decide +kernel
theorem D_M_tell_0 : decode m_M_tell.2.1 0 = .ok (.aload_n 0, 1) := by decide +kernel
theorem D_M_tell_1 : decode m_M_tell.2.1 1 = .ok (.iload_n 1, 1) := by decide +kernel
theorem D_M_tell_2 : decode m_M_tell.2.1 2 = .ok (.iload_n 2, 1) := by decide +kernel
theorem D_M_tell_3 : decode m_M_tell.2.1 3 = .ok (.invokevirtual 88, 3) := by decide +kernel
theorem D_M_tell_6 : decode m_M_tell.2.1 6 = .ok (.ifCond .ne 5, 3) := by decide +kernel
theorem D_M_tell_9 : decode m_M_tell.2.1 9 = .ok (.iconst (-1), 1) := by decide +kernel
theorem D_M_tell_10 : decode m_M_tell.2.1 10 = .ok (.ireturn, 1) := by decide +kernel
theorem D_M_tell_11 : decode m_M_tell.2.1 11 = .ok (.iload_n 3, 1) := by decide +kernel
theorem D_M_tell_12 : decode m_M_tell.2.1 12 = .ok (.iconst 0, 1) := by decide +kernel
theorem D_M_tell_13 : decode m_M_tell.2.1 13 = .ok (.aload_n 0, 1) := by decide +kernel
theorem D_M_tell_14 : decode m_M_tell.2.1 14 = .ok (.getfield 7, 3) := by decide +kernel
theorem D_M_tell_17 : decode m_M_tell.2.1 17 = .ok (.bipush 38, 2) := by decide +kernel
theorem D_M_tell_19 : decode m_M_tell.2.1 19 = .ok (.iaload, 1) := by decide +kernel
theorem D_M_tell_20 : decode m_M_tell.2.1 20 = .ok (.iconst 1, 1) := by decide +kernel
theorem D_M_tell_21 : decode m_M_tell.2.1 21 = .ok (.isub, 1) := by decide +kernel
theorem D_M_tell_22 : decode m_M_tell.2.1 22 = .ok (.invokestatic 52, 3) := by decide +kernel
theorem D_M_tell_25 : decode m_M_tell.2.1 25 = .ok (.ifCond .ne 6, 3) := by decide +kernel
theorem D_M_tell_28 : decode m_M_tell.2.1 28 = .ok (.bipush (-2), 2) := by decide +kernel
theorem D_M_tell_30 : decode m_M_tell.2.1 30 = .ok (.ireturn, 1) := by decide +kernel
theorem D_M_tell_31 : decode m_M_tell.2.1 31 = .ok (.aload_n 0, 1) := by decide +kernel
theorem D_M_tell_32 : decode m_M_tell.2.1 32 = .ok (.invokevirtual 60, 3) := by decide +kernel
theorem D_M_tell_35 : decode m_M_tell.2.1 35 = .ok (.aload_n 0, 1) := by decide +kernel
theorem D_M_tell_36 : decode m_M_tell.2.1 36 = .ok (.iload_n 1, 1) := by decide +kernel
theorem D_M_tell_37 : decode m_M_tell.2.1 37 = .ok (.iload_n 2, 1) := by decide +kernel
theorem D_M_tell_38 : decode m_M_tell.2.1 38 = .ok (.invokevirtual 67, 3) := by decide +kernel
theorem D_M_tell_41 : decode m_M_tell.2.1 41 = .ok (.istore 4, 2) := by decide +kernel
theorem D_M_tell_43 : decode m_M_tell.2.1 43 = .ok (.aload_n 0, 1) := by decide +kernel
theorem D_M_tell_44 : decode m_M_tell.2.1 44 = .ok (.getfield 7, 3) := by decide +kernel
theorem D_M_tell_47 : decode m_M_tell.2.1 47 = .ok (.bipush 6, 2) := by decide +kernel
theorem D_M_tell_49 : decode m_M_tell.2.1 49 = .ok (.iload_n 1, 1) := by decide +kernel
theorem D_M_tell_50 : decode m_M_tell.2.1 50 = .ok (.imul, 1) := by decide +kernel
theorem D_M_tell_51 : decode m_M_tell.2.1 51 = .ok (.iload_n 2, 1) := by decide +kernel
theorem D_M_tell_52 : decode m_M_tell.2.1 52 = .ok (.iadd, 1) := by decide +kernel
theorem D_M_tell_53 : decode m_M_tell.2.1 53 = .ok (.iload_n 3, 1) := by decide +kernel
theorem D_M_tell_54 : decode m_M_tell.2.1 54 = .ok (.iastore, 1) := by decide +kernel
theorem D_M_tell_55 : decode m_M_tell.2.1 55 = .ok (.iload 4, 2) := by decide +kernel
theorem D_M_tell_57 : decode m_M_tell.2.1 57 = .ok (.ireturn, 1) := by decide +kernel
theorem D_M_tellAll_0 : decode m_M_tellAll.2.1 0 = .ok (.aload_n 0, 1) := by decide +kernel
theorem D_M_tellAll_1 : decode m_M_tellAll.2.1 1 = .ok (.invokevirtual 85, 3) := by decide +kernel
theorem D_M_tellAll_4 : decode m_M_tellAll.2.1 4 = .ok (.aload_n 0, 1) := by decide +kernel
theorem D_M_tellAll_5 : decode m_M_tellAll.2.1 5 = .ok (.getfield 81, 3) := by decide +kernel
theorem D_M_tellAll_8 : decode m_M_tellAll.2.1 8 = .ok (.ifCond .ne 6, 3) := by decide +kernel
theorem D_M_tellAll_11 : decode m_M_tellAll.2.1 11 = .ok (.bipush (-5), 2) := by decide +kernel
theorem D_M_tellAll_13 : decode m_M_tellAll.2.1 13 = .ok (.ireturn, 1) := by decide +kernel
theorem D_M_tellAll_14 : decode m_M_tellAll.2.1 14 = .ok (.aload_n 0, 1) := by decide +kernel
theorem D_M_tellAll_15 : decode m_M_tellAll.2.1 15 = .ok (.invokevirtual 60, 3) := by decide +kernel
theorem D_M_tellAll_18 : decode m_M_tellAll.2.1 18 = .ok (.iconst 0, 1) := by decide +kernel
theorem D_M_tellAll_19 : decode m_M_tellAll.2.1 19 = .ok (.istore_n 1, 1) := by decide +kernel
theorem D_M_tellAll_20 : decode m_M_tellAll.2.1 20 = .ok (.iconst 0, 1) := by decide +kernel
theorem D_M_tellAll_21 : decode m_M_tellAll.2.1 21 = .ok (.istore_n 2, 1) := by decide +kernel
theorem D_M_tellAll_22 : decode m_M_tellAll.2.1 22 = .ok (.iload_n 2, 1) := by decide +kernel
theorem D_M_tellAll_23 : decode m_M_tellAll.2.1 23 = .ok (.aload_n 0, 1) := by decide +kernel
theorem D_M_tellAll_24 : decode m_M_tellAll.2.1 24 = .ok (.getfield 7, 3) := by decide +kernel
theorem D_M_tellAll_27 : decode m_M_tellAll.2.1 27 = .ok (.bipush 36, 2) := by decide +kernel
theorem D_M_tellAll_29 : decode m_M_tellAll.2.1 29 = .ok (.iaload, 1) := by decide +kernel
theorem D_M_tellAll_30 : decode m_M_tellAll.2.1 30 = .ok (.if_icmp .ge 82, 3) := by decide +kernel
theorem D_M_tellAll_33 : decode m_M_tellAll.2.1 33 = .ok (.iconst 0, 1) := by decide +kernel
theorem D_M_tellAll_34 : decode m_M_tellAll.2.1 34 = .ok (.istore_n 3, 1) := by decide +kernel
theorem D_M_tellAll_35 : decode m_M_tellAll.2.1 35 = .ok (.iload_n 3, 1) := by decide +kernel
theorem D_M_tellAll_36 : decode m_M_tellAll.2.1 36 = .ok (.aload_n 0, 1) := by decide +kernel
theorem D_M_tellAll_37 : decode m_M_tellAll.2.1 37 = .ok (.getfield 7, 3) := by decide +kernel
theorem D_M_tellAll_40 : decode m_M_tellAll.2.1 40 = .ok (.bipush 37, 2) := by decide +kernel
theorem D_M_tellAll_42 : decode m_M_tellAll.2.1 42 = .ok (.iaload, 1) := by decide +kernel
theorem D_M_tellAll_43 : decode m_M_tellAll.2.1 43 = .ok (.if_icmp .ge 63, 3) := by decide +kernel
theorem D_M_tellAll_46 : decode m_M_tellAll.2.1 46 = .ok (.aload_n 0, 1) := by decide +kernel
theorem D_M_tellAll_47 : decode m_M_tellAll.2.1 47 = .ok (.iload_n 2, 1) := by decide +kernel
theorem D_M_tellAll_48 : decode m_M_tellAll.2.1 48 = .ok (.iload_n 3, 1) := by decide +kernel
theorem D_M_tellAll_49 : decode m_M_tellAll.2.1 49 = .ok (.invokevirtual 67, 3) := by decide +kernel
theorem D_M_tellAll_52 : decode m_M_tellAll.2.1 52 = .ok (.ifCond .ne 48, 3) := by decide +kernel
theorem D_M_tellAll_55 : decode m_M_tellAll.2.1 55 = .ok (.aload_n 0, 1) := by decide +kernel
theorem D_M_tellAll_56 : decode m_M_tellAll.2.1 56 = .ok (.getfield 27, 3) := by decide +kernel
theorem D_M_tellAll_59 : decode m_M_tellAll.2.1 59 = .ok (.iload_n 2, 1) := by decide +kernel
theorem D_M_tellAll_60 : decode m_M_tellAll.2.1 60 = .ok (.iaload, 1) := by decide +kernel
theorem D_M_tellAll_61 : decode m_M_tellAll.2.1 61 = .ok (.aload_n 0, 1) := by decide +kernel
theorem D_M_tellAll_62 : decode m_M_tellAll.2.1 62 = .ok (.getfield 30, 3) := by decide +kernel
theorem D_M_tellAll_65 : decode m_M_tellAll.2.1 65 = .ok (.iload_n 3, 1) := by decide +kernel
theorem D_M_tellAll_66 : decode m_M_tellAll.2.1 66 = .ok (.iaload, 1) := by decide +kernel
theorem D_M_tellAll_67 : decode m_M_tellAll.2.1 67 = .ok (.if_icmp .ne 33, 3) := by decide +kernel
theorem D_M_tellAll_70 : decode m_M_tellAll.2.1 70 = .ok (.aload_n 0, 1) := by decide +kernel
theorem D_M_tellAll_71 : decode m_M_tellAll.2.1 71 = .ok (.getfield 7, 3) := by decide +kernel
theorem D_M_tellAll_74 : decode m_M_tellAll.2.1 74 = .ok (.bipush 6, 2) := by decide +kernel
theorem D_M_tellAll_76 : decode m_M_tellAll.2.1 76 = .ok (.iload_n 2, 1) := by decide +kernel
theorem D_M_tellAll_77 : decode m_M_tellAll.2.1 77 = .ok (.imul, 1) := by decide +kernel
theorem D_M_tellAll_78 : decode m_M_tellAll.2.1 78 = .ok (.iload_n 3, 1) := by decide +kernel
theorem D_M_tellAll_79 : decode m_M_tellAll.2.1 79 = .ok (.iadd, 1) := by decide +kernel
theorem D_M_tellAll_80 : decode m_M_tellAll.2.1 80 = .ok (.aload_n 0, 1) := by decide +kernel
theorem D_M_tellAll_81 : decode m_M_tellAll.2.1 81 = .ok (.aload_n 0, 1) := by decide +kernel
theorem D_M_tellAll_82 : decode m_M_tellAll.2.1 82 = .ok (.getfield 33, 3) := by decide +kernel
theorem D_M_tellAll_85 : decode m_M_tellAll.2.1 85 = .ok (.iload_n 2, 1) := by decide +kernel
theorem D_M_tellAll_86 : decode m_M_tellAll.2.1 86 = .ok (.iaload, 1) := by decide +kernel
theorem D_M_tellAll_87 : decode m_M_tellAll.2.1 87 = .ok (.aload_n 0, 1) := by decide +kernel
theorem D_M_tellAll_88 : decode m_M_tellAll.2.1 88 = .ok (.getfield 36, 3) := by decide +kernel
theorem D_M_tellAll_91 : decode m_M_tellAll.2.1 91 = .ok (.iload_n 3, 1) := by decide +kernel
theorem D_M_tellAll_92 : decode m_M_tellAll.2.1 92 = .ok (.iaload, 1) := by decide +kernel
theorem D_M_tellAll_93 : decode m_M_tellAll.2.1 93 = .ok (.invokevirtual 63, 3) := by decide +kernel
theorem D_M_tellAll_96 : decode m_M_tellAll.2.1 96 = .ok (.iastore, 1) := by decide +kernel
theorem D_M_tellAll_97 : decode m_M_tellAll.2.1 97 = .ok (.iinc 1 1, 3) := by decide +kernel
theorem D_M_tellAll_100 : decode m_M_tellAll.2.1 100 = .ok (.iinc 3 1, 3) := by decide +kernel
theorem D_M_tellAll_103 : decode m_M_tellAll.2.1 103 = .ok (.goto (-68), 3) := by decide +kernel
theorem D_M_tellAll_106 : decode m_M_tellAll.2.1 106 = .ok (.iinc 2 1, 3) := by decide +kernel
theorem D_M_tellAll_109 : decode m_M_tellAll.2.1 109 = .ok (.goto (-87), 3) := by decide +kernel
theorem D_M_tellAll_112 : decode m_M_tellAll.2.1 112 = .ok (.iload_n 1, 1) := by decide +kernel
theorem D_M_tellAll_113 : decode m_M_tellAll.2.1 113 = .ok (.ireturn, 1) := by decide +kernel
theorem D_M_follows_0 : decode m_M_follows.2.1 0 = .ok (.aload_n 0, 1) := by decide +kernel
theorem D_M_follows_1 : decode m_M_follows.2.1 1 = .ok (.invokevirtual 85, 3) := by decide +kernel
theorem D_M_follows_4 : decode m_M_follows.2.1 4 = .ok (.aload_n 0, 1) := by decide +kernel
theorem D_M_follows_5 : decode m_M_follows.2.1 5 = .ok (.getfield 81, 3) := by decide +kernel
theorem D_M_follows_8 : decode m_M_follows.2.1 8 = .ok (.ifCond .eq 37, 3) := by decide +kernel
theorem D_M_follows_11 : decode m_M_follows.2.1 11 = .ok (.aload_n 0, 1) := by decide +kernel
theorem D_M_follows_12 : decode m_M_follows.2.1 12 = .ok (.getfield 27, 3) := by decide +kernel
theorem D_M_follows_15 : decode m_M_follows.2.1 15 = .ok (.iload_n 1, 1) := by decide +kernel
theorem D_M_follows_16 : decode m_M_follows.2.1 16 = .ok (.iaload, 1) := by decide +kernel
theorem D_M_follows_17 : decode m_M_follows.2.1 17 = .ok (.aload_n 0, 1) := by decide +kernel
theorem D_M_follows_18 : decode m_M_follows.2.1 18 = .ok (.getfield 30, 3) := by decide +kernel
theorem D_M_follows_21 : decode m_M_follows.2.1 21 = .ok (.iload_n 2, 1) := by decide +kernel
theorem D_M_follows_22 : decode m_M_follows.2.1 22 = .ok (.iaload, 1) := by decide +kernel
theorem D_M_follows_23 : decode m_M_follows.2.1 23 = .ok (.if_icmp .ne 22, 3) := by decide +kernel
theorem D_M_follows_26 : decode m_M_follows.2.1 26 = .ok (.aload_n 0, 1) := by decide +kernel
theorem D_M_follows_27 : decode m_M_follows.2.1 27 = .ok (.aload_n 0, 1) := by decide +kernel
theorem D_M_follows_28 : decode m_M_follows.2.1 28 = .ok (.getfield 33, 3) := by decide +kernel
theorem D_M_follows_31 : decode m_M_follows.2.1 31 = .ok (.iload_n 1, 1) := by decide +kernel
theorem D_M_follows_32 : decode m_M_follows.2.1 32 = .ok (.iaload, 1) := by decide +kernel
theorem D_M_follows_33 : decode m_M_follows.2.1 33 = .ok (.aload_n 0, 1) := by decide +kernel
theorem D_M_follows_34 : decode m_M_follows.2.1 34 = .ok (.getfield 36, 3) := by decide +kernel
theorem D_M_follows_37 : decode m_M_follows.2.1 37 = .ok (.iload_n 2, 1) := by decide +kernel
theorem D_M_follows_38 : decode m_M_follows.2.1 38 = .ok (.iaload, 1) := by decide +kernel
theorem D_M_follows_39 : decode m_M_follows.2.1 39 = .ok (.invokevirtual 63, 3) := by decide +kernel
theorem D_M_follows_42 : decode m_M_follows.2.1 42 = .ok (.goto 5, 3) := by decide +kernel
theorem D_M_follows_45 : decode m_M_follows.2.1 45 = .ok (.bipush (-6), 2) := by decide +kernel
theorem D_M_follows_47 : decode m_M_follows.2.1 47 = .ok (.ireturn, 1) := by decide +kernel
theorem D_M_followsWithout_0 : decode m_M_followsWithout.2.1 0 = .ok (.aload_n 0, 1) := by decide +kernel
theorem D_M_followsWithout_1 : decode m_M_followsWithout.2.1 1 = .ok (.iload_n 1, 1) := by decide +kernel
theorem D_M_followsWithout_2 : decode m_M_followsWithout.2.1 2 = .ok (.iload_n 2, 1) := by decide +kernel
theorem D_M_followsWithout_3 : decode m_M_followsWithout.2.1 3 = .ok (.invokevirtual 67, 3) := by decide +kernel
theorem D_M_followsWithout_6 : decode m_M_followsWithout.2.1 6 = .ok (.istore_n 3, 1) := by decide +kernel
theorem D_M_followsWithout_7 : decode m_M_followsWithout.2.1 7 = .ok (.aload_n 0, 1) := by decide +kernel
theorem D_M_followsWithout_8 : decode m_M_followsWithout.2.1 8 = .ok (.getfield 7, 3) := by decide +kernel
theorem D_M_followsWithout_11 : decode m_M_followsWithout.2.1 11 = .ok (.bipush 6, 2) := by decide +kernel
theorem D_M_followsWithout_13 : decode m_M_followsWithout.2.1 13 = .ok (.iload_n 1, 1) := by decide +kernel
theorem D_M_followsWithout_14 : decode m_M_followsWithout.2.1 14 = .ok (.imul, 1) := by decide +kernel
theorem D_M_followsWithout_15 : decode m_M_followsWithout.2.1 15 = .ok (.iload_n 2, 1) := by decide +kernel
theorem D_M_followsWithout_16 : decode m_M_followsWithout.2.1 16 = .ok (.iadd, 1) := by decide +kernel
theorem D_M_followsWithout_17 : decode m_M_followsWithout.2.1 17 = .ok (.iconst 0, 1) := by decide +kernel
theorem D_M_followsWithout_18 : decode m_M_followsWithout.2.1 18 = .ok (.iastore, 1) := by decide +kernel
theorem D_M_followsWithout_19 : decode m_M_followsWithout.2.1 19 = .ok (.aload_n 0, 1) := by decide +kernel
theorem D_M_followsWithout_20 : decode m_M_followsWithout.2.1 20 = .ok (.iload_n 1, 1) := by decide +kernel
theorem D_M_followsWithout_21 : decode m_M_followsWithout.2.1 21 = .ok (.iload_n 2, 1) := by decide +kernel
theorem D_M_followsWithout_22 : decode m_M_followsWithout.2.1 22 = .ok (.invokevirtual 92, 3) := by decide +kernel
theorem D_M_followsWithout_25 : decode m_M_followsWithout.2.1 25 = .ok (.istore 4, 2) := by decide +kernel
theorem D_M_followsWithout_27 : decode m_M_followsWithout.2.1 27 = .ok (.aload_n 0, 1) := by decide +kernel
theorem D_M_followsWithout_28 : decode m_M_followsWithout.2.1 28 = .ok (.getfield 7, 3) := by decide +kernel
theorem D_M_followsWithout_31 : decode m_M_followsWithout.2.1 31 = .ok (.bipush 6, 2) := by decide +kernel
theorem D_M_followsWithout_33 : decode m_M_followsWithout.2.1 33 = .ok (.iload_n 1, 1) := by decide +kernel
theorem D_M_followsWithout_34 : decode m_M_followsWithout.2.1 34 = .ok (.imul, 1) := by decide +kernel
theorem D_M_followsWithout_35 : decode m_M_followsWithout.2.1 35 = .ok (.iload_n 2, 1) := by decide +kernel
theorem D_M_followsWithout_36 : decode m_M_followsWithout.2.1 36 = .ok (.iadd, 1) := by decide +kernel
theorem D_M_followsWithout_37 : decode m_M_followsWithout.2.1 37 = .ok (.iload_n 3, 1) := by decide +kernel
theorem D_M_followsWithout_38 : decode m_M_followsWithout.2.1 38 = .ok (.iastore, 1) := by decide +kernel
theorem D_M_followsWithout_39 : decode m_M_followsWithout.2.1 39 = .ok (.iload 4, 2) := by decide +kernel
theorem D_M_followsWithout_41 : decode m_M_followsWithout.2.1 41 = .ok (.ireturn, 1) := by decide +kernel
theorem D_M_minorsWith_0 : decode m_M_minorsWith.2.1 0 = .ok (.iconst 0, 1) := by decide +kernel
theorem D_M_minorsWith_1 : decode m_M_minorsWith.2.1 1 = .ok (.istore_n 3, 1) := by decide +kernel
theorem D_M_minorsWith_2 : decode m_M_minorsWith.2.1 2 = .ok (.iconst 0, 1) := by decide +kernel
theorem D_M_minorsWith_3 : decode m_M_minorsWith.2.1 3 = .ok (.istore 4, 2) := by decide +kernel
theorem D_M_minorsWith_5 : decode m_M_minorsWith.2.1 5 = .ok (.iload 4, 2) := by decide +kernel
theorem D_M_minorsWith_7 : decode m_M_minorsWith.2.1 7 = .ok (.aload_n 0, 1) := by decide +kernel
theorem D_M_minorsWith_8 : decode m_M_minorsWith.2.1 8 = .ok (.getfield 7, 3) := by decide +kernel
theorem D_M_minorsWith_11 : decode m_M_minorsWith.2.1 11 = .ok (.bipush 36, 2) := by decide +kernel
theorem D_M_minorsWith_13 : decode m_M_minorsWith.2.1 13 = .ok (.iaload, 1) := by decide +kernel
theorem D_M_minorsWith_14 : decode m_M_minorsWith.2.1 14 = .ok (.if_icmp .ge 90, 3) := by decide +kernel
theorem D_M_minorsWith_17 : decode m_M_minorsWith.2.1 17 = .ok (.iconst 0, 1) := by decide +kernel
theorem D_M_minorsWith_18 : decode m_M_minorsWith.2.1 18 = .ok (.istore 5, 2) := by decide +kernel
theorem D_M_minorsWith_20 : decode m_M_minorsWith.2.1 20 = .ok (.iload 5, 2) := by decide +kernel
theorem D_M_minorsWith_22 : decode m_M_minorsWith.2.1 22 = .ok (.aload_n 0, 1) := by decide +kernel
theorem D_M_minorsWith_23 : decode m_M_minorsWith.2.1 23 = .ok (.getfield 7, 3) := by decide +kernel
theorem D_M_minorsWith_26 : decode m_M_minorsWith.2.1 26 = .ok (.bipush 37, 2) := by decide +kernel
theorem D_M_minorsWith_28 : decode m_M_minorsWith.2.1 28 = .ok (.iaload, 1) := by decide +kernel
theorem D_M_minorsWith_29 : decode m_M_minorsWith.2.1 29 = .ok (.if_icmp .ge 69, 3) := by decide +kernel
theorem D_M_minorsWith_32 : decode m_M_minorsWith.2.1 32 = .ok (.iload_n 3, 1) := by decide +kernel
theorem D_M_minorsWith_33 : decode m_M_minorsWith.2.1 33 = .ok (.iload 4, 2) := by decide +kernel
theorem D_M_minorsWith_35 : decode m_M_minorsWith.2.1 35 = .ok (.iload_n 1, 1) := by decide +kernel
theorem D_M_minorsWith_36 : decode m_M_minorsWith.2.1 36 = .ok (.if_icmp .eq 53, 3) := by decide +kernel
theorem D_M_minorsWith_39 : decode m_M_minorsWith.2.1 39 = .ok (.iload 5, 2) := by decide +kernel
theorem D_M_minorsWith_41 : decode m_M_minorsWith.2.1 41 = .ok (.iload_n 2, 1) := by decide +kernel
theorem D_M_minorsWith_42 : decode m_M_minorsWith.2.1 42 = .ok (.if_icmp .eq 47, 3) := by decide +kernel
theorem D_M_minorsWith_45 : decode m_M_minorsWith.2.1 45 = .ok (.aload_n 0, 1) := by decide +kernel
theorem D_M_minorsWith_46 : decode m_M_minorsWith.2.1 46 = .ok (.iload_n 1, 1) := by decide +kernel
theorem D_M_minorsWith_47 : decode m_M_minorsWith.2.1 47 = .ok (.iload_n 2, 1) := by decide +kernel
theorem D_M_minorsWith_48 : decode m_M_minorsWith.2.1 48 = .ok (.invokevirtual 67, 3) := by decide +kernel
theorem D_M_minorsWith_51 : decode m_M_minorsWith.2.1 51 = .ok (.ifCond .le 38, 3) := by decide +kernel
theorem D_M_minorsWith_54 : decode m_M_minorsWith.2.1 54 = .ok (.aload_n 0, 1) := by decide +kernel
theorem D_M_minorsWith_55 : decode m_M_minorsWith.2.1 55 = .ok (.iload 4, 2) := by decide +kernel
theorem D_M_minorsWith_57 : decode m_M_minorsWith.2.1 57 = .ok (.iload_n 2, 1) := by decide +kernel
theorem D_M_minorsWith_58 : decode m_M_minorsWith.2.1 58 = .ok (.invokevirtual 67, 3) := by decide +kernel
theorem D_M_minorsWith_61 : decode m_M_minorsWith.2.1 61 = .ok (.ifCond .le 28, 3) := by decide +kernel
theorem D_M_minorsWith_64 : decode m_M_minorsWith.2.1 64 = .ok (.aload_n 0, 1) := by decide +kernel
theorem D_M_minorsWith_65 : decode m_M_minorsWith.2.1 65 = .ok (.iload_n 1, 1) := by decide +kernel
theorem D_M_minorsWith_66 : decode m_M_minorsWith.2.1 66 = .ok (.iload 5, 2) := by decide +kernel
theorem D_M_minorsWith_68 : decode m_M_minorsWith.2.1 68 = .ok (.invokevirtual 67, 3) := by decide +kernel
theorem D_M_minorsWith_71 : decode m_M_minorsWith.2.1 71 = .ok (.ifCond .le 18, 3) := by decide +kernel
theorem D_M_minorsWith_74 : decode m_M_minorsWith.2.1 74 = .ok (.aload_n 0, 1) := by decide +kernel
theorem D_M_minorsWith_75 : decode m_M_minorsWith.2.1 75 = .ok (.iload 4, 2) := by decide +kernel
theorem D_M_minorsWith_77 : decode m_M_minorsWith.2.1 77 = .ok (.iload 5, 2) := by decide +kernel
theorem D_M_minorsWith_79 : decode m_M_minorsWith.2.1 79 = .ok (.invokevirtual 67, 3) := by decide +kernel
theorem D_M_minorsWith_82 : decode m_M_minorsWith.2.1 82 = .ok (.ifCond .le 7, 3) := by decide +kernel
theorem D_M_minorsWith_85 : decode m_M_minorsWith.2.1 85 = .ok (.iconst 1, 1) := by decide +kernel
theorem D_M_minorsWith_86 : decode m_M_minorsWith.2.1 86 = .ok (.goto 4, 3) := by decide +kernel
theorem D_M_minorsWith_89 : decode m_M_minorsWith.2.1 89 = .ok (.iconst 0, 1) := by decide +kernel
theorem D_M_minorsWith_90 : decode m_M_minorsWith.2.1 90 = .ok (.iadd, 1) := by decide +kernel
theorem D_M_minorsWith_91 : decode m_M_minorsWith.2.1 91 = .ok (.istore_n 3, 1) := by decide +kernel
theorem D_M_minorsWith_92 : decode m_M_minorsWith.2.1 92 = .ok (.iinc 5 1, 3) := by decide +kernel
theorem D_M_minorsWith_95 : decode m_M_minorsWith.2.1 95 = .ok (.goto (-75), 3) := by decide +kernel
theorem D_M_minorsWith_98 : decode m_M_minorsWith.2.1 98 = .ok (.iinc 4 1, 3) := by decide +kernel
theorem D_M_minorsWith_101 : decode m_M_minorsWith.2.1 101 = .ok (.goto (-96), 3) := by decide +kernel
theorem D_M_minorsWith_104 : decode m_M_minorsWith.2.1 104 = .ok (.iload_n 3, 1) := by decide +kernel
theorem D_M_minorsWith_105 : decode m_M_minorsWith.2.1 105 = .ok (.ireturn, 1) := by decide +kernel
theorem D_M_entry_0 : decode m_M_entry.2.1 0 = .ok (.aload_n 0, 1) := by decide +kernel
theorem D_M_entry_1 : decode m_M_entry.2.1 1 = .ok (.iload_n 1, 1) := by decide +kernel
theorem D_M_entry_2 : decode m_M_entry.2.1 2 = .ok (.iload_n 2, 1) := by decide +kernel
theorem D_M_entry_3 : decode m_M_entry.2.1 3 = .ok (.invokevirtual 88, 3) := by decide +kernel
theorem D_M_entry_6 : decode m_M_entry.2.1 6 = .ok (.ifCond .ne 5, 3) := by decide +kernel
theorem D_M_entry_9 : decode m_M_entry.2.1 9 = .ok (.iconst (-1), 1) := by decide +kernel
theorem D_M_entry_10 : decode m_M_entry.2.1 10 = .ok (.ireturn, 1) := by decide +kernel
theorem D_M_entry_11 : decode m_M_entry.2.1 11 = .ok (.iload_n 3, 1) := by decide +kernel
theorem D_M_entry_12 : decode m_M_entry.2.1 12 = .ok (.tableswitch 60 0 3 #[32, 39, 46, 53], 32) := by decide +kernel
theorem D_M_entry_44 : decode m_M_entry.2.1 44 = .ok (.aload_n 0, 1) := by decide +kernel
theorem D_M_entry_45 : decode m_M_entry.2.1 45 = .ok (.iload_n 1, 1) := by decide +kernel
theorem D_M_entry_46 : decode m_M_entry.2.1 46 = .ok (.iload_n 2, 1) := by decide +kernel
theorem D_M_entry_47 : decode m_M_entry.2.1 47 = .ok (.invokevirtual 67, 3) := by decide +kernel
theorem D_M_entry_50 : decode m_M_entry.2.1 50 = .ok (.ireturn, 1) := by decide +kernel
theorem D_M_entry_51 : decode m_M_entry.2.1 51 = .ok (.aload_n 0, 1) := by decide +kernel
theorem D_M_entry_52 : decode m_M_entry.2.1 52 = .ok (.iload_n 1, 1) := by decide +kernel
theorem D_M_entry_53 : decode m_M_entry.2.1 53 = .ok (.iload_n 2, 1) := by decide +kernel
theorem D_M_entry_54 : decode m_M_entry.2.1 54 = .ok (.invokevirtual 92, 3) := by decide +kernel
theorem D_M_entry_57 : decode m_M_entry.2.1 57 = .ok (.ireturn, 1) := by decide +kernel
theorem D_M_entry_58 : decode m_M_entry.2.1 58 = .ok (.aload_n 0, 1) := by decide +kernel
theorem D_M_entry_59 : decode m_M_entry.2.1 59 = .ok (.iload_n 1, 1) := by decide +kernel
theorem D_M_entry_60 : decode m_M_entry.2.1 60 = .ok (.iload_n 2, 1) := by decide +kernel
theorem D_M_entry_61 : decode m_M_entry.2.1 61 = .ok (.invokevirtual 95, 3) := by decide +kernel
theorem D_M_entry_64 : decode m_M_entry.2.1 64 = .ok (.ireturn, 1) := by decide +kernel
theorem D_M_entry_65 : decode m_M_entry.2.1 65 = .ok (.aload_n 0, 1) := by decide +kernel
theorem D_M_entry_66 : decode m_M_entry.2.1 66 = .ok (.iload_n 1, 1) := by decide +kernel
theorem D_M_entry_67 : decode m_M_entry.2.1 67 = .ok (.iload_n 2, 1) := by decide +kernel
theorem D_M_entry_68 : decode m_M_entry.2.1 68 = .ok (.invokevirtual 98, 3) := by decide +kernel
theorem D_M_entry_71 : decode m_M_entry.2.1 71 = .ok (.ireturn, 1) := by decide +kernel
theorem D_M_entry_72 : decode m_M_entry.2.1 72 = .ok (.bipush (-2), 2) := by decide +kernel
theorem D_M_entry_74 : decode m_M_entry.2.1 74 = .ok (.ireturn, 1) := by decide +kernel
theorem D_M_rowsOf_0 : decode m_M_rowsOf.2.1 0 = .ok (.iconst 0, 1) := by decide +kernel
theorem D_M_rowsOf_1 : decode m_M_rowsOf.2.1 1 = .ok (.istore_n 2, 1) := by decide +kernel
theorem D_M_rowsOf_2 : decode m_M_rowsOf.2.1 2 = .ok (.iconst 0, 1) := by decide +kernel
theorem D_M_rowsOf_3 : decode m_M_rowsOf.2.1 3 = .ok (.istore_n 3, 1) := by decide +kernel
theorem D_M_rowsOf_4 : decode m_M_rowsOf.2.1 4 = .ok (.iload_n 3, 1) := by decide +kernel
theorem D_M_rowsOf_5 : decode m_M_rowsOf.2.1 5 = .ok (.aload_n 0, 1) := by decide +kernel
theorem D_M_rowsOf_6 : decode m_M_rowsOf.2.1 6 = .ok (.getfield 7, 3) := by decide +kernel
theorem D_M_rowsOf_9 : decode m_M_rowsOf.2.1 9 = .ok (.bipush 36, 2) := by decide +kernel
theorem D_M_rowsOf_11 : decode m_M_rowsOf.2.1 11 = .ok (.iaload, 1) := by decide +kernel
theorem D_M_rowsOf_12 : decode m_M_rowsOf.2.1 12 = .ok (.if_icmp .ge 29, 3) := by decide +kernel
theorem D_M_rowsOf_15 : decode m_M_rowsOf.2.1 15 = .ok (.iload_n 2, 1) := by decide +kernel
theorem D_M_rowsOf_16 : decode m_M_rowsOf.2.1 16 = .ok (.aload_n 0, 1) := by decide +kernel
theorem D_M_rowsOf_17 : decode m_M_rowsOf.2.1 17 = .ok (.getfield 27, 3) := by decide +kernel
theorem D_M_rowsOf_20 : decode m_M_rowsOf.2.1 20 = .ok (.iload_n 3, 1) := by decide +kernel
theorem D_M_rowsOf_21 : decode m_M_rowsOf.2.1 21 = .ok (.iaload, 1) := by decide +kernel
theorem D_M_rowsOf_22 : decode m_M_rowsOf.2.1 22 = .ok (.iload_n 1, 1) := by decide +kernel
theorem D_M_rowsOf_23 : decode m_M_rowsOf.2.1 23 = .ok (.if_icmp .ne 9, 3) := by decide +kernel
theorem D_M_rowsOf_26 : decode m_M_rowsOf.2.1 26 = .ok (.iconst 1, 1) := by decide +kernel
theorem D_M_rowsOf_27 : decode m_M_rowsOf.2.1 27 = .ok (.iload_n 3, 1) := by decide +kernel
theorem D_M_rowsOf_28 : decode m_M_rowsOf.2.1 28 = .ok (.ishl, 1) := by decide +kernel
theorem D_M_rowsOf_29 : decode m_M_rowsOf.2.1 29 = .ok (.goto 4, 3) := by decide +kernel
theorem D_M_rowsOf_32 : decode m_M_rowsOf.2.1 32 = .ok (.iconst 0, 1) := by decide +kernel
theorem D_M_rowsOf_33 : decode m_M_rowsOf.2.1 33 = .ok (.ior, 1) := by decide +kernel
theorem D_M_rowsOf_34 : decode m_M_rowsOf.2.1 34 = .ok (.istore_n 2, 1) := by decide +kernel
theorem D_M_rowsOf_35 : decode m_M_rowsOf.2.1 35 = .ok (.iinc 3 1, 3) := by decide +kernel
theorem D_M_rowsOf_38 : decode m_M_rowsOf.2.1 38 = .ok (.goto (-34), 3) := by decide +kernel
theorem D_M_rowsOf_41 : decode m_M_rowsOf.2.1 41 = .ok (.iload_n 2, 1) := by decide +kernel
theorem D_M_rowsOf_42 : decode m_M_rowsOf.2.1 42 = .ok (.ireturn, 1) := by decide +kernel
theorem D_M_columnsOf_0 : decode m_M_columnsOf.2.1 0 = .ok (.iconst 0, 1) := by decide +kernel
theorem D_M_columnsOf_1 : decode m_M_columnsOf.2.1 1 = .ok (.istore_n 2, 1) := by decide +kernel
theorem D_M_columnsOf_2 : decode m_M_columnsOf.2.1 2 = .ok (.iconst 0, 1) := by decide +kernel
theorem D_M_columnsOf_3 : decode m_M_columnsOf.2.1 3 = .ok (.istore_n 3, 1) := by decide +kernel
theorem D_M_columnsOf_4 : decode m_M_columnsOf.2.1 4 = .ok (.iload_n 3, 1) := by decide +kernel
theorem D_M_columnsOf_5 : decode m_M_columnsOf.2.1 5 = .ok (.aload_n 0, 1) := by decide +kernel
theorem D_M_columnsOf_6 : decode m_M_columnsOf.2.1 6 = .ok (.getfield 7, 3) := by decide +kernel
theorem D_M_columnsOf_9 : decode m_M_columnsOf.2.1 9 = .ok (.bipush 37, 2) := by decide +kernel
theorem D_M_columnsOf_11 : decode m_M_columnsOf.2.1 11 = .ok (.iaload, 1) := by decide +kernel
theorem D_M_columnsOf_12 : decode m_M_columnsOf.2.1 12 = .ok (.if_icmp .ge 29, 3) := by decide +kernel
theorem D_M_columnsOf_15 : decode m_M_columnsOf.2.1 15 = .ok (.iload_n 2, 1) := by decide +kernel
theorem D_M_columnsOf_16 : decode m_M_columnsOf.2.1 16 = .ok (.aload_n 0, 1) := by decide +kernel
theorem D_M_columnsOf_17 : decode m_M_columnsOf.2.1 17 = .ok (.getfield 30, 3) := by decide +kernel
theorem D_M_columnsOf_20 : decode m_M_columnsOf.2.1 20 = .ok (.iload_n 3, 1) := by decide +kernel
theorem D_M_columnsOf_21 : decode m_M_columnsOf.2.1 21 = .ok (.iaload, 1) := by decide +kernel
theorem D_M_columnsOf_22 : decode m_M_columnsOf.2.1 22 = .ok (.iload_n 1, 1) := by decide +kernel
theorem D_M_columnsOf_23 : decode m_M_columnsOf.2.1 23 = .ok (.if_icmp .ne 9, 3) := by decide +kernel
theorem D_M_columnsOf_26 : decode m_M_columnsOf.2.1 26 = .ok (.iconst 1, 1) := by decide +kernel
theorem D_M_columnsOf_27 : decode m_M_columnsOf.2.1 27 = .ok (.iload_n 3, 1) := by decide +kernel
theorem D_M_columnsOf_28 : decode m_M_columnsOf.2.1 28 = .ok (.ishl, 1) := by decide +kernel
theorem D_M_columnsOf_29 : decode m_M_columnsOf.2.1 29 = .ok (.goto 4, 3) := by decide +kernel
theorem D_M_columnsOf_32 : decode m_M_columnsOf.2.1 32 = .ok (.iconst 0, 1) := by decide +kernel
theorem D_M_columnsOf_33 : decode m_M_columnsOf.2.1 33 = .ok (.ior, 1) := by decide +kernel
theorem D_M_columnsOf_34 : decode m_M_columnsOf.2.1 34 = .ok (.istore_n 2, 1) := by decide +kernel
theorem D_M_columnsOf_35 : decode m_M_columnsOf.2.1 35 = .ok (.iinc 3 1, 3) := by decide +kernel
theorem D_M_columnsOf_38 : decode m_M_columnsOf.2.1 38 = .ok (.goto (-34), 3) := by decide +kernel
theorem D_M_columnsOf_41 : decode m_M_columnsOf.2.1 41 = .ok (.iload_n 2, 1) := by decide +kernel
theorem D_M_columnsOf_42 : decode m_M_columnsOf.2.1 42 = .ok (.ireturn, 1) := by decide +kernel
theorem D_M_toldIn_0 : decode m_M_toldIn.2.1 0 = .ok (.iconst 0, 1) := by decide +kernel
theorem D_M_toldIn_1 : decode m_M_toldIn.2.1 1 = .ok (.istore_n 2, 1) := by decide +kernel
theorem D_M_toldIn_2 : decode m_M_toldIn.2.1 2 = .ok (.iconst 0, 1) := by decide +kernel
theorem D_M_toldIn_3 : decode m_M_toldIn.2.1 3 = .ok (.istore_n 3, 1) := by decide +kernel
theorem D_M_toldIn_4 : decode m_M_toldIn.2.1 4 = .ok (.iload_n 3, 1) := by decide +kernel
theorem D_M_toldIn_5 : decode m_M_toldIn.2.1 5 = .ok (.aload_n 0, 1) := by decide +kernel
theorem D_M_toldIn_6 : decode m_M_toldIn.2.1 6 = .ok (.getfield 7, 3) := by decide +kernel
theorem D_M_toldIn_9 : decode m_M_toldIn.2.1 9 = .ok (.bipush 36, 2) := by decide +kernel
theorem D_M_toldIn_11 : decode m_M_toldIn.2.1 11 = .ok (.iaload, 1) := by decide +kernel
theorem D_M_toldIn_12 : decode m_M_toldIn.2.1 12 = .ok (.if_icmp .ge 58, 3) := by decide +kernel
theorem D_M_toldIn_15 : decode m_M_toldIn.2.1 15 = .ok (.iconst 0, 1) := by decide +kernel
theorem D_M_toldIn_16 : decode m_M_toldIn.2.1 16 = .ok (.istore 4, 2) := by decide +kernel
theorem D_M_toldIn_18 : decode m_M_toldIn.2.1 18 = .ok (.iload 4, 2) := by decide +kernel
theorem D_M_toldIn_20 : decode m_M_toldIn.2.1 20 = .ok (.aload_n 0, 1) := by decide +kernel
theorem D_M_toldIn_21 : decode m_M_toldIn.2.1 21 = .ok (.getfield 7, 3) := by decide +kernel
theorem D_M_toldIn_24 : decode m_M_toldIn.2.1 24 = .ok (.bipush 37, 2) := by decide +kernel
theorem D_M_toldIn_26 : decode m_M_toldIn.2.1 26 = .ok (.iaload, 1) := by decide +kernel
theorem D_M_toldIn_27 : decode m_M_toldIn.2.1 27 = .ok (.if_icmp .ge 37, 3) := by decide +kernel
theorem D_M_toldIn_30 : decode m_M_toldIn.2.1 30 = .ok (.iload_n 2, 1) := by decide +kernel
theorem D_M_toldIn_31 : decode m_M_toldIn.2.1 31 = .ok (.aload_n 0, 1) := by decide +kernel
theorem D_M_toldIn_32 : decode m_M_toldIn.2.1 32 = .ok (.iload_n 3, 1) := by decide +kernel
theorem D_M_toldIn_33 : decode m_M_toldIn.2.1 33 = .ok (.iload 4, 2) := by decide +kernel
theorem D_M_toldIn_35 : decode m_M_toldIn.2.1 35 = .ok (.invokevirtual 67, 3) := by decide +kernel
theorem D_M_toldIn_38 : decode m_M_toldIn.2.1 38 = .ok (.ifCond .le 17, 3) := by decide +kernel
theorem D_M_toldIn_41 : decode m_M_toldIn.2.1 41 = .ok (.aload_n 0, 1) := by decide +kernel
theorem D_M_toldIn_42 : decode m_M_toldIn.2.1 42 = .ok (.getfield 27, 3) := by decide +kernel
theorem D_M_toldIn_45 : decode m_M_toldIn.2.1 45 = .ok (.iload_n 3, 1) := by decide +kernel
theorem D_M_toldIn_46 : decode m_M_toldIn.2.1 46 = .ok (.iaload, 1) := by decide +kernel
theorem D_M_toldIn_47 : decode m_M_toldIn.2.1 47 = .ok (.iload_n 1, 1) := by decide +kernel
theorem D_M_toldIn_48 : decode m_M_toldIn.2.1 48 = .ok (.if_icmp .ne 7, 3) := by decide +kernel
theorem D_M_toldIn_51 : decode m_M_toldIn.2.1 51 = .ok (.iconst 1, 1) := by decide +kernel
theorem D_M_toldIn_52 : decode m_M_toldIn.2.1 52 = .ok (.goto 4, 3) := by decide +kernel
theorem D_M_toldIn_55 : decode m_M_toldIn.2.1 55 = .ok (.iconst 0, 1) := by decide +kernel
theorem D_M_toldIn_56 : decode m_M_toldIn.2.1 56 = .ok (.iadd, 1) := by decide +kernel
theorem D_M_toldIn_57 : decode m_M_toldIn.2.1 57 = .ok (.istore_n 2, 1) := by decide +kernel
theorem D_M_toldIn_58 : decode m_M_toldIn.2.1 58 = .ok (.iinc 4 1, 3) := by decide +kernel
theorem D_M_toldIn_61 : decode m_M_toldIn.2.1 61 = .ok (.goto (-43), 3) := by decide +kernel
theorem D_M_toldIn_64 : decode m_M_toldIn.2.1 64 = .ok (.iinc 3 1, 3) := by decide +kernel
theorem D_M_toldIn_67 : decode m_M_toldIn.2.1 67 = .ok (.goto (-63), 3) := by decide +kernel
theorem D_M_toldIn_70 : decode m_M_toldIn.2.1 70 = .ok (.iload_n 2, 1) := by decide +kernel
theorem D_M_toldIn_71 : decode m_M_toldIn.2.1 71 = .ok (.ireturn, 1) := by decide +kernel
theorem D_M_part_0 : decode m_M_part.2.1 0 = .ok (.aload_n 0, 1) := by decide +kernel
theorem D_M_part_1 : decode m_M_part.2.1 1 = .ok (.invokevirtual 85, 3) := by decide +kernel
theorem D_M_part_4 : decode m_M_part.2.1 4 = .ok (.iload_n 1, 1) := by decide +kernel
theorem D_M_part_5 : decode m_M_part.2.1 5 = .ok (.ifCond .lt 11, 3) := by decide +kernel
theorem D_M_part_8 : decode m_M_part.2.1 8 = .ok (.iload_n 1, 1) := by decide +kernel
theorem D_M_part_9 : decode m_M_part.2.1 9 = .ok (.aload_n 0, 1) := by decide +kernel
theorem D_M_part_10 : decode m_M_part.2.1 10 = .ok (.getfield 74, 3) := by decide +kernel
theorem D_M_part_13 : decode m_M_part.2.1 13 = .ok (.if_icmp .lt 5, 3) := by decide +kernel
theorem D_M_part_16 : decode m_M_part.2.1 16 = .ok (.iconst (-1), 1) := by decide +kernel
theorem D_M_part_17 : decode m_M_part.2.1 17 = .ok (.ireturn, 1) := by decide +kernel
theorem D_M_part_18 : decode m_M_part.2.1 18 = .ok (.iload_n 2, 1) := by decide +kernel
theorem D_M_part_19 : decode m_M_part.2.1 19 = .ok (.iconst 0, 1) := by decide +kernel
theorem D_M_part_20 : decode m_M_part.2.1 20 = .ok (.iconst 2, 1) := by decide +kernel
theorem D_M_part_21 : decode m_M_part.2.1 21 = .ok (.invokestatic 52, 3) := by decide +kernel
theorem D_M_part_24 : decode m_M_part.2.1 24 = .ok (.ifCond .ne 6, 3) := by decide +kernel
theorem D_M_part_27 : decode m_M_part.2.1 27 = .ok (.bipush (-2), 2) := by decide +kernel
theorem D_M_part_29 : decode m_M_part.2.1 29 = .ok (.ireturn, 1) := by decide +kernel
theorem D_M_part_30 : decode m_M_part.2.1 30 = .ok (.iload_n 2, 1) := by decide +kernel
theorem D_M_part_31 : decode m_M_part.2.1 31 = .ok (.ifCond .ne 11, 3) := by decide +kernel
theorem D_M_part_34 : decode m_M_part.2.1 34 = .ok (.aload_n 0, 1) := by decide +kernel
theorem D_M_part_35 : decode m_M_part.2.1 35 = .ok (.iload_n 1, 1) := by decide +kernel
theorem D_M_part_36 : decode m_M_part.2.1 36 = .ok (.invokevirtual 101, 3) := by decide +kernel
theorem D_M_part_39 : decode m_M_part.2.1 39 = .ok (.goto 21, 3) := by decide +kernel
theorem D_M_part_42 : decode m_M_part.2.1 42 = .ok (.iload_n 2, 1) := by decide +kernel
theorem D_M_part_43 : decode m_M_part.2.1 43 = .ok (.iconst 1, 1) := by decide +kernel
theorem D_M_part_44 : decode m_M_part.2.1 44 = .ok (.if_icmp .ne 11, 3) := by decide +kernel
theorem D_M_part_47 : decode m_M_part.2.1 47 = .ok (.aload_n 0, 1) := by decide +kernel
theorem D_M_part_48 : decode m_M_part.2.1 48 = .ok (.iload_n 1, 1) := by decide +kernel
theorem D_M_part_49 : decode m_M_part.2.1 49 = .ok (.invokevirtual 104, 3) := by decide +kernel
theorem D_M_part_52 : decode m_M_part.2.1 52 = .ok (.goto 8, 3) := by decide +kernel
theorem D_M_part_55 : decode m_M_part.2.1 55 = .ok (.aload_n 0, 1) := by decide +kernel
theorem D_M_part_56 : decode m_M_part.2.1 56 = .ok (.iload_n 1, 1) := by decide +kernel
theorem D_M_part_57 : decode m_M_part.2.1 57 = .ok (.invokevirtual 107, 3) := by decide +kernel
theorem D_M_part_60 : decode m_M_part.2.1 60 = .ok (.ireturn, 1) := by decide +kernel
theorem D_M_inParts_0 : decode m_M_inParts.2.1 0 = .ok (.iconst 0, 1) := by decide +kernel
theorem D_M_inParts_1 : decode m_M_inParts.2.1 1 = .ok (.istore_n 1, 1) := by decide +kernel
theorem D_M_inParts_2 : decode m_M_inParts.2.1 2 = .ok (.iconst 0, 1) := by decide +kernel
theorem D_M_inParts_3 : decode m_M_inParts.2.1 3 = .ok (.istore_n 2, 1) := by decide +kernel
theorem D_M_inParts_4 : decode m_M_inParts.2.1 4 = .ok (.iload_n 2, 1) := by decide +kernel
theorem D_M_inParts_5 : decode m_M_inParts.2.1 5 = .ok (.aload_n 0, 1) := by decide +kernel
theorem D_M_inParts_6 : decode m_M_inParts.2.1 6 = .ok (.getfield 7, 3) := by decide +kernel
theorem D_M_inParts_9 : decode m_M_inParts.2.1 9 = .ok (.bipush 36, 2) := by decide +kernel
theorem D_M_inParts_11 : decode m_M_inParts.2.1 11 = .ok (.iaload, 1) := by decide +kernel
theorem D_M_inParts_12 : decode m_M_inParts.2.1 12 = .ok (.if_icmp .ge 51, 3) := by decide +kernel
theorem D_M_inParts_15 : decode m_M_inParts.2.1 15 = .ok (.iconst 0, 1) := by decide +kernel
theorem D_M_inParts_16 : decode m_M_inParts.2.1 16 = .ok (.istore_n 3, 1) := by decide +kernel
theorem D_M_inParts_17 : decode m_M_inParts.2.1 17 = .ok (.iload_n 3, 1) := by decide +kernel
theorem D_M_inParts_18 : decode m_M_inParts.2.1 18 = .ok (.aload_n 0, 1) := by decide +kernel
theorem D_M_inParts_19 : decode m_M_inParts.2.1 19 = .ok (.getfield 7, 3) := by decide +kernel
theorem D_M_inParts_22 : decode m_M_inParts.2.1 22 = .ok (.bipush 37, 2) := by decide +kernel
theorem D_M_inParts_24 : decode m_M_inParts.2.1 24 = .ok (.iaload, 1) := by decide +kernel
theorem D_M_inParts_25 : decode m_M_inParts.2.1 25 = .ok (.if_icmp .ge 32, 3) := by decide +kernel
theorem D_M_inParts_28 : decode m_M_inParts.2.1 28 = .ok (.iload_n 1, 1) := by decide +kernel
theorem D_M_inParts_29 : decode m_M_inParts.2.1 29 = .ok (.aload_n 0, 1) := by decide +kernel
theorem D_M_inParts_30 : decode m_M_inParts.2.1 30 = .ok (.getfield 27, 3) := by decide +kernel
theorem D_M_inParts_33 : decode m_M_inParts.2.1 33 = .ok (.iload_n 2, 1) := by decide +kernel
theorem D_M_inParts_34 : decode m_M_inParts.2.1 34 = .ok (.iaload, 1) := by decide +kernel
theorem D_M_inParts_35 : decode m_M_inParts.2.1 35 = .ok (.aload_n 0, 1) := by decide +kernel
theorem D_M_inParts_36 : decode m_M_inParts.2.1 36 = .ok (.getfield 30, 3) := by decide +kernel
theorem D_M_inParts_39 : decode m_M_inParts.2.1 39 = .ok (.iload_n 3, 1) := by decide +kernel
theorem D_M_inParts_40 : decode m_M_inParts.2.1 40 = .ok (.iaload, 1) := by decide +kernel
theorem D_M_inParts_41 : decode m_M_inParts.2.1 41 = .ok (.if_icmp .ne 7, 3) := by decide +kernel
theorem D_M_inParts_44 : decode m_M_inParts.2.1 44 = .ok (.iconst 1, 1) := by decide +kernel
theorem D_M_inParts_45 : decode m_M_inParts.2.1 45 = .ok (.goto 4, 3) := by decide +kernel
theorem D_M_inParts_48 : decode m_M_inParts.2.1 48 = .ok (.iconst 0, 1) := by decide +kernel
theorem D_M_inParts_49 : decode m_M_inParts.2.1 49 = .ok (.iadd, 1) := by decide +kernel
theorem D_M_inParts_50 : decode m_M_inParts.2.1 50 = .ok (.istore_n 1, 1) := by decide +kernel
theorem D_M_inParts_51 : decode m_M_inParts.2.1 51 = .ok (.iinc 3 1, 3) := by decide +kernel
theorem D_M_inParts_54 : decode m_M_inParts.2.1 54 = .ok (.goto (-37), 3) := by decide +kernel
theorem D_M_inParts_57 : decode m_M_inParts.2.1 57 = .ok (.iinc 2 1, 3) := by decide +kernel
theorem D_M_inParts_60 : decode m_M_inParts.2.1 60 = .ok (.goto (-56), 3) := by decide +kernel
theorem D_M_inParts_63 : decode m_M_inParts.2.1 63 = .ok (.iload_n 1, 1) := by decide +kernel
theorem D_M_inParts_64 : decode m_M_inParts.2.1 64 = .ok (.ireturn, 1) := by decide +kernel
theorem D_M_minors_0 : decode m_M_minors.2.1 0 = .ok (.iconst 0, 1) := by decide +kernel
theorem D_M_minors_1 : decode m_M_minors.2.1 1 = .ok (.istore_n 2, 1) := by decide +kernel
theorem D_M_minors_2 : decode m_M_minors.2.1 2 = .ok (.iconst 0, 1) := by decide +kernel
theorem D_M_minors_3 : decode m_M_minors.2.1 3 = .ok (.istore_n 3, 1) := by decide +kernel
theorem D_M_minors_4 : decode m_M_minors.2.1 4 = .ok (.iload_n 3, 1) := by decide +kernel
theorem D_M_minors_5 : decode m_M_minors.2.1 5 = .ok (.aload_n 0, 1) := by decide +kernel
theorem D_M_minors_6 : decode m_M_minors.2.1 6 = .ok (.getfield 7, 3) := by decide +kernel
theorem D_M_minors_9 : decode m_M_minors.2.1 9 = .ok (.bipush 36, 2) := by decide +kernel
theorem D_M_minors_11 : decode m_M_minors.2.1 11 = .ok (.iaload, 1) := by decide +kernel
theorem D_M_minors_12 : decode m_M_minors.2.1 12 = .ok (.if_icmp .ge 180, 3) := by decide +kernel
theorem D_M_minors_15 : decode m_M_minors.2.1 15 = .ok (.iconst 0, 1) := by decide +kernel
theorem D_M_minors_16 : decode m_M_minors.2.1 16 = .ok (.istore 4, 2) := by decide +kernel
theorem D_M_minors_18 : decode m_M_minors.2.1 18 = .ok (.iload 4, 2) := by decide +kernel
theorem D_M_minors_20 : decode m_M_minors.2.1 20 = .ok (.iload_n 3, 1) := by decide +kernel
theorem D_M_minors_21 : decode m_M_minors.2.1 21 = .ok (.if_icmp .ge 165, 3) := by decide +kernel
theorem D_M_minors_24 : decode m_M_minors.2.1 24 = .ok (.iconst 0, 1) := by decide +kernel
theorem D_M_minors_25 : decode m_M_minors.2.1 25 = .ok (.istore 5, 2) := by decide +kernel
theorem D_M_minors_27 : decode m_M_minors.2.1 27 = .ok (.iload 5, 2) := by decide +kernel
theorem D_M_minors_29 : decode m_M_minors.2.1 29 = .ok (.aload_n 0, 1) := by decide +kernel
theorem D_M_minors_30 : decode m_M_minors.2.1 30 = .ok (.getfield 7, 3) := by decide +kernel
theorem D_M_minors_33 : decode m_M_minors.2.1 33 = .ok (.bipush 37, 2) := by decide +kernel
theorem D_M_minors_35 : decode m_M_minors.2.1 35 = .ok (.iaload, 1) := by decide +kernel
theorem D_M_minors_36 : decode m_M_minors.2.1 36 = .ok (.if_icmp .ge 144, 3) := by decide +kernel
theorem D_M_minors_39 : decode m_M_minors.2.1 39 = .ok (.iconst 0, 1) := by decide +kernel
theorem D_M_minors_40 : decode m_M_minors.2.1 40 = .ok (.istore 6, 2) := by decide +kernel
theorem D_M_minors_42 : decode m_M_minors.2.1 42 = .ok (.iload 6, 2) := by decide +kernel
theorem D_M_minors_44 : decode m_M_minors.2.1 44 = .ok (.iload 5, 2) := by decide +kernel
theorem D_M_minors_46 : decode m_M_minors.2.1 46 = .ok (.if_icmp .ge 128, 3) := by decide +kernel
theorem D_M_minors_49 : decode m_M_minors.2.1 49 = .ok (.aload_n 0, 1) := by decide +kernel
theorem D_M_minors_50 : decode m_M_minors.2.1 50 = .ok (.iload_n 3, 1) := by decide +kernel
theorem D_M_minors_51 : decode m_M_minors.2.1 51 = .ok (.iload 5, 2) := by decide +kernel
theorem D_M_minors_53 : decode m_M_minors.2.1 53 = .ok (.invokevirtual 67, 3) := by decide +kernel
theorem D_M_minors_56 : decode m_M_minors.2.1 56 = .ok (.ifCond .le 39, 3) := by decide +kernel
theorem D_M_minors_59 : decode m_M_minors.2.1 59 = .ok (.aload_n 0, 1) := by decide +kernel
theorem D_M_minors_60 : decode m_M_minors.2.1 60 = .ok (.iload 4, 2) := by decide +kernel
theorem D_M_minors_62 : decode m_M_minors.2.1 62 = .ok (.iload 5, 2) := by decide +kernel
theorem D_M_minors_64 : decode m_M_minors.2.1 64 = .ok (.invokevirtual 67, 3) := by decide +kernel
theorem D_M_minors_67 : decode m_M_minors.2.1 67 = .ok (.ifCond .le 28, 3) := by decide +kernel
theorem D_M_minors_70 : decode m_M_minors.2.1 70 = .ok (.aload_n 0, 1) := by decide +kernel
theorem D_M_minors_71 : decode m_M_minors.2.1 71 = .ok (.iload_n 3, 1) := by decide +kernel
theorem D_M_minors_72 : decode m_M_minors.2.1 72 = .ok (.iload 6, 2) := by decide +kernel
theorem D_M_minors_74 : decode m_M_minors.2.1 74 = .ok (.invokevirtual 67, 3) := by decide +kernel
theorem D_M_minors_77 : decode m_M_minors.2.1 77 = .ok (.ifCond .le 18, 3) := by decide +kernel
theorem D_M_minors_80 : decode m_M_minors.2.1 80 = .ok (.aload_n 0, 1) := by decide +kernel
theorem D_M_minors_81 : decode m_M_minors.2.1 81 = .ok (.iload 4, 2) := by decide +kernel
theorem D_M_minors_83 : decode m_M_minors.2.1 83 = .ok (.iload 6, 2) := by decide +kernel
theorem D_M_minors_85 : decode m_M_minors.2.1 85 = .ok (.invokevirtual 67, 3) := by decide +kernel
theorem D_M_minors_88 : decode m_M_minors.2.1 88 = .ok (.ifCond .le 7, 3) := by decide +kernel
theorem D_M_minors_91 : decode m_M_minors.2.1 91 = .ok (.iconst 1, 1) := by decide +kernel
theorem D_M_minors_92 : decode m_M_minors.2.1 92 = .ok (.goto 4, 3) := by decide +kernel
theorem D_M_minors_95 : decode m_M_minors.2.1 95 = .ok (.iconst 0, 1) := by decide +kernel
theorem D_M_minors_96 : decode m_M_minors.2.1 96 = .ok (.istore 7, 2) := by decide +kernel
theorem D_M_minors_98 : decode m_M_minors.2.1 98 = .ok (.aload_n 0, 1) := by decide +kernel
theorem D_M_minors_99 : decode m_M_minors.2.1 99 = .ok (.aload_n 0, 1) := by decide +kernel
theorem D_M_minors_100 : decode m_M_minors.2.1 100 = .ok (.iload_n 3, 1) := by decide +kernel
theorem D_M_minors_101 : decode m_M_minors.2.1 101 = .ok (.iload 5, 2) := by decide +kernel
theorem D_M_minors_103 : decode m_M_minors.2.1 103 = .ok (.invokevirtual 67, 3) := by decide +kernel
theorem D_M_minors_106 : decode m_M_minors.2.1 106 = .ok (.aload_n 0, 1) := by decide +kernel
theorem D_M_minors_107 : decode m_M_minors.2.1 107 = .ok (.iload 4, 2) := by decide +kernel
theorem D_M_minors_109 : decode m_M_minors.2.1 109 = .ok (.iload 6, 2) := by decide +kernel
theorem D_M_minors_111 : decode m_M_minors.2.1 111 = .ok (.invokevirtual 67, 3) := by decide +kernel
theorem D_M_minors_114 : decode m_M_minors.2.1 114 = .ok (.invokevirtual 63, 3) := by decide +kernel
theorem D_M_minors_117 : decode m_M_minors.2.1 117 = .ok (.aload_n 0, 1) := by decide +kernel
theorem D_M_minors_118 : decode m_M_minors.2.1 118 = .ok (.aload_n 0, 1) := by decide +kernel
theorem D_M_minors_119 : decode m_M_minors.2.1 119 = .ok (.iload_n 3, 1) := by decide +kernel
theorem D_M_minors_120 : decode m_M_minors.2.1 120 = .ok (.iload 6, 2) := by decide +kernel
theorem D_M_minors_122 : decode m_M_minors.2.1 122 = .ok (.invokevirtual 67, 3) := by decide +kernel
theorem D_M_minors_125 : decode m_M_minors.2.1 125 = .ok (.aload_n 0, 1) := by decide +kernel
theorem D_M_minors_126 : decode m_M_minors.2.1 126 = .ok (.iload 4, 2) := by decide +kernel
theorem D_M_minors_128 : decode m_M_minors.2.1 128 = .ok (.iload 5, 2) := by decide +kernel
theorem D_M_minors_130 : decode m_M_minors.2.1 130 = .ok (.invokevirtual 67, 3) := by decide +kernel
theorem D_M_minors_133 : decode m_M_minors.2.1 133 = .ok (.invokevirtual 63, 3) := by decide +kernel
theorem D_M_minors_136 : decode m_M_minors.2.1 136 = .ok (.if_icmp .ne 7, 3) := by decide +kernel
theorem D_M_minors_139 : decode m_M_minors.2.1 139 = .ok (.iconst 1, 1) := by decide +kernel
theorem D_M_minors_140 : decode m_M_minors.2.1 140 = .ok (.goto 4, 3) := by decide +kernel
theorem D_M_minors_143 : decode m_M_minors.2.1 143 = .ok (.iconst 0, 1) := by decide +kernel
theorem D_M_minors_144 : decode m_M_minors.2.1 144 = .ok (.istore 8, 2) := by decide +kernel
theorem D_M_minors_146 : decode m_M_minors.2.1 146 = .ok (.iload_n 2, 1) := by decide +kernel
theorem D_M_minors_147 : decode m_M_minors.2.1 147 = .ok (.iload 7, 2) := by decide +kernel
theorem D_M_minors_149 : decode m_M_minors.2.1 149 = .ok (.ifCond .eq 16, 3) := by decide +kernel
theorem D_M_minors_152 : decode m_M_minors.2.1 152 = .ok (.iload_n 1, 1) := by decide +kernel
theorem D_M_minors_153 : decode m_M_minors.2.1 153 = .ok (.ifCond .eq 8, 3) := by decide +kernel
theorem D_M_minors_156 : decode m_M_minors.2.1 156 = .ok (.iload 8, 2) := by decide +kernel
theorem D_M_minors_158 : decode m_M_minors.2.1 158 = .ok (.ifCond .ne 7, 3) := by decide +kernel
theorem D_M_minors_161 : decode m_M_minors.2.1 161 = .ok (.iconst 1, 1) := by decide +kernel
theorem D_M_minors_162 : decode m_M_minors.2.1 162 = .ok (.goto 4, 3) := by decide +kernel
theorem D_M_minors_165 : decode m_M_minors.2.1 165 = .ok (.iconst 0, 1) := by decide +kernel
theorem D_M_minors_166 : decode m_M_minors.2.1 166 = .ok (.iadd, 1) := by decide +kernel
theorem D_M_minors_167 : decode m_M_minors.2.1 167 = .ok (.istore_n 2, 1) := by decide +kernel
theorem D_M_minors_168 : decode m_M_minors.2.1 168 = .ok (.iinc 6 1, 3) := by decide +kernel
theorem D_M_minors_171 : decode m_M_minors.2.1 171 = .ok (.goto (-129), 3) := by decide +kernel
theorem D_M_minors_174 : decode m_M_minors.2.1 174 = .ok (.iinc 5 1, 3) := by decide +kernel
theorem D_M_minors_177 : decode m_M_minors.2.1 177 = .ok (.goto (-150), 3) := by decide +kernel
theorem D_M_minors_180 : decode m_M_minors.2.1 180 = .ok (.iinc 4 1, 3) := by decide +kernel
theorem D_M_minors_183 : decode m_M_minors.2.1 183 = .ok (.goto (-165), 3) := by decide +kernel
theorem D_M_minors_186 : decode m_M_minors.2.1 186 = .ok (.iinc 3 1, 3) := by decide +kernel
theorem D_M_minors_189 : decode m_M_minors.2.1 189 = .ok (.goto (-185), 3) := by decide +kernel
theorem D_M_minors_192 : decode m_M_minors.2.1 192 = .ok (.iload_n 2, 1) := by decide +kernel
theorem D_M_minors_193 : decode m_M_minors.2.1 193 = .ok (.ireturn, 1) := by decide +kernel
theorem D_M_areTold_0 : decode m_M_areTold.2.1 0 = .ok (.iconst 1, 1) := by decide +kernel
theorem D_M_areTold_1 : decode m_M_areTold.2.1 1 = .ok (.istore_n 3, 1) := by decide +kernel
theorem D_M_areTold_2 : decode m_M_areTold.2.1 2 = .ok (.iconst 0, 1) := by decide +kernel
theorem D_M_areTold_3 : decode m_M_areTold.2.1 3 = .ok (.istore 4, 2) := by decide +kernel
theorem D_M_areTold_5 : decode m_M_areTold.2.1 5 = .ok (.iload 4, 2) := by decide +kernel
theorem D_M_areTold_7 : decode m_M_areTold.2.1 7 = .ok (.aload_n 0, 1) := by decide +kernel
theorem D_M_areTold_8 : decode m_M_areTold.2.1 8 = .ok (.getfield 7, 3) := by decide +kernel
theorem D_M_areTold_11 : decode m_M_areTold.2.1 11 = .ok (.bipush 36, 2) := by decide +kernel
theorem D_M_areTold_13 : decode m_M_areTold.2.1 13 = .ok (.iaload, 1) := by decide +kernel
theorem D_M_areTold_14 : decode m_M_areTold.2.1 14 = .ok (.if_icmp .ge 38, 3) := by decide +kernel
theorem D_M_areTold_17 : decode m_M_areTold.2.1 17 = .ok (.iload_n 3, 1) := by decide +kernel
theorem D_M_areTold_18 : decode m_M_areTold.2.1 18 = .ok (.ifCond .eq 26, 3) := by decide +kernel
theorem D_M_areTold_21 : decode m_M_areTold.2.1 21 = .ok (.iload_n 1, 1) := by decide +kernel
theorem D_M_areTold_22 : decode m_M_areTold.2.1 22 = .ok (.iload 4, 2) := by decide +kernel
theorem D_M_areTold_24 : decode m_M_areTold.2.1 24 = .ok (.ishr, 1) := by decide +kernel
theorem D_M_areTold_25 : decode m_M_areTold.2.1 25 = .ok (.iconst 1, 1) := by decide +kernel
theorem D_M_areTold_26 : decode m_M_areTold.2.1 26 = .ok (.iand, 1) := by decide +kernel
theorem D_M_areTold_27 : decode m_M_areTold.2.1 27 = .ok (.ifCond .eq 13, 3) := by decide +kernel
theorem D_M_areTold_30 : decode m_M_areTold.2.1 30 = .ok (.aload_n 0, 1) := by decide +kernel
theorem D_M_areTold_31 : decode m_M_areTold.2.1 31 = .ok (.iload 4, 2) := by decide +kernel
theorem D_M_areTold_33 : decode m_M_areTold.2.1 33 = .ok (.iload_n 2, 1) := by decide +kernel
theorem D_M_areTold_34 : decode m_M_areTold.2.1 34 = .ok (.invokevirtual 67, 3) := by decide +kernel
theorem D_M_areTold_37 : decode m_M_areTold.2.1 37 = .ok (.ifCond .le 7, 3) := by decide +kernel
theorem D_M_areTold_40 : decode m_M_areTold.2.1 40 = .ok (.iconst 1, 1) := by decide +kernel
theorem D_M_areTold_41 : decode m_M_areTold.2.1 41 = .ok (.goto 4, 3) := by decide +kernel
theorem D_M_areTold_44 : decode m_M_areTold.2.1 44 = .ok (.iconst 0, 1) := by decide +kernel
theorem D_M_areTold_45 : decode m_M_areTold.2.1 45 = .ok (.istore_n 3, 1) := by decide +kernel
theorem D_M_areTold_46 : decode m_M_areTold.2.1 46 = .ok (.iinc 4 1, 3) := by decide +kernel
theorem D_M_areTold_49 : decode m_M_areTold.2.1 49 = .ok (.goto (-44), 3) := by decide +kernel
theorem D_M_areTold_52 : decode m_M_areTold.2.1 52 = .ok (.iload_n 3, 1) := by decide +kernel
theorem D_M_areTold_53 : decode m_M_areTold.2.1 53 = .ok (.ireturn, 1) := by decide +kernel
theorem D_M_clearBy_0 : decode m_M_clearBy.2.1 0 = .ok (.aload_n 0, 1) := by decide +kernel
theorem D_M_clearBy_1 : decode m_M_clearBy.2.1 1 = .ok (.aload_n 0, 1) := by decide +kernel
theorem D_M_clearBy_2 : decode m_M_clearBy.2.1 2 = .ok (.getfield 39, 3) := by decide +kernel
theorem D_M_clearBy_5 : decode m_M_clearBy.2.1 5 = .ok (.bipush 6, 2) := by decide +kernel
theorem D_M_clearBy_7 : decode m_M_clearBy.2.1 7 = .ok (.iload_n 1, 1) := by decide +kernel
theorem D_M_clearBy_8 : decode m_M_clearBy.2.1 8 = .ok (.imul, 1) := by decide +kernel
theorem D_M_clearBy_9 : decode m_M_clearBy.2.1 9 = .ok (.iload_n 3, 1) := by decide +kernel
theorem D_M_clearBy_10 : decode m_M_clearBy.2.1 10 = .ok (.iadd, 1) := by decide +kernel
theorem D_M_clearBy_11 : decode m_M_clearBy.2.1 11 = .ok (.iaload, 1) := by decide +kernel
theorem D_M_clearBy_12 : decode m_M_clearBy.2.1 12 = .ok (.aload_n 0, 1) := by decide +kernel
theorem D_M_clearBy_13 : decode m_M_clearBy.2.1 13 = .ok (.aload_n 0, 1) := by decide +kernel
theorem D_M_clearBy_14 : decode m_M_clearBy.2.1 14 = .ok (.getfield 39, 3) := by decide +kernel
theorem D_M_clearBy_17 : decode m_M_clearBy.2.1 17 = .ok (.bipush 6, 2) := by decide +kernel
theorem D_M_clearBy_19 : decode m_M_clearBy.2.1 19 = .ok (.iload_n 2, 1) := by decide +kernel
theorem D_M_clearBy_20 : decode m_M_clearBy.2.1 20 = .ok (.imul, 1) := by decide +kernel
theorem D_M_clearBy_21 : decode m_M_clearBy.2.1 21 = .ok (.iload_n 3, 1) := by decide +kernel
theorem D_M_clearBy_22 : decode m_M_clearBy.2.1 22 = .ok (.iadd, 1) := by decide +kernel
theorem D_M_clearBy_23 : decode m_M_clearBy.2.1 23 = .ok (.iaload, 1) := by decide +kernel
theorem D_M_clearBy_24 : decode m_M_clearBy.2.1 24 = .ok (.invokevirtual 70, 3) := by decide +kernel
theorem D_M_clearBy_27 : decode m_M_clearBy.2.1 27 = .ok (.invokevirtual 63, 3) := by decide +kernel
theorem D_M_clearBy_30 : decode m_M_clearBy.2.1 30 = .ok (.istore 5, 2) := by decide +kernel
theorem D_M_clearBy_32 : decode m_M_clearBy.2.1 32 = .ok (.iconst 0, 1) := by decide +kernel
theorem D_M_clearBy_33 : decode m_M_clearBy.2.1 33 = .ok (.istore 6, 2) := by decide +kernel
theorem D_M_clearBy_35 : decode m_M_clearBy.2.1 35 = .ok (.iload 6, 2) := by decide +kernel
theorem D_M_clearBy_37 : decode m_M_clearBy.2.1 37 = .ok (.iload 4, 2) := by decide +kernel
theorem D_M_clearBy_39 : decode m_M_clearBy.2.1 39 = .ok (.if_icmp .ge 72, 3) := by decide +kernel
theorem D_M_clearBy_42 : decode m_M_clearBy.2.1 42 = .ok (.aload_n 0, 1) := by decide +kernel
theorem D_M_clearBy_43 : decode m_M_clearBy.2.1 43 = .ok (.iload 5, 2) := by decide +kernel
theorem D_M_clearBy_45 : decode m_M_clearBy.2.1 45 = .ok (.aload_n 0, 1) := by decide +kernel
theorem D_M_clearBy_46 : decode m_M_clearBy.2.1 46 = .ok (.getfield 39, 3) := by decide +kernel
theorem D_M_clearBy_49 : decode m_M_clearBy.2.1 49 = .ok (.bipush 6, 2) := by decide +kernel
theorem D_M_clearBy_51 : decode m_M_clearBy.2.1 51 = .ok (.iload_n 2, 1) := by decide +kernel
theorem D_M_clearBy_52 : decode m_M_clearBy.2.1 52 = .ok (.imul, 1) := by decide +kernel
theorem D_M_clearBy_53 : decode m_M_clearBy.2.1 53 = .ok (.iload 6, 2) := by decide +kernel
theorem D_M_clearBy_55 : decode m_M_clearBy.2.1 55 = .ok (.iadd, 1) := by decide +kernel
theorem D_M_clearBy_56 : decode m_M_clearBy.2.1 56 = .ok (.iaload, 1) := by decide +kernel
theorem D_M_clearBy_57 : decode m_M_clearBy.2.1 57 = .ok (.invokevirtual 63, 3) := by decide +kernel
theorem D_M_clearBy_60 : decode m_M_clearBy.2.1 60 = .ok (.istore 7, 2) := by decide +kernel
theorem D_M_clearBy_62 : decode m_M_clearBy.2.1 62 = .ok (.aload_n 0, 1) := by decide +kernel
theorem D_M_clearBy_63 : decode m_M_clearBy.2.1 63 = .ok (.getfield 39, 3) := by decide +kernel
theorem D_M_clearBy_66 : decode m_M_clearBy.2.1 66 = .ok (.bipush 6, 2) := by decide +kernel
theorem D_M_clearBy_68 : decode m_M_clearBy.2.1 68 = .ok (.iload_n 1, 1) := by decide +kernel
theorem D_M_clearBy_69 : decode m_M_clearBy.2.1 69 = .ok (.imul, 1) := by decide +kernel
theorem D_M_clearBy_70 : decode m_M_clearBy.2.1 70 = .ok (.iload 6, 2) := by decide +kernel
theorem D_M_clearBy_72 : decode m_M_clearBy.2.1 72 = .ok (.iadd, 1) := by decide +kernel
theorem D_M_clearBy_73 : decode m_M_clearBy.2.1 73 = .ok (.aload_n 0, 1) := by decide +kernel
theorem D_M_clearBy_74 : decode m_M_clearBy.2.1 74 = .ok (.getfield 39, 3) := by decide +kernel
theorem D_M_clearBy_77 : decode m_M_clearBy.2.1 77 = .ok (.bipush 6, 2) := by decide +kernel
theorem D_M_clearBy_79 : decode m_M_clearBy.2.1 79 = .ok (.iload_n 1, 1) := by decide +kernel
theorem D_M_clearBy_80 : decode m_M_clearBy.2.1 80 = .ok (.imul, 1) := by decide +kernel
theorem D_M_clearBy_81 : decode m_M_clearBy.2.1 81 = .ok (.iload 6, 2) := by decide +kernel
theorem D_M_clearBy_83 : decode m_M_clearBy.2.1 83 = .ok (.iadd, 1) := by decide +kernel
theorem D_M_clearBy_84 : decode m_M_clearBy.2.1 84 = .ok (.iaload, 1) := by decide +kernel
theorem D_M_clearBy_85 : decode m_M_clearBy.2.1 85 = .ok (.aload_n 0, 1) := by decide +kernel
theorem D_M_clearBy_86 : decode m_M_clearBy.2.1 86 = .ok (.getfield 7, 3) := by decide +kernel
theorem D_M_clearBy_89 : decode m_M_clearBy.2.1 89 = .ok (.bipush 38, 2) := by decide +kernel
theorem D_M_clearBy_91 : decode m_M_clearBy.2.1 91 = .ok (.iaload, 1) := by decide +kernel
theorem D_M_clearBy_92 : decode m_M_clearBy.2.1 92 = .ok (.iadd, 1) := by decide +kernel
theorem D_M_clearBy_93 : decode m_M_clearBy.2.1 93 = .ok (.iload 7, 2) := by decide +kernel
theorem D_M_clearBy_95 : decode m_M_clearBy.2.1 95 = .ok (.isub, 1) := by decide +kernel
theorem D_M_clearBy_96 : decode m_M_clearBy.2.1 96 = .ok (.aload_n 0, 1) := by decide +kernel
theorem D_M_clearBy_97 : decode m_M_clearBy.2.1 97 = .ok (.getfield 7, 3) := by decide +kernel
theorem D_M_clearBy_100 : decode m_M_clearBy.2.1 100 = .ok (.bipush 38, 2) := by decide +kernel
theorem D_M_clearBy_102 : decode m_M_clearBy.2.1 102 = .ok (.iaload, 1) := by decide +kernel
theorem D_M_clearBy_103 : decode m_M_clearBy.2.1 103 = .ok (.irem, 1) := by decide +kernel
theorem D_M_clearBy_104 : decode m_M_clearBy.2.1 104 = .ok (.iastore, 1) := by decide +kernel
theorem D_M_clearBy_105 : decode m_M_clearBy.2.1 105 = .ok (.iinc 6 1, 3) := by decide +kernel
theorem D_M_clearBy_108 : decode m_M_clearBy.2.1 108 = .ok (.goto (-73), 3) := by decide +kernel
theorem D_M_clearBy_111 : decode m_M_clearBy.2.1 111 = .ok (.return_, 1) := by decide +kernel
theorem D_M_exchange_0 : decode m_M_exchange.2.1 0 = .ok (.iconst 0, 1) := by decide +kernel
theorem D_M_exchange_1 : decode m_M_exchange.2.1 1 = .ok (.istore 4, 2) := by decide +kernel
theorem D_M_exchange_3 : decode m_M_exchange.2.1 3 = .ok (.iload 4, 2) := by decide +kernel
theorem D_M_exchange_5 : decode m_M_exchange.2.1 5 = .ok (.iload_n 3, 1) := by decide +kernel
theorem D_M_exchange_6 : decode m_M_exchange.2.1 6 = .ok (.if_icmp .ge 61, 3) := by decide +kernel
theorem D_M_exchange_9 : decode m_M_exchange.2.1 9 = .ok (.aload_n 0, 1) := by decide +kernel
theorem D_M_exchange_10 : decode m_M_exchange.2.1 10 = .ok (.getfield 39, 3) := by decide +kernel
theorem D_M_exchange_13 : decode m_M_exchange.2.1 13 = .ok (.bipush 6, 2) := by decide +kernel
theorem D_M_exchange_15 : decode m_M_exchange.2.1 15 = .ok (.iload_n 1, 1) := by decide +kernel
theorem D_M_exchange_16 : decode m_M_exchange.2.1 16 = .ok (.imul, 1) := by decide +kernel
theorem D_M_exchange_17 : decode m_M_exchange.2.1 17 = .ok (.iload 4, 2) := by decide +kernel
theorem D_M_exchange_19 : decode m_M_exchange.2.1 19 = .ok (.iadd, 1) := by decide +kernel
theorem D_M_exchange_20 : decode m_M_exchange.2.1 20 = .ok (.iaload, 1) := by decide +kernel
theorem D_M_exchange_21 : decode m_M_exchange.2.1 21 = .ok (.istore 5, 2) := by decide +kernel
theorem D_M_exchange_23 : decode m_M_exchange.2.1 23 = .ok (.aload_n 0, 1) := by decide +kernel
theorem D_M_exchange_24 : decode m_M_exchange.2.1 24 = .ok (.getfield 39, 3) := by decide +kernel
theorem D_M_exchange_27 : decode m_M_exchange.2.1 27 = .ok (.bipush 6, 2) := by decide +kernel
theorem D_M_exchange_29 : decode m_M_exchange.2.1 29 = .ok (.iload_n 1, 1) := by decide +kernel
theorem D_M_exchange_30 : decode m_M_exchange.2.1 30 = .ok (.imul, 1) := by decide +kernel
theorem D_M_exchange_31 : decode m_M_exchange.2.1 31 = .ok (.iload 4, 2) := by decide +kernel
theorem D_M_exchange_33 : decode m_M_exchange.2.1 33 = .ok (.iadd, 1) := by decide +kernel
theorem D_M_exchange_34 : decode m_M_exchange.2.1 34 = .ok (.aload_n 0, 1) := by decide +kernel
theorem D_M_exchange_35 : decode m_M_exchange.2.1 35 = .ok (.getfield 39, 3) := by decide +kernel
theorem D_M_exchange_38 : decode m_M_exchange.2.1 38 = .ok (.bipush 6, 2) := by decide +kernel
theorem D_M_exchange_40 : decode m_M_exchange.2.1 40 = .ok (.iload_n 2, 1) := by decide +kernel
theorem D_M_exchange_41 : decode m_M_exchange.2.1 41 = .ok (.imul, 1) := by decide +kernel
theorem D_M_exchange_42 : decode m_M_exchange.2.1 42 = .ok (.iload 4, 2) := by decide +kernel
theorem D_M_exchange_44 : decode m_M_exchange.2.1 44 = .ok (.iadd, 1) := by decide +kernel
theorem D_M_exchange_45 : decode m_M_exchange.2.1 45 = .ok (.iaload, 1) := by decide +kernel
theorem D_M_exchange_46 : decode m_M_exchange.2.1 46 = .ok (.iastore, 1) := by decide +kernel
theorem D_M_exchange_47 : decode m_M_exchange.2.1 47 = .ok (.aload_n 0, 1) := by decide +kernel
theorem D_M_exchange_48 : decode m_M_exchange.2.1 48 = .ok (.getfield 39, 3) := by decide +kernel
theorem D_M_exchange_51 : decode m_M_exchange.2.1 51 = .ok (.bipush 6, 2) := by decide +kernel
theorem D_M_exchange_53 : decode m_M_exchange.2.1 53 = .ok (.iload_n 2, 1) := by decide +kernel
theorem D_M_exchange_54 : decode m_M_exchange.2.1 54 = .ok (.imul, 1) := by decide +kernel
theorem D_M_exchange_55 : decode m_M_exchange.2.1 55 = .ok (.iload 4, 2) := by decide +kernel
theorem D_M_exchange_57 : decode m_M_exchange.2.1 57 = .ok (.iadd, 1) := by decide +kernel
theorem D_M_exchange_58 : decode m_M_exchange.2.1 58 = .ok (.iload 5, 2) := by decide +kernel
theorem D_M_exchange_60 : decode m_M_exchange.2.1 60 = .ok (.iastore, 1) := by decide +kernel
theorem D_M_exchange_61 : decode m_M_exchange.2.1 61 = .ok (.iinc 4 1, 3) := by decide +kernel
theorem D_M_exchange_64 : decode m_M_exchange.2.1 64 = .ok (.goto (-61), 3) := by decide +kernel
theorem D_M_exchange_67 : decode m_M_exchange.2.1 67 = .ok (.return_, 1) := by decide +kernel
theorem D_M_rankOf_0 : decode m_M_rankOf.2.1 0 = .ok (.iconst 0, 1) := by decide +kernel
theorem D_M_rankOf_1 : decode m_M_rankOf.2.1 1 = .ok (.istore_n 3, 1) := by decide +kernel
theorem D_M_rankOf_2 : decode m_M_rankOf.2.1 2 = .ok (.iconst 0, 1) := by decide +kernel
theorem D_M_rankOf_3 : decode m_M_rankOf.2.1 3 = .ok (.istore 4, 2) := by decide +kernel
theorem D_M_rankOf_5 : decode m_M_rankOf.2.1 5 = .ok (.iload 4, 2) := by decide +kernel
theorem D_M_rankOf_7 : decode m_M_rankOf.2.1 7 = .ok (.iload_n 2, 1) := by decide +kernel
theorem D_M_rankOf_8 : decode m_M_rankOf.2.1 8 = .ok (.if_icmp .ge 105, 3) := by decide +kernel
theorem D_M_rankOf_11 : decode m_M_rankOf.2.1 11 = .ok (.iload_n 3, 1) := by decide +kernel
theorem D_M_rankOf_12 : decode m_M_rankOf.2.1 12 = .ok (.iload_n 1, 1) := by decide +kernel
theorem D_M_rankOf_13 : decode m_M_rankOf.2.1 13 = .ok (.if_icmp .ge 100, 3) := by decide +kernel
theorem D_M_rankOf_16 : decode m_M_rankOf.2.1 16 = .ok (.bipush (-6), 2) := by decide +kernel
theorem D_M_rankOf_18 : decode m_M_rankOf.2.1 18 = .ok (.istore 5, 2) := by decide +kernel
theorem D_M_rankOf_20 : decode m_M_rankOf.2.1 20 = .ok (.iload_n 1, 1) := by decide +kernel
theorem D_M_rankOf_21 : decode m_M_rankOf.2.1 21 = .ok (.iconst 1, 1) := by decide +kernel
theorem D_M_rankOf_22 : decode m_M_rankOf.2.1 22 = .ok (.isub, 1) := by decide +kernel
theorem D_M_rankOf_23 : decode m_M_rankOf.2.1 23 = .ok (.istore 6, 2) := by decide +kernel
theorem D_M_rankOf_25 : decode m_M_rankOf.2.1 25 = .ok (.iload 6, 2) := by decide +kernel
theorem D_M_rankOf_27 : decode m_M_rankOf.2.1 27 = .ok (.iload_n 3, 1) := by decide +kernel
theorem D_M_rankOf_28 : decode m_M_rankOf.2.1 28 = .ok (.if_icmp .lt 34, 3) := by decide +kernel
theorem D_M_rankOf_31 : decode m_M_rankOf.2.1 31 = .ok (.aload_n 0, 1) := by decide +kernel
theorem D_M_rankOf_32 : decode m_M_rankOf.2.1 32 = .ok (.getfield 39, 3) := by decide +kernel
theorem D_M_rankOf_35 : decode m_M_rankOf.2.1 35 = .ok (.bipush 6, 2) := by decide +kernel
theorem D_M_rankOf_37 : decode m_M_rankOf.2.1 37 = .ok (.iload 6, 2) := by decide +kernel
theorem D_M_rankOf_39 : decode m_M_rankOf.2.1 39 = .ok (.imul, 1) := by decide +kernel
theorem D_M_rankOf_40 : decode m_M_rankOf.2.1 40 = .ok (.iload 4, 2) := by decide +kernel
theorem D_M_rankOf_42 : decode m_M_rankOf.2.1 42 = .ok (.iadd, 1) := by decide +kernel
theorem D_M_rankOf_43 : decode m_M_rankOf.2.1 43 = .ok (.iaload, 1) := by decide +kernel
theorem D_M_rankOf_44 : decode m_M_rankOf.2.1 44 = .ok (.ifCond .le 8, 3) := by decide +kernel
theorem D_M_rankOf_47 : decode m_M_rankOf.2.1 47 = .ok (.iload 6, 2) := by decide +kernel
theorem D_M_rankOf_49 : decode m_M_rankOf.2.1 49 = .ok (.goto 5, 3) := by decide +kernel
theorem D_M_rankOf_52 : decode m_M_rankOf.2.1 52 = .ok (.iload 5, 2) := by decide +kernel
theorem D_M_rankOf_54 : decode m_M_rankOf.2.1 54 = .ok (.istore 5, 2) := by decide +kernel
theorem D_M_rankOf_56 : decode m_M_rankOf.2.1 56 = .ok (.iinc 6 (-1), 3) := by decide +kernel
theorem D_M_rankOf_59 : decode m_M_rankOf.2.1 59 = .ok (.goto (-34), 3) := by decide +kernel
theorem D_M_rankOf_62 : decode m_M_rankOf.2.1 62 = .ok (.iload 5, 2) := by decide +kernel
theorem D_M_rankOf_64 : decode m_M_rankOf.2.1 64 = .ok (.bipush (-6), 2) := by decide +kernel
theorem D_M_rankOf_66 : decode m_M_rankOf.2.1 66 = .ok (.if_icmp .eq 41, 3) := by decide +kernel
theorem D_M_rankOf_69 : decode m_M_rankOf.2.1 69 = .ok (.aload_n 0, 1) := by decide +kernel
theorem D_M_rankOf_70 : decode m_M_rankOf.2.1 70 = .ok (.iload 5, 2) := by decide +kernel
theorem D_M_rankOf_72 : decode m_M_rankOf.2.1 72 = .ok (.iload_n 3, 1) := by decide +kernel
theorem D_M_rankOf_73 : decode m_M_rankOf.2.1 73 = .ok (.iload_n 2, 1) := by decide +kernel
theorem D_M_rankOf_74 : decode m_M_rankOf.2.1 74 = .ok (.invokevirtual 110, 3) := by decide +kernel
theorem D_M_rankOf_77 : decode m_M_rankOf.2.1 77 = .ok (.iload_n 3, 1) := by decide +kernel
theorem D_M_rankOf_78 : decode m_M_rankOf.2.1 78 = .ok (.iconst 1, 1) := by decide +kernel
theorem D_M_rankOf_79 : decode m_M_rankOf.2.1 79 = .ok (.iadd, 1) := by decide +kernel
theorem D_M_rankOf_80 : decode m_M_rankOf.2.1 80 = .ok (.istore 6, 2) := by decide +kernel
theorem D_M_rankOf_82 : decode m_M_rankOf.2.1 82 = .ok (.iload 6, 2) := by decide +kernel
theorem D_M_rankOf_84 : decode m_M_rankOf.2.1 84 = .ok (.iload_n 1, 1) := by decide +kernel
theorem D_M_rankOf_85 : decode m_M_rankOf.2.1 85 = .ok (.if_icmp .ge 19, 3) := by decide +kernel
theorem D_M_rankOf_88 : decode m_M_rankOf.2.1 88 = .ok (.aload_n 0, 1) := by decide +kernel
theorem D_M_rankOf_89 : decode m_M_rankOf.2.1 89 = .ok (.iload 6, 2) := by decide +kernel
theorem D_M_rankOf_91 : decode m_M_rankOf.2.1 91 = .ok (.iload_n 3, 1) := by decide +kernel
theorem D_M_rankOf_92 : decode m_M_rankOf.2.1 92 = .ok (.iload 4, 2) := by decide +kernel
theorem D_M_rankOf_94 : decode m_M_rankOf.2.1 94 = .ok (.iload_n 2, 1) := by decide +kernel
theorem D_M_rankOf_95 : decode m_M_rankOf.2.1 95 = .ok (.invokevirtual 114, 3) := by decide +kernel
theorem D_M_rankOf_98 : decode m_M_rankOf.2.1 98 = .ok (.iinc 6 1, 3) := by decide +kernel
theorem D_M_rankOf_101 : decode m_M_rankOf.2.1 101 = .ok (.goto (-19), 3) := by decide +kernel
theorem D_M_rankOf_104 : decode m_M_rankOf.2.1 104 = .ok (.iinc 3 1, 3) := by decide +kernel
theorem D_M_rankOf_107 : decode m_M_rankOf.2.1 107 = .ok (.iinc 4 1, 3) := by decide +kernel
theorem D_M_rankOf_110 : decode m_M_rankOf.2.1 110 = .ok (.goto (-105), 3) := by decide +kernel
theorem D_M_rankOf_113 : decode m_M_rankOf.2.1 113 = .ok (.iload_n 3, 1) := by decide +kernel
theorem D_M_rankOf_114 : decode m_M_rankOf.2.1 114 = .ok (.ireturn, 1) := by decide +kernel
theorem D_M_rankBy_0 : decode m_M_rankBy.2.1 0 = .ok (.iconst 0, 1) := by decide +kernel
theorem D_M_rankBy_1 : decode m_M_rankBy.2.1 1 = .ok (.istore_n 2, 1) := by decide +kernel
theorem D_M_rankBy_2 : decode m_M_rankBy.2.1 2 = .ok (.iconst 0, 1) := by decide +kernel
theorem D_M_rankBy_3 : decode m_M_rankBy.2.1 3 = .ok (.istore_n 3, 1) := by decide +kernel
theorem D_M_rankBy_4 : decode m_M_rankBy.2.1 4 = .ok (.iconst 0, 1) := by decide +kernel
theorem D_M_rankBy_5 : decode m_M_rankBy.2.1 5 = .ok (.istore 4, 2) := by decide +kernel
theorem D_M_rankBy_7 : decode m_M_rankBy.2.1 7 = .ok (.iload 4, 2) := by decide +kernel
theorem D_M_rankBy_9 : decode m_M_rankBy.2.1 9 = .ok (.aload_n 0, 1) := by decide +kernel
theorem D_M_rankBy_10 : decode m_M_rankBy.2.1 10 = .ok (.getfield 7, 3) := by decide +kernel
theorem D_M_rankBy_13 : decode m_M_rankBy.2.1 13 = .ok (.bipush 37, 2) := by decide +kernel
theorem D_M_rankBy_15 : decode m_M_rankBy.2.1 15 = .ok (.iaload, 1) := by decide +kernel
theorem D_M_rankBy_16 : decode m_M_rankBy.2.1 16 = .ok (.if_icmp .ge 77, 3) := by decide +kernel
theorem D_M_rankBy_19 : decode m_M_rankBy.2.1 19 = .ok (.aload_n 0, 1) := by decide +kernel
theorem D_M_rankBy_20 : decode m_M_rankBy.2.1 20 = .ok (.iload_n 1, 1) := by decide +kernel
theorem D_M_rankBy_21 : decode m_M_rankBy.2.1 21 = .ok (.iload 4, 2) := by decide +kernel
theorem D_M_rankBy_23 : decode m_M_rankBy.2.1 23 = .ok (.invokevirtual 118, 3) := by decide +kernel
theorem D_M_rankBy_26 : decode m_M_rankBy.2.1 26 = .ok (.ifCond .eq 61, 3) := by decide +kernel
theorem D_M_rankBy_29 : decode m_M_rankBy.2.1 29 = .ok (.iconst 0, 1) := by decide +kernel
theorem D_M_rankBy_30 : decode m_M_rankBy.2.1 30 = .ok (.istore_n 3, 1) := by decide +kernel
theorem D_M_rankBy_31 : decode m_M_rankBy.2.1 31 = .ok (.iconst 0, 1) := by decide +kernel
theorem D_M_rankBy_32 : decode m_M_rankBy.2.1 32 = .ok (.istore 5, 2) := by decide +kernel
theorem D_M_rankBy_34 : decode m_M_rankBy.2.1 34 = .ok (.iload 5, 2) := by decide +kernel
theorem D_M_rankBy_36 : decode m_M_rankBy.2.1 36 = .ok (.aload_n 0, 1) := by decide +kernel
theorem D_M_rankBy_37 : decode m_M_rankBy.2.1 37 = .ok (.getfield 7, 3) := by decide +kernel
theorem D_M_rankBy_40 : decode m_M_rankBy.2.1 40 = .ok (.bipush 36, 2) := by decide +kernel
theorem D_M_rankBy_42 : decode m_M_rankBy.2.1 42 = .ok (.iaload, 1) := by decide +kernel
theorem D_M_rankBy_43 : decode m_M_rankBy.2.1 43 = .ok (.if_icmp .ge 41, 3) := by decide +kernel
theorem D_M_rankBy_46 : decode m_M_rankBy.2.1 46 = .ok (.iload_n 1, 1) := by decide +kernel
theorem D_M_rankBy_47 : decode m_M_rankBy.2.1 47 = .ok (.iload 5, 2) := by decide +kernel
theorem D_M_rankBy_49 : decode m_M_rankBy.2.1 49 = .ok (.ishr, 1) := by decide +kernel
theorem D_M_rankBy_50 : decode m_M_rankBy.2.1 50 = .ok (.iconst 1, 1) := by decide +kernel
theorem D_M_rankBy_51 : decode m_M_rankBy.2.1 51 = .ok (.iand, 1) := by decide +kernel
theorem D_M_rankBy_52 : decode m_M_rankBy.2.1 52 = .ok (.iconst 1, 1) := by decide +kernel
theorem D_M_rankBy_53 : decode m_M_rankBy.2.1 53 = .ok (.if_icmp .ne 25, 3) := by decide +kernel
theorem D_M_rankBy_56 : decode m_M_rankBy.2.1 56 = .ok (.aload_n 0, 1) := by decide +kernel
theorem D_M_rankBy_57 : decode m_M_rankBy.2.1 57 = .ok (.getfield 39, 3) := by decide +kernel
theorem D_M_rankBy_60 : decode m_M_rankBy.2.1 60 = .ok (.bipush 6, 2) := by decide +kernel
theorem D_M_rankBy_62 : decode m_M_rankBy.2.1 62 = .ok (.iload_n 3, 1) := by decide +kernel
theorem D_M_rankBy_63 : decode m_M_rankBy.2.1 63 = .ok (.imul, 1) := by decide +kernel
theorem D_M_rankBy_64 : decode m_M_rankBy.2.1 64 = .ok (.iload_n 2, 1) := by decide +kernel
theorem D_M_rankBy_65 : decode m_M_rankBy.2.1 65 = .ok (.iadd, 1) := by decide +kernel
theorem D_M_rankBy_66 : decode m_M_rankBy.2.1 66 = .ok (.aload_n 0, 1) := by decide +kernel
theorem D_M_rankBy_67 : decode m_M_rankBy.2.1 67 = .ok (.iload 5, 2) := by decide +kernel
theorem D_M_rankBy_69 : decode m_M_rankBy.2.1 69 = .ok (.iload 4, 2) := by decide +kernel
theorem D_M_rankBy_71 : decode m_M_rankBy.2.1 71 = .ok (.invokevirtual 67, 3) := by decide +kernel
theorem D_M_rankBy_74 : decode m_M_rankBy.2.1 74 = .ok (.iastore, 1) := by decide +kernel
theorem D_M_rankBy_75 : decode m_M_rankBy.2.1 75 = .ok (.iinc 3 1, 3) := by decide +kernel
theorem D_M_rankBy_78 : decode m_M_rankBy.2.1 78 = .ok (.iinc 5 1, 3) := by decide +kernel
theorem D_M_rankBy_81 : decode m_M_rankBy.2.1 81 = .ok (.goto (-47), 3) := by decide +kernel
theorem D_M_rankBy_84 : decode m_M_rankBy.2.1 84 = .ok (.iinc 2 1, 3) := by decide +kernel
theorem D_M_rankBy_87 : decode m_M_rankBy.2.1 87 = .ok (.iinc 4 1, 3) := by decide +kernel
theorem D_M_rankBy_90 : decode m_M_rankBy.2.1 90 = .ok (.goto (-83), 3) := by decide +kernel
theorem D_M_rankBy_93 : decode m_M_rankBy.2.1 93 = .ok (.iload_n 2, 1) := by decide +kernel
theorem D_M_rankBy_94 : decode m_M_rankBy.2.1 94 = .ok (.ifCond .ne 7, 3) := by decide +kernel
theorem D_M_rankBy_97 : decode m_M_rankBy.2.1 97 = .ok (.iconst 0, 1) := by decide +kernel
theorem D_M_rankBy_98 : decode m_M_rankBy.2.1 98 = .ok (.goto 9, 3) := by decide +kernel
theorem D_M_rankBy_101 : decode m_M_rankBy.2.1 101 = .ok (.aload_n 0, 1) := by decide +kernel
theorem D_M_rankBy_102 : decode m_M_rankBy.2.1 102 = .ok (.iload_n 3, 1) := by decide +kernel
theorem D_M_rankBy_103 : decode m_M_rankBy.2.1 103 = .ok (.iload_n 2, 1) := by decide +kernel
theorem D_M_rankBy_104 : decode m_M_rankBy.2.1 104 = .ok (.invokevirtual 121, 3) := by decide +kernel
theorem D_M_rankBy_107 : decode m_M_rankBy.2.1 107 = .ok (.ireturn, 1) := by decide +kernel
theorem D_M_rankBound_0 : decode m_M_rankBound.2.1 0 = .ok (.iconst 0, 1) := by decide +kernel
theorem D_M_rankBound_1 : decode m_M_rankBound.2.1 1 = .ok (.istore_n 1, 1) := by decide +kernel
theorem D_M_rankBound_2 : decode m_M_rankBound.2.1 2 = .ok (.iconst 1, 1) := by decide +kernel
theorem D_M_rankBound_3 : decode m_M_rankBound.2.1 3 = .ok (.istore_n 2, 1) := by decide +kernel
theorem D_M_rankBound_4 : decode m_M_rankBound.2.1 4 = .ok (.iload_n 2, 1) := by decide +kernel
theorem D_M_rankBound_5 : decode m_M_rankBound.2.1 5 = .ok (.iconst 1, 1) := by decide +kernel
theorem D_M_rankBound_6 : decode m_M_rankBound.2.1 6 = .ok (.aload_n 0, 1) := by decide +kernel
theorem D_M_rankBound_7 : decode m_M_rankBound.2.1 7 = .ok (.getfield 7, 3) := by decide +kernel
theorem D_M_rankBound_10 : decode m_M_rankBound.2.1 10 = .ok (.bipush 36, 2) := by decide +kernel
theorem D_M_rankBound_12 : decode m_M_rankBound.2.1 12 = .ok (.iaload, 1) := by decide +kernel
theorem D_M_rankBound_13 : decode m_M_rankBound.2.1 13 = .ok (.ishl, 1) := by decide +kernel
theorem D_M_rankBound_14 : decode m_M_rankBound.2.1 14 = .ok (.if_icmp .ge 26, 3) := by decide +kernel
theorem D_M_rankBound_17 : decode m_M_rankBound.2.1 17 = .ok (.aload_n 0, 1) := by decide +kernel
theorem D_M_rankBound_18 : decode m_M_rankBound.2.1 18 = .ok (.iload_n 2, 1) := by decide +kernel
theorem D_M_rankBound_19 : decode m_M_rankBound.2.1 19 = .ok (.invokevirtual 124, 3) := by decide +kernel
theorem D_M_rankBound_22 : decode m_M_rankBound.2.1 22 = .ok (.istore_n 3, 1) := by decide +kernel
theorem D_M_rankBound_23 : decode m_M_rankBound.2.1 23 = .ok (.iload_n 3, 1) := by decide +kernel
theorem D_M_rankBound_24 : decode m_M_rankBound.2.1 24 = .ok (.iload_n 1, 1) := by decide +kernel
theorem D_M_rankBound_25 : decode m_M_rankBound.2.1 25 = .ok (.if_icmp .le 7, 3) := by decide +kernel
theorem D_M_rankBound_28 : decode m_M_rankBound.2.1 28 = .ok (.iload_n 3, 1) := by decide +kernel
theorem D_M_rankBound_29 : decode m_M_rankBound.2.1 29 = .ok (.goto 4, 3) := by decide +kernel
theorem D_M_rankBound_32 : decode m_M_rankBound.2.1 32 = .ok (.iload_n 1, 1) := by decide +kernel
theorem D_M_rankBound_33 : decode m_M_rankBound.2.1 33 = .ok (.istore_n 1, 1) := by decide +kernel
theorem D_M_rankBound_34 : decode m_M_rankBound.2.1 34 = .ok (.iinc 2 1, 3) := by decide +kernel
theorem D_M_rankBound_37 : decode m_M_rankBound.2.1 37 = .ok (.goto (-33), 3) := by decide +kernel
theorem D_M_rankBound_40 : decode m_M_rankBound.2.1 40 = .ok (.iload_n 1, 1) := by decide +kernel
theorem D_M_rankBound_41 : decode m_M_rankBound.2.1 41 = .ok (.ireturn, 1) := by decide +kernel
theorem D_M_count_0 : decode m_M_count.2.1 0 = .ok (.aload_n 0, 1) := by decide +kernel
theorem D_M_count_1 : decode m_M_count.2.1 1 = .ok (.invokevirtual 85, 3) := by decide +kernel
theorem D_M_count_4 : decode m_M_count.2.1 4 = .ok (.iload_n 1, 1) := by decide +kernel
theorem D_M_count_5 : decode m_M_count.2.1 5 = .ok (.tableswitch 142 0 11 #[63, 71, 79, 87, 92, 97, 110, 115, 121, 127, 132, 137], 63) := by decide +kernel
theorem D_M_count_68 : decode m_M_count.2.1 68 = .ok (.aload_n 0, 1) := by decide +kernel
theorem D_M_count_69 : decode m_M_count.2.1 69 = .ok (.getfield 7, 3) := by decide +kernel
theorem D_M_count_72 : decode m_M_count.2.1 72 = .ok (.bipush 36, 2) := by decide +kernel
theorem D_M_count_74 : decode m_M_count.2.1 74 = .ok (.iaload, 1) := by decide +kernel
theorem D_M_count_75 : decode m_M_count.2.1 75 = .ok (.ireturn, 1) := by decide +kernel
theorem D_M_count_76 : decode m_M_count.2.1 76 = .ok (.aload_n 0, 1) := by decide +kernel
theorem D_M_count_77 : decode m_M_count.2.1 77 = .ok (.getfield 7, 3) := by decide +kernel
theorem D_M_count_80 : decode m_M_count.2.1 80 = .ok (.bipush 37, 2) := by decide +kernel
theorem D_M_count_82 : decode m_M_count.2.1 82 = .ok (.iaload, 1) := by decide +kernel
theorem D_M_count_83 : decode m_M_count.2.1 83 = .ok (.ireturn, 1) := by decide +kernel
theorem D_M_count_84 : decode m_M_count.2.1 84 = .ok (.aload_n 0, 1) := by decide +kernel
theorem D_M_count_85 : decode m_M_count.2.1 85 = .ok (.getfield 7, 3) := by decide +kernel
theorem D_M_count_88 : decode m_M_count.2.1 88 = .ok (.bipush 38, 2) := by decide +kernel
theorem D_M_count_90 : decode m_M_count.2.1 90 = .ok (.iaload, 1) := by decide +kernel
theorem D_M_count_91 : decode m_M_count.2.1 91 = .ok (.ireturn, 1) := by decide +kernel
theorem D_M_count_92 : decode m_M_count.2.1 92 = .ok (.aload_n 0, 1) := by decide +kernel
theorem D_M_count_93 : decode m_M_count.2.1 93 = .ok (.invokevirtual 56, 3) := by decide +kernel
theorem D_M_count_96 : decode m_M_count.2.1 96 = .ok (.ireturn, 1) := by decide +kernel
theorem D_M_count_97 : decode m_M_count.2.1 97 = .ok (.aload_n 0, 1) := by decide +kernel
theorem D_M_count_98 : decode m_M_count.2.1 98 = .ok (.getfield 74, 3) := by decide +kernel
theorem D_M_count_101 : decode m_M_count.2.1 101 = .ok (.ireturn, 1) := by decide +kernel
theorem D_M_count_102 : decode m_M_count.2.1 102 = .ok (.aload_n 0, 1) := by decide +kernel
theorem D_M_count_103 : decode m_M_count.2.1 103 = .ok (.getfield 81, 3) := by decide +kernel
theorem D_M_count_106 : decode m_M_count.2.1 106 = .ok (.ifCond .eq 7, 3) := by decide +kernel
theorem D_M_count_109 : decode m_M_count.2.1 109 = .ok (.iconst 1, 1) := by decide +kernel
theorem D_M_count_110 : decode m_M_count.2.1 110 = .ok (.goto 4, 3) := by decide +kernel
theorem D_M_count_113 : decode m_M_count.2.1 113 = .ok (.iconst 0, 1) := by decide +kernel
theorem D_M_count_114 : decode m_M_count.2.1 114 = .ok (.ireturn, 1) := by decide +kernel
theorem D_M_count_115 : decode m_M_count.2.1 115 = .ok (.aload_n 0, 1) := by decide +kernel
theorem D_M_count_116 : decode m_M_count.2.1 116 = .ok (.invokevirtual 127, 3) := by decide +kernel
theorem D_M_count_119 : decode m_M_count.2.1 119 = .ok (.ireturn, 1) := by decide +kernel
theorem D_M_count_120 : decode m_M_count.2.1 120 = .ok (.aload_n 0, 1) := by decide +kernel
theorem D_M_count_121 : decode m_M_count.2.1 121 = .ok (.iconst 0, 1) := by decide +kernel
theorem D_M_count_122 : decode m_M_count.2.1 122 = .ok (.invokevirtual 130, 3) := by decide +kernel
theorem D_M_count_125 : decode m_M_count.2.1 125 = .ok (.ireturn, 1) := by decide +kernel
theorem D_M_count_126 : decode m_M_count.2.1 126 = .ok (.aload_n 0, 1) := by decide +kernel
theorem D_M_count_127 : decode m_M_count.2.1 127 = .ok (.iconst 1, 1) := by decide +kernel
theorem D_M_count_128 : decode m_M_count.2.1 128 = .ok (.invokevirtual 130, 3) := by decide +kernel
theorem D_M_count_131 : decode m_M_count.2.1 131 = .ok (.ireturn, 1) := by decide +kernel
theorem D_M_count_132 : decode m_M_count.2.1 132 = .ok (.aload_n 0, 1) := by decide +kernel
theorem D_M_count_133 : decode m_M_count.2.1 133 = .ok (.invokevirtual 134, 3) := by decide +kernel
theorem D_M_count_136 : decode m_M_count.2.1 136 = .ok (.ireturn, 1) := by decide +kernel
theorem D_M_count_137 : decode m_M_count.2.1 137 = .ok (.aload_n 0, 1) := by decide +kernel
theorem D_M_count_138 : decode m_M_count.2.1 138 = .ok (.getfield 137, 3) := by decide +kernel
theorem D_M_count_141 : decode m_M_count.2.1 141 = .ok (.ireturn, 1) := by decide +kernel
theorem D_M_count_142 : decode m_M_count.2.1 142 = .ok (.aload_n 0, 1) := by decide +kernel
theorem D_M_count_143 : decode m_M_count.2.1 143 = .ok (.getfield 48, 3) := by decide +kernel
theorem D_M_count_146 : decode m_M_count.2.1 146 = .ok (.ireturn, 1) := by decide +kernel
theorem D_M_count_147 : decode m_M_count.2.1 147 = .ok (.bipush (-2), 2) := by decide +kernel
theorem D_M_count_149 : decode m_M_count.2.1 149 = .ok (.ireturn, 1) := by decide +kernel
theorem D_M_isWrong_0 : decode m_M_isWrong.2.1 0 = .ok (.iconst 1, 1) := by decide +kernel
theorem D_M_isWrong_1 : decode m_M_isWrong.2.1 1 = .ok (.istore_n 2, 1) := by decide +kernel
theorem D_M_isWrong_2 : decode m_M_isWrong.2.1 2 = .ok (.iconst 1, 1) := by decide +kernel
theorem D_M_isWrong_3 : decode m_M_isWrong.2.1 3 = .ok (.istore_n 3, 1) := by decide +kernel
theorem D_M_isWrong_4 : decode m_M_isWrong.2.1 4 = .ok (.iconst 0, 1) := by decide +kernel
theorem D_M_isWrong_5 : decode m_M_isWrong.2.1 5 = .ok (.istore 4, 2) := by decide +kernel
theorem D_M_isWrong_7 : decode m_M_isWrong.2.1 7 = .ok (.iload 4, 2) := by decide +kernel
theorem D_M_isWrong_9 : decode m_M_isWrong.2.1 9 = .ok (.iload_n 1, 1) := by decide +kernel
theorem D_M_isWrong_10 : decode m_M_isWrong.2.1 10 = .ok (.if_icmp .ge 69, 3) := by decide +kernel
theorem D_M_isWrong_13 : decode m_M_isWrong.2.1 13 = .ok (.aload_n 0, 1) := by decide +kernel
theorem D_M_isWrong_14 : decode m_M_isWrong.2.1 14 = .ok (.getfield 42, 3) := by decide +kernel
theorem D_M_isWrong_17 : decode m_M_isWrong.2.1 17 = .ok (.iload 4, 2) := by decide +kernel
theorem D_M_isWrong_19 : decode m_M_isWrong.2.1 19 = .ok (.iconst 2, 1) := by decide +kernel
theorem D_M_isWrong_20 : decode m_M_isWrong.2.1 20 = .ok (.iadd, 1) := by decide +kernel
theorem D_M_isWrong_21 : decode m_M_isWrong.2.1 21 = .ok (.iload_n 1, 1) := by decide +kernel
theorem D_M_isWrong_22 : decode m_M_isWrong.2.1 22 = .ok (.irem, 1) := by decide +kernel
theorem D_M_isWrong_23 : decode m_M_isWrong.2.1 23 = .ok (.iaload, 1) := by decide +kernel
theorem D_M_isWrong_24 : decode m_M_isWrong.2.1 24 = .ok (.istore 5, 2) := by decide +kernel
theorem D_M_isWrong_26 : decode m_M_isWrong.2.1 26 = .ok (.aload_n 0, 1) := by decide +kernel
theorem D_M_isWrong_27 : decode m_M_isWrong.2.1 27 = .ok (.iload_n 2, 1) := by decide +kernel
theorem D_M_isWrong_28 : decode m_M_isWrong.2.1 28 = .ok (.aload_n 0, 1) := by decide +kernel
theorem D_M_isWrong_29 : decode m_M_isWrong.2.1 29 = .ok (.aload_n 0, 1) := by decide +kernel
theorem D_M_isWrong_30 : decode m_M_isWrong.2.1 30 = .ok (.getfield 42, 3) := by decide +kernel
theorem D_M_isWrong_33 : decode m_M_isWrong.2.1 33 = .ok (.iload 4, 2) := by decide +kernel
theorem D_M_isWrong_35 : decode m_M_isWrong.2.1 35 = .ok (.iaload, 1) := by decide +kernel
theorem D_M_isWrong_36 : decode m_M_isWrong.2.1 36 = .ok (.aload_n 0, 1) := by decide +kernel
theorem D_M_isWrong_37 : decode m_M_isWrong.2.1 37 = .ok (.getfield 42, 3) := by decide +kernel
theorem D_M_isWrong_40 : decode m_M_isWrong.2.1 40 = .ok (.iload 4, 2) := by decide +kernel
theorem D_M_isWrong_42 : decode m_M_isWrong.2.1 42 = .ok (.iconst 1, 1) := by decide +kernel
theorem D_M_isWrong_43 : decode m_M_isWrong.2.1 43 = .ok (.iadd, 1) := by decide +kernel
theorem D_M_isWrong_44 : decode m_M_isWrong.2.1 44 = .ok (.iaload, 1) := by decide +kernel
theorem D_M_isWrong_45 : decode m_M_isWrong.2.1 45 = .ok (.invokevirtual 67, 3) := by decide +kernel
theorem D_M_isWrong_48 : decode m_M_isWrong.2.1 48 = .ok (.invokevirtual 63, 3) := by decide +kernel
theorem D_M_isWrong_51 : decode m_M_isWrong.2.1 51 = .ok (.istore_n 2, 1) := by decide +kernel
theorem D_M_isWrong_52 : decode m_M_isWrong.2.1 52 = .ok (.aload_n 0, 1) := by decide +kernel
theorem D_M_isWrong_53 : decode m_M_isWrong.2.1 53 = .ok (.iload_n 3, 1) := by decide +kernel
theorem D_M_isWrong_54 : decode m_M_isWrong.2.1 54 = .ok (.aload_n 0, 1) := by decide +kernel
theorem D_M_isWrong_55 : decode m_M_isWrong.2.1 55 = .ok (.iload 5, 2) := by decide +kernel
theorem D_M_isWrong_57 : decode m_M_isWrong.2.1 57 = .ok (.aload_n 0, 1) := by decide +kernel
theorem D_M_isWrong_58 : decode m_M_isWrong.2.1 58 = .ok (.getfield 42, 3) := by decide +kernel
theorem D_M_isWrong_61 : decode m_M_isWrong.2.1 61 = .ok (.iload 4, 2) := by decide +kernel
theorem D_M_isWrong_63 : decode m_M_isWrong.2.1 63 = .ok (.iconst 1, 1) := by decide +kernel
theorem D_M_isWrong_64 : decode m_M_isWrong.2.1 64 = .ok (.iadd, 1) := by decide +kernel
theorem D_M_isWrong_65 : decode m_M_isWrong.2.1 65 = .ok (.iaload, 1) := by decide +kernel
theorem D_M_isWrong_66 : decode m_M_isWrong.2.1 66 = .ok (.invokevirtual 67, 3) := by decide +kernel
theorem D_M_isWrong_69 : decode m_M_isWrong.2.1 69 = .ok (.invokevirtual 63, 3) := by decide +kernel
theorem D_M_isWrong_72 : decode m_M_isWrong.2.1 72 = .ok (.istore_n 3, 1) := by decide +kernel
theorem D_M_isWrong_73 : decode m_M_isWrong.2.1 73 = .ok (.iinc 4 2, 3) := by decide +kernel
theorem D_M_isWrong_76 : decode m_M_isWrong.2.1 76 = .ok (.goto (-69), 3) := by decide +kernel
theorem D_M_isWrong_79 : decode m_M_isWrong.2.1 79 = .ok (.iload_n 2, 1) := by decide +kernel
theorem D_M_isWrong_80 : decode m_M_isWrong.2.1 80 = .ok (.iload_n 3, 1) := by decide +kernel
theorem D_M_isWrong_81 : decode m_M_isWrong.2.1 81 = .ok (.if_icmp .eq 7, 3) := by decide +kernel
theorem D_M_isWrong_84 : decode m_M_isWrong.2.1 84 = .ok (.iconst 1, 1) := by decide +kernel
theorem D_M_isWrong_85 : decode m_M_isWrong.2.1 85 = .ok (.goto 4, 3) := by decide +kernel
theorem D_M_isWrong_88 : decode m_M_isWrong.2.1 88 = .ok (.iconst 0, 1) := by decide +kernel
theorem D_M_isWrong_89 : decode m_M_isWrong.2.1 89 = .ok (.ireturn, 1) := by decide +kernel
theorem D_M_meet_0 : decode m_M_meet.2.1 0 = .ok (.aload_n 0, 1) := by decide +kernel
theorem D_M_meet_1 : decode m_M_meet.2.1 1 = .ok (.dup, 1) := by decide +kernel
theorem D_M_meet_2 : decode m_M_meet.2.1 2 = .ok (.getfield 140, 3) := by decide +kernel
theorem D_M_meet_5 : decode m_M_meet.2.1 5 = .ok (.iconst 1, 1) := by decide +kernel
theorem D_M_meet_6 : decode m_M_meet.2.1 6 = .ok (.iadd, 1) := by decide +kernel
theorem D_M_meet_7 : decode m_M_meet.2.1 7 = .ok (.putfield 140, 3) := by decide +kernel
theorem D_M_meet_10 : decode m_M_meet.2.1 10 = .ok (.aload_n 0, 1) := by decide +kernel
theorem D_M_meet_11 : decode m_M_meet.2.1 11 = .ok (.iload_n 1, 1) := by decide +kernel
theorem D_M_meet_12 : decode m_M_meet.2.1 12 = .ok (.invokevirtual 143, 3) := by decide +kernel
theorem D_M_meet_15 : decode m_M_meet.2.1 15 = .ok (.ifCond .ne 4, 3) := by decide +kernel
theorem D_M_meet_18 : decode m_M_meet.2.1 18 = .ok (.return_, 1) := by decide +kernel
theorem D_M_meet_19 : decode m_M_meet.2.1 19 = .ok (.aload_n 0, 1) := by decide +kernel
theorem D_M_meet_20 : decode m_M_meet.2.1 20 = .ok (.dup, 1) := by decide +kernel
theorem D_M_meet_21 : decode m_M_meet.2.1 21 = .ok (.getfield 147, 3) := by decide +kernel
theorem D_M_meet_24 : decode m_M_meet.2.1 24 = .ok (.iconst 1, 1) := by decide +kernel
theorem D_M_meet_25 : decode m_M_meet.2.1 25 = .ok (.iadd, 1) := by decide +kernel
theorem D_M_meet_26 : decode m_M_meet.2.1 26 = .ok (.putfield 147, 3) := by decide +kernel
theorem D_M_meet_29 : decode m_M_meet.2.1 29 = .ok (.iconst 0, 1) := by decide +kernel
theorem D_M_meet_30 : decode m_M_meet.2.1 30 = .ok (.istore_n 2, 1) := by decide +kernel
theorem D_M_meet_31 : decode m_M_meet.2.1 31 = .ok (.iconst 0, 1) := by decide +kernel
theorem D_M_meet_32 : decode m_M_meet.2.1 32 = .ok (.istore_n 3, 1) := by decide +kernel
theorem D_M_meet_33 : decode m_M_meet.2.1 33 = .ok (.iconst 0, 1) := by decide +kernel
theorem D_M_meet_34 : decode m_M_meet.2.1 34 = .ok (.istore 4, 2) := by decide +kernel
theorem D_M_meet_36 : decode m_M_meet.2.1 36 = .ok (.iload 4, 2) := by decide +kernel
theorem D_M_meet_38 : decode m_M_meet.2.1 38 = .ok (.iload_n 1, 1) := by decide +kernel
theorem D_M_meet_39 : decode m_M_meet.2.1 39 = .ok (.if_icmp .ge 35, 3) := by decide +kernel
theorem D_M_meet_42 : decode m_M_meet.2.1 42 = .ok (.iload_n 2, 1) := by decide +kernel
theorem D_M_meet_43 : decode m_M_meet.2.1 43 = .ok (.iconst 1, 1) := by decide +kernel
theorem D_M_meet_44 : decode m_M_meet.2.1 44 = .ok (.aload_n 0, 1) := by decide +kernel
theorem D_M_meet_45 : decode m_M_meet.2.1 45 = .ok (.getfield 42, 3) := by decide +kernel
theorem D_M_meet_48 : decode m_M_meet.2.1 48 = .ok (.iload 4, 2) := by decide +kernel
theorem D_M_meet_50 : decode m_M_meet.2.1 50 = .ok (.iaload, 1) := by decide +kernel
theorem D_M_meet_51 : decode m_M_meet.2.1 51 = .ok (.ishl, 1) := by decide +kernel
theorem D_M_meet_52 : decode m_M_meet.2.1 52 = .ok (.ior, 1) := by decide +kernel
theorem D_M_meet_53 : decode m_M_meet.2.1 53 = .ok (.istore_n 2, 1) := by decide +kernel
theorem D_M_meet_54 : decode m_M_meet.2.1 54 = .ok (.iload_n 3, 1) := by decide +kernel
theorem D_M_meet_55 : decode m_M_meet.2.1 55 = .ok (.iconst 1, 1) := by decide +kernel
theorem D_M_meet_56 : decode m_M_meet.2.1 56 = .ok (.aload_n 0, 1) := by decide +kernel
theorem D_M_meet_57 : decode m_M_meet.2.1 57 = .ok (.getfield 42, 3) := by decide +kernel
theorem D_M_meet_60 : decode m_M_meet.2.1 60 = .ok (.iload 4, 2) := by decide +kernel
theorem D_M_meet_62 : decode m_M_meet.2.1 62 = .ok (.iconst 1, 1) := by decide +kernel
theorem D_M_meet_63 : decode m_M_meet.2.1 63 = .ok (.iadd, 1) := by decide +kernel
theorem D_M_meet_64 : decode m_M_meet.2.1 64 = .ok (.iaload, 1) := by decide +kernel
theorem D_M_meet_65 : decode m_M_meet.2.1 65 = .ok (.ishl, 1) := by decide +kernel
theorem D_M_meet_66 : decode m_M_meet.2.1 66 = .ok (.ior, 1) := by decide +kernel
theorem D_M_meet_67 : decode m_M_meet.2.1 67 = .ok (.istore_n 3, 1) := by decide +kernel
theorem D_M_meet_68 : decode m_M_meet.2.1 68 = .ok (.iinc 4 2, 3) := by decide +kernel
theorem D_M_meet_71 : decode m_M_meet.2.1 71 = .ok (.goto (-35), 3) := by decide +kernel
theorem D_M_meet_74 : decode m_M_meet.2.1 74 = .ok (.aload_n 0, 1) := by decide +kernel
theorem D_M_meet_75 : decode m_M_meet.2.1 75 = .ok (.getfield 147, 3) := by decide +kernel
theorem D_M_meet_78 : decode m_M_meet.2.1 78 = .ok (.iconst 1, 1) := by decide +kernel
theorem D_M_meet_79 : decode m_M_meet.2.1 79 = .ok (.if_icmp .eq 27, 3) := by decide +kernel
theorem D_M_meet_82 : decode m_M_meet.2.1 82 = .ok (.iload_n 2, 1) := by decide +kernel
theorem D_M_meet_83 : decode m_M_meet.2.1 83 = .ok (.aload_n 0, 1) := by decide +kernel
theorem D_M_meet_84 : decode m_M_meet.2.1 84 = .ok (.getfield 150, 3) := by decide +kernel
theorem D_M_meet_87 : decode m_M_meet.2.1 87 = .ok (.if_icmp .lt 19, 3) := by decide +kernel
theorem D_M_meet_90 : decode m_M_meet.2.1 90 = .ok (.iload_n 2, 1) := by decide +kernel
theorem D_M_meet_91 : decode m_M_meet.2.1 91 = .ok (.aload_n 0, 1) := by decide +kernel
theorem D_M_meet_92 : decode m_M_meet.2.1 92 = .ok (.getfield 150, 3) := by decide +kernel
theorem D_M_meet_95 : decode m_M_meet.2.1 95 = .ok (.if_icmp .ne 21, 3) := by decide +kernel
theorem D_M_meet_98 : decode m_M_meet.2.1 98 = .ok (.iload_n 3, 1) := by decide +kernel
theorem D_M_meet_99 : decode m_M_meet.2.1 99 = .ok (.aload_n 0, 1) := by decide +kernel
theorem D_M_meet_100 : decode m_M_meet.2.1 100 = .ok (.getfield 153, 3) := by decide +kernel
theorem D_M_meet_103 : decode m_M_meet.2.1 103 = .ok (.if_icmp .ge 13, 3) := by decide +kernel
theorem D_M_meet_106 : decode m_M_meet.2.1 106 = .ok (.aload_n 0, 1) := by decide +kernel
theorem D_M_meet_107 : decode m_M_meet.2.1 107 = .ok (.iload_n 2, 1) := by decide +kernel
theorem D_M_meet_108 : decode m_M_meet.2.1 108 = .ok (.putfield 150, 3) := by decide +kernel
theorem D_M_meet_111 : decode m_M_meet.2.1 111 = .ok (.aload_n 0, 1) := by decide +kernel
theorem D_M_meet_112 : decode m_M_meet.2.1 112 = .ok (.iload_n 3, 1) := by decide +kernel
theorem D_M_meet_113 : decode m_M_meet.2.1 113 = .ok (.putfield 153, 3) := by decide +kernel
theorem D_M_meet_116 : decode m_M_meet.2.1 116 = .ok (.return_, 1) := by decide +kernel
theorem D_M_canStand_0 : decode m_M_canStand.2.1 0 = .ok (.iload_n 1, 1) := by decide +kernel
theorem D_M_canStand_1 : decode m_M_canStand.2.1 1 = .ok (.iconst 2, 1) := by decide +kernel
theorem D_M_canStand_2 : decode m_M_canStand.2.1 2 = .ok (.irem, 1) := by decide +kernel
theorem D_M_canStand_3 : decode m_M_canStand.2.1 3 = .ok (.iconst 1, 1) := by decide +kernel
theorem D_M_canStand_4 : decode m_M_canStand.2.1 4 = .ok (.if_icmp .ne 27, 3) := by decide +kernel
theorem D_M_canStand_7 : decode m_M_canStand.2.1 7 = .ok (.aload_n 0, 1) := by decide +kernel
theorem D_M_canStand_8 : decode m_M_canStand.2.1 8 = .ok (.aload_n 0, 1) := by decide +kernel
theorem D_M_canStand_9 : decode m_M_canStand.2.1 9 = .ok (.getfield 42, 3) := by decide +kernel
theorem D_M_canStand_12 : decode m_M_canStand.2.1 12 = .ok (.iload_n 1, 1) := by decide +kernel
theorem D_M_canStand_13 : decode m_M_canStand.2.1 13 = .ok (.iconst 1, 1) := by decide +kernel
theorem D_M_canStand_14 : decode m_M_canStand.2.1 14 = .ok (.isub, 1) := by decide +kernel
theorem D_M_canStand_15 : decode m_M_canStand.2.1 15 = .ok (.iaload, 1) := by decide +kernel
theorem D_M_canStand_16 : decode m_M_canStand.2.1 16 = .ok (.iload_n 2, 1) := by decide +kernel
theorem D_M_canStand_17 : decode m_M_canStand.2.1 17 = .ok (.invokevirtual 67, 3) := by decide +kernel
theorem D_M_canStand_20 : decode m_M_canStand.2.1 20 = .ok (.ifCond .le 7, 3) := by decide +kernel
theorem D_M_canStand_23 : decode m_M_canStand.2.1 23 = .ok (.iconst 1, 1) := by decide +kernel
theorem D_M_canStand_24 : decode m_M_canStand.2.1 24 = .ok (.goto 42, 3) := by decide +kernel
theorem D_M_canStand_27 : decode m_M_canStand.2.1 27 = .ok (.iconst 0, 1) := by decide +kernel
theorem D_M_canStand_28 : decode m_M_canStand.2.1 28 = .ok (.goto 38, 3) := by decide +kernel
theorem D_M_canStand_31 : decode m_M_canStand.2.1 31 = .ok (.iload_n 1, 1) := by decide +kernel
theorem D_M_canStand_32 : decode m_M_canStand.2.1 32 = .ok (.ifCond .eq 29, 3) := by decide +kernel
theorem D_M_canStand_35 : decode m_M_canStand.2.1 35 = .ok (.iload_n 2, 1) := by decide +kernel
theorem D_M_canStand_36 : decode m_M_canStand.2.1 36 = .ok (.aload_n 0, 1) := by decide +kernel
theorem D_M_canStand_37 : decode m_M_canStand.2.1 37 = .ok (.getfield 42, 3) := by decide +kernel
theorem D_M_canStand_40 : decode m_M_canStand.2.1 40 = .ok (.iconst 0, 1) := by decide +kernel
theorem D_M_canStand_41 : decode m_M_canStand.2.1 41 = .ok (.iaload, 1) := by decide +kernel
theorem D_M_canStand_42 : decode m_M_canStand.2.1 42 = .ok (.if_icmp .le 23, 3) := by decide +kernel
theorem D_M_canStand_45 : decode m_M_canStand.2.1 45 = .ok (.aload_n 0, 1) := by decide +kernel
theorem D_M_canStand_46 : decode m_M_canStand.2.1 46 = .ok (.iload_n 2, 1) := by decide +kernel
theorem D_M_canStand_47 : decode m_M_canStand.2.1 47 = .ok (.aload_n 0, 1) := by decide +kernel
theorem D_M_canStand_48 : decode m_M_canStand.2.1 48 = .ok (.getfield 42, 3) := by decide +kernel
theorem D_M_canStand_51 : decode m_M_canStand.2.1 51 = .ok (.iload_n 1, 1) := by decide +kernel
theorem D_M_canStand_52 : decode m_M_canStand.2.1 52 = .ok (.iconst 1, 1) := by decide +kernel
theorem D_M_canStand_53 : decode m_M_canStand.2.1 53 = .ok (.isub, 1) := by decide +kernel
theorem D_M_canStand_54 : decode m_M_canStand.2.1 54 = .ok (.iaload, 1) := by decide +kernel
theorem D_M_canStand_55 : decode m_M_canStand.2.1 55 = .ok (.invokevirtual 67, 3) := by decide +kernel
theorem D_M_canStand_58 : decode m_M_canStand.2.1 58 = .ok (.ifCond .le 7, 3) := by decide +kernel
theorem D_M_canStand_61 : decode m_M_canStand.2.1 61 = .ok (.iconst 1, 1) := by decide +kernel
theorem D_M_canStand_62 : decode m_M_canStand.2.1 62 = .ok (.goto 4, 3) := by decide +kernel
theorem D_M_canStand_65 : decode m_M_canStand.2.1 65 = .ok (.iconst 0, 1) := by decide +kernel
theorem D_M_canStand_66 : decode m_M_canStand.2.1 66 = .ok (.istore_n 3, 1) := by decide +kernel
theorem D_M_canStand_67 : decode m_M_canStand.2.1 67 = .ok (.iload_n 1, 1) := by decide +kernel
theorem D_M_canStand_68 : decode m_M_canStand.2.1 68 = .ok (.iconst 2, 1) := by decide +kernel
theorem D_M_canStand_69 : decode m_M_canStand.2.1 69 = .ok (.isub, 1) := by decide +kernel
theorem D_M_canStand_70 : decode m_M_canStand.2.1 70 = .ok (.istore 4, 2) := by decide +kernel
theorem D_M_canStand_72 : decode m_M_canStand.2.1 72 = .ok (.iload 4, 2) := by decide +kernel
theorem D_M_canStand_74 : decode m_M_canStand.2.1 74 = .ok (.ifCond .lt 30, 3) := by decide +kernel
theorem D_M_canStand_77 : decode m_M_canStand.2.1 77 = .ok (.iload_n 3, 1) := by decide +kernel
theorem D_M_canStand_78 : decode m_M_canStand.2.1 78 = .ok (.ifCond .eq 18, 3) := by decide +kernel
theorem D_M_canStand_81 : decode m_M_canStand.2.1 81 = .ok (.aload_n 0, 1) := by decide +kernel
theorem D_M_canStand_82 : decode m_M_canStand.2.1 82 = .ok (.getfield 42, 3) := by decide +kernel
theorem D_M_canStand_85 : decode m_M_canStand.2.1 85 = .ok (.iload 4, 2) := by decide +kernel
theorem D_M_canStand_87 : decode m_M_canStand.2.1 87 = .ok (.iaload, 1) := by decide +kernel
theorem D_M_canStand_88 : decode m_M_canStand.2.1 88 = .ok (.iload_n 2, 1) := by decide +kernel
theorem D_M_canStand_89 : decode m_M_canStand.2.1 89 = .ok (.if_icmp .eq 7, 3) := by decide +kernel
theorem D_M_canStand_92 : decode m_M_canStand.2.1 92 = .ok (.iconst 1, 1) := by decide +kernel
theorem D_M_canStand_93 : decode m_M_canStand.2.1 93 = .ok (.goto 4, 3) := by decide +kernel
theorem D_M_canStand_96 : decode m_M_canStand.2.1 96 = .ok (.iconst 0, 1) := by decide +kernel
theorem D_M_canStand_97 : decode m_M_canStand.2.1 97 = .ok (.istore_n 3, 1) := by decide +kernel
theorem D_M_canStand_98 : decode m_M_canStand.2.1 98 = .ok (.iinc 4 (-2), 3) := by decide +kernel
theorem D_M_canStand_101 : decode m_M_canStand.2.1 101 = .ok (.goto (-29), 3) := by decide +kernel
theorem D_M_canStand_104 : decode m_M_canStand.2.1 104 = .ok (.iload_n 3, 1) := by decide +kernel
theorem D_M_canStand_105 : decode m_M_canStand.2.1 105 = .ok (.ireturn, 1) := by decide +kernel
theorem D_M_goCycles_0 : decode m_M_goCycles.2.1 0 = .ok (.aload_n 0, 1) := by decide +kernel
theorem D_M_goCycles_1 : decode m_M_goCycles.2.1 1 = .ok (.iconst 0, 1) := by decide +kernel
theorem D_M_goCycles_2 : decode m_M_goCycles.2.1 2 = .ok (.putfield 140, 3) := by decide +kernel
theorem D_M_goCycles_5 : decode m_M_goCycles.2.1 5 = .ok (.aload_n 0, 1) := by decide +kernel
theorem D_M_goCycles_6 : decode m_M_goCycles.2.1 6 = .ok (.iconst 0, 1) := by decide +kernel
theorem D_M_goCycles_7 : decode m_M_goCycles.2.1 7 = .ok (.putfield 147, 3) := by decide +kernel
theorem D_M_goCycles_10 : decode m_M_goCycles.2.1 10 = .ok (.iconst 0, 1) := by decide +kernel
theorem D_M_goCycles_11 : decode m_M_goCycles.2.1 11 = .ok (.istore_n 2, 1) := by decide +kernel
theorem D_M_goCycles_12 : decode m_M_goCycles.2.1 12 = .ok (.aload_n 0, 1) := by decide +kernel
theorem D_M_goCycles_13 : decode m_M_goCycles.2.1 13 = .ok (.getfield 42, 3) := by decide +kernel
theorem D_M_goCycles_16 : decode m_M_goCycles.2.1 16 = .ok (.iconst 0, 1) := by decide +kernel
theorem D_M_goCycles_17 : decode m_M_goCycles.2.1 17 = .ok (.iconst (-1), 1) := by decide +kernel
theorem D_M_goCycles_18 : decode m_M_goCycles.2.1 18 = .ok (.iastore, 1) := by decide +kernel
theorem D_M_goCycles_19 : decode m_M_goCycles.2.1 19 = .ok (.iload_n 2, 1) := by decide +kernel
theorem D_M_goCycles_20 : decode m_M_goCycles.2.1 20 = .ok (.ifCond .lt 152, 3) := by decide +kernel
theorem D_M_goCycles_23 : decode m_M_goCycles.2.1 23 = .ok (.iload_n 2, 1) := by decide +kernel
theorem D_M_goCycles_24 : decode m_M_goCycles.2.1 24 = .ok (.iconst 2, 1) := by decide +kernel
theorem D_M_goCycles_25 : decode m_M_goCycles.2.1 25 = .ok (.irem, 1) := by decide +kernel
theorem D_M_goCycles_26 : decode m_M_goCycles.2.1 26 = .ok (.ifCond .ne 13, 3) := by decide +kernel
theorem D_M_goCycles_29 : decode m_M_goCycles.2.1 29 = .ok (.aload_n 0, 1) := by decide +kernel
theorem D_M_goCycles_30 : decode m_M_goCycles.2.1 30 = .ok (.getfield 7, 3) := by decide +kernel
theorem D_M_goCycles_33 : decode m_M_goCycles.2.1 33 = .ok (.bipush 36, 2) := by decide +kernel
theorem D_M_goCycles_35 : decode m_M_goCycles.2.1 35 = .ok (.iaload, 1) := by decide +kernel
theorem D_M_goCycles_36 : decode m_M_goCycles.2.1 36 = .ok (.goto 10, 3) := by decide +kernel
theorem D_M_goCycles_39 : decode m_M_goCycles.2.1 39 = .ok (.aload_n 0, 1) := by decide +kernel
theorem D_M_goCycles_40 : decode m_M_goCycles.2.1 40 = .ok (.getfield 7, 3) := by decide +kernel
theorem D_M_goCycles_43 : decode m_M_goCycles.2.1 43 = .ok (.bipush 37, 2) := by decide +kernel
theorem D_M_goCycles_45 : decode m_M_goCycles.2.1 45 = .ok (.iaload, 1) := by decide +kernel
theorem D_M_goCycles_46 : decode m_M_goCycles.2.1 46 = .ok (.istore_n 3, 1) := by decide +kernel
theorem D_M_goCycles_47 : decode m_M_goCycles.2.1 47 = .ok (.aload_n 0, 1) := by decide +kernel
theorem D_M_goCycles_48 : decode m_M_goCycles.2.1 48 = .ok (.getfield 42, 3) := by decide +kernel
theorem D_M_goCycles_51 : decode m_M_goCycles.2.1 51 = .ok (.iload_n 2, 1) := by decide +kernel
theorem D_M_goCycles_52 : decode m_M_goCycles.2.1 52 = .ok (.dup2, 1) := by decide +kernel
theorem D_M_goCycles_53 : decode m_M_goCycles.2.1 53 = .ok (.iaload, 1) := by decide +kernel
theorem D_M_goCycles_54 : decode m_M_goCycles.2.1 54 = .ok (.iconst 1, 1) := by decide +kernel
theorem D_M_goCycles_55 : decode m_M_goCycles.2.1 55 = .ok (.iadd, 1) := by decide +kernel
theorem D_M_goCycles_56 : decode m_M_goCycles.2.1 56 = .ok (.iastore, 1) := by decide +kernel
theorem D_M_goCycles_57 : decode m_M_goCycles.2.1 57 = .ok (.aload_n 0, 1) := by decide +kernel
theorem D_M_goCycles_58 : decode m_M_goCycles.2.1 58 = .ok (.getfield 42, 3) := by decide +kernel
theorem D_M_goCycles_61 : decode m_M_goCycles.2.1 61 = .ok (.iload_n 2, 1) := by decide +kernel
theorem D_M_goCycles_62 : decode m_M_goCycles.2.1 62 = .ok (.iaload, 1) := by decide +kernel
theorem D_M_goCycles_63 : decode m_M_goCycles.2.1 63 = .ok (.iload_n 3, 1) := by decide +kernel
theorem D_M_goCycles_64 : decode m_M_goCycles.2.1 64 = .ok (.if_icmp .ge 30, 3) := by decide +kernel
theorem D_M_goCycles_67 : decode m_M_goCycles.2.1 67 = .ok (.aload_n 0, 1) := by decide +kernel
theorem D_M_goCycles_68 : decode m_M_goCycles.2.1 68 = .ok (.iload_n 2, 1) := by decide +kernel
theorem D_M_goCycles_69 : decode m_M_goCycles.2.1 69 = .ok (.aload_n 0, 1) := by decide +kernel
theorem D_M_goCycles_70 : decode m_M_goCycles.2.1 70 = .ok (.getfield 42, 3) := by decide +kernel
theorem D_M_goCycles_73 : decode m_M_goCycles.2.1 73 = .ok (.iload_n 2, 1) := by decide +kernel
theorem D_M_goCycles_74 : decode m_M_goCycles.2.1 74 = .ok (.iaload, 1) := by decide +kernel
theorem D_M_goCycles_75 : decode m_M_goCycles.2.1 75 = .ok (.invokevirtual 156, 3) := by decide +kernel
theorem D_M_goCycles_78 : decode m_M_goCycles.2.1 78 = .ok (.ifCond .ne 16, 3) := by decide +kernel
theorem D_M_goCycles_81 : decode m_M_goCycles.2.1 81 = .ok (.aload_n 0, 1) := by decide +kernel
theorem D_M_goCycles_82 : decode m_M_goCycles.2.1 82 = .ok (.getfield 42, 3) := by decide +kernel
theorem D_M_goCycles_85 : decode m_M_goCycles.2.1 85 = .ok (.iload_n 2, 1) := by decide +kernel
theorem D_M_goCycles_86 : decode m_M_goCycles.2.1 86 = .ok (.dup2, 1) := by decide +kernel
theorem D_M_goCycles_87 : decode m_M_goCycles.2.1 87 = .ok (.iaload, 1) := by decide +kernel
theorem D_M_goCycles_88 : decode m_M_goCycles.2.1 88 = .ok (.iconst 1, 1) := by decide +kernel
theorem D_M_goCycles_89 : decode m_M_goCycles.2.1 89 = .ok (.iadd, 1) := by decide +kernel
theorem D_M_goCycles_90 : decode m_M_goCycles.2.1 90 = .ok (.iastore, 1) := by decide +kernel
theorem D_M_goCycles_91 : decode m_M_goCycles.2.1 91 = .ok (.goto (-34), 3) := by decide +kernel
theorem D_M_goCycles_94 : decode m_M_goCycles.2.1 94 = .ok (.aload_n 0, 1) := by decide +kernel
theorem D_M_goCycles_95 : decode m_M_goCycles.2.1 95 = .ok (.getfield 42, 3) := by decide +kernel
theorem D_M_goCycles_98 : decode m_M_goCycles.2.1 98 = .ok (.iload_n 2, 1) := by decide +kernel
theorem D_M_goCycles_99 : decode m_M_goCycles.2.1 99 = .ok (.iaload, 1) := by decide +kernel
theorem D_M_goCycles_100 : decode m_M_goCycles.2.1 100 = .ok (.iload_n 3, 1) := by decide +kernel
theorem D_M_goCycles_101 : decode m_M_goCycles.2.1 101 = .ok (.if_icmp .ne 9, 3) := by decide +kernel
theorem D_M_goCycles_104 : decode m_M_goCycles.2.1 104 = .ok (.iinc 2 (-1), 3) := by decide +kernel
theorem D_M_goCycles_107 : decode m_M_goCycles.2.1 107 = .ok (.goto 62, 3) := by decide +kernel
theorem D_M_goCycles_110 : decode m_M_goCycles.2.1 110 = .ok (.iload_n 2, 1) := by decide +kernel
theorem D_M_goCycles_111 : decode m_M_goCycles.2.1 111 = .ok (.iload_n 1, 1) := by decide +kernel
theorem D_M_goCycles_112 : decode m_M_goCycles.2.1 112 = .ok (.iconst 1, 1) := by decide +kernel
theorem D_M_goCycles_113 : decode m_M_goCycles.2.1 113 = .ok (.isub, 1) := by decide +kernel
theorem D_M_goCycles_114 : decode m_M_goCycles.2.1 114 = .ok (.if_icmp .ge 16, 3) := by decide +kernel
theorem D_M_goCycles_117 : decode m_M_goCycles.2.1 117 = .ok (.iinc 2 1, 3) := by decide +kernel
theorem D_M_goCycles_120 : decode m_M_goCycles.2.1 120 = .ok (.aload_n 0, 1) := by decide +kernel
theorem D_M_goCycles_121 : decode m_M_goCycles.2.1 121 = .ok (.getfield 42, 3) := by decide +kernel
theorem D_M_goCycles_124 : decode m_M_goCycles.2.1 124 = .ok (.iload_n 2, 1) := by decide +kernel
theorem D_M_goCycles_125 : decode m_M_goCycles.2.1 125 = .ok (.iconst (-1), 1) := by decide +kernel
theorem D_M_goCycles_126 : decode m_M_goCycles.2.1 126 = .ok (.iastore, 1) := by decide +kernel
theorem D_M_goCycles_127 : decode m_M_goCycles.2.1 127 = .ok (.goto 42, 3) := by decide +kernel
theorem D_M_goCycles_130 : decode m_M_goCycles.2.1 130 = .ok (.aload_n 0, 1) := by decide +kernel
theorem D_M_goCycles_131 : decode m_M_goCycles.2.1 131 = .ok (.aload_n 0, 1) := by decide +kernel
theorem D_M_goCycles_132 : decode m_M_goCycles.2.1 132 = .ok (.getfield 42, 3) := by decide +kernel
theorem D_M_goCycles_135 : decode m_M_goCycles.2.1 135 = .ok (.iconst 0, 1) := by decide +kernel
theorem D_M_goCycles_136 : decode m_M_goCycles.2.1 136 = .ok (.iaload, 1) := by decide +kernel
theorem D_M_goCycles_137 : decode m_M_goCycles.2.1 137 = .ok (.aload_n 0, 1) := by decide +kernel
theorem D_M_goCycles_138 : decode m_M_goCycles.2.1 138 = .ok (.getfield 42, 3) := by decide +kernel
theorem D_M_goCycles_141 : decode m_M_goCycles.2.1 141 = .ok (.iload_n 2, 1) := by decide +kernel
theorem D_M_goCycles_142 : decode m_M_goCycles.2.1 142 = .ok (.iaload, 1) := by decide +kernel
theorem D_M_goCycles_143 : decode m_M_goCycles.2.1 143 = .ok (.invokevirtual 67, 3) := by decide +kernel
theorem D_M_goCycles_146 : decode m_M_goCycles.2.1 146 = .ok (.ifCond .le 23, 3) := by decide +kernel
theorem D_M_goCycles_149 : decode m_M_goCycles.2.1 149 = .ok (.aload_n 0, 1) := by decide +kernel
theorem D_M_goCycles_150 : decode m_M_goCycles.2.1 150 = .ok (.getfield 42, 3) := by decide +kernel
theorem D_M_goCycles_153 : decode m_M_goCycles.2.1 153 = .ok (.iconst 1, 1) := by decide +kernel
theorem D_M_goCycles_154 : decode m_M_goCycles.2.1 154 = .ok (.iaload, 1) := by decide +kernel
theorem D_M_goCycles_155 : decode m_M_goCycles.2.1 155 = .ok (.aload_n 0, 1) := by decide +kernel
theorem D_M_goCycles_156 : decode m_M_goCycles.2.1 156 = .ok (.getfield 42, 3) := by decide +kernel
theorem D_M_goCycles_159 : decode m_M_goCycles.2.1 159 = .ok (.iload_n 2, 1) := by decide +kernel
theorem D_M_goCycles_160 : decode m_M_goCycles.2.1 160 = .ok (.iaload, 1) := by decide +kernel
theorem D_M_goCycles_161 : decode m_M_goCycles.2.1 161 = .ok (.if_icmp .ge 8, 3) := by decide +kernel
theorem D_M_goCycles_164 : decode m_M_goCycles.2.1 164 = .ok (.aload_n 0, 1) := by decide +kernel
theorem D_M_goCycles_165 : decode m_M_goCycles.2.1 165 = .ok (.iload_n 1, 1) := by decide +kernel
theorem D_M_goCycles_166 : decode m_M_goCycles.2.1 166 = .ok (.invokevirtual 159, 3) := by decide +kernel
theorem D_M_goCycles_169 : decode m_M_goCycles.2.1 169 = .ok (.goto (-150), 3) := by decide +kernel
theorem D_M_goCycles_172 : decode m_M_goCycles.2.1 172 = .ok (.return_, 1) := by decide +kernel
theorem D_M_cycles_0 : decode m_M_cycles.2.1 0 = .ok (.iload_n 1, 1) := by decide +kernel
theorem D_M_cycles_1 : decode m_M_cycles.2.1 1 = .ok (.iconst 4, 1) := by decide +kernel
theorem D_M_cycles_2 : decode m_M_cycles.2.1 2 = .ok (.bipush 12, 2) := by decide +kernel
theorem D_M_cycles_4 : decode m_M_cycles.2.1 4 = .ok (.invokestatic 52, 3) := by decide +kernel
theorem D_M_cycles_7 : decode m_M_cycles.2.1 7 = .ok (.ifCond .eq 19, 3) := by decide +kernel
theorem D_M_cycles_10 : decode m_M_cycles.2.1 10 = .ok (.iload_n 1, 1) := by decide +kernel
theorem D_M_cycles_11 : decode m_M_cycles.2.1 11 = .ok (.iconst 2, 1) := by decide +kernel
theorem D_M_cycles_12 : decode m_M_cycles.2.1 12 = .ok (.irem, 1) := by decide +kernel
theorem D_M_cycles_13 : decode m_M_cycles.2.1 13 = .ok (.iconst 1, 1) := by decide +kernel
theorem D_M_cycles_14 : decode m_M_cycles.2.1 14 = .ok (.if_icmp .eq 12, 3) := by decide +kernel
theorem D_M_cycles_17 : decode m_M_cycles.2.1 17 = .ok (.iload_n 2, 1) := by decide +kernel
theorem D_M_cycles_18 : decode m_M_cycles.2.1 18 = .ok (.iconst 0, 1) := by decide +kernel
theorem D_M_cycles_19 : decode m_M_cycles.2.1 19 = .ok (.iconst 1, 1) := by decide +kernel
theorem D_M_cycles_20 : decode m_M_cycles.2.1 20 = .ok (.invokestatic 52, 3) := by decide +kernel
theorem D_M_cycles_23 : decode m_M_cycles.2.1 23 = .ok (.ifCond .ne 6, 3) := by decide +kernel
theorem D_M_cycles_26 : decode m_M_cycles.2.1 26 = .ok (.bipush (-2), 2) := by decide +kernel
theorem D_M_cycles_28 : decode m_M_cycles.2.1 28 = .ok (.ireturn, 1) := by decide +kernel
theorem D_M_cycles_29 : decode m_M_cycles.2.1 29 = .ok (.aload_n 0, 1) := by decide +kernel
theorem D_M_cycles_30 : decode m_M_cycles.2.1 30 = .ok (.iload_n 1, 1) := by decide +kernel
theorem D_M_cycles_31 : decode m_M_cycles.2.1 31 = .ok (.invokevirtual 162, 3) := by decide +kernel
theorem D_M_cycles_34 : decode m_M_cycles.2.1 34 = .ok (.iload_n 2, 1) := by decide +kernel
theorem D_M_cycles_35 : decode m_M_cycles.2.1 35 = .ok (.ifCond .ne 10, 3) := by decide +kernel
theorem D_M_cycles_38 : decode m_M_cycles.2.1 38 = .ok (.aload_n 0, 1) := by decide +kernel
theorem D_M_cycles_39 : decode m_M_cycles.2.1 39 = .ok (.getfield 140, 3) := by decide +kernel
theorem D_M_cycles_42 : decode m_M_cycles.2.1 42 = .ok (.goto 7, 3) := by decide +kernel
theorem D_M_cycles_45 : decode m_M_cycles.2.1 45 = .ok (.aload_n 0, 1) := by decide +kernel
theorem D_M_cycles_46 : decode m_M_cycles.2.1 46 = .ok (.getfield 147, 3) := by decide +kernel
theorem D_M_cycles_49 : decode m_M_cycles.2.1 49 = .ok (.ireturn, 1) := by decide +kernel
theorem D_M_wrong_0 : decode m_M_wrong.2.1 0 = .ok (.iload_n 1, 1) := by decide +kernel
theorem D_M_wrong_1 : decode m_M_wrong.2.1 1 = .ok (.iconst 0, 1) := by decide +kernel
theorem D_M_wrong_2 : decode m_M_wrong.2.1 2 = .ok (.iconst 2, 1) := by decide +kernel
theorem D_M_wrong_3 : decode m_M_wrong.2.1 3 = .ok (.invokestatic 52, 3) := by decide +kernel
theorem D_M_wrong_6 : decode m_M_wrong.2.1 6 = .ok (.ifCond .ne 6, 3) := by decide +kernel
theorem D_M_wrong_9 : decode m_M_wrong.2.1 9 = .ok (.bipush (-2), 2) := by decide +kernel
theorem D_M_wrong_11 : decode m_M_wrong.2.1 11 = .ok (.ireturn, 1) := by decide +kernel
theorem D_M_wrong_12 : decode m_M_wrong.2.1 12 = .ok (.iconst 4, 1) := by decide +kernel
theorem D_M_wrong_13 : decode m_M_wrong.2.1 13 = .ok (.istore_n 2, 1) := by decide +kernel
theorem D_M_wrong_14 : decode m_M_wrong.2.1 14 = .ok (.iload_n 2, 1) := by decide +kernel
theorem D_M_wrong_15 : decode m_M_wrong.2.1 15 = .ok (.bipush 12, 2) := by decide +kernel
theorem D_M_wrong_17 : decode m_M_wrong.2.1 17 = .ok (.if_icmp .gt 46, 3) := by decide +kernel
theorem D_M_wrong_20 : decode m_M_wrong.2.1 20 = .ok (.aload_n 0, 1) := by decide +kernel
theorem D_M_wrong_21 : decode m_M_wrong.2.1 21 = .ok (.iload_n 2, 1) := by decide +kernel
theorem D_M_wrong_22 : decode m_M_wrong.2.1 22 = .ok (.invokevirtual 162, 3) := by decide +kernel
theorem D_M_wrong_25 : decode m_M_wrong.2.1 25 = .ok (.aload_n 0, 1) := by decide +kernel
theorem D_M_wrong_26 : decode m_M_wrong.2.1 26 = .ok (.getfield 147, 3) := by decide +kernel
theorem D_M_wrong_29 : decode m_M_wrong.2.1 29 = .ok (.ifCond .le 28, 3) := by decide +kernel
theorem D_M_wrong_32 : decode m_M_wrong.2.1 32 = .ok (.iload_n 1, 1) := by decide +kernel
theorem D_M_wrong_33 : decode m_M_wrong.2.1 33 = .ok (.ifCond .ne 7, 3) := by decide +kernel
theorem D_M_wrong_36 : decode m_M_wrong.2.1 36 = .ok (.iload_n 2, 1) := by decide +kernel
theorem D_M_wrong_37 : decode m_M_wrong.2.1 37 = .ok (.goto 19, 3) := by decide +kernel
theorem D_M_wrong_40 : decode m_M_wrong.2.1 40 = .ok (.iload_n 1, 1) := by decide +kernel
theorem D_M_wrong_41 : decode m_M_wrong.2.1 41 = .ok (.iconst 1, 1) := by decide +kernel
theorem D_M_wrong_42 : decode m_M_wrong.2.1 42 = .ok (.if_icmp .ne 10, 3) := by decide +kernel
theorem D_M_wrong_45 : decode m_M_wrong.2.1 45 = .ok (.aload_n 0, 1) := by decide +kernel
theorem D_M_wrong_46 : decode m_M_wrong.2.1 46 = .ok (.getfield 150, 3) := by decide +kernel
theorem D_M_wrong_49 : decode m_M_wrong.2.1 49 = .ok (.goto 7, 3) := by decide +kernel
theorem D_M_wrong_52 : decode m_M_wrong.2.1 52 = .ok (.aload_n 0, 1) := by decide +kernel
theorem D_M_wrong_53 : decode m_M_wrong.2.1 53 = .ok (.getfield 153, 3) := by decide +kernel
theorem D_M_wrong_56 : decode m_M_wrong.2.1 56 = .ok (.ireturn, 1) := by decide +kernel
theorem D_M_wrong_57 : decode m_M_wrong.2.1 57 = .ok (.iinc 2 2, 3) := by decide +kernel
theorem D_M_wrong_60 : decode m_M_wrong.2.1 60 = .ok (.goto (-46), 3) := by decide +kernel
theorem D_M_wrong_63 : decode m_M_wrong.2.1 63 = .ok (.bipush (-6), 2) := by decide +kernel
theorem D_M_wrong_65 : decode m_M_wrong.2.1 65 = .ok (.ireturn, 1) := by decide +kernel
theorem D_M_completions_0 : decode m_M_completions.2.1 0 = .ok (.aload_n 0, 1) := by decide +kernel
theorem D_M_completions_1 : decode m_M_completions.2.1 1 = .ok (.invokevirtual 85, 3) := by decide +kernel
theorem D_M_completions_4 : decode m_M_completions.2.1 4 = .ok (.aload_n 0, 1) := by decide +kernel
theorem D_M_completions_5 : decode m_M_completions.2.1 5 = .ok (.getfield 81, 3) := by decide +kernel
theorem D_M_completions_8 : decode m_M_completions.2.1 8 = .ok (.ifCond .eq 7, 3) := by decide +kernel
theorem D_M_completions_11 : decode m_M_completions.2.1 11 = .ok (.lconst 1, 1) := by decide +kernel
theorem D_M_completions_12 : decode m_M_completions.2.1 12 = .ok (.goto 4, 3) := by decide +kernel
theorem D_M_completions_15 : decode m_M_completions.2.1 15 = .ok (.lconst 0, 1) := by decide +kernel
theorem D_M_completions_16 : decode m_M_completions.2.1 16 = .ok (.lstore_n 1, 1) := by decide +kernel
theorem D_M_completions_17 : decode m_M_completions.2.1 17 = .ok (.iconst 1, 1) := by decide +kernel
theorem D_M_completions_18 : decode m_M_completions.2.1 18 = .ok (.istore_n 3, 1) := by decide +kernel
theorem D_M_completions_19 : decode m_M_completions.2.1 19 = .ok (.iload_n 3, 1) := by decide +kernel
theorem D_M_completions_20 : decode m_M_completions.2.1 20 = .ok (.aload_n 0, 1) := by decide +kernel
theorem D_M_completions_21 : decode m_M_completions.2.1 21 = .ok (.getfield 74, 3) := by decide +kernel
theorem D_M_completions_24 : decode m_M_completions.2.1 24 = .ok (.if_icmp .ge 22, 3) := by decide +kernel
theorem D_M_completions_27 : decode m_M_completions.2.1 27 = .ok (.lload_n 1, 1) := by decide +kernel
theorem D_M_completions_28 : decode m_M_completions.2.1 28 = .ok (.aload_n 0, 1) := by decide +kernel
theorem D_M_completions_29 : decode m_M_completions.2.1 29 = .ok (.getfield 7, 3) := by decide +kernel
theorem D_M_completions_32 : decode m_M_completions.2.1 32 = .ok (.bipush 38, 2) := by decide +kernel
theorem D_M_completions_34 : decode m_M_completions.2.1 34 = .ok (.iaload, 1) := by decide +kernel
theorem D_M_completions_35 : decode m_M_completions.2.1 35 = .ok (.iconst 1, 1) := by decide +kernel
theorem D_M_completions_36 : decode m_M_completions.2.1 36 = .ok (.isub, 1) := by decide +kernel
theorem D_M_completions_37 : decode m_M_completions.2.1 37 = .ok (.i2l, 1) := by decide +kernel
theorem D_M_completions_38 : decode m_M_completions.2.1 38 = .ok (.lmul, 1) := by decide +kernel
theorem D_M_completions_39 : decode m_M_completions.2.1 39 = .ok (.lstore_n 1, 1) := by decide +kernel
theorem D_M_completions_40 : decode m_M_completions.2.1 40 = .ok (.iinc 3 1, 3) := by decide +kernel
theorem D_M_completions_43 : decode m_M_completions.2.1 43 = .ok (.goto (-24), 3) := by decide +kernel
theorem D_M_completions_46 : decode m_M_completions.2.1 46 = .ok (.lload_n 1, 1) := by decide +kernel
theorem D_M_completions_47 : decode m_M_completions.2.1 47 = .ok (.lreturn, 1) := by decide +kernel
theorem D_M_factorOf_0 : decode m_M_factorOf.2.1 0 = .ok (.lload_n 1, 1) := by decide +kernel
theorem D_M_factorOf_1 : decode m_M_factorOf.2.1 1 = .ok (.lstore 4, 2) := by decide +kernel
theorem D_M_factorOf_3 : decode m_M_factorOf.2.1 3 = .ok (.iconst 1, 1) := by decide +kernel
theorem D_M_factorOf_4 : decode m_M_factorOf.2.1 4 = .ok (.istore 6, 2) := by decide +kernel
theorem D_M_factorOf_6 : decode m_M_factorOf.2.1 6 = .ok (.iload 6, 2) := by decide +kernel
theorem D_M_factorOf_8 : decode m_M_factorOf.2.1 8 = .ok (.iload_n 3, 1) := by decide +kernel
theorem D_M_factorOf_9 : decode m_M_factorOf.2.1 9 = .ok (.if_icmp .ge 24, 3) := by decide +kernel
theorem D_M_factorOf_12 : decode m_M_factorOf.2.1 12 = .ok (.lload 4, 2) := by decide +kernel
theorem D_M_factorOf_14 : decode m_M_factorOf.2.1 14 = .ok (.aload_n 0, 1) := by decide +kernel
theorem D_M_factorOf_15 : decode m_M_factorOf.2.1 15 = .ok (.getfield 7, 3) := by decide +kernel
theorem D_M_factorOf_18 : decode m_M_factorOf.2.1 18 = .ok (.bipush 38, 2) := by decide +kernel
theorem D_M_factorOf_20 : decode m_M_factorOf.2.1 20 = .ok (.iaload, 1) := by decide +kernel
theorem D_M_factorOf_21 : decode m_M_factorOf.2.1 21 = .ok (.iconst 1, 1) := by decide +kernel
theorem D_M_factorOf_22 : decode m_M_factorOf.2.1 22 = .ok (.isub, 1) := by decide +kernel
theorem D_M_factorOf_23 : decode m_M_factorOf.2.1 23 = .ok (.i2l, 1) := by decide +kernel
theorem D_M_factorOf_24 : decode m_M_factorOf.2.1 24 = .ok (.ldiv, 1) := by decide +kernel
theorem D_M_factorOf_25 : decode m_M_factorOf.2.1 25 = .ok (.lstore 4, 2) := by decide +kernel
theorem D_M_factorOf_27 : decode m_M_factorOf.2.1 27 = .ok (.iinc 6 1, 3) := by decide +kernel
theorem D_M_factorOf_30 : decode m_M_factorOf.2.1 30 = .ok (.goto (-24), 3) := by decide +kernel
theorem D_M_factorOf_33 : decode m_M_factorOf.2.1 33 = .ok (.iload_n 3, 1) := by decide +kernel
theorem D_M_factorOf_34 : decode m_M_factorOf.2.1 34 = .ok (.ifCond .ne 7, 3) := by decide +kernel
theorem D_M_factorOf_37 : decode m_M_factorOf.2.1 37 = .ok (.iconst 1, 1) := by decide +kernel
theorem D_M_factorOf_38 : decode m_M_factorOf.2.1 38 = .ok (.goto 19, 3) := by decide +kernel
theorem D_M_factorOf_41 : decode m_M_factorOf.2.1 41 = .ok (.iconst 1, 1) := by decide +kernel
theorem D_M_factorOf_42 : decode m_M_factorOf.2.1 42 = .ok (.lload 4, 2) := by decide +kernel
theorem D_M_factorOf_44 : decode m_M_factorOf.2.1 44 = .ok (.aload_n 0, 1) := by decide +kernel
theorem D_M_factorOf_45 : decode m_M_factorOf.2.1 45 = .ok (.getfield 7, 3) := by decide +kernel
theorem D_M_factorOf_48 : decode m_M_factorOf.2.1 48 = .ok (.bipush 38, 2) := by decide +kernel
theorem D_M_factorOf_50 : decode m_M_factorOf.2.1 50 = .ok (.iaload, 1) := by decide +kernel
theorem D_M_factorOf_51 : decode m_M_factorOf.2.1 51 = .ok (.iconst 1, 1) := by decide +kernel
theorem D_M_factorOf_52 : decode m_M_factorOf.2.1 52 = .ok (.isub, 1) := by decide +kernel
theorem D_M_factorOf_53 : decode m_M_factorOf.2.1 53 = .ok (.i2l, 1) := by decide +kernel
theorem D_M_factorOf_54 : decode m_M_factorOf.2.1 54 = .ok (.lrem, 1) := by decide +kernel
theorem D_M_factorOf_55 : decode m_M_factorOf.2.1 55 = .ok (.l2i, 1) := by decide +kernel
theorem D_M_factorOf_56 : decode m_M_factorOf.2.1 56 = .ok (.iadd, 1) := by decide +kernel
theorem D_M_factorOf_57 : decode m_M_factorOf.2.1 57 = .ok (.ireturn, 1) := by decide +kernel
theorem D_M_completed_0 : decode m_M_completed.2.1 0 = .ok (.aload_n 0, 1) := by decide +kernel
theorem D_M_completed_1 : decode m_M_completed.2.1 1 = .ok (.iload_n 3, 1) := by decide +kernel
theorem D_M_completed_2 : decode m_M_completed.2.1 2 = .ok (.iload 4, 2) := by decide +kernel
theorem D_M_completed_4 : decode m_M_completed.2.1 4 = .ok (.invokevirtual 88, 3) := by decide +kernel
theorem D_M_completed_7 : decode m_M_completed.2.1 7 = .ok (.ifCond .eq 18, 3) := by decide +kernel
theorem D_M_completed_10 : decode m_M_completed.2.1 10 = .ok (.lload_n 1, 1) := by decide +kernel
theorem D_M_completed_11 : decode m_M_completed.2.1 11 = .ok (.lconst 0, 1) := by decide +kernel
theorem D_M_completed_12 : decode m_M_completed.2.1 12 = .ok (.lcmp, 1) := by decide +kernel
theorem D_M_completed_13 : decode m_M_completed.2.1 13 = .ok (.ifCond .lt 12, 3) := by decide +kernel
theorem D_M_completed_16 : decode m_M_completed.2.1 16 = .ok (.lload_n 1, 1) := by decide +kernel
theorem D_M_completed_17 : decode m_M_completed.2.1 17 = .ok (.aload_n 0, 1) := by decide +kernel
theorem D_M_completed_18 : decode m_M_completed.2.1 18 = .ok (.invokevirtual 165, 3) := by decide +kernel
theorem D_M_completed_21 : decode m_M_completed.2.1 21 = .ok (.lcmp, 1) := by decide +kernel
theorem D_M_completed_22 : decode m_M_completed.2.1 22 = .ok (.ifCond .lt 5, 3) := by decide +kernel
theorem D_M_completed_25 : decode m_M_completed.2.1 25 = .ok (.iconst (-1), 1) := by decide +kernel
theorem D_M_completed_26 : decode m_M_completed.2.1 26 = .ok (.ireturn, 1) := by decide +kernel
theorem D_M_completed_27 : decode m_M_completed.2.1 27 = .ok (.aload_n 0, 1) := by decide +kernel
theorem D_M_completed_28 : decode m_M_completed.2.1 28 = .ok (.aload_n 0, 1) := by decide +kernel
theorem D_M_completed_29 : decode m_M_completed.2.1 29 = .ok (.getfield 33, 3) := by decide +kernel
theorem D_M_completed_32 : decode m_M_completed.2.1 32 = .ok (.iload_n 3, 1) := by decide +kernel
theorem D_M_completed_33 : decode m_M_completed.2.1 33 = .ok (.iaload, 1) := by decide +kernel
theorem D_M_completed_34 : decode m_M_completed.2.1 34 = .ok (.aload_n 0, 1) := by decide +kernel
theorem D_M_completed_35 : decode m_M_completed.2.1 35 = .ok (.lload_n 1, 1) := by decide +kernel
theorem D_M_completed_36 : decode m_M_completed.2.1 36 = .ok (.aload_n 0, 1) := by decide +kernel
theorem D_M_completed_37 : decode m_M_completed.2.1 37 = .ok (.getfield 27, 3) := by decide +kernel
theorem D_M_completed_40 : decode m_M_completed.2.1 40 = .ok (.iload_n 3, 1) := by decide +kernel
theorem D_M_completed_41 : decode m_M_completed.2.1 41 = .ok (.iaload, 1) := by decide +kernel
theorem D_M_completed_42 : decode m_M_completed.2.1 42 = .ok (.invokevirtual 169, 3) := by decide +kernel
theorem D_M_completed_45 : decode m_M_completed.2.1 45 = .ok (.invokevirtual 63, 3) := by decide +kernel
theorem D_M_completed_48 : decode m_M_completed.2.1 48 = .ok (.istore 5, 2) := by decide +kernel
theorem D_M_completed_50 : decode m_M_completed.2.1 50 = .ok (.aload_n 0, 1) := by decide +kernel
theorem D_M_completed_51 : decode m_M_completed.2.1 51 = .ok (.aload_n 0, 1) := by decide +kernel
theorem D_M_completed_52 : decode m_M_completed.2.1 52 = .ok (.getfield 36, 3) := by decide +kernel
theorem D_M_completed_55 : decode m_M_completed.2.1 55 = .ok (.iload 4, 2) := by decide +kernel
theorem D_M_completed_57 : decode m_M_completed.2.1 57 = .ok (.iaload, 1) := by decide +kernel
theorem D_M_completed_58 : decode m_M_completed.2.1 58 = .ok (.aload_n 0, 1) := by decide +kernel
theorem D_M_completed_59 : decode m_M_completed.2.1 59 = .ok (.aload_n 0, 1) := by decide +kernel
theorem D_M_completed_60 : decode m_M_completed.2.1 60 = .ok (.lload_n 1, 1) := by decide +kernel
theorem D_M_completed_61 : decode m_M_completed.2.1 61 = .ok (.aload_n 0, 1) := by decide +kernel
theorem D_M_completed_62 : decode m_M_completed.2.1 62 = .ok (.getfield 30, 3) := by decide +kernel
theorem D_M_completed_65 : decode m_M_completed.2.1 65 = .ok (.iload 4, 2) := by decide +kernel
theorem D_M_completed_67 : decode m_M_completed.2.1 67 = .ok (.iaload, 1) := by decide +kernel
theorem D_M_completed_68 : decode m_M_completed.2.1 68 = .ok (.invokevirtual 169, 3) := by decide +kernel
theorem D_M_completed_71 : decode m_M_completed.2.1 71 = .ok (.invokevirtual 70, 3) := by decide +kernel
theorem D_M_completed_74 : decode m_M_completed.2.1 74 = .ok (.invokevirtual 63, 3) := by decide +kernel
theorem D_M_completed_77 : decode m_M_completed.2.1 77 = .ok (.istore 6, 2) := by decide +kernel
theorem D_M_completed_79 : decode m_M_completed.2.1 79 = .ok (.aload_n 0, 1) := by decide +kernel
theorem D_M_completed_80 : decode m_M_completed.2.1 80 = .ok (.iload 5, 2) := by decide +kernel
theorem D_M_completed_82 : decode m_M_completed.2.1 82 = .ok (.iload 6, 2) := by decide +kernel
theorem D_M_completed_84 : decode m_M_completed.2.1 84 = .ok (.invokevirtual 63, 3) := by decide +kernel
theorem D_M_completed_87 : decode m_M_completed.2.1 87 = .ok (.ireturn, 1) := by decide +kernel
theorem D_M_isWellIf_0 : decode m_M_isWellIf.2.1 0 = .ok (.aload_n 0, 1) := by decide +kernel
theorem D_M_isWellIf_1 : decode m_M_isWellIf.2.1 1 = .ok (.iload_n 1, 1) := by decide +kernel
theorem D_M_isWellIf_2 : decode m_M_isWellIf.2.1 2 = .ok (.iload_n 2, 1) := by decide +kernel
theorem D_M_isWellIf_3 : decode m_M_isWellIf.2.1 3 = .ok (.invokevirtual 88, 3) := by decide +kernel
theorem D_M_isWellIf_6 : decode m_M_isWellIf.2.1 6 = .ok (.ifCond .ne 5, 3) := by decide +kernel
theorem D_M_isWellIf_9 : decode m_M_isWellIf.2.1 9 = .ok (.iconst (-1), 1) := by decide +kernel
theorem D_M_isWellIf_10 : decode m_M_isWellIf.2.1 10 = .ok (.ireturn, 1) := by decide +kernel
theorem D_M_isWellIf_11 : decode m_M_isWellIf.2.1 11 = .ok (.iload_n 3, 1) := by decide +kernel
theorem D_M_isWellIf_12 : decode m_M_isWellIf.2.1 12 = .ok (.iconst 0, 1) := by decide +kernel
theorem D_M_isWellIf_13 : decode m_M_isWellIf.2.1 13 = .ok (.aload_n 0, 1) := by decide +kernel
theorem D_M_isWellIf_14 : decode m_M_isWellIf.2.1 14 = .ok (.getfield 7, 3) := by decide +kernel
theorem D_M_isWellIf_17 : decode m_M_isWellIf.2.1 17 = .ok (.bipush 38, 2) := by decide +kernel
theorem D_M_isWellIf_19 : decode m_M_isWellIf.2.1 19 = .ok (.iaload, 1) := by decide +kernel
theorem D_M_isWellIf_20 : decode m_M_isWellIf.2.1 20 = .ok (.iconst 1, 1) := by decide +kernel
theorem D_M_isWellIf_21 : decode m_M_isWellIf.2.1 21 = .ok (.isub, 1) := by decide +kernel
theorem D_M_isWellIf_22 : decode m_M_isWellIf.2.1 22 = .ok (.invokestatic 52, 3) := by decide +kernel
theorem D_M_isWellIf_25 : decode m_M_isWellIf.2.1 25 = .ok (.ifCond .ne 6, 3) := by decide +kernel
theorem D_M_isWellIf_28 : decode m_M_isWellIf.2.1 28 = .ok (.bipush (-2), 2) := by decide +kernel
theorem D_M_isWellIf_30 : decode m_M_isWellIf.2.1 30 = .ok (.ireturn, 1) := by decide +kernel
theorem D_M_isWellIf_31 : decode m_M_isWellIf.2.1 31 = .ok (.aload_n 0, 1) := by decide +kernel
theorem D_M_isWellIf_32 : decode m_M_isWellIf.2.1 32 = .ok (.bipush 6, 2) := by decide +kernel
theorem D_M_isWellIf_34 : decode m_M_isWellIf.2.1 34 = .ok (.iload_n 1, 1) := by decide +kernel
theorem D_M_isWellIf_35 : decode m_M_isWellIf.2.1 35 = .ok (.imul, 1) := by decide +kernel
theorem D_M_isWellIf_36 : decode m_M_isWellIf.2.1 36 = .ok (.iload_n 2, 1) := by decide +kernel
theorem D_M_isWellIf_37 : decode m_M_isWellIf.2.1 37 = .ok (.iadd, 1) := by decide +kernel
theorem D_M_isWellIf_38 : decode m_M_isWellIf.2.1 38 = .ok (.iload_n 3, 1) := by decide +kernel
theorem D_M_isWellIf_39 : decode m_M_isWellIf.2.1 39 = .ok (.invokevirtual 173, 3) := by decide +kernel
theorem D_M_isWellIf_42 : decode m_M_isWellIf.2.1 42 = .ok (.ifCond .eq 7, 3) := by decide +kernel
theorem D_M_isWellIf_45 : decode m_M_isWellIf.2.1 45 = .ok (.iconst 1, 1) := by decide +kernel
theorem D_M_isWellIf_46 : decode m_M_isWellIf.2.1 46 = .ok (.goto 4, 3) := by decide +kernel
theorem D_M_isWellIf_49 : decode m_M_isWellIf.2.1 49 = .ok (.iconst 0, 1) := by decide +kernel
theorem D_M_isWellIf_50 : decode m_M_isWellIf.2.1 50 = .ok (.ireturn, 1) := by decide +kernel
theorem D_M_spoilers_0 : decode m_M_spoilers.2.1 0 = .ok (.aload_n 0, 1) := by decide +kernel
theorem D_M_spoilers_1 : decode m_M_spoilers.2.1 1 = .ok (.invokevirtual 85, 3) := by decide +kernel
theorem D_M_spoilers_4 : decode m_M_spoilers.2.1 4 = .ok (.aload_n 0, 1) := by decide +kernel
theorem D_M_spoilers_5 : decode m_M_spoilers.2.1 5 = .ok (.getfield 81, 3) := by decide +kernel
theorem D_M_spoilers_8 : decode m_M_spoilers.2.1 8 = .ok (.ifCond .eq 7, 3) := by decide +kernel
theorem D_M_spoilers_11 : decode m_M_spoilers.2.1 11 = .ok (.ldc2_w 176, 3) := by decide +kernel
theorem D_M_spoilers_14 : decode m_M_spoilers.2.1 14 = .ok (.lreturn, 1) := by decide +kernel
theorem D_M_spoilers_15 : decode m_M_spoilers.2.1 15 = .ok (.lconst 0, 1) := by decide +kernel
theorem D_M_spoilers_16 : decode m_M_spoilers.2.1 16 = .ok (.lstore_n 1, 1) := by decide +kernel
theorem D_M_spoilers_17 : decode m_M_spoilers.2.1 17 = .ok (.iconst 0, 1) := by decide +kernel
theorem D_M_spoilers_18 : decode m_M_spoilers.2.1 18 = .ok (.istore_n 3, 1) := by decide +kernel
theorem D_M_spoilers_19 : decode m_M_spoilers.2.1 19 = .ok (.iload_n 3, 1) := by decide +kernel
theorem D_M_spoilers_20 : decode m_M_spoilers.2.1 20 = .ok (.bipush 36, 2) := by decide +kernel
theorem D_M_spoilers_22 : decode m_M_spoilers.2.1 22 = .ok (.if_icmp .ge 49, 3) := by decide +kernel
theorem D_M_spoilers_25 : decode m_M_spoilers.2.1 25 = .ok (.aload_n 0, 1) := by decide +kernel
theorem D_M_spoilers_26 : decode m_M_spoilers.2.1 26 = .ok (.getfield 7, 3) := by decide +kernel
theorem D_M_spoilers_29 : decode m_M_spoilers.2.1 29 = .ok (.iload_n 3, 1) := by decide +kernel
theorem D_M_spoilers_30 : decode m_M_spoilers.2.1 30 = .ok (.iaload, 1) := by decide +kernel
theorem D_M_spoilers_31 : decode m_M_spoilers.2.1 31 = .ok (.ifCond .le 16, 3) := by decide +kernel
theorem D_M_spoilers_34 : decode m_M_spoilers.2.1 34 = .ok (.aload_n 0, 1) := by decide +kernel
theorem D_M_spoilers_35 : decode m_M_spoilers.2.1 35 = .ok (.iload_n 3, 1) := by decide +kernel
theorem D_M_spoilers_36 : decode m_M_spoilers.2.1 36 = .ok (.iconst 0, 1) := by decide +kernel
theorem D_M_spoilers_37 : decode m_M_spoilers.2.1 37 = .ok (.invokevirtual 173, 3) := by decide +kernel
theorem D_M_spoilers_40 : decode m_M_spoilers.2.1 40 = .ok (.ifCond .eq 7, 3) := by decide +kernel
theorem D_M_spoilers_43 : decode m_M_spoilers.2.1 43 = .ok (.iconst 1, 1) := by decide +kernel
theorem D_M_spoilers_44 : decode m_M_spoilers.2.1 44 = .ok (.goto 4, 3) := by decide +kernel
theorem D_M_spoilers_47 : decode m_M_spoilers.2.1 47 = .ok (.iconst 0, 1) := by decide +kernel
theorem D_M_spoilers_48 : decode m_M_spoilers.2.1 48 = .ok (.istore 4, 2) := by decide +kernel
theorem D_M_spoilers_50 : decode m_M_spoilers.2.1 50 = .ok (.lload_n 1, 1) := by decide +kernel
theorem D_M_spoilers_51 : decode m_M_spoilers.2.1 51 = .ok (.iload 4, 2) := by decide +kernel
theorem D_M_spoilers_53 : decode m_M_spoilers.2.1 53 = .ok (.ifCond .eq 9, 3) := by decide +kernel
theorem D_M_spoilers_56 : decode m_M_spoilers.2.1 56 = .ok (.lconst 1, 1) := by decide +kernel
theorem D_M_spoilers_57 : decode m_M_spoilers.2.1 57 = .ok (.iload_n 3, 1) := by decide +kernel
theorem D_M_spoilers_58 : decode m_M_spoilers.2.1 58 = .ok (.lshl, 1) := by decide +kernel
theorem D_M_spoilers_59 : decode m_M_spoilers.2.1 59 = .ok (.goto 4, 3) := by decide +kernel
theorem D_M_spoilers_62 : decode m_M_spoilers.2.1 62 = .ok (.lconst 0, 1) := by decide +kernel
theorem D_M_spoilers_63 : decode m_M_spoilers.2.1 63 = .ok (.lor, 1) := by decide +kernel
theorem D_M_spoilers_64 : decode m_M_spoilers.2.1 64 = .ok (.lstore_n 1, 1) := by decide +kernel
theorem D_M_spoilers_65 : decode m_M_spoilers.2.1 65 = .ok (.iinc 3 1, 3) := by decide +kernel
theorem D_M_spoilers_68 : decode m_M_spoilers.2.1 68 = .ok (.goto (-49), 3) := by decide +kernel
theorem D_M_spoilers_71 : decode m_M_spoilers.2.1 71 = .ok (.lload_n 1, 1) := by decide +kernel
theorem D_M_spoilers_72 : decode m_M_spoilers.2.1 72 = .ok (.lreturn, 1) := by decide +kernel
theorem D_M_bits_0 : decode m_M_bits.2.1 0 = .ok (.iconst 0, 1) := by decide +kernel
theorem D_M_bits_1 : decode m_M_bits.2.1 1 = .ok (.istore_n 1, 1) := by decide +kernel
theorem D_M_bits_2 : decode m_M_bits.2.1 2 = .ok (.iconst 0, 1) := by decide +kernel
theorem D_M_bits_3 : decode m_M_bits.2.1 3 = .ok (.istore_n 2, 1) := by decide +kernel
theorem D_M_bits_4 : decode m_M_bits.2.1 4 = .ok (.iload_n 2, 1) := by decide +kernel
theorem D_M_bits_5 : decode m_M_bits.2.1 5 = .ok (.bipush 6, 2) := by decide +kernel
theorem D_M_bits_7 : decode m_M_bits.2.1 7 = .ok (.if_icmp .ge 17, 3) := by decide +kernel
theorem D_M_bits_10 : decode m_M_bits.2.1 10 = .ok (.iload_n 1, 1) := by decide +kernel
theorem D_M_bits_11 : decode m_M_bits.2.1 11 = .ok (.iload_n 0, 1) := by decide +kernel
theorem D_M_bits_12 : decode m_M_bits.2.1 12 = .ok (.iload_n 2, 1) := by decide +kernel
theorem D_M_bits_13 : decode m_M_bits.2.1 13 = .ok (.ishr, 1) := by decide +kernel
theorem D_M_bits_14 : decode m_M_bits.2.1 14 = .ok (.iconst 1, 1) := by decide +kernel
theorem D_M_bits_15 : decode m_M_bits.2.1 15 = .ok (.iand, 1) := by decide +kernel
theorem D_M_bits_16 : decode m_M_bits.2.1 16 = .ok (.iadd, 1) := by decide +kernel
theorem D_M_bits_17 : decode m_M_bits.2.1 17 = .ok (.istore_n 1, 1) := by decide +kernel
theorem D_M_bits_18 : decode m_M_bits.2.1 18 = .ok (.iinc 2 1, 3) := by decide +kernel
theorem D_M_bits_21 : decode m_M_bits.2.1 21 = .ok (.goto (-17), 3) := by decide +kernel
theorem D_M_bits_24 : decode m_M_bits.2.1 24 = .ok (.iload_n 1, 1) := by decide +kernel
theorem D_M_bits_25 : decode m_M_bits.2.1 25 = .ok (.ireturn, 1) := by decide +kernel
theorem D_M_gain_0 : decode m_M_gain.2.1 0 = .ok (.iload_n 1, 1) := by decide +kernel
theorem D_M_gain_1 : decode m_M_gain.2.1 1 = .ok (.iload_n 2, 1) := by decide +kernel
theorem D_M_gain_2 : decode m_M_gain.2.1 2 = .ok (.if_icmp .ne 7, 3) := by decide +kernel
theorem D_M_gain_5 : decode m_M_gain.2.1 5 = .ok (.iconst 0, 1) := by decide +kernel
theorem D_M_gain_6 : decode m_M_gain.2.1 6 = .ok (.goto 38, 3) := by decide +kernel
theorem D_M_gain_9 : decode m_M_gain.2.1 9 = .ok (.aload_n 0, 1) := by decide +kernel
theorem D_M_gain_10 : decode m_M_gain.2.1 10 = .ok (.iload_n 1, 1) := by decide +kernel
theorem D_M_gain_11 : decode m_M_gain.2.1 11 = .ok (.invokevirtual 101, 3) := by decide +kernel
theorem D_M_gain_14 : decode m_M_gain.2.1 14 = .ok (.invokestatic 178, 3) := by decide +kernel
theorem D_M_gain_17 : decode m_M_gain.2.1 17 = .ok (.aload_n 0, 1) := by decide +kernel
theorem D_M_gain_18 : decode m_M_gain.2.1 18 = .ok (.iload_n 2, 1) := by decide +kernel
theorem D_M_gain_19 : decode m_M_gain.2.1 19 = .ok (.invokevirtual 104, 3) := by decide +kernel
theorem D_M_gain_22 : decode m_M_gain.2.1 22 = .ok (.invokestatic 178, 3) := by decide +kernel
theorem D_M_gain_25 : decode m_M_gain.2.1 25 = .ok (.imul, 1) := by decide +kernel
theorem D_M_gain_26 : decode m_M_gain.2.1 26 = .ok (.aload_n 0, 1) := by decide +kernel
theorem D_M_gain_27 : decode m_M_gain.2.1 27 = .ok (.iload_n 2, 1) := by decide +kernel
theorem D_M_gain_28 : decode m_M_gain.2.1 28 = .ok (.invokevirtual 101, 3) := by decide +kernel
theorem D_M_gain_31 : decode m_M_gain.2.1 31 = .ok (.invokestatic 178, 3) := by decide +kernel
theorem D_M_gain_34 : decode m_M_gain.2.1 34 = .ok (.aload_n 0, 1) := by decide +kernel
theorem D_M_gain_35 : decode m_M_gain.2.1 35 = .ok (.iload_n 1, 1) := by decide +kernel
theorem D_M_gain_36 : decode m_M_gain.2.1 36 = .ok (.invokevirtual 104, 3) := by decide +kernel
theorem D_M_gain_39 : decode m_M_gain.2.1 39 = .ok (.invokestatic 178, 3) := by decide +kernel
theorem D_M_gain_42 : decode m_M_gain.2.1 42 = .ok (.imul, 1) := by decide +kernel
theorem D_M_gain_43 : decode m_M_gain.2.1 43 = .ok (.iadd, 1) := by decide +kernel
theorem D_M_gain_44 : decode m_M_gain.2.1 44 = .ok (.ireturn, 1) := by decide +kernel
theorem D_M_bestEntry_0 : decode m_M_bestEntry.2.1 0 = .ok (.iload_n 1, 1) := by decide +kernel
theorem D_M_bestEntry_1 : decode m_M_bestEntry.2.1 1 = .ok (.iconst 0, 1) := by decide +kernel
theorem D_M_bestEntry_2 : decode m_M_bestEntry.2.1 2 = .ok (.iconst 2, 1) := by decide +kernel
theorem D_M_bestEntry_3 : decode m_M_bestEntry.2.1 3 = .ok (.invokestatic 52, 3) := by decide +kernel
theorem D_M_bestEntry_6 : decode m_M_bestEntry.2.1 6 = .ok (.ifCond .ne 6, 3) := by decide +kernel
theorem D_M_bestEntry_9 : decode m_M_bestEntry.2.1 9 = .ok (.bipush (-2), 2) := by decide +kernel
theorem D_M_bestEntry_11 : decode m_M_bestEntry.2.1 11 = .ok (.ireturn, 1) := by decide +kernel
theorem D_M_bestEntry_12 : decode m_M_bestEntry.2.1 12 = .ok (.aload_n 0, 1) := by decide +kernel
theorem D_M_bestEntry_13 : decode m_M_bestEntry.2.1 13 = .ok (.invokevirtual 85, 3) := by decide +kernel
theorem D_M_bestEntry_16 : decode m_M_bestEntry.2.1 16 = .ok (.aload_n 0, 1) := by decide +kernel
theorem D_M_bestEntry_17 : decode m_M_bestEntry.2.1 17 = .ok (.getfield 74, 3) := by decide +kernel
theorem D_M_bestEntry_20 : decode m_M_bestEntry.2.1 20 = .ok (.iconst 1, 1) := by decide +kernel
theorem D_M_bestEntry_21 : decode m_M_bestEntry.2.1 21 = .ok (.if_icmp .ne 6, 3) := by decide +kernel
theorem D_M_bestEntry_24 : decode m_M_bestEntry.2.1 24 = .ok (.bipush (-6), 2) := by decide +kernel
theorem D_M_bestEntry_26 : decode m_M_bestEntry.2.1 26 = .ok (.ireturn, 1) := by decide +kernel
theorem D_M_bestEntry_27 : decode m_M_bestEntry.2.1 27 = .ok (.iconst 0, 1) := by decide +kernel
theorem D_M_bestEntry_28 : decode m_M_bestEntry.2.1 28 = .ok (.istore_n 2, 1) := by decide +kernel
theorem D_M_bestEntry_29 : decode m_M_bestEntry.2.1 29 = .ok (.bipush (-6), 2) := by decide +kernel
theorem D_M_bestEntry_31 : decode m_M_bestEntry.2.1 31 = .ok (.istore_n 3, 1) := by decide +kernel
theorem D_M_bestEntry_32 : decode m_M_bestEntry.2.1 32 = .ok (.iconst 0, 1) := by decide +kernel
theorem D_M_bestEntry_33 : decode m_M_bestEntry.2.1 33 = .ok (.istore 4, 2) := by decide +kernel
theorem D_M_bestEntry_35 : decode m_M_bestEntry.2.1 35 = .ok (.iload 4, 2) := by decide +kernel
theorem D_M_bestEntry_37 : decode m_M_bestEntry.2.1 37 = .ok (.aload_n 0, 1) := by decide +kernel
theorem D_M_bestEntry_38 : decode m_M_bestEntry.2.1 38 = .ok (.getfield 7, 3) := by decide +kernel
theorem D_M_bestEntry_41 : decode m_M_bestEntry.2.1 41 = .ok (.bipush 36, 2) := by decide +kernel
theorem D_M_bestEntry_43 : decode m_M_bestEntry.2.1 43 = .ok (.iaload, 1) := by decide +kernel
theorem D_M_bestEntry_44 : decode m_M_bestEntry.2.1 44 = .ok (.if_icmp .ge 83, 3) := by decide +kernel
theorem D_M_bestEntry_47 : decode m_M_bestEntry.2.1 47 = .ok (.iconst 0, 1) := by decide +kernel
theorem D_M_bestEntry_48 : decode m_M_bestEntry.2.1 48 = .ok (.istore 5, 2) := by decide +kernel
theorem D_M_bestEntry_50 : decode m_M_bestEntry.2.1 50 = .ok (.iload 5, 2) := by decide +kernel
theorem D_M_bestEntry_52 : decode m_M_bestEntry.2.1 52 = .ok (.aload_n 0, 1) := by decide +kernel
theorem D_M_bestEntry_53 : decode m_M_bestEntry.2.1 53 = .ok (.getfield 7, 3) := by decide +kernel
theorem D_M_bestEntry_56 : decode m_M_bestEntry.2.1 56 = .ok (.bipush 37, 2) := by decide +kernel
theorem D_M_bestEntry_58 : decode m_M_bestEntry.2.1 58 = .ok (.iaload, 1) := by decide +kernel
theorem D_M_bestEntry_59 : decode m_M_bestEntry.2.1 59 = .ok (.if_icmp .ge 62, 3) := by decide +kernel
theorem D_M_bestEntry_62 : decode m_M_bestEntry.2.1 62 = .ok (.aload_n 0, 1) := by decide +kernel
theorem D_M_bestEntry_63 : decode m_M_bestEntry.2.1 63 = .ok (.iload 4, 2) := by decide +kernel
theorem D_M_bestEntry_65 : decode m_M_bestEntry.2.1 65 = .ok (.iload 5, 2) := by decide +kernel
theorem D_M_bestEntry_67 : decode m_M_bestEntry.2.1 67 = .ok (.invokevirtual 67, 3) := by decide +kernel
theorem D_M_bestEntry_70 : decode m_M_bestEntry.2.1 70 = .ok (.ifCond .le 7, 3) := by decide +kernel
theorem D_M_bestEntry_73 : decode m_M_bestEntry.2.1 73 = .ok (.iconst 0, 1) := by decide +kernel
theorem D_M_bestEntry_74 : decode m_M_bestEntry.2.1 74 = .ok (.goto 21, 3) := by decide +kernel
theorem D_M_bestEntry_77 : decode m_M_bestEntry.2.1 77 = .ok (.aload_n 0, 1) := by decide +kernel
theorem D_M_bestEntry_78 : decode m_M_bestEntry.2.1 78 = .ok (.aload_n 0, 1) := by decide +kernel
theorem D_M_bestEntry_79 : decode m_M_bestEntry.2.1 79 = .ok (.getfield 27, 3) := by decide +kernel
theorem D_M_bestEntry_82 : decode m_M_bestEntry.2.1 82 = .ok (.iload 4, 2) := by decide +kernel
theorem D_M_bestEntry_84 : decode m_M_bestEntry.2.1 84 = .ok (.iaload, 1) := by decide +kernel
theorem D_M_bestEntry_85 : decode m_M_bestEntry.2.1 85 = .ok (.aload_n 0, 1) := by decide +kernel
theorem D_M_bestEntry_86 : decode m_M_bestEntry.2.1 86 = .ok (.getfield 30, 3) := by decide +kernel
theorem D_M_bestEntry_89 : decode m_M_bestEntry.2.1 89 = .ok (.iload 5, 2) := by decide +kernel
theorem D_M_bestEntry_91 : decode m_M_bestEntry.2.1 91 = .ok (.iaload, 1) := by decide +kernel
theorem D_M_bestEntry_92 : decode m_M_bestEntry.2.1 92 = .ok (.invokevirtual 181, 3) := by decide +kernel
theorem D_M_bestEntry_95 : decode m_M_bestEntry.2.1 95 = .ok (.istore 6, 2) := by decide +kernel
theorem D_M_bestEntry_97 : decode m_M_bestEntry.2.1 97 = .ok (.iload 6, 2) := by decide +kernel
theorem D_M_bestEntry_99 : decode m_M_bestEntry.2.1 99 = .ok (.iload_n 2, 1) := by decide +kernel
theorem D_M_bestEntry_100 : decode m_M_bestEntry.2.1 100 = .ok (.if_icmp .le 15, 3) := by decide +kernel
theorem D_M_bestEntry_103 : decode m_M_bestEntry.2.1 103 = .ok (.iload 6, 2) := by decide +kernel
theorem D_M_bestEntry_105 : decode m_M_bestEntry.2.1 105 = .ok (.istore_n 2, 1) := by decide +kernel
theorem D_M_bestEntry_106 : decode m_M_bestEntry.2.1 106 = .ok (.bipush 6, 2) := by decide +kernel
theorem D_M_bestEntry_108 : decode m_M_bestEntry.2.1 108 = .ok (.iload 4, 2) := by decide +kernel
theorem D_M_bestEntry_110 : decode m_M_bestEntry.2.1 110 = .ok (.imul, 1) := by decide +kernel
theorem D_M_bestEntry_111 : decode m_M_bestEntry.2.1 111 = .ok (.iload 5, 2) := by decide +kernel
theorem D_M_bestEntry_113 : decode m_M_bestEntry.2.1 113 = .ok (.iadd, 1) := by decide +kernel
theorem D_M_bestEntry_114 : decode m_M_bestEntry.2.1 114 = .ok (.istore_n 3, 1) := by decide +kernel
theorem D_M_bestEntry_115 : decode m_M_bestEntry.2.1 115 = .ok (.iinc 5 1, 3) := by decide +kernel
theorem D_M_bestEntry_118 : decode m_M_bestEntry.2.1 118 = .ok (.goto (-68), 3) := by decide +kernel
theorem D_M_bestEntry_121 : decode m_M_bestEntry.2.1 121 = .ok (.iinc 4 1, 3) := by decide +kernel
theorem D_M_bestEntry_124 : decode m_M_bestEntry.2.1 124 = .ok (.goto (-89), 3) := by decide +kernel
theorem D_M_bestEntry_127 : decode m_M_bestEntry.2.1 127 = .ok (.iload_n 1, 1) := by decide +kernel
theorem D_M_bestEntry_128 : decode m_M_bestEntry.2.1 128 = .ok (.ifCond .ne 10, 3) := by decide +kernel
theorem D_M_bestEntry_131 : decode m_M_bestEntry.2.1 131 = .ok (.iload_n 3, 1) := by decide +kernel
theorem D_M_bestEntry_132 : decode m_M_bestEntry.2.1 132 = .ok (.bipush 6, 2) := by decide +kernel
theorem D_M_bestEntry_134 : decode m_M_bestEntry.2.1 134 = .ok (.idiv, 1) := by decide +kernel
theorem D_M_bestEntry_135 : decode m_M_bestEntry.2.1 135 = .ok (.goto 16, 3) := by decide +kernel
theorem D_M_bestEntry_138 : decode m_M_bestEntry.2.1 138 = .ok (.iload_n 1, 1) := by decide +kernel
theorem D_M_bestEntry_139 : decode m_M_bestEntry.2.1 139 = .ok (.iconst 1, 1) := by decide +kernel
theorem D_M_bestEntry_140 : decode m_M_bestEntry.2.1 140 = .ok (.if_icmp .ne 10, 3) := by decide +kernel
theorem D_M_bestEntry_143 : decode m_M_bestEntry.2.1 143 = .ok (.iload_n 3, 1) := by decide +kernel
theorem D_M_bestEntry_144 : decode m_M_bestEntry.2.1 144 = .ok (.bipush 6, 2) := by decide +kernel
theorem D_M_bestEntry_146 : decode m_M_bestEntry.2.1 146 = .ok (.irem, 1) := by decide +kernel
theorem D_M_bestEntry_147 : decode m_M_bestEntry.2.1 147 = .ok (.goto 4, 3) := by decide +kernel
theorem D_M_bestEntry_150 : decode m_M_bestEntry.2.1 150 = .ok (.iload_n 2, 1) := by decide +kernel
theorem D_M_bestEntry_151 : decode m_M_bestEntry.2.1 151 = .ok (.ireturn, 1) := by decide +kernel
theorem D_M_put_0 : decode m_M_put.2.1 0 = .ok (.iconst 0, 1) := by decide +kernel
theorem D_M_put_1 : decode m_M_put.2.1 1 = .ok (.istore_n 3, 1) := by decide +kernel
theorem D_M_put_2 : decode m_M_put.2.1 2 = .ok (.lload_n 1, 1) := by decide +kernel
theorem D_M_put_3 : decode m_M_put.2.1 3 = .ok (.lstore 4, 2) := by decide +kernel
theorem D_M_put_5 : decode m_M_put.2.1 5 = .ok (.iconst 1, 1) := by decide +kernel
theorem D_M_put_6 : decode m_M_put.2.1 6 = .ok (.istore 6, 2) := by decide +kernel
theorem D_M_put_8 : decode m_M_put.2.1 8 = .ok (.lload 4, 2) := by decide +kernel
theorem D_M_put_10 : decode m_M_put.2.1 10 = .ok (.lconst 0, 1) := by decide +kernel
theorem D_M_put_11 : decode m_M_put.2.1 11 = .ok (.lcmp, 1) := by decide +kernel
theorem D_M_put_12 : decode m_M_put.2.1 12 = .ok (.ifCond .eq 37, 3) := by decide +kernel
theorem D_M_put_15 : decode m_M_put.2.1 15 = .ok (.iload 6, 2) := by decide +kernel
theorem D_M_put_17 : decode m_M_put.2.1 17 = .ok (.ifCond .eq 32, 3) := by decide +kernel
theorem D_M_put_20 : decode m_M_put.2.1 20 = .ok (.lload 4, 2) := by decide +kernel
theorem D_M_put_22 : decode m_M_put.2.1 22 = .ok (.ldc2_w 184, 3) := by decide +kernel
theorem D_M_put_25 : decode m_M_put.2.1 25 = .ok (.land, 1) := by decide +kernel
theorem D_M_put_26 : decode m_M_put.2.1 26 = .ok (.l2i, 1) := by decide +kernel
theorem D_M_put_27 : decode m_M_put.2.1 27 = .ok (.bipush 33, 2) := by decide +kernel
theorem D_M_put_29 : decode m_M_put.2.1 29 = .ok (.bipush 126, 2) := by decide +kernel
theorem D_M_put_31 : decode m_M_put.2.1 31 = .ok (.invokestatic 52, 3) := by decide +kernel
theorem D_M_put_34 : decode m_M_put.2.1 34 = .ok (.istore 6, 2) := by decide +kernel
theorem D_M_put_36 : decode m_M_put.2.1 36 = .ok (.lload 4, 2) := by decide +kernel
theorem D_M_put_38 : decode m_M_put.2.1 38 = .ok (.bipush 8, 2) := by decide +kernel
theorem D_M_put_40 : decode m_M_put.2.1 40 = .ok (.lushr, 1) := by decide +kernel
theorem D_M_put_41 : decode m_M_put.2.1 41 = .ok (.lstore 4, 2) := by decide +kernel
theorem D_M_put_43 : decode m_M_put.2.1 43 = .ok (.iinc 3 1, 3) := by decide +kernel
theorem D_M_put_46 : decode m_M_put.2.1 46 = .ok (.goto (-38), 3) := by decide +kernel
theorem D_M_put_49 : decode m_M_put.2.1 49 = .ok (.iload_n 3, 1) := by decide +kernel
theorem D_M_put_50 : decode m_M_put.2.1 50 = .ok (.ifCond .eq 8, 3) := by decide +kernel
theorem D_M_put_53 : decode m_M_put.2.1 53 = .ok (.iload 6, 2) := by decide +kernel
theorem D_M_put_55 : decode m_M_put.2.1 55 = .ok (.ifCond .ne 6, 3) := by decide +kernel
theorem D_M_put_58 : decode m_M_put.2.1 58 = .ok (.bipush (-2), 2) := by decide +kernel
theorem D_M_put_60 : decode m_M_put.2.1 60 = .ok (.ireturn, 1) := by decide +kernel
theorem D_M_put_61 : decode m_M_put.2.1 61 = .ok (.aload_n 0, 1) := by decide +kernel
theorem D_M_put_62 : decode m_M_put.2.1 62 = .ok (.getfield 137, 3) := by decide +kernel
theorem D_M_put_65 : decode m_M_put.2.1 65 = .ok (.iload_n 3, 1) := by decide +kernel
theorem D_M_put_66 : decode m_M_put.2.1 66 = .ok (.iadd, 1) := by decide +kernel
theorem D_M_put_67 : decode m_M_put.2.1 67 = .ok (.bipush 50, 2) := by decide +kernel
theorem D_M_put_69 : decode m_M_put.2.1 69 = .ok (.if_icmp .le 6, 3) := by decide +kernel
theorem D_M_put_72 : decode m_M_put.2.1 72 = .ok (.bipush (-4), 2) := by decide +kernel
theorem D_M_put_74 : decode m_M_put.2.1 74 = .ok (.ireturn, 1) := by decide +kernel
theorem D_M_put_75 : decode m_M_put.2.1 75 = .ok (.iload_n 3, 1) := by decide +kernel
theorem D_M_put_76 : decode m_M_put.2.1 76 = .ok (.iconst 1, 1) := by decide +kernel
theorem D_M_put_77 : decode m_M_put.2.1 77 = .ok (.isub, 1) := by decide +kernel
theorem D_M_put_78 : decode m_M_put.2.1 78 = .ok (.istore 7, 2) := by decide +kernel
theorem D_M_put_80 : decode m_M_put.2.1 80 = .ok (.iload 7, 2) := by decide +kernel
theorem D_M_put_82 : decode m_M_put.2.1 82 = .ok (.ifCond .lt 41, 3) := by decide +kernel
theorem D_M_put_85 : decode m_M_put.2.1 85 = .ok (.aload_n 0, 1) := by decide +kernel
theorem D_M_put_86 : decode m_M_put.2.1 86 = .ok (.getfield 23, 3) := by decide +kernel
theorem D_M_put_89 : decode m_M_put.2.1 89 = .ok (.aload_n 0, 1) := by decide +kernel
theorem D_M_put_90 : decode m_M_put.2.1 90 = .ok (.getfield 137, 3) := by decide +kernel
theorem D_M_put_93 : decode m_M_put.2.1 93 = .ok (.lload_n 1, 1) := by decide +kernel
theorem D_M_put_94 : decode m_M_put.2.1 94 = .ok (.bipush 8, 2) := by decide +kernel
theorem D_M_put_96 : decode m_M_put.2.1 96 = .ok (.iload 7, 2) := by decide +kernel
theorem D_M_put_98 : decode m_M_put.2.1 98 = .ok (.imul, 1) := by decide +kernel
theorem D_M_put_99 : decode m_M_put.2.1 99 = .ok (.lushr, 1) := by decide +kernel
theorem D_M_put_100 : decode m_M_put.2.1 100 = .ok (.ldc2_w 184, 3) := by decide +kernel
theorem D_M_put_103 : decode m_M_put.2.1 103 = .ok (.land, 1) := by decide +kernel
theorem D_M_put_104 : decode m_M_put.2.1 104 = .ok (.l2i, 1) := by decide +kernel
theorem D_M_put_105 : decode m_M_put.2.1 105 = .ok (.i2c, 1) := by decide +kernel
theorem D_M_put_106 : decode m_M_put.2.1 106 = .ok (.castore, 1) := by decide +kernel
theorem D_M_put_107 : decode m_M_put.2.1 107 = .ok (.aload_n 0, 1) := by decide +kernel
theorem D_M_put_108 : decode m_M_put.2.1 108 = .ok (.dup, 1) := by decide +kernel
theorem D_M_put_109 : decode m_M_put.2.1 109 = .ok (.getfield 137, 3) := by decide +kernel
theorem D_M_put_112 : decode m_M_put.2.1 112 = .ok (.iconst 1, 1) := by decide +kernel
theorem D_M_put_113 : decode m_M_put.2.1 113 = .ok (.iadd, 1) := by decide +kernel
theorem D_M_put_114 : decode m_M_put.2.1 114 = .ok (.putfield 137, 3) := by decide +kernel
theorem D_M_put_117 : decode m_M_put.2.1 117 = .ok (.iinc 7 (-1), 3) := by decide +kernel
theorem D_M_put_120 : decode m_M_put.2.1 120 = .ok (.goto (-40), 3) := by decide +kernel
theorem D_M_put_123 : decode m_M_put.2.1 123 = .ok (.aload_n 0, 1) := by decide +kernel
theorem D_M_put_124 : decode m_M_put.2.1 124 = .ok (.getfield 137, 3) := by decide +kernel
theorem D_M_put_127 : decode m_M_put.2.1 127 = .ok (.ireturn, 1) := by decide +kernel
theorem D_M_wipe_0 : decode m_M_wipe.2.1 0 = .ok (.aload_n 0, 1) := by decide +kernel
theorem D_M_wipe_1 : decode m_M_wipe.2.1 1 = .ok (.getfield 137, 3) := by decide +kernel
theorem D_M_wipe_4 : decode m_M_wipe.2.1 4 = .ok (.istore_n 1, 1) := by decide +kernel
theorem D_M_wipe_5 : decode m_M_wipe.2.1 5 = .ok (.aload_n 0, 1) := by decide +kernel
theorem D_M_wipe_6 : decode m_M_wipe.2.1 6 = .ok (.iconst 0, 1) := by decide +kernel
theorem D_M_wipe_7 : decode m_M_wipe.2.1 7 = .ok (.putfield 137, 3) := by decide +kernel
theorem D_M_wipe_10 : decode m_M_wipe.2.1 10 = .ok (.iload_n 1, 1) := by decide +kernel
theorem D_M_wipe_11 : decode m_M_wipe.2.1 11 = .ok (.ireturn, 1) := by decide +kernel
theorem D_M_numberOf_0 : decode m_M_numberOf.2.1 0 = .ok (.iload_n 0, 1) := by decide +kernel
theorem D_M_numberOf_1 : decode m_M_numberOf.2.1 1 = .ok (.bipush 97, 2) := by decide +kernel
theorem D_M_numberOf_3 : decode m_M_numberOf.2.1 3 = .ok (.bipush 99, 2) := by decide +kernel
theorem D_M_numberOf_5 : decode m_M_numberOf.2.1 5 = .ok (.invokestatic 52, 3) := by decide +kernel
theorem D_M_numberOf_8 : decode m_M_numberOf.2.1 8 = .ok (.ifCond .eq 11, 3) := by decide +kernel
theorem D_M_numberOf_11 : decode m_M_numberOf.2.1 11 = .ok (.iload_n 0, 1) := by decide +kernel
theorem D_M_numberOf_12 : decode m_M_numberOf.2.1 12 = .ok (.bipush 97, 2) := by decide +kernel
theorem D_M_numberOf_14 : decode m_M_numberOf.2.1 14 = .ok (.isub, 1) := by decide +kernel
theorem D_M_numberOf_15 : decode m_M_numberOf.2.1 15 = .ok (.bipush 10, 2) := by decide +kernel
theorem D_M_numberOf_17 : decode m_M_numberOf.2.1 17 = .ok (.iadd, 1) := by decide +kernel
theorem D_M_numberOf_18 : decode m_M_numberOf.2.1 18 = .ok (.ireturn, 1) := by decide +kernel
theorem D_M_numberOf_19 : decode m_M_numberOf.2.1 19 = .ok (.iload_n 0, 1) := by decide +kernel
theorem D_M_numberOf_20 : decode m_M_numberOf.2.1 20 = .ok (.bipush 46, 2) := by decide +kernel
theorem D_M_numberOf_22 : decode m_M_numberOf.2.1 22 = .ok (.if_icmp .ne 7, 3) := by decide +kernel
theorem D_M_numberOf_25 : decode m_M_numberOf.2.1 25 = .ok (.iconst 0, 1) := by decide +kernel
theorem D_M_numberOf_26 : decode m_M_numberOf.2.1 26 = .ok (.goto 23, 3) := by decide +kernel
theorem D_M_numberOf_29 : decode m_M_numberOf.2.1 29 = .ok (.iload_n 0, 1) := by decide +kernel
theorem D_M_numberOf_30 : decode m_M_numberOf.2.1 30 = .ok (.bipush 49, 2) := by decide +kernel
theorem D_M_numberOf_32 : decode m_M_numberOf.2.1 32 = .ok (.bipush 57, 2) := by decide +kernel
theorem D_M_numberOf_34 : decode m_M_numberOf.2.1 34 = .ok (.invokestatic 52, 3) := by decide +kernel
theorem D_M_numberOf_37 : decode m_M_numberOf.2.1 37 = .ok (.ifCond .eq 10, 3) := by decide +kernel
theorem D_M_numberOf_40 : decode m_M_numberOf.2.1 40 = .ok (.iload_n 0, 1) := by decide +kernel
theorem D_M_numberOf_41 : decode m_M_numberOf.2.1 41 = .ok (.bipush 48, 2) := by decide +kernel
theorem D_M_numberOf_43 : decode m_M_numberOf.2.1 43 = .ok (.isub, 1) := by decide +kernel
theorem D_M_numberOf_44 : decode m_M_numberOf.2.1 44 = .ok (.goto 5, 3) := by decide +kernel
theorem D_M_numberOf_47 : decode m_M_numberOf.2.1 47 = .ok (.bipush (-6), 2) := by decide +kernel
theorem D_M_numberOf_49 : decode m_M_numberOf.2.1 49 = .ok (.ireturn, 1) := by decide +kernel
theorem D_M_readPad_0 : decode m_M_readPad.2.1 0 = .ok (.iconst 0, 1) := by decide +kernel
theorem D_M_readPad_1 : decode m_M_readPad.2.1 1 = .ok (.istore_n 1, 1) := by decide +kernel
theorem D_M_readPad_2 : decode m_M_readPad.2.1 2 = .ok (.iconst 0, 1) := by decide +kernel
theorem D_M_readPad_3 : decode m_M_readPad.2.1 3 = .ok (.istore_n 2, 1) := by decide +kernel
theorem D_M_readPad_4 : decode m_M_readPad.2.1 4 = .ok (.aload_n 0, 1) := by decide +kernel
theorem D_M_readPad_5 : decode m_M_readPad.2.1 5 = .ok (.bipush 6, 2) := by decide +kernel
theorem D_M_readPad_7 : decode m_M_readPad.2.1 7 = .ok (.putfield 186, 3) := by decide +kernel
theorem D_M_readPad_10 : decode m_M_readPad.2.1 10 = .ok (.iconst 0, 1) := by decide +kernel
theorem D_M_readPad_11 : decode m_M_readPad.2.1 11 = .ok (.istore_n 3, 1) := by decide +kernel
theorem D_M_readPad_12 : decode m_M_readPad.2.1 12 = .ok (.iload_n 3, 1) := by decide +kernel
theorem D_M_readPad_13 : decode m_M_readPad.2.1 13 = .ok (.aload_n 0, 1) := by decide +kernel
theorem D_M_readPad_14 : decode m_M_readPad.2.1 14 = .ok (.getfield 137, 3) := by decide +kernel
theorem D_M_readPad_17 : decode m_M_readPad.2.1 17 = .ok (.if_icmp .ge 113, 3) := by decide +kernel
theorem D_M_readPad_20 : decode m_M_readPad.2.1 20 = .ok (.aload_n 0, 1) := by decide +kernel
theorem D_M_readPad_21 : decode m_M_readPad.2.1 21 = .ok (.getfield 23, 3) := by decide +kernel
theorem D_M_readPad_24 : decode m_M_readPad.2.1 24 = .ok (.iload_n 3, 1) := by decide +kernel
theorem D_M_readPad_25 : decode m_M_readPad.2.1 25 = .ok (.caload, 1) := by decide +kernel
theorem D_M_readPad_26 : decode m_M_readPad.2.1 26 = .ok (.bipush 47, 2) := by decide +kernel
theorem D_M_readPad_28 : decode m_M_readPad.2.1 28 = .ok (.if_icmp .ne 52, 3) := by decide +kernel
theorem D_M_readPad_31 : decode m_M_readPad.2.1 31 = .ok (.iload_n 2, 1) := by decide +kernel
theorem D_M_readPad_32 : decode m_M_readPad.2.1 32 = .ok (.iconst 2, 1) := by decide +kernel
theorem D_M_readPad_33 : decode m_M_readPad.2.1 33 = .ok (.if_icmp .lt 24, 3) := by decide +kernel
theorem D_M_readPad_36 : decode m_M_readPad.2.1 36 = .ok (.iload_n 1, 1) := by decide +kernel
theorem D_M_readPad_37 : decode m_M_readPad.2.1 37 = .ok (.ifCond .eq 11, 3) := by decide +kernel
theorem D_M_readPad_40 : decode m_M_readPad.2.1 40 = .ok (.iload_n 2, 1) := by decide +kernel
theorem D_M_readPad_41 : decode m_M_readPad.2.1 41 = .ok (.aload_n 0, 1) := by decide +kernel
theorem D_M_readPad_42 : decode m_M_readPad.2.1 42 = .ok (.getfield 186, 3) := by decide +kernel
theorem D_M_readPad_45 : decode m_M_readPad.2.1 45 = .ok (.if_icmp .ne 12, 3) := by decide +kernel
theorem D_M_readPad_48 : decode m_M_readPad.2.1 48 = .ok (.iload_n 1, 1) := by decide +kernel
theorem D_M_readPad_49 : decode m_M_readPad.2.1 49 = .ok (.iconst 5, 1) := by decide +kernel
theorem D_M_readPad_50 : decode m_M_readPad.2.1 50 = .ok (.if_icmp .ge 7, 3) := by decide +kernel
theorem D_M_readPad_53 : decode m_M_readPad.2.1 53 = .ok (.iconst 1, 1) := by decide +kernel
theorem D_M_readPad_54 : decode m_M_readPad.2.1 54 = .ok (.goto 4, 3) := by decide +kernel
theorem D_M_readPad_57 : decode m_M_readPad.2.1 57 = .ok (.iconst 0, 1) := by decide +kernel
theorem D_M_readPad_58 : decode m_M_readPad.2.1 58 = .ok (.istore 4, 2) := by decide +kernel
theorem D_M_readPad_60 : decode m_M_readPad.2.1 60 = .ok (.iload 4, 2) := by decide +kernel
theorem D_M_readPad_62 : decode m_M_readPad.2.1 62 = .ok (.ifCond .ne 5, 3) := by decide +kernel
theorem D_M_readPad_65 : decode m_M_readPad.2.1 65 = .ok (.iload_n 3, 1) := by decide +kernel
theorem D_M_readPad_66 : decode m_M_readPad.2.1 66 = .ok (.ireturn, 1) := by decide +kernel
theorem D_M_readPad_67 : decode m_M_readPad.2.1 67 = .ok (.aload_n 0, 1) := by decide +kernel
theorem D_M_readPad_68 : decode m_M_readPad.2.1 68 = .ok (.iload_n 2, 1) := by decide +kernel
theorem D_M_readPad_69 : decode m_M_readPad.2.1 69 = .ok (.putfield 186, 3) := by decide +kernel
theorem D_M_readPad_72 : decode m_M_readPad.2.1 72 = .ok (.iinc 1 1, 3) := by decide +kernel
theorem D_M_readPad_75 : decode m_M_readPad.2.1 75 = .ok (.iconst 0, 1) := by decide +kernel
theorem D_M_readPad_76 : decode m_M_readPad.2.1 76 = .ok (.istore_n 2, 1) := by decide +kernel
theorem D_M_readPad_77 : decode m_M_readPad.2.1 77 = .ok (.goto 47, 3) := by decide +kernel
theorem D_M_readPad_80 : decode m_M_readPad.2.1 80 = .ok (.aload_n 0, 1) := by decide +kernel
theorem D_M_readPad_81 : decode m_M_readPad.2.1 81 = .ok (.getfield 23, 3) := by decide +kernel
theorem D_M_readPad_84 : decode m_M_readPad.2.1 84 = .ok (.iload_n 3, 1) := by decide +kernel
theorem D_M_readPad_85 : decode m_M_readPad.2.1 85 = .ok (.caload, 1) := by decide +kernel
theorem D_M_readPad_86 : decode m_M_readPad.2.1 86 = .ok (.invokestatic 189, 3) := by decide +kernel
theorem D_M_readPad_89 : decode m_M_readPad.2.1 89 = .ok (.istore 4, 2) := by decide +kernel
theorem D_M_readPad_91 : decode m_M_readPad.2.1 91 = .ok (.iload 4, 2) := by decide +kernel
theorem D_M_readPad_93 : decode m_M_readPad.2.1 93 = .ok (.bipush (-6), 2) := by decide +kernel
theorem D_M_readPad_95 : decode m_M_readPad.2.1 95 = .ok (.if_icmp .eq 11, 3) := by decide +kernel
theorem D_M_readPad_98 : decode m_M_readPad.2.1 98 = .ok (.iload_n 2, 1) := by decide +kernel
theorem D_M_readPad_99 : decode m_M_readPad.2.1 99 = .ok (.aload_n 0, 1) := by decide +kernel
theorem D_M_readPad_100 : decode m_M_readPad.2.1 100 = .ok (.getfield 186, 3) := by decide +kernel
theorem D_M_readPad_103 : decode m_M_readPad.2.1 103 = .ok (.if_icmp .ne 5, 3) := by decide +kernel
theorem D_M_readPad_106 : decode m_M_readPad.2.1 106 = .ok (.iload_n 3, 1) := by decide +kernel
theorem D_M_readPad_107 : decode m_M_readPad.2.1 107 = .ok (.ireturn, 1) := by decide +kernel
theorem D_M_readPad_108 : decode m_M_readPad.2.1 108 = .ok (.aload_n 0, 1) := by decide +kernel
theorem D_M_readPad_109 : decode m_M_readPad.2.1 109 = .ok (.getfield 45, 3) := by decide +kernel
theorem D_M_readPad_112 : decode m_M_readPad.2.1 112 = .ok (.bipush 6, 2) := by decide +kernel
theorem D_M_readPad_114 : decode m_M_readPad.2.1 114 = .ok (.iload_n 1, 1) := by decide +kernel
theorem D_M_readPad_115 : decode m_M_readPad.2.1 115 = .ok (.imul, 1) := by decide +kernel
theorem D_M_readPad_116 : decode m_M_readPad.2.1 116 = .ok (.iload_n 2, 1) := by decide +kernel
theorem D_M_readPad_117 : decode m_M_readPad.2.1 117 = .ok (.iadd, 1) := by decide +kernel
theorem D_M_readPad_118 : decode m_M_readPad.2.1 118 = .ok (.iload 4, 2) := by decide +kernel
theorem D_M_readPad_120 : decode m_M_readPad.2.1 120 = .ok (.iastore, 1) := by decide +kernel
theorem D_M_readPad_121 : decode m_M_readPad.2.1 121 = .ok (.iinc 2 1, 3) := by decide +kernel
theorem D_M_readPad_124 : decode m_M_readPad.2.1 124 = .ok (.iinc 3 1, 3) := by decide +kernel
theorem D_M_readPad_127 : decode m_M_readPad.2.1 127 = .ok (.goto (-115), 3) := by decide +kernel
theorem D_M_readPad_130 : decode m_M_readPad.2.1 130 = .ok (.aload_n 0, 1) := by decide +kernel
theorem D_M_readPad_131 : decode m_M_readPad.2.1 131 = .ok (.iload_n 1, 1) := by decide +kernel
theorem D_M_readPad_132 : decode m_M_readPad.2.1 132 = .ok (.iconst 1, 1) := by decide +kernel
theorem D_M_readPad_133 : decode m_M_readPad.2.1 133 = .ok (.iadd, 1) := by decide +kernel
theorem D_M_readPad_134 : decode m_M_readPad.2.1 134 = .ok (.putfield 192, 3) := by decide +kernel
theorem D_M_readPad_137 : decode m_M_readPad.2.1 137 = .ok (.iload_n 1, 1) := by decide +kernel
theorem D_M_readPad_138 : decode m_M_readPad.2.1 138 = .ok (.ifCond .eq 11, 3) := by decide +kernel
theorem D_M_readPad_141 : decode m_M_readPad.2.1 141 = .ok (.iload_n 2, 1) := by decide +kernel
theorem D_M_readPad_142 : decode m_M_readPad.2.1 142 = .ok (.aload_n 0, 1) := by decide +kernel
theorem D_M_readPad_143 : decode m_M_readPad.2.1 143 = .ok (.getfield 186, 3) := by decide +kernel
theorem D_M_readPad_146 : decode m_M_readPad.2.1 146 = .ok (.if_icmp .ge 10, 3) := by decide +kernel
theorem D_M_readPad_149 : decode m_M_readPad.2.1 149 = .ok (.aload_n 0, 1) := by decide +kernel
theorem D_M_readPad_150 : decode m_M_readPad.2.1 150 = .ok (.getfield 137, 3) := by decide +kernel
theorem D_M_readPad_153 : decode m_M_readPad.2.1 153 = .ok (.goto 5, 3) := by decide +kernel
theorem D_M_readPad_156 : decode m_M_readPad.2.1 156 = .ok (.bipush (-6), 2) := by decide +kernel
theorem D_M_readPad_158 : decode m_M_readPad.2.1 158 = .ok (.ireturn, 1) := by decide +kernel
theorem D_M_fault_0 : decode m_M_fault.2.1 0 = .ok (.aload_n 0, 1) := by decide +kernel
theorem D_M_fault_1 : decode m_M_fault.2.1 1 = .ok (.invokevirtual 195, 3) := by decide +kernel
theorem D_M_fault_4 : decode m_M_fault.2.1 4 = .ok (.ireturn, 1) := by decide +kernel
theorem D_M_read_0 : decode m_M_read.2.1 0 = .ok (.aload_n 0, 1) := by decide +kernel
theorem D_M_read_1 : decode m_M_read.2.1 1 = .ok (.invokevirtual 195, 3) := by decide +kernel
theorem D_M_read_4 : decode m_M_read.2.1 4 = .ok (.bipush (-6), 2) := by decide +kernel
theorem D_M_read_6 : decode m_M_read.2.1 6 = .ok (.if_icmp .eq 6, 3) := by decide +kernel
theorem D_M_read_9 : decode m_M_read.2.1 9 = .ok (.bipush (-3), 2) := by decide +kernel
theorem D_M_read_11 : decode m_M_read.2.1 11 = .ok (.ireturn, 1) := by decide +kernel
theorem D_M_read_12 : decode m_M_read.2.1 12 = .ok (.iconst 0, 1) := by decide +kernel
theorem D_M_read_13 : decode m_M_read.2.1 13 = .ok (.istore_n 1, 1) := by decide +kernel
theorem D_M_read_14 : decode m_M_read.2.1 14 = .ok (.iload_n 1, 1) := by decide +kernel
theorem D_M_read_15 : decode m_M_read.2.1 15 = .ok (.aload_n 0, 1) := by decide +kernel
theorem D_M_read_16 : decode m_M_read.2.1 16 = .ok (.getfield 192, 3) := by decide +kernel
theorem D_M_read_19 : decode m_M_read.2.1 19 = .ok (.if_icmp .ge 49, 3) := by decide +kernel
theorem D_M_read_22 : decode m_M_read.2.1 22 = .ok (.iconst 0, 1) := by decide +kernel
theorem D_M_read_23 : decode m_M_read.2.1 23 = .ok (.istore_n 2, 1) := by decide +kernel
theorem D_M_read_24 : decode m_M_read.2.1 24 = .ok (.iload_n 2, 1) := by decide +kernel
theorem D_M_read_25 : decode m_M_read.2.1 25 = .ok (.aload_n 0, 1) := by decide +kernel
theorem D_M_read_26 : decode m_M_read.2.1 26 = .ok (.getfield 186, 3) := by decide +kernel
theorem D_M_read_29 : decode m_M_read.2.1 29 = .ok (.if_icmp .ge 33, 3) := by decide +kernel
theorem D_M_read_32 : decode m_M_read.2.1 32 = .ok (.aload_n 0, 1) := by decide +kernel
theorem D_M_read_33 : decode m_M_read.2.1 33 = .ok (.getfield 45, 3) := by decide +kernel
theorem D_M_read_36 : decode m_M_read.2.1 36 = .ok (.bipush 6, 2) := by decide +kernel
theorem D_M_read_38 : decode m_M_read.2.1 38 = .ok (.iload_n 1, 1) := by decide +kernel
theorem D_M_read_39 : decode m_M_read.2.1 39 = .ok (.imul, 1) := by decide +kernel
theorem D_M_read_40 : decode m_M_read.2.1 40 = .ok (.iload_n 2, 1) := by decide +kernel
theorem D_M_read_41 : decode m_M_read.2.1 41 = .ok (.iadd, 1) := by decide +kernel
theorem D_M_read_42 : decode m_M_read.2.1 42 = .ok (.iaload, 1) := by decide +kernel
theorem D_M_read_43 : decode m_M_read.2.1 43 = .ok (.aload_n 0, 1) := by decide +kernel
theorem D_M_read_44 : decode m_M_read.2.1 44 = .ok (.getfield 7, 3) := by decide +kernel
theorem D_M_read_47 : decode m_M_read.2.1 47 = .ok (.bipush 38, 2) := by decide +kernel
theorem D_M_read_49 : decode m_M_read.2.1 49 = .ok (.iaload, 1) := by decide +kernel
theorem D_M_read_50 : decode m_M_read.2.1 50 = .ok (.if_icmp .lt 6, 3) := by decide +kernel
theorem D_M_read_53 : decode m_M_read.2.1 53 = .ok (.bipush (-2), 2) := by decide +kernel
theorem D_M_read_55 : decode m_M_read.2.1 55 = .ok (.ireturn, 1) := by decide +kernel
theorem D_M_read_56 : decode m_M_read.2.1 56 = .ok (.iinc 2 1, 3) := by decide +kernel
theorem D_M_read_59 : decode m_M_read.2.1 59 = .ok (.goto (-35), 3) := by decide +kernel
theorem D_M_read_62 : decode m_M_read.2.1 62 = .ok (.iinc 1 1, 3) := by decide +kernel
theorem D_M_read_65 : decode m_M_read.2.1 65 = .ok (.goto (-51), 3) := by decide +kernel
theorem D_M_read_68 : decode m_M_read.2.1 68 = .ok (.aload_n 0, 1) := by decide +kernel
theorem D_M_read_69 : decode m_M_read.2.1 69 = .ok (.invokevirtual 60, 3) := by decide +kernel
theorem D_M_read_72 : decode m_M_read.2.1 72 = .ok (.iconst 0, 1) := by decide +kernel
theorem D_M_read_73 : decode m_M_read.2.1 73 = .ok (.istore_n 1, 1) := by decide +kernel
theorem D_M_read_74 : decode m_M_read.2.1 74 = .ok (.iload_n 1, 1) := by decide +kernel
theorem D_M_read_75 : decode m_M_read.2.1 75 = .ok (.bipush 6, 2) := by decide +kernel
theorem D_M_read_77 : decode m_M_read.2.1 77 = .ok (.if_icmp .ge 65, 3) := by decide +kernel
theorem D_M_read_80 : decode m_M_read.2.1 80 = .ok (.iconst 0, 1) := by decide +kernel
theorem D_M_read_81 : decode m_M_read.2.1 81 = .ok (.istore_n 2, 1) := by decide +kernel
theorem D_M_read_82 : decode m_M_read.2.1 82 = .ok (.iload_n 2, 1) := by decide +kernel
theorem D_M_read_83 : decode m_M_read.2.1 83 = .ok (.bipush 6, 2) := by decide +kernel
theorem D_M_read_85 : decode m_M_read.2.1 85 = .ok (.if_icmp .ge 51, 3) := by decide +kernel
theorem D_M_read_88 : decode m_M_read.2.1 88 = .ok (.aload_n 0, 1) := by decide +kernel
theorem D_M_read_89 : decode m_M_read.2.1 89 = .ok (.getfield 7, 3) := by decide +kernel
theorem D_M_read_92 : decode m_M_read.2.1 92 = .ok (.bipush 6, 2) := by decide +kernel
theorem D_M_read_94 : decode m_M_read.2.1 94 = .ok (.iload_n 1, 1) := by decide +kernel
theorem D_M_read_95 : decode m_M_read.2.1 95 = .ok (.imul, 1) := by decide +kernel
theorem D_M_read_96 : decode m_M_read.2.1 96 = .ok (.iload_n 2, 1) := by decide +kernel
theorem D_M_read_97 : decode m_M_read.2.1 97 = .ok (.iadd, 1) := by decide +kernel
theorem D_M_read_98 : decode m_M_read.2.1 98 = .ok (.iload_n 1, 1) := by decide +kernel
theorem D_M_read_99 : decode m_M_read.2.1 99 = .ok (.aload_n 0, 1) := by decide +kernel
theorem D_M_read_100 : decode m_M_read.2.1 100 = .ok (.getfield 192, 3) := by decide +kernel
theorem D_M_read_103 : decode m_M_read.2.1 103 = .ok (.if_icmp .ge 25, 3) := by decide +kernel
theorem D_M_read_106 : decode m_M_read.2.1 106 = .ok (.iload_n 2, 1) := by decide +kernel
theorem D_M_read_107 : decode m_M_read.2.1 107 = .ok (.aload_n 0, 1) := by decide +kernel
theorem D_M_read_108 : decode m_M_read.2.1 108 = .ok (.getfield 186, 3) := by decide +kernel
theorem D_M_read_111 : decode m_M_read.2.1 111 = .ok (.if_icmp .ge 17, 3) := by decide +kernel
theorem D_M_read_114 : decode m_M_read.2.1 114 = .ok (.aload_n 0, 1) := by decide +kernel
theorem D_M_read_115 : decode m_M_read.2.1 115 = .ok (.getfield 45, 3) := by decide +kernel
theorem D_M_read_118 : decode m_M_read.2.1 118 = .ok (.bipush 6, 2) := by decide +kernel
theorem D_M_read_120 : decode m_M_read.2.1 120 = .ok (.iload_n 1, 1) := by decide +kernel
theorem D_M_read_121 : decode m_M_read.2.1 121 = .ok (.imul, 1) := by decide +kernel
theorem D_M_read_122 : decode m_M_read.2.1 122 = .ok (.iload_n 2, 1) := by decide +kernel
theorem D_M_read_123 : decode m_M_read.2.1 123 = .ok (.iadd, 1) := by decide +kernel
theorem D_M_read_124 : decode m_M_read.2.1 124 = .ok (.iaload, 1) := by decide +kernel
theorem D_M_read_125 : decode m_M_read.2.1 125 = .ok (.goto 4, 3) := by decide +kernel
theorem D_M_read_128 : decode m_M_read.2.1 128 = .ok (.iconst 0, 1) := by decide +kernel
theorem D_M_read_129 : decode m_M_read.2.1 129 = .ok (.iastore, 1) := by decide +kernel
theorem D_M_read_130 : decode m_M_read.2.1 130 = .ok (.iinc 2 1, 3) := by decide +kernel
theorem D_M_read_133 : decode m_M_read.2.1 133 = .ok (.goto (-51), 3) := by decide +kernel
theorem D_M_read_136 : decode m_M_read.2.1 136 = .ok (.iinc 1 1, 3) := by decide +kernel
theorem D_M_read_139 : decode m_M_read.2.1 139 = .ok (.goto (-65), 3) := by decide +kernel
theorem D_M_read_142 : decode m_M_read.2.1 142 = .ok (.aload_n 0, 1) := by decide +kernel
theorem D_M_read_143 : decode m_M_read.2.1 143 = .ok (.getfield 7, 3) := by decide +kernel
theorem D_M_read_146 : decode m_M_read.2.1 146 = .ok (.bipush 36, 2) := by decide +kernel
theorem D_M_read_148 : decode m_M_read.2.1 148 = .ok (.aload_n 0, 1) := by decide +kernel
theorem D_M_read_149 : decode m_M_read.2.1 149 = .ok (.getfield 192, 3) := by decide +kernel
theorem D_M_read_152 : decode m_M_read.2.1 152 = .ok (.iastore, 1) := by decide +kernel
theorem D_M_read_153 : decode m_M_read.2.1 153 = .ok (.aload_n 0, 1) := by decide +kernel
theorem D_M_read_154 : decode m_M_read.2.1 154 = .ok (.getfield 7, 3) := by decide +kernel
theorem D_M_read_157 : decode m_M_read.2.1 157 = .ok (.bipush 37, 2) := by decide +kernel
theorem D_M_read_159 : decode m_M_read.2.1 159 = .ok (.aload_n 0, 1) := by decide +kernel
theorem D_M_read_160 : decode m_M_read.2.1 160 = .ok (.getfield 186, 3) := by decide +kernel
theorem D_M_read_163 : decode m_M_read.2.1 163 = .ok (.iastore, 1) := by decide +kernel
theorem D_M_read_164 : decode m_M_read.2.1 164 = .ok (.aload_n 0, 1) := by decide +kernel
theorem D_M_read_165 : decode m_M_read.2.1 165 = .ok (.iconst 0, 1) := by decide +kernel
theorem D_M_read_166 : decode m_M_read.2.1 166 = .ok (.putfield 137, 3) := by decide +kernel
theorem D_M_read_169 : decode m_M_read.2.1 169 = .ok (.aload_n 0, 1) := by decide +kernel
theorem D_M_read_170 : decode m_M_read.2.1 170 = .ok (.invokevirtual 56, 3) := by decide +kernel
theorem D_M_read_173 : decode m_M_read.2.1 173 = .ok (.ireturn, 1) := by decide +kernel
theorem D_Law_law_0 : decode m_Law_law.2.1 0 = .ok (.new 7, 3) := by decide +kernel
theorem D_Law_law_3 : decode m_Law_law.2.1 3 = .ok (.dup, 1) := by decide +kernel
theorem D_Law_law_4 : decode m_Law_law.2.1 4 = .ok (.invokespecial 9, 3) := by decide +kernel
theorem D_Law_law_7 : decode m_Law_law.2.1 7 = .ok (.astore_n 1, 1) := by decide +kernel
theorem D_Law_law_8 : decode m_Law_law.2.1 8 = .ok (.new 10, 3) := by decide +kernel
theorem D_Law_law_11 : decode m_Law_law.2.1 11 = .ok (.dup, 1) := by decide +kernel
theorem D_Law_law_12 : decode m_Law_law.2.1 12 = .ok (.invokespecial 12, 3) := by decide +kernel
theorem D_Law_law_15 : decode m_Law_law.2.1 15 = .ok (.astore_n 2, 1) := by decide +kernel
theorem D_Law_law_16 : decode m_Law_law.2.1 16 = .ok (.iconst 0, 1) := by decide +kernel
theorem D_Law_law_17 : decode m_Law_law.2.1 17 = .ok (.istore_n 3, 1) := by decide +kernel
theorem D_Law_law_18 : decode m_Law_law.2.1 18 = .ok (.iload_n 3, 1) := by decide +kernel
theorem D_Law_law_19 : decode m_Law_law.2.1 19 = .ok (.aload_n 0, 1) := by decide +kernel
theorem D_Law_law_20 : decode m_Law_law.2.1 20 = .ok (.arraylength, 1) := by decide +kernel
theorem D_Law_law_21 : decode m_Law_law.2.1 21 = .ok (.iconst 5, 1) := by decide +kernel
theorem D_Law_law_22 : decode m_Law_law.2.1 22 = .ok (.isub, 1) := by decide +kernel
theorem D_Law_law_23 : decode m_Law_law.2.1 23 = .ok (.if_icmp .gt 683, 3) := by decide +kernel
theorem D_Law_law_26 : decode m_Law_law.2.1 26 = .ok (.aload_n 0, 1) := by decide +kernel
theorem D_Law_law_27 : decode m_Law_law.2.1 27 = .ok (.iload_n 3, 1) := by decide +kernel
theorem D_Law_law_28 : decode m_Law_law.2.1 28 = .ok (.iaload, 1) := by decide +kernel
theorem D_Law_law_29 : decode m_Law_law.2.1 29 = .ok (.bipush 31, 2) := by decide +kernel
theorem D_Law_law_31 : decode m_Law_law.2.1 31 = .ok (.iand, 1) := by decide +kernel
theorem D_Law_law_32 : decode m_Law_law.2.1 32 = .ok (.tableswitch 668 0 19 #[96, 139, 182, 195, 208, 251, 284, 307, 340, 363, 377, 450, 493, 507, 530, 583, 596, 609, 622, 645], 96) := by decide +kernel
theorem D_Law_law_128 : decode m_Law_law.2.1 128 = .ok (.aload_n 1, 1) := by decide +kernel
theorem D_Law_law_129 : decode m_Law_law.2.1 129 = .ok (.aload_n 0, 1) := by decide +kernel
theorem D_Law_law_130 : decode m_Law_law.2.1 130 = .ok (.iload_n 3, 1) := by decide +kernel
theorem D_Law_law_131 : decode m_Law_law.2.1 131 = .ok (.iconst 1, 1) := by decide +kernel
theorem D_Law_law_132 : decode m_Law_law.2.1 132 = .ok (.iadd, 1) := by decide +kernel
theorem D_Law_law_133 : decode m_Law_law.2.1 133 = .ok (.iaload, 1) := by decide +kernel
theorem D_Law_law_134 : decode m_Law_law.2.1 134 = .ok (.aload_n 0, 1) := by decide +kernel
theorem D_Law_law_135 : decode m_Law_law.2.1 135 = .ok (.iload_n 3, 1) := by decide +kernel
theorem D_Law_law_136 : decode m_Law_law.2.1 136 = .ok (.iconst 2, 1) := by decide +kernel
theorem D_Law_law_137 : decode m_Law_law.2.1 137 = .ok (.iadd, 1) := by decide +kernel
theorem D_Law_law_138 : decode m_Law_law.2.1 138 = .ok (.iaload, 1) := by decide +kernel
theorem D_Law_law_139 : decode m_Law_law.2.1 139 = .ok (.aload_n 0, 1) := by decide +kernel
theorem D_Law_law_140 : decode m_Law_law.2.1 140 = .ok (.iload_n 3, 1) := by decide +kernel
theorem D_Law_law_141 : decode m_Law_law.2.1 141 = .ok (.iconst 3, 1) := by decide +kernel
theorem D_Law_law_142 : decode m_Law_law.2.1 142 = .ok (.iadd, 1) := by decide +kernel
theorem D_Law_law_143 : decode m_Law_law.2.1 143 = .ok (.iaload, 1) := by decide +kernel
theorem D_Law_law_144 : decode m_Law_law.2.1 144 = .ok (.invokevirtual 13, 3) := by decide +kernel
theorem D_Law_law_147 : decode m_Law_law.2.1 147 = .ok (.aload_n 2, 1) := by decide +kernel
theorem D_Law_law_148 : decode m_Law_law.2.1 148 = .ok (.aload_n 0, 1) := by decide +kernel
theorem D_Law_law_149 : decode m_Law_law.2.1 149 = .ok (.iload_n 3, 1) := by decide +kernel
theorem D_Law_law_150 : decode m_Law_law.2.1 150 = .ok (.iconst 1, 1) := by decide +kernel
theorem D_Law_law_151 : decode m_Law_law.2.1 151 = .ok (.iadd, 1) := by decide +kernel
theorem D_Law_law_152 : decode m_Law_law.2.1 152 = .ok (.iaload, 1) := by decide +kernel
theorem D_Law_law_153 : decode m_Law_law.2.1 153 = .ok (.aload_n 0, 1) := by decide +kernel
theorem D_Law_law_154 : decode m_Law_law.2.1 154 = .ok (.iload_n 3, 1) := by decide +kernel
theorem D_Law_law_155 : decode m_Law_law.2.1 155 = .ok (.iconst 2, 1) := by decide +kernel
theorem D_Law_law_156 : decode m_Law_law.2.1 156 = .ok (.iadd, 1) := by decide +kernel
theorem D_Law_law_157 : decode m_Law_law.2.1 157 = .ok (.iaload, 1) := by decide +kernel
theorem D_Law_law_158 : decode m_Law_law.2.1 158 = .ok (.aload_n 0, 1) := by decide +kernel
theorem D_Law_law_159 : decode m_Law_law.2.1 159 = .ok (.iload_n 3, 1) := by decide +kernel
theorem D_Law_law_160 : decode m_Law_law.2.1 160 = .ok (.iconst 3, 1) := by decide +kernel
theorem D_Law_law_161 : decode m_Law_law.2.1 161 = .ok (.iadd, 1) := by decide +kernel
theorem D_Law_law_162 : decode m_Law_law.2.1 162 = .ok (.iaload, 1) := by decide +kernel
theorem D_Law_law_163 : decode m_Law_law.2.1 163 = .ok (.invokevirtual 17, 3) := by decide +kernel
theorem D_Law_law_166 : decode m_Law_law.2.1 166 = .ok (.if_icmp .eq 534, 3) := by decide +kernel
theorem D_Law_law_169 : decode m_Law_law.2.1 169 = .ok (.iconst 0, 1) := by decide +kernel
theorem D_Law_law_170 : decode m_Law_law.2.1 170 = .ok (.ireturn, 1) := by decide +kernel
theorem D_Law_law_171 : decode m_Law_law.2.1 171 = .ok (.aload_n 1, 1) := by decide +kernel
theorem D_Law_law_172 : decode m_Law_law.2.1 172 = .ok (.aload_n 0, 1) := by decide +kernel
theorem D_Law_law_173 : decode m_Law_law.2.1 173 = .ok (.iload_n 3, 1) := by decide +kernel
theorem D_Law_law_174 : decode m_Law_law.2.1 174 = .ok (.iconst 1, 1) := by decide +kernel
theorem D_Law_law_175 : decode m_Law_law.2.1 175 = .ok (.iadd, 1) := by decide +kernel
theorem D_Law_law_176 : decode m_Law_law.2.1 176 = .ok (.iaload, 1) := by decide +kernel
theorem D_Law_law_177 : decode m_Law_law.2.1 177 = .ok (.aload_n 0, 1) := by decide +kernel
theorem D_Law_law_178 : decode m_Law_law.2.1 178 = .ok (.iload_n 3, 1) := by decide +kernel
theorem D_Law_law_179 : decode m_Law_law.2.1 179 = .ok (.iconst 2, 1) := by decide +kernel
theorem D_Law_law_180 : decode m_Law_law.2.1 180 = .ok (.iadd, 1) := by decide +kernel
theorem D_Law_law_181 : decode m_Law_law.2.1 181 = .ok (.iaload, 1) := by decide +kernel
theorem D_Law_law_182 : decode m_Law_law.2.1 182 = .ok (.aload_n 0, 1) := by decide +kernel
theorem D_Law_law_183 : decode m_Law_law.2.1 183 = .ok (.iload_n 3, 1) := by decide +kernel
theorem D_Law_law_184 : decode m_Law_law.2.1 184 = .ok (.iconst 3, 1) := by decide +kernel
theorem D_Law_law_185 : decode m_Law_law.2.1 185 = .ok (.iadd, 1) := by decide +kernel
theorem D_Law_law_186 : decode m_Law_law.2.1 186 = .ok (.iaload, 1) := by decide +kernel
theorem D_Law_law_187 : decode m_Law_law.2.1 187 = .ok (.invokevirtual 18, 3) := by decide +kernel
theorem D_Law_law_190 : decode m_Law_law.2.1 190 = .ok (.aload_n 2, 1) := by decide +kernel
theorem D_Law_law_191 : decode m_Law_law.2.1 191 = .ok (.aload_n 0, 1) := by decide +kernel
theorem D_Law_law_192 : decode m_Law_law.2.1 192 = .ok (.iload_n 3, 1) := by decide +kernel
theorem D_Law_law_193 : decode m_Law_law.2.1 193 = .ok (.iconst 1, 1) := by decide +kernel
theorem D_Law_law_194 : decode m_Law_law.2.1 194 = .ok (.iadd, 1) := by decide +kernel
theorem D_Law_law_195 : decode m_Law_law.2.1 195 = .ok (.iaload, 1) := by decide +kernel
theorem D_Law_law_196 : decode m_Law_law.2.1 196 = .ok (.aload_n 0, 1) := by decide +kernel
theorem D_Law_law_197 : decode m_Law_law.2.1 197 = .ok (.iload_n 3, 1) := by decide +kernel
theorem D_Law_law_198 : decode m_Law_law.2.1 198 = .ok (.iconst 2, 1) := by decide +kernel
theorem D_Law_law_199 : decode m_Law_law.2.1 199 = .ok (.iadd, 1) := by decide +kernel
theorem D_Law_law_200 : decode m_Law_law.2.1 200 = .ok (.iaload, 1) := by decide +kernel
theorem D_Law_law_201 : decode m_Law_law.2.1 201 = .ok (.aload_n 0, 1) := by decide +kernel
theorem D_Law_law_202 : decode m_Law_law.2.1 202 = .ok (.iload_n 3, 1) := by decide +kernel
theorem D_Law_law_203 : decode m_Law_law.2.1 203 = .ok (.iconst 3, 1) := by decide +kernel
theorem D_Law_law_204 : decode m_Law_law.2.1 204 = .ok (.iadd, 1) := by decide +kernel
theorem D_Law_law_205 : decode m_Law_law.2.1 205 = .ok (.iaload, 1) := by decide +kernel
theorem D_Law_law_206 : decode m_Law_law.2.1 206 = .ok (.invokevirtual 21, 3) := by decide +kernel
theorem D_Law_law_209 : decode m_Law_law.2.1 209 = .ok (.if_icmp .eq 491, 3) := by decide +kernel
theorem D_Law_law_212 : decode m_Law_law.2.1 212 = .ok (.iconst 0, 1) := by decide +kernel
theorem D_Law_law_213 : decode m_Law_law.2.1 213 = .ok (.ireturn, 1) := by decide +kernel
theorem D_Law_law_214 : decode m_Law_law.2.1 214 = .ok (.aload_n 1, 1) := by decide +kernel
theorem D_Law_law_215 : decode m_Law_law.2.1 215 = .ok (.invokevirtual 22, 3) := by decide +kernel
theorem D_Law_law_218 : decode m_Law_law.2.1 218 = .ok (.aload_n 2, 1) := by decide +kernel
theorem D_Law_law_219 : decode m_Law_law.2.1 219 = .ok (.invokevirtual 26, 3) := by decide +kernel
theorem D_Law_law_222 : decode m_Law_law.2.1 222 = .ok (.if_icmp .eq 478, 3) := by decide +kernel
theorem D_Law_law_225 : decode m_Law_law.2.1 225 = .ok (.iconst 0, 1) := by decide +kernel
theorem D_Law_law_226 : decode m_Law_law.2.1 226 = .ok (.ireturn, 1) := by decide +kernel
theorem D_Law_law_227 : decode m_Law_law.2.1 227 = .ok (.aload_n 1, 1) := by decide +kernel
theorem D_Law_law_228 : decode m_Law_law.2.1 228 = .ok (.invokevirtual 27, 3) := by decide +kernel
theorem D_Law_law_231 : decode m_Law_law.2.1 231 = .ok (.aload_n 2, 1) := by decide +kernel
theorem D_Law_law_232 : decode m_Law_law.2.1 232 = .ok (.invokevirtual 30, 3) := by decide +kernel
theorem D_Law_law_235 : decode m_Law_law.2.1 235 = .ok (.if_icmp .eq 465, 3) := by decide +kernel
theorem D_Law_law_238 : decode m_Law_law.2.1 238 = .ok (.iconst 0, 1) := by decide +kernel
theorem D_Law_law_239 : decode m_Law_law.2.1 239 = .ok (.ireturn, 1) := by decide +kernel
theorem D_Law_law_240 : decode m_Law_law.2.1 240 = .ok (.aload_n 1, 1) := by decide +kernel
theorem D_Law_law_241 : decode m_Law_law.2.1 241 = .ok (.aload_n 0, 1) := by decide +kernel
theorem D_Law_law_242 : decode m_Law_law.2.1 242 = .ok (.iload_n 3, 1) := by decide +kernel
theorem D_Law_law_243 : decode m_Law_law.2.1 243 = .ok (.iconst 1, 1) := by decide +kernel
theorem D_Law_law_244 : decode m_Law_law.2.1 244 = .ok (.iadd, 1) := by decide +kernel
theorem D_Law_law_245 : decode m_Law_law.2.1 245 = .ok (.iaload, 1) := by decide +kernel
theorem D_Law_law_246 : decode m_Law_law.2.1 246 = .ok (.aload_n 0, 1) := by decide +kernel
theorem D_Law_law_247 : decode m_Law_law.2.1 247 = .ok (.iload_n 3, 1) := by decide +kernel
theorem D_Law_law_248 : decode m_Law_law.2.1 248 = .ok (.iconst 2, 1) := by decide +kernel
theorem D_Law_law_249 : decode m_Law_law.2.1 249 = .ok (.iadd, 1) := by decide +kernel
theorem D_Law_law_250 : decode m_Law_law.2.1 250 = .ok (.iaload, 1) := by decide +kernel
theorem D_Law_law_251 : decode m_Law_law.2.1 251 = .ok (.aload_n 0, 1) := by decide +kernel
theorem D_Law_law_252 : decode m_Law_law.2.1 252 = .ok (.iload_n 3, 1) := by decide +kernel
theorem D_Law_law_253 : decode m_Law_law.2.1 253 = .ok (.iconst 3, 1) := by decide +kernel
theorem D_Law_law_254 : decode m_Law_law.2.1 254 = .ok (.iadd, 1) := by decide +kernel
theorem D_Law_law_255 : decode m_Law_law.2.1 255 = .ok (.iaload, 1) := by decide +kernel
theorem D_Law_law_256 : decode m_Law_law.2.1 256 = .ok (.invokevirtual 31, 3) := by decide +kernel
theorem D_Law_law_259 : decode m_Law_law.2.1 259 = .ok (.aload_n 2, 1) := by decide +kernel
theorem D_Law_law_260 : decode m_Law_law.2.1 260 = .ok (.aload_n 0, 1) := by decide +kernel
theorem D_Law_law_261 : decode m_Law_law.2.1 261 = .ok (.iload_n 3, 1) := by decide +kernel
theorem D_Law_law_262 : decode m_Law_law.2.1 262 = .ok (.iconst 1, 1) := by decide +kernel
theorem D_Law_law_263 : decode m_Law_law.2.1 263 = .ok (.iadd, 1) := by decide +kernel
theorem D_Law_law_264 : decode m_Law_law.2.1 264 = .ok (.iaload, 1) := by decide +kernel
theorem D_Law_law_265 : decode m_Law_law.2.1 265 = .ok (.aload_n 0, 1) := by decide +kernel
theorem D_Law_law_266 : decode m_Law_law.2.1 266 = .ok (.iload_n 3, 1) := by decide +kernel
theorem D_Law_law_267 : decode m_Law_law.2.1 267 = .ok (.iconst 2, 1) := by decide +kernel
theorem D_Law_law_268 : decode m_Law_law.2.1 268 = .ok (.iadd, 1) := by decide +kernel
theorem D_Law_law_269 : decode m_Law_law.2.1 269 = .ok (.iaload, 1) := by decide +kernel
theorem D_Law_law_270 : decode m_Law_law.2.1 270 = .ok (.aload_n 0, 1) := by decide +kernel
theorem D_Law_law_271 : decode m_Law_law.2.1 271 = .ok (.iload_n 3, 1) := by decide +kernel
theorem D_Law_law_272 : decode m_Law_law.2.1 272 = .ok (.iconst 3, 1) := by decide +kernel
theorem D_Law_law_273 : decode m_Law_law.2.1 273 = .ok (.iadd, 1) := by decide +kernel
theorem D_Law_law_274 : decode m_Law_law.2.1 274 = .ok (.iaload, 1) := by decide +kernel
theorem D_Law_law_275 : decode m_Law_law.2.1 275 = .ok (.invokevirtual 34, 3) := by decide +kernel
theorem D_Law_law_278 : decode m_Law_law.2.1 278 = .ok (.if_icmp .eq 422, 3) := by decide +kernel
theorem D_Law_law_281 : decode m_Law_law.2.1 281 = .ok (.iconst 0, 1) := by decide +kernel
theorem D_Law_law_282 : decode m_Law_law.2.1 282 = .ok (.ireturn, 1) := by decide +kernel
theorem D_Law_law_283 : decode m_Law_law.2.1 283 = .ok (.aload_n 1, 1) := by decide +kernel
theorem D_Law_law_284 : decode m_Law_law.2.1 284 = .ok (.aload_n 0, 1) := by decide +kernel
theorem D_Law_law_285 : decode m_Law_law.2.1 285 = .ok (.iload_n 3, 1) := by decide +kernel
theorem D_Law_law_286 : decode m_Law_law.2.1 286 = .ok (.iconst 1, 1) := by decide +kernel
theorem D_Law_law_287 : decode m_Law_law.2.1 287 = .ok (.iadd, 1) := by decide +kernel
theorem D_Law_law_288 : decode m_Law_law.2.1 288 = .ok (.iaload, 1) := by decide +kernel
theorem D_Law_law_289 : decode m_Law_law.2.1 289 = .ok (.aload_n 0, 1) := by decide +kernel
theorem D_Law_law_290 : decode m_Law_law.2.1 290 = .ok (.iload_n 3, 1) := by decide +kernel
theorem D_Law_law_291 : decode m_Law_law.2.1 291 = .ok (.iconst 2, 1) := by decide +kernel
theorem D_Law_law_292 : decode m_Law_law.2.1 292 = .ok (.iadd, 1) := by decide +kernel
theorem D_Law_law_293 : decode m_Law_law.2.1 293 = .ok (.iaload, 1) := by decide +kernel
theorem D_Law_law_294 : decode m_Law_law.2.1 294 = .ok (.invokevirtual 35, 3) := by decide +kernel
theorem D_Law_law_297 : decode m_Law_law.2.1 297 = .ok (.aload_n 2, 1) := by decide +kernel
theorem D_Law_law_298 : decode m_Law_law.2.1 298 = .ok (.aload_n 0, 1) := by decide +kernel
theorem D_Law_law_299 : decode m_Law_law.2.1 299 = .ok (.iload_n 3, 1) := by decide +kernel
theorem D_Law_law_300 : decode m_Law_law.2.1 300 = .ok (.iconst 1, 1) := by decide +kernel
theorem D_Law_law_301 : decode m_Law_law.2.1 301 = .ok (.iadd, 1) := by decide +kernel
theorem D_Law_law_302 : decode m_Law_law.2.1 302 = .ok (.iaload, 1) := by decide +kernel
theorem D_Law_law_303 : decode m_Law_law.2.1 303 = .ok (.aload_n 0, 1) := by decide +kernel
theorem D_Law_law_304 : decode m_Law_law.2.1 304 = .ok (.iload_n 3, 1) := by decide +kernel
theorem D_Law_law_305 : decode m_Law_law.2.1 305 = .ok (.iconst 2, 1) := by decide +kernel
theorem D_Law_law_306 : decode m_Law_law.2.1 306 = .ok (.iadd, 1) := by decide +kernel
theorem D_Law_law_307 : decode m_Law_law.2.1 307 = .ok (.iaload, 1) := by decide +kernel
theorem D_Law_law_308 : decode m_Law_law.2.1 308 = .ok (.invokevirtual 39, 3) := by decide +kernel
theorem D_Law_law_311 : decode m_Law_law.2.1 311 = .ok (.if_icmp .eq 389, 3) := by decide +kernel
theorem D_Law_law_314 : decode m_Law_law.2.1 314 = .ok (.iconst 0, 1) := by decide +kernel
theorem D_Law_law_315 : decode m_Law_law.2.1 315 = .ok (.ireturn, 1) := by decide +kernel
theorem D_Law_law_316 : decode m_Law_law.2.1 316 = .ok (.aload_n 1, 1) := by decide +kernel
theorem D_Law_law_317 : decode m_Law_law.2.1 317 = .ok (.aload_n 0, 1) := by decide +kernel
theorem D_Law_law_318 : decode m_Law_law.2.1 318 = .ok (.iload_n 3, 1) := by decide +kernel
theorem D_Law_law_319 : decode m_Law_law.2.1 319 = .ok (.iconst 1, 1) := by decide +kernel
theorem D_Law_law_320 : decode m_Law_law.2.1 320 = .ok (.iadd, 1) := by decide +kernel
theorem D_Law_law_321 : decode m_Law_law.2.1 321 = .ok (.iaload, 1) := by decide +kernel
theorem D_Law_law_322 : decode m_Law_law.2.1 322 = .ok (.invokevirtual 40, 3) := by decide +kernel
theorem D_Law_law_325 : decode m_Law_law.2.1 325 = .ok (.aload_n 2, 1) := by decide +kernel
theorem D_Law_law_326 : decode m_Law_law.2.1 326 = .ok (.aload_n 0, 1) := by decide +kernel
theorem D_Law_law_327 : decode m_Law_law.2.1 327 = .ok (.iload_n 3, 1) := by decide +kernel
theorem D_Law_law_328 : decode m_Law_law.2.1 328 = .ok (.iconst 1, 1) := by decide +kernel
theorem D_Law_law_329 : decode m_Law_law.2.1 329 = .ok (.iadd, 1) := by decide +kernel
theorem D_Law_law_330 : decode m_Law_law.2.1 330 = .ok (.iaload, 1) := by decide +kernel
theorem D_Law_law_331 : decode m_Law_law.2.1 331 = .ok (.invokevirtual 44, 3) := by decide +kernel
theorem D_Law_law_334 : decode m_Law_law.2.1 334 = .ok (.if_icmp .eq 366, 3) := by decide +kernel
theorem D_Law_law_337 : decode m_Law_law.2.1 337 = .ok (.iconst 0, 1) := by decide +kernel
theorem D_Law_law_338 : decode m_Law_law.2.1 338 = .ok (.ireturn, 1) := by decide +kernel
theorem D_Law_law_339 : decode m_Law_law.2.1 339 = .ok (.aload_n 1, 1) := by decide +kernel
theorem D_Law_law_340 : decode m_Law_law.2.1 340 = .ok (.aload_n 0, 1) := by decide +kernel
theorem D_Law_law_341 : decode m_Law_law.2.1 341 = .ok (.iload_n 3, 1) := by decide +kernel
theorem D_Law_law_342 : decode m_Law_law.2.1 342 = .ok (.iconst 1, 1) := by decide +kernel
theorem D_Law_law_343 : decode m_Law_law.2.1 343 = .ok (.iadd, 1) := by decide +kernel
theorem D_Law_law_344 : decode m_Law_law.2.1 344 = .ok (.iaload, 1) := by decide +kernel
theorem D_Law_law_345 : decode m_Law_law.2.1 345 = .ok (.aload_n 0, 1) := by decide +kernel
theorem D_Law_law_346 : decode m_Law_law.2.1 346 = .ok (.iload_n 3, 1) := by decide +kernel
theorem D_Law_law_347 : decode m_Law_law.2.1 347 = .ok (.iconst 2, 1) := by decide +kernel
theorem D_Law_law_348 : decode m_Law_law.2.1 348 = .ok (.iadd, 1) := by decide +kernel
theorem D_Law_law_349 : decode m_Law_law.2.1 349 = .ok (.iaload, 1) := by decide +kernel
theorem D_Law_law_350 : decode m_Law_law.2.1 350 = .ok (.invokevirtual 45, 3) := by decide +kernel
theorem D_Law_law_353 : decode m_Law_law.2.1 353 = .ok (.aload_n 2, 1) := by decide +kernel
theorem D_Law_law_354 : decode m_Law_law.2.1 354 = .ok (.aload_n 0, 1) := by decide +kernel
theorem D_Law_law_355 : decode m_Law_law.2.1 355 = .ok (.iload_n 3, 1) := by decide +kernel
theorem D_Law_law_356 : decode m_Law_law.2.1 356 = .ok (.iconst 1, 1) := by decide +kernel
theorem D_Law_law_357 : decode m_Law_law.2.1 357 = .ok (.iadd, 1) := by decide +kernel
theorem D_Law_law_358 : decode m_Law_law.2.1 358 = .ok (.iaload, 1) := by decide +kernel
theorem D_Law_law_359 : decode m_Law_law.2.1 359 = .ok (.aload_n 0, 1) := by decide +kernel
theorem D_Law_law_360 : decode m_Law_law.2.1 360 = .ok (.iload_n 3, 1) := by decide +kernel
theorem D_Law_law_361 : decode m_Law_law.2.1 361 = .ok (.iconst 2, 1) := by decide +kernel
theorem D_Law_law_362 : decode m_Law_law.2.1 362 = .ok (.iadd, 1) := by decide +kernel
theorem D_Law_law_363 : decode m_Law_law.2.1 363 = .ok (.iaload, 1) := by decide +kernel
theorem D_Law_law_364 : decode m_Law_law.2.1 364 = .ok (.invokevirtual 48, 3) := by decide +kernel
theorem D_Law_law_367 : decode m_Law_law.2.1 367 = .ok (.if_icmp .eq 333, 3) := by decide +kernel
theorem D_Law_law_370 : decode m_Law_law.2.1 370 = .ok (.iconst 0, 1) := by decide +kernel
theorem D_Law_law_371 : decode m_Law_law.2.1 371 = .ok (.ireturn, 1) := by decide +kernel
theorem D_Law_law_372 : decode m_Law_law.2.1 372 = .ok (.aload_n 1, 1) := by decide +kernel
theorem D_Law_law_373 : decode m_Law_law.2.1 373 = .ok (.aload_n 0, 1) := by decide +kernel
theorem D_Law_law_374 : decode m_Law_law.2.1 374 = .ok (.iload_n 3, 1) := by decide +kernel
theorem D_Law_law_375 : decode m_Law_law.2.1 375 = .ok (.iconst 1, 1) := by decide +kernel
theorem D_Law_law_376 : decode m_Law_law.2.1 376 = .ok (.iadd, 1) := by decide +kernel
theorem D_Law_law_377 : decode m_Law_law.2.1 377 = .ok (.iaload, 1) := by decide +kernel
theorem D_Law_law_378 : decode m_Law_law.2.1 378 = .ok (.invokevirtual 49, 3) := by decide +kernel
theorem D_Law_law_381 : decode m_Law_law.2.1 381 = .ok (.aload_n 2, 1) := by decide +kernel
theorem D_Law_law_382 : decode m_Law_law.2.1 382 = .ok (.aload_n 0, 1) := by decide +kernel
theorem D_Law_law_383 : decode m_Law_law.2.1 383 = .ok (.iload_n 3, 1) := by decide +kernel
theorem D_Law_law_384 : decode m_Law_law.2.1 384 = .ok (.iconst 1, 1) := by decide +kernel
theorem D_Law_law_385 : decode m_Law_law.2.1 385 = .ok (.iadd, 1) := by decide +kernel
theorem D_Law_law_386 : decode m_Law_law.2.1 386 = .ok (.iaload, 1) := by decide +kernel
theorem D_Law_law_387 : decode m_Law_law.2.1 387 = .ok (.invokevirtual 52, 3) := by decide +kernel
theorem D_Law_law_390 : decode m_Law_law.2.1 390 = .ok (.if_icmp .eq 310, 3) := by decide +kernel
theorem D_Law_law_393 : decode m_Law_law.2.1 393 = .ok (.iconst 0, 1) := by decide +kernel
theorem D_Law_law_394 : decode m_Law_law.2.1 394 = .ok (.ireturn, 1) := by decide +kernel
theorem D_Law_law_395 : decode m_Law_law.2.1 395 = .ok (.aload_n 1, 1) := by decide +kernel
theorem D_Law_law_396 : decode m_Law_law.2.1 396 = .ok (.invokevirtual 53, 3) := by decide +kernel
theorem D_Law_law_399 : decode m_Law_law.2.1 399 = .ok (.aload_n 2, 1) := by decide +kernel
theorem D_Law_law_400 : decode m_Law_law.2.1 400 = .ok (.invokevirtual 57, 3) := by decide +kernel
theorem D_Law_law_403 : decode m_Law_law.2.1 403 = .ok (.lcmp, 1) := by decide +kernel
theorem D_Law_law_404 : decode m_Law_law.2.1 404 = .ok (.ifCond .eq 296, 3) := by decide +kernel
theorem D_Law_law_407 : decode m_Law_law.2.1 407 = .ok (.iconst 0, 1) := by decide +kernel
theorem D_Law_law_408 : decode m_Law_law.2.1 408 = .ok (.ireturn, 1) := by decide +kernel
theorem D_Law_law_409 : decode m_Law_law.2.1 409 = .ok (.aload_n 1, 1) := by decide +kernel
theorem D_Law_law_410 : decode m_Law_law.2.1 410 = .ok (.aload_n 0, 1) := by decide +kernel
theorem D_Law_law_411 : decode m_Law_law.2.1 411 = .ok (.iload_n 3, 1) := by decide +kernel
theorem D_Law_law_412 : decode m_Law_law.2.1 412 = .ok (.iconst 1, 1) := by decide +kernel
theorem D_Law_law_413 : decode m_Law_law.2.1 413 = .ok (.iadd, 1) := by decide +kernel
theorem D_Law_law_414 : decode m_Law_law.2.1 414 = .ok (.iaload, 1) := by decide +kernel
theorem D_Law_law_415 : decode m_Law_law.2.1 415 = .ok (.i2l, 1) := by decide +kernel
theorem D_Law_law_416 : decode m_Law_law.2.1 416 = .ok (.bipush 32, 2) := by decide +kernel
theorem D_Law_law_418 : decode m_Law_law.2.1 418 = .ok (.lshl, 1) := by decide +kernel
theorem D_Law_law_419 : decode m_Law_law.2.1 419 = .ok (.aload_n 0, 1) := by decide +kernel
theorem D_Law_law_420 : decode m_Law_law.2.1 420 = .ok (.iload_n 3, 1) := by decide +kernel
theorem D_Law_law_421 : decode m_Law_law.2.1 421 = .ok (.iconst 2, 1) := by decide +kernel
theorem D_Law_law_422 : decode m_Law_law.2.1 422 = .ok (.iadd, 1) := by decide +kernel
theorem D_Law_law_423 : decode m_Law_law.2.1 423 = .ok (.iaload, 1) := by decide +kernel
theorem D_Law_law_424 : decode m_Law_law.2.1 424 = .ok (.i2l, 1) := by decide +kernel
theorem D_Law_law_425 : decode m_Law_law.2.1 425 = .ok (.ldc2_w 58, 3) := by decide +kernel
theorem D_Law_law_428 : decode m_Law_law.2.1 428 = .ok (.land, 1) := by decide +kernel
theorem D_Law_law_429 : decode m_Law_law.2.1 429 = .ok (.lor, 1) := by decide +kernel
theorem D_Law_law_430 : decode m_Law_law.2.1 430 = .ok (.aload_n 0, 1) := by decide +kernel
theorem D_Law_law_431 : decode m_Law_law.2.1 431 = .ok (.iload_n 3, 1) := by decide +kernel
theorem D_Law_law_432 : decode m_Law_law.2.1 432 = .ok (.iconst 3, 1) := by decide +kernel
theorem D_Law_law_433 : decode m_Law_law.2.1 433 = .ok (.iadd, 1) := by decide +kernel
theorem D_Law_law_434 : decode m_Law_law.2.1 434 = .ok (.iaload, 1) := by decide +kernel
theorem D_Law_law_435 : decode m_Law_law.2.1 435 = .ok (.aload_n 0, 1) := by decide +kernel
theorem D_Law_law_436 : decode m_Law_law.2.1 436 = .ok (.iload_n 3, 1) := by decide +kernel
theorem D_Law_law_437 : decode m_Law_law.2.1 437 = .ok (.iconst 4, 1) := by decide +kernel
theorem D_Law_law_438 : decode m_Law_law.2.1 438 = .ok (.iadd, 1) := by decide +kernel
theorem D_Law_law_439 : decode m_Law_law.2.1 439 = .ok (.iaload, 1) := by decide +kernel
theorem D_Law_law_440 : decode m_Law_law.2.1 440 = .ok (.invokevirtual 60, 3) := by decide +kernel
theorem D_Law_law_443 : decode m_Law_law.2.1 443 = .ok (.aload_n 2, 1) := by decide +kernel
theorem D_Law_law_444 : decode m_Law_law.2.1 444 = .ok (.aload_n 0, 1) := by decide +kernel
theorem D_Law_law_445 : decode m_Law_law.2.1 445 = .ok (.iload_n 3, 1) := by decide +kernel
theorem D_Law_law_446 : decode m_Law_law.2.1 446 = .ok (.iconst 1, 1) := by decide +kernel
theorem D_Law_law_447 : decode m_Law_law.2.1 447 = .ok (.iadd, 1) := by decide +kernel
theorem D_Law_law_448 : decode m_Law_law.2.1 448 = .ok (.iaload, 1) := by decide +kernel
theorem D_Law_law_449 : decode m_Law_law.2.1 449 = .ok (.i2l, 1) := by decide +kernel
theorem D_Law_law_450 : decode m_Law_law.2.1 450 = .ok (.bipush 32, 2) := by decide +kernel
theorem D_Law_law_452 : decode m_Law_law.2.1 452 = .ok (.lshl, 1) := by decide +kernel
theorem D_Law_law_453 : decode m_Law_law.2.1 453 = .ok (.aload_n 0, 1) := by decide +kernel
theorem D_Law_law_454 : decode m_Law_law.2.1 454 = .ok (.iload_n 3, 1) := by decide +kernel
theorem D_Law_law_455 : decode m_Law_law.2.1 455 = .ok (.iconst 2, 1) := by decide +kernel
theorem D_Law_law_456 : decode m_Law_law.2.1 456 = .ok (.iadd, 1) := by decide +kernel
theorem D_Law_law_457 : decode m_Law_law.2.1 457 = .ok (.iaload, 1) := by decide +kernel
theorem D_Law_law_458 : decode m_Law_law.2.1 458 = .ok (.i2l, 1) := by decide +kernel
theorem D_Law_law_459 : decode m_Law_law.2.1 459 = .ok (.ldc2_w 58, 3) := by decide +kernel
theorem D_Law_law_462 : decode m_Law_law.2.1 462 = .ok (.land, 1) := by decide +kernel
theorem D_Law_law_463 : decode m_Law_law.2.1 463 = .ok (.lor, 1) := by decide +kernel
theorem D_Law_law_464 : decode m_Law_law.2.1 464 = .ok (.aload_n 0, 1) := by decide +kernel
theorem D_Law_law_465 : decode m_Law_law.2.1 465 = .ok (.iload_n 3, 1) := by decide +kernel
theorem D_Law_law_466 : decode m_Law_law.2.1 466 = .ok (.iconst 3, 1) := by decide +kernel
theorem D_Law_law_467 : decode m_Law_law.2.1 467 = .ok (.iadd, 1) := by decide +kernel
theorem D_Law_law_468 : decode m_Law_law.2.1 468 = .ok (.iaload, 1) := by decide +kernel
theorem D_Law_law_469 : decode m_Law_law.2.1 469 = .ok (.aload_n 0, 1) := by decide +kernel
theorem D_Law_law_470 : decode m_Law_law.2.1 470 = .ok (.iload_n 3, 1) := by decide +kernel
theorem D_Law_law_471 : decode m_Law_law.2.1 471 = .ok (.iconst 4, 1) := by decide +kernel
theorem D_Law_law_472 : decode m_Law_law.2.1 472 = .ok (.iadd, 1) := by decide +kernel
theorem D_Law_law_473 : decode m_Law_law.2.1 473 = .ok (.iaload, 1) := by decide +kernel
theorem D_Law_law_474 : decode m_Law_law.2.1 474 = .ok (.invokevirtual 64, 3) := by decide +kernel
theorem D_Law_law_477 : decode m_Law_law.2.1 477 = .ok (.if_icmp .eq 223, 3) := by decide +kernel
theorem D_Law_law_480 : decode m_Law_law.2.1 480 = .ok (.iconst 0, 1) := by decide +kernel
theorem D_Law_law_481 : decode m_Law_law.2.1 481 = .ok (.ireturn, 1) := by decide +kernel
theorem D_Law_law_482 : decode m_Law_law.2.1 482 = .ok (.aload_n 1, 1) := by decide +kernel
theorem D_Law_law_483 : decode m_Law_law.2.1 483 = .ok (.aload_n 0, 1) := by decide +kernel
theorem D_Law_law_484 : decode m_Law_law.2.1 484 = .ok (.iload_n 3, 1) := by decide +kernel
theorem D_Law_law_485 : decode m_Law_law.2.1 485 = .ok (.iconst 1, 1) := by decide +kernel
theorem D_Law_law_486 : decode m_Law_law.2.1 486 = .ok (.iadd, 1) := by decide +kernel
theorem D_Law_law_487 : decode m_Law_law.2.1 487 = .ok (.iaload, 1) := by decide +kernel
theorem D_Law_law_488 : decode m_Law_law.2.1 488 = .ok (.aload_n 0, 1) := by decide +kernel
theorem D_Law_law_489 : decode m_Law_law.2.1 489 = .ok (.iload_n 3, 1) := by decide +kernel
theorem D_Law_law_490 : decode m_Law_law.2.1 490 = .ok (.iconst 2, 1) := by decide +kernel
theorem D_Law_law_491 : decode m_Law_law.2.1 491 = .ok (.iadd, 1) := by decide +kernel
theorem D_Law_law_492 : decode m_Law_law.2.1 492 = .ok (.iaload, 1) := by decide +kernel
theorem D_Law_law_493 : decode m_Law_law.2.1 493 = .ok (.aload_n 0, 1) := by decide +kernel
theorem D_Law_law_494 : decode m_Law_law.2.1 494 = .ok (.iload_n 3, 1) := by decide +kernel
theorem D_Law_law_495 : decode m_Law_law.2.1 495 = .ok (.iconst 3, 1) := by decide +kernel
theorem D_Law_law_496 : decode m_Law_law.2.1 496 = .ok (.iadd, 1) := by decide +kernel
theorem D_Law_law_497 : decode m_Law_law.2.1 497 = .ok (.iaload, 1) := by decide +kernel
theorem D_Law_law_498 : decode m_Law_law.2.1 498 = .ok (.invokevirtual 65, 3) := by decide +kernel
theorem D_Law_law_501 : decode m_Law_law.2.1 501 = .ok (.aload_n 2, 1) := by decide +kernel
theorem D_Law_law_502 : decode m_Law_law.2.1 502 = .ok (.aload_n 0, 1) := by decide +kernel
theorem D_Law_law_503 : decode m_Law_law.2.1 503 = .ok (.iload_n 3, 1) := by decide +kernel
theorem D_Law_law_504 : decode m_Law_law.2.1 504 = .ok (.iconst 1, 1) := by decide +kernel
theorem D_Law_law_505 : decode m_Law_law.2.1 505 = .ok (.iadd, 1) := by decide +kernel
theorem D_Law_law_506 : decode m_Law_law.2.1 506 = .ok (.iaload, 1) := by decide +kernel
theorem D_Law_law_507 : decode m_Law_law.2.1 507 = .ok (.aload_n 0, 1) := by decide +kernel
theorem D_Law_law_508 : decode m_Law_law.2.1 508 = .ok (.iload_n 3, 1) := by decide +kernel
theorem D_Law_law_509 : decode m_Law_law.2.1 509 = .ok (.iconst 2, 1) := by decide +kernel
theorem D_Law_law_510 : decode m_Law_law.2.1 510 = .ok (.iadd, 1) := by decide +kernel
theorem D_Law_law_511 : decode m_Law_law.2.1 511 = .ok (.iaload, 1) := by decide +kernel
theorem D_Law_law_512 : decode m_Law_law.2.1 512 = .ok (.aload_n 0, 1) := by decide +kernel
theorem D_Law_law_513 : decode m_Law_law.2.1 513 = .ok (.iload_n 3, 1) := by decide +kernel
theorem D_Law_law_514 : decode m_Law_law.2.1 514 = .ok (.iconst 3, 1) := by decide +kernel
theorem D_Law_law_515 : decode m_Law_law.2.1 515 = .ok (.iadd, 1) := by decide +kernel
theorem D_Law_law_516 : decode m_Law_law.2.1 516 = .ok (.iaload, 1) := by decide +kernel
theorem D_Law_law_517 : decode m_Law_law.2.1 517 = .ok (.invokevirtual 68, 3) := by decide +kernel
theorem D_Law_law_520 : decode m_Law_law.2.1 520 = .ok (.if_icmp .eq 180, 3) := by decide +kernel
theorem D_Law_law_523 : decode m_Law_law.2.1 523 = .ok (.iconst 0, 1) := by decide +kernel
theorem D_Law_law_524 : decode m_Law_law.2.1 524 = .ok (.ireturn, 1) := by decide +kernel
theorem D_Law_law_525 : decode m_Law_law.2.1 525 = .ok (.aload_n 1, 1) := by decide +kernel
theorem D_Law_law_526 : decode m_Law_law.2.1 526 = .ok (.invokevirtual 69, 3) := by decide +kernel
theorem D_Law_law_529 : decode m_Law_law.2.1 529 = .ok (.aload_n 2, 1) := by decide +kernel
theorem D_Law_law_530 : decode m_Law_law.2.1 530 = .ok (.invokevirtual 72, 3) := by decide +kernel
theorem D_Law_law_533 : decode m_Law_law.2.1 533 = .ok (.lcmp, 1) := by decide +kernel
theorem D_Law_law_534 : decode m_Law_law.2.1 534 = .ok (.ifCond .eq 166, 3) := by decide +kernel
theorem D_Law_law_537 : decode m_Law_law.2.1 537 = .ok (.iconst 0, 1) := by decide +kernel
theorem D_Law_law_538 : decode m_Law_law.2.1 538 = .ok (.ireturn, 1) := by decide +kernel
theorem D_Law_law_539 : decode m_Law_law.2.1 539 = .ok (.aload_n 1, 1) := by decide +kernel
theorem D_Law_law_540 : decode m_Law_law.2.1 540 = .ok (.aload_n 0, 1) := by decide +kernel
theorem D_Law_law_541 : decode m_Law_law.2.1 541 = .ok (.iload_n 3, 1) := by decide +kernel
theorem D_Law_law_542 : decode m_Law_law.2.1 542 = .ok (.iconst 1, 1) := by decide +kernel
theorem D_Law_law_543 : decode m_Law_law.2.1 543 = .ok (.iadd, 1) := by decide +kernel
theorem D_Law_law_544 : decode m_Law_law.2.1 544 = .ok (.iaload, 1) := by decide +kernel
theorem D_Law_law_545 : decode m_Law_law.2.1 545 = .ok (.invokevirtual 73, 3) := by decide +kernel
theorem D_Law_law_548 : decode m_Law_law.2.1 548 = .ok (.aload_n 2, 1) := by decide +kernel
theorem D_Law_law_549 : decode m_Law_law.2.1 549 = .ok (.aload_n 0, 1) := by decide +kernel
theorem D_Law_law_550 : decode m_Law_law.2.1 550 = .ok (.iload_n 3, 1) := by decide +kernel
theorem D_Law_law_551 : decode m_Law_law.2.1 551 = .ok (.iconst 1, 1) := by decide +kernel
theorem D_Law_law_552 : decode m_Law_law.2.1 552 = .ok (.iadd, 1) := by decide +kernel
theorem D_Law_law_553 : decode m_Law_law.2.1 553 = .ok (.iaload, 1) := by decide +kernel
theorem D_Law_law_554 : decode m_Law_law.2.1 554 = .ok (.invokevirtual 76, 3) := by decide +kernel
theorem D_Law_law_557 : decode m_Law_law.2.1 557 = .ok (.if_icmp .eq 143, 3) := by decide +kernel
theorem D_Law_law_560 : decode m_Law_law.2.1 560 = .ok (.iconst 0, 1) := by decide +kernel
theorem D_Law_law_561 : decode m_Law_law.2.1 561 = .ok (.ireturn, 1) := by decide +kernel
theorem D_Law_law_562 : decode m_Law_law.2.1 562 = .ok (.aload_n 1, 1) := by decide +kernel
theorem D_Law_law_563 : decode m_Law_law.2.1 563 = .ok (.aload_n 0, 1) := by decide +kernel
theorem D_Law_law_564 : decode m_Law_law.2.1 564 = .ok (.iload_n 3, 1) := by decide +kernel
theorem D_Law_law_565 : decode m_Law_law.2.1 565 = .ok (.iconst 1, 1) := by decide +kernel
theorem D_Law_law_566 : decode m_Law_law.2.1 566 = .ok (.iadd, 1) := by decide +kernel
theorem D_Law_law_567 : decode m_Law_law.2.1 567 = .ok (.iaload, 1) := by decide +kernel
theorem D_Law_law_568 : decode m_Law_law.2.1 568 = .ok (.i2l, 1) := by decide +kernel
theorem D_Law_law_569 : decode m_Law_law.2.1 569 = .ok (.bipush 32, 2) := by decide +kernel
theorem D_Law_law_571 : decode m_Law_law.2.1 571 = .ok (.lshl, 1) := by decide +kernel
theorem D_Law_law_572 : decode m_Law_law.2.1 572 = .ok (.aload_n 0, 1) := by decide +kernel
theorem D_Law_law_573 : decode m_Law_law.2.1 573 = .ok (.iload_n 3, 1) := by decide +kernel
theorem D_Law_law_574 : decode m_Law_law.2.1 574 = .ok (.iconst 2, 1) := by decide +kernel
theorem D_Law_law_575 : decode m_Law_law.2.1 575 = .ok (.iadd, 1) := by decide +kernel
theorem D_Law_law_576 : decode m_Law_law.2.1 576 = .ok (.iaload, 1) := by decide +kernel
theorem D_Law_law_577 : decode m_Law_law.2.1 577 = .ok (.i2l, 1) := by decide +kernel
theorem D_Law_law_578 : decode m_Law_law.2.1 578 = .ok (.ldc2_w 58, 3) := by decide +kernel
theorem D_Law_law_581 : decode m_Law_law.2.1 581 = .ok (.land, 1) := by decide +kernel
theorem D_Law_law_582 : decode m_Law_law.2.1 582 = .ok (.lor, 1) := by decide +kernel
theorem D_Law_law_583 : decode m_Law_law.2.1 583 = .ok (.invokevirtual 77, 3) := by decide +kernel
theorem D_Law_law_586 : decode m_Law_law.2.1 586 = .ok (.aload_n 2, 1) := by decide +kernel
theorem D_Law_law_587 : decode m_Law_law.2.1 587 = .ok (.aload_n 0, 1) := by decide +kernel
theorem D_Law_law_588 : decode m_Law_law.2.1 588 = .ok (.iload_n 3, 1) := by decide +kernel
theorem D_Law_law_589 : decode m_Law_law.2.1 589 = .ok (.iconst 1, 1) := by decide +kernel
theorem D_Law_law_590 : decode m_Law_law.2.1 590 = .ok (.iadd, 1) := by decide +kernel
theorem D_Law_law_591 : decode m_Law_law.2.1 591 = .ok (.iaload, 1) := by decide +kernel
theorem D_Law_law_592 : decode m_Law_law.2.1 592 = .ok (.i2l, 1) := by decide +kernel
theorem D_Law_law_593 : decode m_Law_law.2.1 593 = .ok (.bipush 32, 2) := by decide +kernel
theorem D_Law_law_595 : decode m_Law_law.2.1 595 = .ok (.lshl, 1) := by decide +kernel
theorem D_Law_law_596 : decode m_Law_law.2.1 596 = .ok (.aload_n 0, 1) := by decide +kernel
theorem D_Law_law_597 : decode m_Law_law.2.1 597 = .ok (.iload_n 3, 1) := by decide +kernel
theorem D_Law_law_598 : decode m_Law_law.2.1 598 = .ok (.iconst 2, 1) := by decide +kernel
theorem D_Law_law_599 : decode m_Law_law.2.1 599 = .ok (.iadd, 1) := by decide +kernel
theorem D_Law_law_600 : decode m_Law_law.2.1 600 = .ok (.iaload, 1) := by decide +kernel
theorem D_Law_law_601 : decode m_Law_law.2.1 601 = .ok (.i2l, 1) := by decide +kernel
theorem D_Law_law_602 : decode m_Law_law.2.1 602 = .ok (.ldc2_w 58, 3) := by decide +kernel
theorem D_Law_law_605 : decode m_Law_law.2.1 605 = .ok (.land, 1) := by decide +kernel
theorem D_Law_law_606 : decode m_Law_law.2.1 606 = .ok (.lor, 1) := by decide +kernel
theorem D_Law_law_607 : decode m_Law_law.2.1 607 = .ok (.invokevirtual 81, 3) := by decide +kernel
theorem D_Law_law_610 : decode m_Law_law.2.1 610 = .ok (.if_icmp .eq 90, 3) := by decide +kernel
theorem D_Law_law_613 : decode m_Law_law.2.1 613 = .ok (.iconst 0, 1) := by decide +kernel
theorem D_Law_law_614 : decode m_Law_law.2.1 614 = .ok (.ireturn, 1) := by decide +kernel
theorem D_Law_law_615 : decode m_Law_law.2.1 615 = .ok (.aload_n 1, 1) := by decide +kernel
theorem D_Law_law_616 : decode m_Law_law.2.1 616 = .ok (.invokevirtual 82, 3) := by decide +kernel
theorem D_Law_law_619 : decode m_Law_law.2.1 619 = .ok (.aload_n 2, 1) := by decide +kernel
theorem D_Law_law_620 : decode m_Law_law.2.1 620 = .ok (.invokevirtual 85, 3) := by decide +kernel
theorem D_Law_law_623 : decode m_Law_law.2.1 623 = .ok (.if_icmp .eq 77, 3) := by decide +kernel
theorem D_Law_law_626 : decode m_Law_law.2.1 626 = .ok (.iconst 0, 1) := by decide +kernel
theorem D_Law_law_627 : decode m_Law_law.2.1 627 = .ok (.ireturn, 1) := by decide +kernel
theorem D_Law_law_628 : decode m_Law_law.2.1 628 = .ok (.aload_n 1, 1) := by decide +kernel
theorem D_Law_law_629 : decode m_Law_law.2.1 629 = .ok (.invokevirtual 86, 3) := by decide +kernel
theorem D_Law_law_632 : decode m_Law_law.2.1 632 = .ok (.aload_n 2, 1) := by decide +kernel
theorem D_Law_law_633 : decode m_Law_law.2.1 633 = .ok (.invokevirtual 89, 3) := by decide +kernel
theorem D_Law_law_636 : decode m_Law_law.2.1 636 = .ok (.if_icmp .eq 64, 3) := by decide +kernel
theorem D_Law_law_639 : decode m_Law_law.2.1 639 = .ok (.iconst 0, 1) := by decide +kernel
theorem D_Law_law_640 : decode m_Law_law.2.1 640 = .ok (.ireturn, 1) := by decide +kernel
theorem D_Law_law_641 : decode m_Law_law.2.1 641 = .ok (.aload_n 1, 1) := by decide +kernel
theorem D_Law_law_642 : decode m_Law_law.2.1 642 = .ok (.invokevirtual 90, 3) := by decide +kernel
theorem D_Law_law_645 : decode m_Law_law.2.1 645 = .ok (.aload_n 2, 1) := by decide +kernel
theorem D_Law_law_646 : decode m_Law_law.2.1 646 = .ok (.invokevirtual 93, 3) := by decide +kernel
theorem D_Law_law_649 : decode m_Law_law.2.1 649 = .ok (.if_icmp .eq 51, 3) := by decide +kernel
theorem D_Law_law_652 : decode m_Law_law.2.1 652 = .ok (.iconst 0, 1) := by decide +kernel
theorem D_Law_law_653 : decode m_Law_law.2.1 653 = .ok (.ireturn, 1) := by decide +kernel
theorem D_Law_law_654 : decode m_Law_law.2.1 654 = .ok (.aload_n 1, 1) := by decide +kernel
theorem D_Law_law_655 : decode m_Law_law.2.1 655 = .ok (.aload_n 0, 1) := by decide +kernel
theorem D_Law_law_656 : decode m_Law_law.2.1 656 = .ok (.iload_n 3, 1) := by decide +kernel
theorem D_Law_law_657 : decode m_Law_law.2.1 657 = .ok (.iconst 1, 1) := by decide +kernel
theorem D_Law_law_658 : decode m_Law_law.2.1 658 = .ok (.iadd, 1) := by decide +kernel
theorem D_Law_law_659 : decode m_Law_law.2.1 659 = .ok (.iaload, 1) := by decide +kernel
theorem D_Law_law_660 : decode m_Law_law.2.1 660 = .ok (.invokevirtual 94, 3) := by decide +kernel
theorem D_Law_law_663 : decode m_Law_law.2.1 663 = .ok (.aload_n 2, 1) := by decide +kernel
theorem D_Law_law_664 : decode m_Law_law.2.1 664 = .ok (.aload_n 0, 1) := by decide +kernel
theorem D_Law_law_665 : decode m_Law_law.2.1 665 = .ok (.iload_n 3, 1) := by decide +kernel
theorem D_Law_law_666 : decode m_Law_law.2.1 666 = .ok (.iconst 1, 1) := by decide +kernel
theorem D_Law_law_667 : decode m_Law_law.2.1 667 = .ok (.iadd, 1) := by decide +kernel
theorem D_Law_law_668 : decode m_Law_law.2.1 668 = .ok (.iaload, 1) := by decide +kernel
theorem D_Law_law_669 : decode m_Law_law.2.1 669 = .ok (.invokevirtual 97, 3) := by decide +kernel
theorem D_Law_law_672 : decode m_Law_law.2.1 672 = .ok (.if_icmp .eq 28, 3) := by decide +kernel
theorem D_Law_law_675 : decode m_Law_law.2.1 675 = .ok (.iconst 0, 1) := by decide +kernel
theorem D_Law_law_676 : decode m_Law_law.2.1 676 = .ok (.ireturn, 1) := by decide +kernel
theorem D_Law_law_677 : decode m_Law_law.2.1 677 = .ok (.aload_n 1, 1) := by decide +kernel
theorem D_Law_law_678 : decode m_Law_law.2.1 678 = .ok (.aload_n 0, 1) := by decide +kernel
theorem D_Law_law_679 : decode m_Law_law.2.1 679 = .ok (.iload_n 3, 1) := by decide +kernel
theorem D_Law_law_680 : decode m_Law_law.2.1 680 = .ok (.iconst 1, 1) := by decide +kernel
theorem D_Law_law_681 : decode m_Law_law.2.1 681 = .ok (.iadd, 1) := by decide +kernel
theorem D_Law_law_682 : decode m_Law_law.2.1 682 = .ok (.iaload, 1) := by decide +kernel
theorem D_Law_law_683 : decode m_Law_law.2.1 683 = .ok (.invokevirtual 98, 3) := by decide +kernel
theorem D_Law_law_686 : decode m_Law_law.2.1 686 = .ok (.aload_n 2, 1) := by decide +kernel
theorem D_Law_law_687 : decode m_Law_law.2.1 687 = .ok (.aload_n 0, 1) := by decide +kernel
theorem D_Law_law_688 : decode m_Law_law.2.1 688 = .ok (.iload_n 3, 1) := by decide +kernel
theorem D_Law_law_689 : decode m_Law_law.2.1 689 = .ok (.iconst 1, 1) := by decide +kernel
theorem D_Law_law_690 : decode m_Law_law.2.1 690 = .ok (.iadd, 1) := by decide +kernel
theorem D_Law_law_691 : decode m_Law_law.2.1 691 = .ok (.iaload, 1) := by decide +kernel
theorem D_Law_law_692 : decode m_Law_law.2.1 692 = .ok (.invokevirtual 101, 3) := by decide +kernel
theorem D_Law_law_695 : decode m_Law_law.2.1 695 = .ok (.if_icmp .eq 5, 3) := by decide +kernel
theorem D_Law_law_698 : decode m_Law_law.2.1 698 = .ok (.iconst 0, 1) := by decide +kernel
theorem D_Law_law_699 : decode m_Law_law.2.1 699 = .ok (.ireturn, 1) := by decide +kernel
theorem D_Law_law_700 : decode m_Law_law.2.1 700 = .ok (.iinc 3 5, 3) := by decide +kernel
theorem D_Law_law_703 : decode m_Law_law.2.1 703 = .ok (.goto (-685), 3) := by decide +kernel
theorem D_Law_law_706 : decode m_Law_law.2.1 706 = .ok (.iconst 1, 1) := by decide +kernel
theorem D_Law_law_707 : decode m_Law_law.2.1 707 = .ok (.ireturn, 1) := by decide +kernel
end
section
/-! ===== more rules ===== -/
section MORE
variable {l : Launch} {M : sM} {d : Nat} {B : sB} {K : sK} {pc p' : Nat} {lv : List (Option Value)} {st : List Value} {h : sH}
theorem e_mmax {idx : Nat} {x y : Int32} (hd : decode M.2.1 pc = .ok (.invokestatic idx, 3)) (F : Cond.methodLink M.1.cls idx Lib.Math.max.name ∈ lw_good) (hst : (st.map fun v => v.category).sum ≤ 8) (hdp : 1 ≤ d) (hB : B.1 ≤ B.2.2.1 ∧ B.2.1 ≤ B.2.2.2) (hp : pc + 3 = p') (kk : sEv l M d B K p' lv (.int (if x < y then y else x) :: st) h) : sEv l M d B K pc lv (.int y :: .int x :: st) h := by
  subst hp
  intro G p e R s m args below meth c H locs ls C hR hS hL
  have k2 := kk G p e R s m args below meth c H locs ls C hR hS hL
  obtain ⟨hx, hb, hml, hrt, hlk, hown, hin, hts, hBa, hrm, hG, hK⟩ := C
  refine va_mmax hx hb (hml.trans hL.1.symm) hown (hts _ F) (hts _ ?_) (hts _ ml_Math_max.2.1) (hts _ ml_Math_max.1) (by omega) ?_ (Nat.le_trans hB.1 hrm.2.2.1) (Nat.le_trans hB.2 hrm.2.2.2) hd k2
  · exact S_Num_7.2.2
  · have h1 := hrm.2.1
    rw [sTr_sum]
    omega
theorem e_mmaxN {idx a b : Nat} (hd : decode M.2.1 pc = .ok (.invokestatic idx, 3)) (F : Cond.methodLink M.1.cls idx Lib.Math.max.name ∈ lw_good) (ha : a < 2 ^ 31) (hb : b < 2 ^ 31) (hst : (st.map fun v => v.category).sum ≤ 8) (hdp : 1 ≤ d) (hB : B.1 ≤ B.2.2.1 ∧ B.2.1 ≤ B.2.2.2) (hp : pc + 3 = p') (kk : sEv l M d B K p' lv (.int (nI (max a b)) :: st) h) : sEv l M d B K pc lv (.int (nI b) :: .int (nI a) :: st) h := by
  refine e_mmax hd F hst hdp hB hp ?_
  have e : (if nI a < nI b then nI b else nI a) = nI (max a b) := by
    by_cases hc : a < b
    · rw [if_pos ((nI_ltI ha hb).mpr hc), Nat.max_eq_right (Nat.le_of_lt hc)]
    · rw [if_neg (fun z => hc ((nI_ltI ha hb).mp z)), Nat.max_eq_left (Nat.not_lt.mp hc)]
  rw [e]
  exact kk
theorem sEv.cast {pc2 : Nat} {lv2 : List (Option Value)} {st2 : List Value} {h2 : sH} (k : sEv l M d B K pc2 lv2 st2 h2) (e1 : lv = lv2) (e2 : st = st2) (e3 : h = h2) : sEv l M d B K pc2 lv st h := by
  subst e1; subst e2; subst e3; exact k
/-- a counting loop: from the end back -/
theorem lp_up {N : Nat} (P : Nat → Prop) (h0 : P N) (hs : ∀ i, i < N → P (i + 1) → P i) : ∀ i, i ≤ N → P i := by
  have key : ∀ k i, i + k = N → P i := by
    intro k
    induction k with
    | zero => intro i hi; rw [Nat.add_zero] at hi; rw [hi]; exact h0
    | succ k ih => intro i hi; exact hs i (by omega) (ih (i + 1) (by omega))
  intro i hi
  exact key (N - i) i (by omega)
-- exact contracts: one answer, one heap
def sX (l : Launch) (M : sM) (d : Nat) (as : List Value) (h : sH) (r : Option Value) (h' : sH) : Prop := sCall l M d 0 0 as h (fun r1 h1 => r1 = r ∧ h1 = h')
variable {M' : sM} {n d' mc ms idx : Nat} {As st0 : List Value} {r : Option Value} {h' : sH}
theorem sB0 {B : sB} (hB : B.1 ≤ B.2.2.1 ∧ B.2.1 ≤ B.2.2.2) : B.1 + 0 ≤ B.2.2.1 ∧ B.2.1 + 0 ≤ B.2.2.2 := hB
theorem x_callV {a ci : Nat} {fs : List Value} (hd : decode M.2.1 pc = .ok (.invokevirtual idx, 3)) (F : sVL M.1.cls idx ci M' n) (hc : sX l M' d' (.ref a :: As) h r h') (hn : As.length = n) (hr : h.2 a = .inr (.inr (ci, fs))) (hst : st0 = As.reverse ++ .ref a :: st) (hcat : (st.map fun v => v.category).sum ≤ 8) (hdp : d' + 1 ≤ d) (hB : B.1 ≤ B.2.2.1 ∧ B.2.1 ≤ B.2.2.2) (hp : pc + 3 = p')
    (kk : sEv l M d B K p' lv (r.toList ++ st) h') : sEv l M d B K pc lv st0 h := by
  refine e_callV hd F hc hn hr hst hcat hdp hB hp (fun r1 h1 hq => ?_)
  rw [hq.1, hq.2]
  exact kk
theorem x_callS (hd : decode M.2.1 pc = .ok (.invokestatic idx, 3)) (F : sSL M.1.cls idx M' n) (hc : sX l M' d' As h r h') (hn : As.length = n) (hst : st0 = As.reverse ++ st) (hcat : (st.map fun v => v.category).sum ≤ 8) (hdp : d' + 1 ≤ d) (hB : B.1 ≤ B.2.2.1 ∧ B.2.1 ≤ B.2.2.2) (hp : pc + 3 = p')
    (kk : sEv l M d B K p' lv (r.toList ++ st) h') : sEv l M d B K pc lv st0 h := by
  refine e_callS hd F hc hn hst hcat hdp hB hp (fun r1 h1 hq => ?_)
  rw [hq.1, hq.2]
  exact kk
theorem x_callSN (hd : decode M.2.1 pc = .ok (.invokestatic idx, 3)) (F : sSNL M.1.cls idx M' n) (hc : sX l M' d' As h r h') (hn : As.length = n) (hst : st0 = As.reverse ++ st) (hcat : (st.map fun v => v.category).sum ≤ 8) (hdp : d' + 1 ≤ d) (hB : B.1 ≤ B.2.2.1 ∧ B.2.1 ≤ B.2.2.2) (hp : pc + 3 = p')
    (kk : sEv l M d B K p' lv (r.toList ++ st) h') : sEv l M d B K pc lv st0 h := by
  refine e_callSN hd F hc hn hst hcat hdp hB hp (fun r1 h1 hq => ?_)
  rw [hq.1, hq.2]
  exact kk
end MORE
end
section
/-! ===== what the scripts of wip/whole/gen.py use ===== -/
abbrev oC (ci : Nat) (fs : List Value) : sC := .inr (.inr (ci, fs))
abbrev iA (n : Nat) (f : Nat → Int32) : sC := .inl (0, n, f)
abbrev qA (t n : Nat) (f : Nat → Option Nat) : sC := .inr (.inl (t, n, f))
theorem sUp_eq {h : sH} {a : Nat} {c : sC} : (sUp h a c).2 a = c := if_pos rfl
theorem sUp_ne {h : sH} {a b : Nat} {c : sC} (n : a ≠ b) : (sUp h b c).2 a = h.2 a := if_neg n
theorem sUp_sUp {h : sH} {a : Nat} {c c' : sC} : sUp (sUp h a c) a c' = sUp h a c' := by
  unfold sUp
  congr 1
  funext j
  by_cases e : j = a <;> simp [e]
theorem sUp_self {h : sH} {a : Nat} {c : sC} (e : h.2 a = c) : sUp h a c = h := by
  unfold sUp
  refine Prod.ext rfl ?_
  funext j
  by_cases q : j = a
  · subst q; simp [e]
  · simp [q]
theorem sUp_comm {h : sH} {a b : Nat} {c c' : sC} (n : a ≠ b) : sUp (sUp h a c) b c' = sUp (sUp h b c') a c := by
  unfold sUp
  congr 1
  funext j
  by_cases e : j = b
  · by_cases e2 : j = a
    · exact absurd (e2.symm.trans e) n
    · subst e; simp [e2]
  · by_cases e2 : j = a
    · subst e2; simp [n]
    · simp [e, e2]
def lvW : List (Option Value) → List (Option Value) → Prop
  | [], [] => True
  | none :: a, _ :: b => lvW a b
  | some v :: a, o :: b => o = some v ∧ lvW a b
  | _, _ => False
theorem lvW_rfl : ∀ a : List (Option Value), lvW a a
  | [] => trivial
  | none :: a => lvW_rfl a
  | some _ :: a => ⟨rfl, lvW_rfl a⟩
theorem lvW_get : ∀ {a b : List (Option Value)}, lvW a b → ∀ {i : Nat} {v : Value}, a[i]? = some (some v) → b[i]? = some (some v)
  | [], [], _, i, v, h => by simp at h
  | none :: a, o :: b, hw, 0, v, h => by simp at h
  | none :: a, o :: b, hw, i + 1, v, h => by
    rw [List.getElem?_cons_succ] at h ⊢
    exact lvW_get (a := a) (b := b) hw h
  | some w :: a, o :: b, hw, 0, v, h => by
    rw [List.getElem?_cons_zero] at h ⊢
    rw [hw.1]; exact h
  | some w :: a, o :: b, hw, i + 1, v, h => by
    rw [List.getElem?_cons_succ] at h ⊢
    exact lvW_get (a := a) (b := b) hw.2 h
section SUP
variable {l : Launch} {M : sM} {d : Nat} {B : sB} {K : sK} {pc p' : Nat} {lv : List (Option Value)} {st : List Value} {h : sH}
theorem sEv.castW {lv2 : List (Option Value)} {st2 : List Value} {h2 : sH} (k : sEv l M d B K pc lv2 st2 h2) (e1 : lvW lv2 lv) (e2 : st = st2) (e3 : h = h2) : sEv l M d B K pc lv st h := by
  subst e2; subst e3
  intro G p e R s m args below meth c H locs ls C hR hS hL
  refine k G p e R s m args below meth c H locs ls C hR hS ⟨hL.1, hL.2.1, fun q hq => ?_⟩
  obtain ⟨v, h1, h2⟩ := sLv_mem.mp hq
  exact hL.2.2 q (sLv_mem.mpr ⟨v, lvW_get e1 h1, h2⟩)
theorem sBo_nar (b : Bool) : narrow .boolean (.int (sBo b)) = .int (sBo b) := by cases b <;> rfl
theorem sBo_nar1 : narrow .boolean (.int (nI 1)) = .int (nI 1) := rfl
theorem sBo_nar0 : narrow .boolean (.int (nI 0)) = .int (nI 0) := rfl
variable {M' : sM} {n d' mc ms idx : Nat} {As st0 : List Value} {v : Value} {h' : sH}
theorem x_callV1 {a ci : Nat} {fs : List Value} (hd : decode M.2.1 pc = .ok (.invokevirtual idx, 3)) (F : sVL M.1.cls idx ci M' n) (hc : sX l M' d' (.ref a :: As) h (some v) h') (hn : As.length = n) (hr : h.2 a = .inr (.inr (ci, fs))) (hst : st0 = As.reverse ++ .ref a :: st) (hcat : (st.map fun v => v.category).sum ≤ 8) (hdp : d' + 1 ≤ d) (hB : B.1 ≤ B.2.2.1 ∧ B.2.1 ≤ B.2.2.2) (hp : pc + 3 = p')
    (kk : sEv l M d B K p' lv (v :: st) h') : sEv l M d B K pc lv st0 h := by
  refine e_callV hd F hc hn hr hst hcat hdp hB hp (fun r1 h1 hq => ?_)
  rw [hq.1, hq.2]
  exact kk
theorem x_callV0 {a ci : Nat} {fs : List Value} (hd : decode M.2.1 pc = .ok (.invokevirtual idx, 3)) (F : sVL M.1.cls idx ci M' n) (hc : sX l M' d' (.ref a :: As) h none h') (hn : As.length = n) (hr : h.2 a = .inr (.inr (ci, fs))) (hst : st0 = As.reverse ++ .ref a :: st) (hcat : (st.map fun v => v.category).sum ≤ 8) (hdp : d' + 1 ≤ d) (hB : B.1 ≤ B.2.2.1 ∧ B.2.1 ≤ B.2.2.2) (hp : pc + 3 = p')
    (kk : sEv l M d B K p' lv st h') : sEv l M d B K pc lv st0 h := by
  refine e_callV hd F hc hn hr hst hcat hdp hB hp (fun r1 h1 hq => ?_)
  rw [hq.1, hq.2]
  exact kk
theorem x_callS1 (hd : decode M.2.1 pc = .ok (.invokestatic idx, 3)) (F : sSL M.1.cls idx M' n) (hc : sX l M' d' As h (some v) h') (hn : As.length = n) (hst : st0 = As.reverse ++ st) (hcat : (st.map fun v => v.category).sum ≤ 8) (hdp : d' + 1 ≤ d) (hB : B.1 ≤ B.2.2.1 ∧ B.2.1 ≤ B.2.2.2) (hp : pc + 3 = p')
    (kk : sEv l M d B K p' lv (v :: st) h') : sEv l M d B K pc lv st0 h := by
  refine e_callS hd F hc hn hst hcat hdp hB hp (fun r1 h1 hq => ?_)
  rw [hq.1, hq.2]
  exact kk
theorem x_callS0 (hd : decode M.2.1 pc = .ok (.invokestatic idx, 3)) (F : sSL M.1.cls idx M' n) (hc : sX l M' d' As h none h') (hn : As.length = n) (hst : st0 = As.reverse ++ st) (hcat : (st.map fun v => v.category).sum ≤ 8) (hdp : d' + 1 ≤ d) (hB : B.1 ≤ B.2.2.1 ∧ B.2.1 ≤ B.2.2.2) (hp : pc + 3 = p')
    (kk : sEv l M d B K p' lv st h') : sEv l M d B K pc lv st0 h := by
  refine e_callS hd F hc hn hst hcat hdp hB hp (fun r1 h1 hq => ?_)
  rw [hq.1, hq.2]
  exact kk
theorem x_callSN1 (hd : decode M.2.1 pc = .ok (.invokestatic idx, 3)) (F : sSNL M.1.cls idx M' n) (hc : sX l M' d' As h (some v) h') (hn : As.length = n) (hst : st0 = As.reverse ++ st) (hcat : (st.map fun v => v.category).sum ≤ 8) (hdp : d' + 1 ≤ d) (hB : B.1 ≤ B.2.2.1 ∧ B.2.1 ≤ B.2.2.2) (hp : pc + 3 = p')
    (kk : sEv l M d B K p' lv (v :: st) h') : sEv l M d B K pc lv st0 h := by
  refine e_callSN hd F hc hn hst hcat hdp hB hp (fun r1 h1 hq => ?_)
  rw [hq.1, hq.2]
  exact kk
theorem x_callSN0 (hd : decode M.2.1 pc = .ok (.invokestatic idx, 3)) (F : sSNL M.1.cls idx M' n) (hc : sX l M' d' As h none h') (hn : As.length = n) (hst : st0 = As.reverse ++ st) (hcat : (st.map fun v => v.category).sum ≤ 8) (hdp : d' + 1 ≤ d) (hB : B.1 ≤ B.2.2.1 ∧ B.2.1 ≤ B.2.2.2) (hp : pc + 3 = p')
    (kk : sEv l M d B K p' lv st h') : sEv l M d B K pc lv st0 h := by
  refine e_callSN hd F hc hn hst hcat hdp hB hp (fun r1 h1 hq => ?_)
  rw [hq.1, hq.2]
  exact kk
theorem x_callI1 {a : Nat} (hd : decode M.2.1 pc = .ok (.invokespecial idx, 3)) (F : sIL M.1.cls idx M' n) (hc : sX l M' d' (.ref a :: As) h (some v) h') (hn : As.length = n) (hst : st0 = As.reverse ++ .ref a :: st) (hcat : (st.map fun v => v.category).sum ≤ 8) (hdp : d' + 1 ≤ d) (hB : B.1 ≤ B.2.2.1 ∧ B.2.1 ≤ B.2.2.2) (hp : pc + 3 = p')
    (kk : sEv l M d B K p' lv (v :: st) h') : sEv l M d B K pc lv st0 h := by
  refine e_callI hd F hc hn hst hcat hdp hB hp (fun r1 h1 hq => ?_)
  rw [hq.1, hq.2]
  exact kk
theorem x_callI0 {a : Nat} (hd : decode M.2.1 pc = .ok (.invokespecial idx, 3)) (F : sIL M.1.cls idx M' n) (hc : sX l M' d' (.ref a :: As) h none h') (hn : As.length = n) (hst : st0 = As.reverse ++ .ref a :: st) (hcat : (st.map fun v => v.category).sum ≤ 8) (hdp : d' + 1 ≤ d) (hB : B.1 ≤ B.2.2.1 ∧ B.2.1 ≤ B.2.2.2) (hp : pc + 3 = p')
    (kk : sEv l M d B K p' lv st h') : sEv l M d B K pc lv st0 h := by
  refine e_callI hd F hc hn hst hcat hdp hB hp (fun r1 h1 hq => ?_)
  rw [hq.1, hq.2]
  exact kk
theorem x_callIN1 {a : Nat} (hd : decode M.2.1 pc = .ok (.invokespecial idx, 3)) (F : sINL M.1.cls idx M' n) (hc : sX l M' d' (.ref a :: As) h (some v) h') (hn : As.length = n) (hst : st0 = As.reverse ++ .ref a :: st) (hcat : (st.map fun v => v.category).sum ≤ 8) (hdp : d' + 1 ≤ d) (hB : B.1 ≤ B.2.2.1 ∧ B.2.1 ≤ B.2.2.2) (hp : pc + 3 = p')
    (kk : sEv l M d B K p' lv (v :: st) h') : sEv l M d B K pc lv st0 h := by
  refine e_callIN hd F hc hn hst hcat hdp hB hp (fun r1 h1 hq => ?_)
  rw [hq.1, hq.2]
  exact kk
theorem x_callIN0 {a : Nat} (hd : decode M.2.1 pc = .ok (.invokespecial idx, 3)) (F : sINL M.1.cls idx M' n) (hc : sX l M' d' (.ref a :: As) h none h') (hn : As.length = n) (hst : st0 = As.reverse ++ .ref a :: st) (hcat : (st.map fun v => v.category).sum ≤ 8) (hdp : d' + 1 ≤ d) (hB : B.1 ≤ B.2.2.1 ∧ B.2.1 ≤ B.2.2.2) (hp : pc + 3 = p')
    (kk : sEv l M d B K p' lv st h') : sEv l M d B K pc lv st0 h := by
  refine e_callIN hd F hc hn hst hcat hdp hB hp (fun r1 h1 hq => ?_)
  rw [hq.1, hq.2]
  exact kk
theorem e_iincM_0 {r : List (Option Value)} {a n : Nat} (hd : decode M.2.1 pc = .ok (.iinc 0 (-(n : Int)), 3)) (hn : 0 < M.2.2.1) (ha : n ≤ a) (hp : pc + 3 = p') (kk : sEv l M d B K p' (some (.int (nI (a - n))) :: r) st h) : sEv l M d B K pc (some (.int (nI a)) :: r) st h := e_iinc_0 hd hn (by rw [← pk_sub ha, Int32.ofInt_neg, ← Int32.sub_eq_add_neg]; rfl) hp kk
theorem e_iincM_1 {a0 : Option Value} {r : List (Option Value)} {a n : Nat} (hd : decode M.2.1 pc = .ok (.iinc 1 (-(n : Int)), 3)) (hn : 1 < M.2.2.1) (hno : sN1 a0 = true) (ha : n ≤ a) (hp : pc + 3 = p') (kk : sEv l M d B K p' (a0 :: some (.int (nI (a - n))) :: r) st h) : sEv l M d B K pc (a0 :: some (.int (nI a)) :: r) st h := e_iinc_1 hd hn hno (by rw [← pk_sub ha, Int32.ofInt_neg, ← Int32.sub_eq_add_neg]; rfl) hp kk
theorem e_iincM_2 {a0 a1 : Option Value} {r : List (Option Value)} {a n : Nat} (hd : decode M.2.1 pc = .ok (.iinc 2 (-(n : Int)), 3)) (hn : 2 < M.2.2.1) (hno : sN1 a1 = true) (ha : n ≤ a) (hp : pc + 3 = p') (kk : sEv l M d B K p' (a0 :: a1 :: some (.int (nI (a - n))) :: r) st h) : sEv l M d B K pc (a0 :: a1 :: some (.int (nI a)) :: r) st h := e_iinc_2 hd hn hno (by rw [← pk_sub ha, Int32.ofInt_neg, ← Int32.sub_eq_add_neg]; rfl) hp kk
theorem e_iincM_3 {a0 a1 a2 : Option Value} {r : List (Option Value)} {a n : Nat} (hd : decode M.2.1 pc = .ok (.iinc 3 (-(n : Int)), 3)) (hn : 3 < M.2.2.1) (hno : sN1 a2 = true) (ha : n ≤ a) (hp : pc + 3 = p') (kk : sEv l M d B K p' (a0 :: a1 :: a2 :: some (.int (nI (a - n))) :: r) st h) : sEv l M d B K pc (a0 :: a1 :: a2 :: some (.int (nI a)) :: r) st h := e_iinc_3 hd hn hno (by rw [← pk_sub ha, Int32.ofInt_neg, ← Int32.sub_eq_add_neg]; rfl) hp kk
theorem e_iincM_4 {a0 a1 a2 a3 : Option Value} {r : List (Option Value)} {a n : Nat} (hd : decode M.2.1 pc = .ok (.iinc 4 (-(n : Int)), 3)) (hn : 4 < M.2.2.1) (hno : sN1 a3 = true) (ha : n ≤ a) (hp : pc + 3 = p') (kk : sEv l M d B K p' (a0 :: a1 :: a2 :: a3 :: some (.int (nI (a - n))) :: r) st h) : sEv l M d B K pc (a0 :: a1 :: a2 :: a3 :: some (.int (nI a)) :: r) st h := e_iinc_4 hd hn hno (by rw [← pk_sub ha, Int32.ofInt_neg, ← Int32.sub_eq_add_neg]; rfl) hp kk
theorem e_iincM_5 {a0 a1 a2 a3 a4 : Option Value} {r : List (Option Value)} {a n : Nat} (hd : decode M.2.1 pc = .ok (.iinc 5 (-(n : Int)), 3)) (hn : 5 < M.2.2.1) (hno : sN1 a4 = true) (ha : n ≤ a) (hp : pc + 3 = p') (kk : sEv l M d B K p' (a0 :: a1 :: a2 :: a3 :: a4 :: some (.int (nI (a - n))) :: r) st h) : sEv l M d B K pc (a0 :: a1 :: a2 :: a3 :: a4 :: some (.int (nI a)) :: r) st h := e_iinc_5 hd hn hno (by rw [← pk_sub ha, Int32.ofInt_neg, ← Int32.sub_eq_add_neg]; rfl) hp kk
theorem e_iincM_6 {a0 a1 a2 a3 a4 a5 : Option Value} {r : List (Option Value)} {a n : Nat} (hd : decode M.2.1 pc = .ok (.iinc 6 (-(n : Int)), 3)) (hn : 6 < M.2.2.1) (hno : sN1 a5 = true) (ha : n ≤ a) (hp : pc + 3 = p') (kk : sEv l M d B K p' (a0 :: a1 :: a2 :: a3 :: a4 :: a5 :: some (.int (nI (a - n))) :: r) st h) : sEv l M d B K pc (a0 :: a1 :: a2 :: a3 :: a4 :: a5 :: some (.int (nI a)) :: r) st h := e_iinc_6 hd hn hno (by rw [← pk_sub ha, Int32.ofInt_neg, ← Int32.sub_eq_add_neg]; rfl) hp kk
theorem e_iincM_7 {a0 a1 a2 a3 a4 a5 a6 : Option Value} {r : List (Option Value)} {a n : Nat} (hd : decode M.2.1 pc = .ok (.iinc 7 (-(n : Int)), 3)) (hn : 7 < M.2.2.1) (hno : sN1 a6 = true) (ha : n ≤ a) (hp : pc + 3 = p') (kk : sEv l M d B K p' (a0 :: a1 :: a2 :: a3 :: a4 :: a5 :: a6 :: some (.int (nI (a - n))) :: r) st h) : sEv l M d B K pc (a0 :: a1 :: a2 :: a3 :: a4 :: a5 :: a6 :: some (.int (nI a)) :: r) st h := e_iinc_7 hd hn hno (by rw [← pk_sub ha, Int32.ofInt_neg, ← Int32.sub_eq_add_neg]; rfl) hp kk
theorem e_iincM_8 {a0 a1 a2 a3 a4 a5 a6 a7 : Option Value} {r : List (Option Value)} {a n : Nat} (hd : decode M.2.1 pc = .ok (.iinc 8 (-(n : Int)), 3)) (hn : 8 < M.2.2.1) (hno : sN1 a7 = true) (ha : n ≤ a) (hp : pc + 3 = p') (kk : sEv l M d B K p' (a0 :: a1 :: a2 :: a3 :: a4 :: a5 :: a6 :: a7 :: some (.int (nI (a - n))) :: r) st h) : sEv l M d B K pc (a0 :: a1 :: a2 :: a3 :: a4 :: a5 :: a6 :: a7 :: some (.int (nI a)) :: r) st h := e_iinc_8 hd hn hno (by rw [← pk_sub ha, Int32.ofInt_neg, ← Int32.sub_eq_add_neg]; rfl) hp kk
end SUP
theorem cst_bipush_m2 : (Int8.ofInt (-2)).toInt32 = (-2 : Int32) := by decide +kernel
theorem cst_bipush_m3 : (Int8.ofInt (-3)).toInt32 = (-3 : Int32) := by decide +kernel
theorem cst_bipush_m4 : (Int8.ofInt (-4)).toInt32 = (-4 : Int32) := by decide +kernel
theorem cst_bipush_m5 : (Int8.ofInt (-5)).toInt32 = (-5 : Int32) := by decide +kernel
theorem cst_bipush_m6 : (Int8.ofInt (-6)).toInt32 = (-6 : Int32) := by decide +kernel
theorem cst_bipush_10 : (Int8.ofInt (10)).toInt32 = nI 10 := by decide +kernel
theorem cst_bipush_11 : (Int8.ofInt (11)).toInt32 = nI 11 := by decide +kernel
theorem cst_bipush_12 : (Int8.ofInt (12)).toInt32 = nI 12 := by decide +kernel
theorem cst_bipush_126 : (Int8.ofInt (126)).toInt32 = nI 126 := by decide +kernel
theorem cst_bipush_13 : (Int8.ofInt (13)).toInt32 = nI 13 := by decide +kernel
theorem cst_bipush_16 : (Int8.ofInt (16)).toInt32 = nI 16 := by decide +kernel
theorem cst_bipush_31 : (Int8.ofInt (31)).toInt32 = nI 31 := by decide +kernel
theorem cst_bipush_32 : (Int8.ofInt (32)).toInt32 = nI 32 := by decide +kernel
theorem cst_bipush_33 : (Int8.ofInt (33)).toInt32 = nI 33 := by decide +kernel
theorem cst_bipush_36 : (Int8.ofInt (36)).toInt32 = nI 36 := by decide +kernel
theorem cst_bipush_37 : (Int8.ofInt (37)).toInt32 = nI 37 := by decide +kernel
theorem cst_bipush_38 : (Int8.ofInt (38)).toInt32 = nI 38 := by decide +kernel
theorem cst_bipush_39 : (Int8.ofInt (39)).toInt32 = nI 39 := by decide +kernel
theorem cst_bipush_46 : (Int8.ofInt (46)).toInt32 = nI 46 := by decide +kernel
theorem cst_bipush_47 : (Int8.ofInt (47)).toInt32 = nI 47 := by decide +kernel
theorem cst_bipush_48 : (Int8.ofInt (48)).toInt32 = nI 48 := by decide +kernel
theorem cst_bipush_49 : (Int8.ofInt (49)).toInt32 = nI 49 := by decide +kernel
theorem cst_bipush_50 : (Int8.ofInt (50)).toInt32 = nI 50 := by decide +kernel
theorem cst_bipush_57 : (Int8.ofInt (57)).toInt32 = nI 57 := by decide +kernel
theorem cst_bipush_6 : (Int8.ofInt (6)).toInt32 = nI 6 := by decide +kernel
theorem cst_bipush_63 : (Int8.ofInt (63)).toInt32 = nI 63 := by decide +kernel
theorem cst_bipush_64 : (Int8.ofInt (64)).toInt32 = nI 64 := by decide +kernel
theorem cst_bipush_7 : (Int8.ofInt (7)).toInt32 = nI 7 := by decide +kernel
theorem cst_bipush_78 : (Int8.ofInt (78)).toInt32 = nI 78 := by decide +kernel
theorem cst_bipush_8 : (Int8.ofInt (8)).toInt32 = nI 8 := by decide +kernel
theorem cst_bipush_97 : (Int8.ofInt (97)).toInt32 = nI 97 := by decide +kernel
theorem cst_bipush_99 : (Int8.ofInt (99)).toInt32 = nI 99 := by decide +kernel
theorem cst_iconst_m1 : Int32.ofInt (-1) = (-1 : Int32) := by decide +kernel
theorem cst_iconst_0 : Int32.ofInt (0) = nI 0 := by decide +kernel
theorem cst_iconst_1 : Int32.ofInt (1) = nI 1 := by decide +kernel
theorem cst_iconst_2 : Int32.ofInt (2) = nI 2 := by decide +kernel
theorem cst_iconst_3 : Int32.ofInt (3) = nI 3 := by decide +kernel
theorem cst_iconst_4 : Int32.ofInt (4) = nI 4 := by decide +kernel
theorem cst_iconst_5 : Int32.ofInt (5) = nI 5 := by decide +kernel
theorem cst_sipush_195 : (Int16.ofInt (195)).toInt32 = nI 195 := by decide +kernel
theorem cst_sipush_234 : (Int16.ofInt (234)).toInt32 = nI 234 := by decide +kernel
theorem cst_sipush_255 : (Int16.ofInt (255)).toInt32 = nI 255 := by decide +kernel
theorem cst_sipush_832 : (Int16.ofInt (832)).toInt32 = nI 832 := by decide +kernel
end
section
/-! ===== contracts: Numbers ===== -/
def up (z : Nat → Nat) (p v : Nat) : Nat → Nat := fun k => if k = p then v else z k
def nF (z : Nat → Nat) : Nat → Int32 := fun k => nI (z k)
theorem upd_nF {z : Nat → Nat} {p v : Nat} : upd (nF z) p (nI v) = nF (up z p v) := by
  funext k
  by_cases h : k = p <;> simp [upd, nF, up, h]
theorem upd_same {f : Nat → Int32} {k : Nat} {x y : Int32} : upd (upd f k x) k y = upd f k y := by
  funext j
  by_cases h : j = k <;> simp [upd, h]
theorem sUp_arr {h : sH} {b n : Nat} {f g : Nat → Int32} (e : ∀ k, f k = g k) : sUp h b (iA n f) = sUp h b (iA n g) := by rw [funext e]
theorem upd_at {f : Nat → Int32} {k : Nat} {x : Int32} : upd f k x k = x := if_pos rfl
theorem upd_off {f : Nat → Int32} {k j : Nat} {x : Int32} (n : j ≠ k) : upd f k x j = f j := if_neg n
set_option maxRecDepth 4000 in
theorem c_Num_get {l : Launch} {h : sH} {a b n : Nat} {f : Nat → Int32} (hn : h.2 a = oC 3 [.ref b]) (hb : h.2 b = iA n f) (hl : n < 2 ^ 31) {i : Nat} (hi : i < n) : sX l m_Num_get 0 [.ref a, .int (nI i)] h (some (.int (f i))) (h) := by
  refine en_Num_get ?_
  refine e_iload_1 (p' := 1) D_Num_get_0 rfl ?_
  first | refine e_ifN_lt (q := 22) (p' := 4) D_Num_get_1 (by omega) rfl rfl (fun hc1 => ?_) (fun hc1 => ?_) | refine e_if_lt (q := 22) (p' := 4) D_Num_get_1 rfl rfl (fun hc1 => ?_) (fun hc1 => ?_)
  ·
    exfalso; omega
  ·
    refine e_iload_1 (p' := 5) D_Num_get_4 rfl ?_
    refine e_aload_0 (p' := 6) D_Num_get_5 rfl ?_
    refine e_getfield (p' := 9) D_Num_get_6 F_Num_13 (by first | assumption | exact sUp_eq | (rw [sUp_ne (by omega)]; assumption) | (rw [sUp_ne (by omega), sUp_ne (by omega)]; assumption) | (rw [sUp_ne (by omega)]; exact sUp_eq) | (simp [sUp]; done)) (by rfl) rfl ?_
    first | refine e_alen (p' := 10) D_Num_get_9 (by first | assumption | exact sUp_eq | (rw [sUp_ne (by omega)]; assumption) | (rw [sUp_ne (by omega), sUp_ne (by omega)]; assumption) | (rw [sUp_ne (by omega)]; exact sUp_eq) | (simp [sUp]; done)) (by decide) rfl ?_ | refine e_alenq (p' := 10) D_Num_get_9 (by first | assumption | exact sUp_eq | (rw [sUp_ne (by omega)]; assumption) | (rw [sUp_ne (by omega), sUp_ne (by omega)]; assumption) | (rw [sUp_ne (by omega)]; exact sUp_eq) | (simp [sUp]; done)) (by decide) rfl ?_
    first | refine e_icmpN_ge (q := 22) (p' := 13) D_Num_get_10 (by omega) (by omega) rfl rfl (fun hc10 => ?_) (fun hc10 => ?_) | refine e_icmp_ge (q := 22) (p' := 13) D_Num_get_10 rfl rfl (fun hc10 => ?_) (fun hc10 => ?_)
    ·
      exfalso; omega
    ·
      refine e_aload_0 (p' := 14) D_Num_get_13 rfl ?_
      refine e_getfield (p' := 17) D_Num_get_14 F_Num_13 (by first | assumption | exact sUp_eq | (rw [sUp_ne (by omega)]; assumption) | (rw [sUp_ne (by omega), sUp_ne (by omega)]; assumption) | (rw [sUp_ne (by omega)]; exact sUp_eq) | (simp [sUp]; done)) (by rfl) rfl ?_
      refine e_iload_1 (p' := 18) D_Num_get_17 rfl ?_
      refine e_iaload (p' := 19) D_Num_get_18 (by first | assumption | exact sUp_eq | (rw [sUp_ne (by omega)]; assumption) | (rw [sUp_ne (by omega), sUp_ne (by omega)]; assumption) | (rw [sUp_ne (by omega)]; exact sUp_eq) | (simp [sUp]; done)) (by omega) (by omega) (by rfl) rfl ?_
      refine e_goto (p' := 23) D_Num_get_19 rfl ?_
      refine e_ireturn (ty := .int) D_Num_get_23 rfl (by first | rfl | exact sBo_nar _) ⟨by decide, by decide⟩ ?_
      exact ⟨by first | rfl | (simp; done) | (simp [*]; done), by first | rfl | (simp; done)⟩
set_option maxRecDepth 4000 in
theorem c_Num_set {l : Launch} {h : sH} {a b n : Nat} {f : Nat → Int32} (hn : h.2 a = oC 3 [.ref b]) (hb : h.2 b = iA n f) (hl : n < 2 ^ 31) {i : Nat} {x : Int32} (hi : i < n) : sX l m_Num_set 0 [.ref a, .int (nI i), .int x] h (none) (sUp h b (iA n (upd f i x))) := by
  refine en_Num_set ?_
  refine e_iload_1 (p' := 1) D_Num_set_0 rfl ?_
  first | refine e_ifN_lt (q := 20) (p' := 4) D_Num_set_1 (by omega) rfl rfl (fun hc1 => ?_) (fun hc1 => ?_) | refine e_if_lt (q := 20) (p' := 4) D_Num_set_1 rfl rfl (fun hc1 => ?_) (fun hc1 => ?_)
  ·
    exfalso; omega
  ·
    refine e_iload_1 (p' := 5) D_Num_set_4 rfl ?_
    refine e_aload_0 (p' := 6) D_Num_set_5 rfl ?_
    refine e_getfield (p' := 9) D_Num_set_6 F_Num_13 (by first | assumption | exact sUp_eq | (rw [sUp_ne (by omega)]; assumption) | (rw [sUp_ne (by omega), sUp_ne (by omega)]; assumption) | (rw [sUp_ne (by omega)]; exact sUp_eq) | (simp [sUp]; done)) (by rfl) rfl ?_
    first | refine e_alen (p' := 10) D_Num_set_9 (by first | assumption | exact sUp_eq | (rw [sUp_ne (by omega)]; assumption) | (rw [sUp_ne (by omega), sUp_ne (by omega)]; assumption) | (rw [sUp_ne (by omega)]; exact sUp_eq) | (simp [sUp]; done)) (by decide) rfl ?_ | refine e_alenq (p' := 10) D_Num_set_9 (by first | assumption | exact sUp_eq | (rw [sUp_ne (by omega)]; assumption) | (rw [sUp_ne (by omega), sUp_ne (by omega)]; assumption) | (rw [sUp_ne (by omega)]; exact sUp_eq) | (simp [sUp]; done)) (by decide) rfl ?_
    first | refine e_icmpN_ge (q := 20) (p' := 13) D_Num_set_10 (by omega) (by omega) rfl rfl (fun hc10 => ?_) (fun hc10 => ?_) | refine e_icmp_ge (q := 20) (p' := 13) D_Num_set_10 rfl rfl (fun hc10 => ?_) (fun hc10 => ?_)
    ·
      exfalso; omega
    ·
      refine e_aload_0 (p' := 14) D_Num_set_13 rfl ?_
      refine e_getfield (p' := 17) D_Num_set_14 F_Num_13 (by first | assumption | exact sUp_eq | (rw [sUp_ne (by omega)]; assumption) | (rw [sUp_ne (by omega), sUp_ne (by omega)]; assumption) | (rw [sUp_ne (by omega)]; exact sUp_eq) | (simp [sUp]; done)) (by rfl) rfl ?_
      refine e_iload_1 (p' := 18) D_Num_set_17 rfl ?_
      refine e_iload_2 (p' := 19) D_Num_set_18 rfl ?_
      refine e_iastore (p' := 20) D_Num_set_19 (by first | assumption | exact sUp_eq | (rw [sUp_ne (by omega)]; assumption) | (rw [sUp_ne (by omega), sUp_ne (by omega)]; assumption) | (rw [sUp_ne (by omega)]; exact sUp_eq) | (simp [sUp]; done)) (by omega) (by omega) rfl ?_
      refine e_return D_Num_set_20 rfl ⟨by decide, by decide⟩ ?_
      exact ⟨by first | rfl | (simp; done) | (simp [*]; done), by first | rfl | (simp; done)⟩
set_option maxRecDepth 4000 in
theorem c_Num_setEach {l : Launch} {h : sH} {a b n : Nat} {f : Nat → Int32} (hn : h.2 a = oC 3 [.ref b]) (hb : h.2 b = iA n f) (hl : n < 2 ^ 31) {x : Int32} : sX l m_Num_setEach 0 [.ref a, .int x] h (none) (sUp h b (iA n (fun k => if k < n then x else f k))) := by
  have hab : a ≠ b := by rintro rfl; rw [hn] at hb; cases hb
  refine en_Num_setEach ?_
  refine e_iconst (v := nI 0) (p' := 1) D_Num_setEach_0 cst_iconst_0 rfl ?_
  refine e_istore_2 (p' := 2) D_Num_setEach_1 (Nat.le_of_ble_eq_true rfl) rfl rfl ?_
  have lk2 : ∀ i : Nat, i ≤ n → sEv l m_Num_setEach 0 (0, 0, 0, 0) (sKm 0 0 (fun r1 h1 => r1 = none ∧ h1 = sUp h b (iA n (fun k => if k < n then x else f k)))) 2 [some (.ref a), some (.int x), some (.int (nI i))] [] (sUp h b (iA n (fun k => if k < i then x else f k))) := by
    refine lp_up _ ?_ ?_
    · skip
      refine e_iload_2 (p' := 3) D_Num_setEach_2 rfl ?_
      refine e_aload_0 (p' := 4) D_Num_setEach_3 rfl ?_
      refine e_getfield (p' := 7) D_Num_setEach_4 F_Num_13 (by first | assumption | exact sUp_eq | (rw [sUp_ne (by omega)]; assumption) | (rw [sUp_ne (by omega), sUp_ne (by omega)]; assumption) | (rw [sUp_ne (by omega)]; exact sUp_eq) | (simp [sUp]; done)) (by rfl) rfl ?_
      first | refine e_alen (p' := 8) D_Num_setEach_7 (by first | assumption | exact sUp_eq | (rw [sUp_ne (by omega)]; assumption) | (rw [sUp_ne (by omega), sUp_ne (by omega)]; assumption) | (rw [sUp_ne (by omega)]; exact sUp_eq) | (simp [sUp]; done)) (by decide) rfl ?_ | refine e_alenq (p' := 8) D_Num_setEach_7 (by first | assumption | exact sUp_eq | (rw [sUp_ne (by omega)]; assumption) | (rw [sUp_ne (by omega), sUp_ne (by omega)]; assumption) | (rw [sUp_ne (by omega)]; exact sUp_eq) | (simp [sUp]; done)) (by decide) rfl ?_
      first | refine e_icmpN_ge (q := 24) (p' := 11) D_Num_setEach_8 (by omega) (by omega) rfl rfl (fun hc8 => ?_) (fun hc8 => ?_) | refine e_icmp_ge (q := 24) (p' := 11) D_Num_setEach_8 rfl rfl (fun hc8 => ?_) (fun hc8 => ?_)
      ·
        refine e_return D_Num_setEach_24 rfl ⟨by decide, by decide⟩ ?_
        exact ⟨by first | rfl | (simp; done) | (simp [*]; done), by first | rfl | (simp; done)⟩
      ·
        exfalso; omega
    · intro i hi ih2 
      refine e_iload_2 (p' := 3) D_Num_setEach_2 rfl ?_
      refine e_aload_0 (p' := 4) D_Num_setEach_3 rfl ?_
      refine e_getfield (p' := 7) D_Num_setEach_4 F_Num_13 (by first | assumption | exact sUp_eq | (rw [sUp_ne (by omega)]; assumption) | (rw [sUp_ne (by omega), sUp_ne (by omega)]; assumption) | (rw [sUp_ne (by omega)]; exact sUp_eq) | (simp [sUp]; done)) (by rfl) rfl ?_
      first | refine e_alen (p' := 8) D_Num_setEach_7 (by first | assumption | exact sUp_eq | (rw [sUp_ne (by omega)]; assumption) | (rw [sUp_ne (by omega), sUp_ne (by omega)]; assumption) | (rw [sUp_ne (by omega)]; exact sUp_eq) | (simp [sUp]; done)) (by decide) rfl ?_ | refine e_alenq (p' := 8) D_Num_setEach_7 (by first | assumption | exact sUp_eq | (rw [sUp_ne (by omega)]; assumption) | (rw [sUp_ne (by omega), sUp_ne (by omega)]; assumption) | (rw [sUp_ne (by omega)]; exact sUp_eq) | (simp [sUp]; done)) (by decide) rfl ?_
      first | refine e_icmpN_ge (q := 24) (p' := 11) D_Num_setEach_8 (by omega) (by omega) rfl rfl (fun hc8 => ?_) (fun hc8 => ?_) | refine e_icmp_ge (q := 24) (p' := 11) D_Num_setEach_8 rfl rfl (fun hc8 => ?_) (fun hc8 => ?_)
      ·
        exfalso; omega
      ·
        refine e_aload_0 (p' := 12) D_Num_setEach_11 rfl ?_
        refine e_getfield (p' := 15) D_Num_setEach_12 F_Num_13 (by first | assumption | exact sUp_eq | (rw [sUp_ne (by omega)]; assumption) | (rw [sUp_ne (by omega), sUp_ne (by omega)]; assumption) | (rw [sUp_ne (by omega)]; exact sUp_eq) | (simp [sUp]; done)) (by rfl) rfl ?_
        refine e_iload_2 (p' := 16) D_Num_setEach_15 rfl ?_
        refine e_iload_1 (p' := 17) D_Num_setEach_16 rfl ?_
        refine e_iastore (p' := 18) D_Num_setEach_17 (by first | assumption | exact sUp_eq | (rw [sUp_ne (by omega)]; assumption) | (rw [sUp_ne (by omega), sUp_ne (by omega)]; assumption) | (rw [sUp_ne (by omega)]; exact sUp_eq) | (simp [sUp]; done)) (by omega) (by omega) rfl ?_
        first | refine e_iincN_2 (n := 1) (p' := 21) D_Num_setEach_18 (Nat.le_of_ble_eq_true rfl) rfl rfl ?_ | refine e_iinc_2 (p' := 21) D_Num_setEach_18 (Nat.le_of_ble_eq_true rfl) rfl rfl rfl ?_
        refine e_goto (p' := 2) D_Num_setEach_21 rfl ?_
        refine sEv.castW (ih2) ?_ ?_ ?_
        · first | exact lvW_rfl _ | (simp [lvW]; done) | (simp [lvW, *]; done) | (simp [lvW]; omega)
        · rfl
        · rw [sUp_sUp]
          refine sUp_arr fun k => ?_
          by_cases e : k = i
          · subst e; simp [upd]
          · simp [upd, e]; congr 1; simp; omega
  refine sEv.castW (lk2 0 (by omega) ) ?_ ?_ ?_
  · first | exact lvW_rfl _ | (simp [lvW]; done) | (simp [lvW, *]; done) | (simp [lvW]; omega)
  · rfl
  · rw [sUp_self]; simp [hb]
set_option maxRecDepth 4000 in
theorem c_Num_copyFrom {l : Launch} {h : sH} {a b n a2 b2 n2 : Nat} {f f2 : Nat → Int32} (hn : h.2 a = oC 3 [.ref b]) (hb : h.2 b = iA n f) (hn2 : h.2 a2 = oC 3 [.ref b2]) (hb2 : h.2 b2 = iA n2 f2) (hl : n2 < 2 ^ 31) (hle : n ≤ n2) (hbb : b ≠ b2) : sX l m_Num_copyFrom 1 [.ref a, .ref a2] h (none) (sUp h b (iA n (fun k => if k < n then f2 k else f k))) := by
  have hab : a ≠ b := by rintro rfl; rw [hn] at hb; cases hb
  have hab2 : a2 ≠ b := by rintro rfl; rw [hn2] at hb; cases hb
  have hbb2 : b2 ≠ b := fun e => hbb e.symm
  refine en_Num_copyFrom ?_
  refine e_iconst (v := nI 0) (p' := 1) D_Num_copyFrom_0 cst_iconst_0 rfl ?_
  refine e_istore_2 (p' := 2) D_Num_copyFrom_1 (Nat.le_of_ble_eq_true rfl) rfl rfl ?_
  have lk2 : ∀ i : Nat, i ≤ n → sEv l m_Num_copyFrom 1 (0, 0, 0, 0) (sKm 0 0 (fun r1 h1 => r1 = none ∧ h1 = sUp h b (iA n (fun k => if k < n then f2 k else f k)))) 2 [some (.ref a), some (.ref a2), some (.int (nI i))] [] (sUp h b (iA n (fun k => if k < i then f2 k else f k))) := by
    refine lp_up _ ?_ ?_
    · skip
      refine e_iload_2 (p' := 3) D_Num_copyFrom_2 rfl ?_
      refine e_aload_0 (p' := 4) D_Num_copyFrom_3 rfl ?_
      refine e_getfield (p' := 7) D_Num_copyFrom_4 F_Num_13 (by first | assumption | exact sUp_eq | (rw [sUp_ne (by omega)]; assumption) | (rw [sUp_ne (by omega), sUp_ne (by omega)]; assumption) | (rw [sUp_ne (by omega)]; exact sUp_eq) | (simp [sUp]; done)) (by rfl) rfl ?_
      first | refine e_alen (p' := 8) D_Num_copyFrom_7 (by first | assumption | exact sUp_eq | (rw [sUp_ne (by omega)]; assumption) | (rw [sUp_ne (by omega), sUp_ne (by omega)]; assumption) | (rw [sUp_ne (by omega)]; exact sUp_eq) | (simp [sUp]; done)) (by decide) rfl ?_ | refine e_alenq (p' := 8) D_Num_copyFrom_7 (by first | assumption | exact sUp_eq | (rw [sUp_ne (by omega)]; assumption) | (rw [sUp_ne (by omega), sUp_ne (by omega)]; assumption) | (rw [sUp_ne (by omega)]; exact sUp_eq) | (simp [sUp]; done)) (by decide) rfl ?_
      first | refine e_icmpN_ge (q := 28) (p' := 11) D_Num_copyFrom_8 (by omega) (by omega) rfl rfl (fun hc8 => ?_) (fun hc8 => ?_) | refine e_icmp_ge (q := 28) (p' := 11) D_Num_copyFrom_8 rfl rfl (fun hc8 => ?_) (fun hc8 => ?_)
      ·
        refine e_return D_Num_copyFrom_28 rfl ⟨by decide, by decide⟩ ?_
        exact ⟨by first | rfl | (simp; done) | (simp [*]; done), by first | rfl | (simp; done)⟩
      ·
        exfalso; omega
    · intro i hi ih2 
      refine e_iload_2 (p' := 3) D_Num_copyFrom_2 rfl ?_
      refine e_aload_0 (p' := 4) D_Num_copyFrom_3 rfl ?_
      refine e_getfield (p' := 7) D_Num_copyFrom_4 F_Num_13 (by first | assumption | exact sUp_eq | (rw [sUp_ne (by omega)]; assumption) | (rw [sUp_ne (by omega), sUp_ne (by omega)]; assumption) | (rw [sUp_ne (by omega)]; exact sUp_eq) | (simp [sUp]; done)) (by rfl) rfl ?_
      first | refine e_alen (p' := 8) D_Num_copyFrom_7 (by first | assumption | exact sUp_eq | (rw [sUp_ne (by omega)]; assumption) | (rw [sUp_ne (by omega), sUp_ne (by omega)]; assumption) | (rw [sUp_ne (by omega)]; exact sUp_eq) | (simp [sUp]; done)) (by decide) rfl ?_ | refine e_alenq (p' := 8) D_Num_copyFrom_7 (by first | assumption | exact sUp_eq | (rw [sUp_ne (by omega)]; assumption) | (rw [sUp_ne (by omega), sUp_ne (by omega)]; assumption) | (rw [sUp_ne (by omega)]; exact sUp_eq) | (simp [sUp]; done)) (by decide) rfl ?_
      first | refine e_icmpN_ge (q := 28) (p' := 11) D_Num_copyFrom_8 (by omega) (by omega) rfl rfl (fun hc8 => ?_) (fun hc8 => ?_) | refine e_icmp_ge (q := 28) (p' := 11) D_Num_copyFrom_8 rfl rfl (fun hc8 => ?_) (fun hc8 => ?_)
      ·
        exfalso; omega
      ·
        refine e_aload_0 (p' := 12) D_Num_copyFrom_11 rfl ?_
        refine e_getfield (p' := 15) D_Num_copyFrom_12 F_Num_13 (by first | assumption | exact sUp_eq | (rw [sUp_ne (by omega)]; assumption) | (rw [sUp_ne (by omega), sUp_ne (by omega)]; assumption) | (rw [sUp_ne (by omega)]; exact sUp_eq) | (simp [sUp]; done)) (by rfl) rfl ?_
        refine e_iload_2 (p' := 16) D_Num_copyFrom_15 rfl ?_
        refine e_aload_1 (p' := 17) D_Num_copyFrom_16 rfl ?_
        refine e_iload_2 (p' := 18) D_Num_copyFrom_17 rfl ?_
        refine x_callV1 (p' := 21) D_Num_copyFrom_18 V_Num_19 (c_Num_get (by first | assumption | exact sUp_eq | (rw [sUp_ne (by omega)]; assumption) | (rw [sUp_ne (by omega), sUp_ne (by omega)]; assumption) | (rw [sUp_ne (by omega)]; exact sUp_eq) | (simp [sUp]; done)) (by first | assumption | exact sUp_eq | (rw [sUp_ne (by omega)]; assumption) | (rw [sUp_ne (by omega), sUp_ne (by omega)]; assumption) | (rw [sUp_ne (by omega)]; exact sUp_eq) | (simp [sUp]; done)) (by omega) (by omega)) rfl (by first | assumption | exact sUp_eq | (rw [sUp_ne (by omega)]; assumption) | (rw [sUp_ne (by omega), sUp_ne (by omega)]; assumption) | (rw [sUp_ne (by omega)]; exact sUp_eq) | (simp [sUp]; done)) rfl (Nat.le_of_ble_eq_true rfl) (by decide) ⟨by decide, by decide⟩ rfl ?_
        refine e_iastore (p' := 22) D_Num_copyFrom_21 (by first | assumption | exact sUp_eq | (rw [sUp_ne (by omega)]; assumption) | (rw [sUp_ne (by omega), sUp_ne (by omega)]; assumption) | (rw [sUp_ne (by omega)]; exact sUp_eq) | (simp [sUp]; done)) (by omega) (by omega) rfl ?_
        first | refine e_iincN_2 (n := 1) (p' := 25) D_Num_copyFrom_22 (Nat.le_of_ble_eq_true rfl) rfl rfl ?_ | refine e_iinc_2 (p' := 25) D_Num_copyFrom_22 (Nat.le_of_ble_eq_true rfl) rfl rfl rfl ?_
        refine e_goto (p' := 2) D_Num_copyFrom_25 rfl ?_
        refine sEv.castW (ih2) ?_ ?_ ?_
        · first | exact lvW_rfl _ | (simp [lvW]; done) | (simp [lvW, *]; done) | (simp [lvW]; omega)
        · rfl
        · rw [sUp_sUp]
          refine sUp_arr fun k => ?_
          by_cases e : k = i
          · subst e; simp [upd]
          · simp [upd, e]; congr 1; simp; omega
  refine sEv.castW (lk2 0 (by omega) ) ?_ ?_ ?_
  · first | exact lvW_rfl _ | (simp [lvW]; done) | (simp [lvW, *]; done) | (simp [lvW]; omega)
  · rfl
  · rw [sUp_self]; simp [hb]
set_option maxRecDepth 4000 in
theorem c_Num_swap {l : Launch} {h : sH} {a b n : Nat} {f : Nat → Int32} (hn : h.2 a = oC 3 [.ref b]) (hb : h.2 b = iA n f) (hl : n < 2 ^ 31) {i j : Nat} (hi : i < n) (hj : j < n) : sX l m_Num_swap 1 [.ref a, .int (nI i), .int (nI j)] h (none) (sUp h b (iA n (upd (upd f i (f j)) j (f i)))) := by
  have hab : a ≠ b := by rintro rfl; rw [hn] at hb; cases hb
  refine en_Num_swap ?_
  refine e_aload_0 (p' := 1) D_Num_swap_0 rfl ?_
  refine e_iload_1 (p' := 2) D_Num_swap_1 rfl ?_
  refine x_callV1 (p' := 5) D_Num_swap_2 V_Num_19 (c_Num_get hn hb hl hi) rfl (by first | assumption | exact sUp_eq | (rw [sUp_ne (by omega)]; assumption) | (rw [sUp_ne (by omega), sUp_ne (by omega)]; assumption) | (rw [sUp_ne (by omega)]; exact sUp_eq) | (simp [sUp]; done)) rfl (Nat.le_of_ble_eq_true rfl) (by decide) ⟨by decide, by decide⟩ rfl ?_
  refine e_istore_3 (p' := 6) D_Num_swap_5 (Nat.le_of_ble_eq_true rfl) rfl rfl ?_
  refine e_aload_0 (p' := 7) D_Num_swap_6 rfl ?_
  refine e_iload_1 (p' := 8) D_Num_swap_7 rfl ?_
  refine e_aload_0 (p' := 9) D_Num_swap_8 rfl ?_
  refine e_iload_2 (p' := 10) D_Num_swap_9 rfl ?_
  refine x_callV1 (p' := 13) D_Num_swap_10 V_Num_19 (c_Num_get hn hb hl hj) rfl (by first | assumption | exact sUp_eq | (rw [sUp_ne (by omega)]; assumption) | (rw [sUp_ne (by omega), sUp_ne (by omega)]; assumption) | (rw [sUp_ne (by omega)]; exact sUp_eq) | (simp [sUp]; done)) rfl (Nat.le_of_ble_eq_true rfl) (by decide) ⟨by decide, by decide⟩ rfl ?_
  refine x_callV0 (p' := 16) D_Num_swap_13 V_Num_23 (c_Num_set hn hb hl hi) rfl (by first | assumption | exact sUp_eq | (rw [sUp_ne (by omega)]; assumption) | (rw [sUp_ne (by omega), sUp_ne (by omega)]; assumption) | (rw [sUp_ne (by omega)]; exact sUp_eq) | (simp [sUp]; done)) rfl (Nat.le_of_ble_eq_true rfl) (by decide) ⟨by decide, by decide⟩ rfl ?_
  refine e_aload_0 (p' := 17) D_Num_swap_16 rfl ?_
  refine e_iload_2 (p' := 18) D_Num_swap_17 rfl ?_
  refine e_iload_3 (p' := 19) D_Num_swap_18 rfl ?_
  refine x_callV0 (p' := 22) D_Num_swap_19 V_Num_23 (c_Num_set (by first | assumption | exact sUp_eq | (rw [sUp_ne (by omega)]; assumption) | (rw [sUp_ne (by omega), sUp_ne (by omega)]; assumption) | (rw [sUp_ne (by omega)]; exact sUp_eq) | (simp [sUp]; done)) (by first | assumption | exact sUp_eq | (rw [sUp_ne (by omega)]; assumption) | (rw [sUp_ne (by omega), sUp_ne (by omega)]; assumption) | (rw [sUp_ne (by omega)]; exact sUp_eq) | (simp [sUp]; done)) hl hj) rfl (by first | assumption | exact sUp_eq | (rw [sUp_ne (by omega)]; assumption) | (rw [sUp_ne (by omega), sUp_ne (by omega)]; assumption) | (rw [sUp_ne (by omega)]; exact sUp_eq) | (simp [sUp]; done)) rfl (Nat.le_of_ble_eq_true rfl) (by decide) ⟨by decide, by decide⟩ rfl ?_
  refine e_return D_Num_swap_22 rfl ⟨by decide, by decide⟩ ?_
  exact ⟨rfl, sUp_sUp⟩
end
section
/-! ===== sums, masks, grids: pure; contracts of bitCount and of Grid ===== -/
def sm : Nat → (Nat → Nat) → Nat
  | 0, _ => 0
  | n + 1, f => sm n f + f n
def mk : Nat → (Nat → Bool) → Nat
  | 0, _ => 0
  | n + 1, p => mk n p + (if p n then 2 ^ n else 0)
def ct (n : Nat) (p : Nat → Bool) : Nat := sm n (fun k => if p k then 1 else 0)
def pc6 (x : Nat) : Nat := sm 6 (fun k => x / 2 ^ k % 2)
theorem sm_congr {n : Nat} {f g : Nat → Nat} (h : ∀ k, k < n → f k = g k) : sm n f = sm n g := by
  induction n with
  | zero => rfl
  | succ n ih => unfold sm; rw [ih (fun k hk => h k (by omega)), h n (by omega)]
theorem sm_zero {n : Nat} {f : Nat → Nat} (h : ∀ k, k < n → f k = 0) : sm n f = 0 := by
  induction n with
  | zero => rfl
  | succ n ih => unfold sm; rw [ih (fun k hk => h k (by omega)), h n (by omega)]
theorem sm_add {n : Nat} {f g : Nat → Nat} : sm n (fun k => f k + g k) = sm n f + sm n g := by
  induction n with
  | zero => rfl
  | succ n ih =>
    show sm n (fun k => f k + g k) + (f n + g n) = (sm n f + f n) + (sm n g + g n)
    rw [ih]; omega
theorem sm_mul {n a : Nat} {f : Nat → Nat} : sm n (fun k => a * f k) = a * sm n f := by
  induction n with
  | zero => rfl
  | succ n ih => unfold sm; rw [ih, Nat.mul_add]
theorem sm_mulr {n a : Nat} {f : Nat → Nat} : sm n (fun k => f k * a) = sm n f * a := by
  induction n with
  | zero => simp [sm]
  | succ n ih => unfold sm; rw [ih, Nat.add_mul]
theorem sm_comm {n m : Nat} {f : Nat → Nat → Nat} : sm n (fun i => sm m (fun j => f i j)) = sm m (fun j => sm n (fun i => f i j)) := by
  induction n with
  | zero => exact (sm_zero fun _ _ => rfl).symm
  | succ n ih =>
    show sm n (fun i => sm m (fun j => f i j)) + sm m (fun j => f n j) = _
    rw [ih, ← sm_add]
    rfl
theorem sm_more {n m : Nat} {f : Nat → Nat} (hnm : n ≤ m) (h : ∀ k, n ≤ k → k < m → f k = 0) : sm m f = sm n f := by
  induction m with
  | zero => rw [show n = 0 by omega]
  | succ m ih =>
    by_cases e : n = m + 1
    · rw [e]
    · show sm m f + f m = sm n f
      rw [ih (by omega) (fun k h1 h2 => h k h1 (by omega)), h m (by omega) (by omega)]; rfl
theorem sm_split {n m : Nat} {f : Nat → Nat} : sm (n * m) f = sm n (fun i => sm m (fun j => f (m * i + j))) := by
  induction n with
  | zero => simp [sm]
  | succ n ih =>
    have key : ∀ k, sm (n * m + k) f = sm (n * m) f + sm k (fun j => f (m * n + j)) := by
      intro k
      induction k with
      | zero => rfl
      | succ k ih2 =>
        show sm (n * m + k) f + f (n * m + k) = _
        rw [ih2, Nat.mul_comm n m]
        show _ = sm (m * n) f + (sm k (fun j => f (m * n + j)) + f (m * n + k))
        omega
    rw [Nat.succ_mul, key m, ih]
    rfl
theorem sm_le {n b : Nat} {f : Nat → Nat} (h : ∀ k, k < n → f k ≤ b) : sm n f ≤ n * b := by
  induction n with
  | zero => simp [sm]
  | succ n ih =>
    have h1 := ih (fun k hk => h k (by omega))
    have h2 := h n (by omega)
    unfold sm
    rw [Nat.succ_mul]
    omega
theorem mk_lt {n : Nat} {p : Nat → Bool} : mk n p < 2 ^ n := by
  induction n with
  | zero => simp [mk]
  | succ n ih => unfold mk; rw [Nat.pow_succ]; split <;> omega
theorem mk_congr {n : Nat} {p q : Nat → Bool} (h : ∀ k, k < n → p k = q k) : mk n p = mk n q := by
  induction n with
  | zero => rfl
  | succ n ih => unfold mk; rw [ih (fun k hk => h k (by omega)), h n (by omega)]
theorem mk_more {n m : Nat} {p : Nat → Bool} (hnm : n ≤ m) (h : ∀ k, n ≤ k → k < m → p k = false) : mk m p = mk n p := by
  induction m with
  | zero => rw [show n = 0 by omega]
  | succ m ih =>
    by_cases e : n = m + 1
    · rw [e]
    · show mk m p + (if p m then 2 ^ m else 0) = mk n p
      rw [ih (by omega) (fun k h1 h2 => h k h1 (by omega)), h m (by omega) (by omega)]
      simp
theorem mk_bit {n : Nat} {p : Nat → Bool} {k : Nat} (hk : k < n) : mk n p / 2 ^ k % 2 = if p k then 1 else 0 := by
  induction n with
  | zero => omega
  | succ n ih =>
    unfold mk
    by_cases e : k = n
    · subst e
      have h1 := mk_lt (n := k) (p := p)
      split
      · rw [Nat.add_div_right _ (Nat.two_pow_pos k), Nat.div_eq_of_lt h1]
      · rw [Nat.add_zero, Nat.div_eq_of_lt h1]
    · have hk' : k < n := by omega
      rw [← ih hk']
      split
      · have : 2 ^ n = 2 ^ k * (2 * 2 ^ (n - k - 1)) := by
          rw [← Nat.mul_assoc, Nat.mul_comm (2 ^ k) 2, Nat.mul_assoc, ← Nat.pow_add, ← Nat.pow_succ', show (k + (n - k - 1)).succ = n by omega]
        rw [this, Nat.add_mul_div_left _ _ (Nat.two_pow_pos k)]
        omega
      · rfl
theorem pc6_mk {p : Nat → Bool} : pc6 (mk 6 p) = ct 6 p := sm_congr fun _ hk => mk_bit hk
/-- n is the or of a mask below 2^n and the bit n -/
theorem nI_or_bit : ∀ n, n < 6 → ∀ m, m < 2 ^ n → (nI m) ||| (nI 1 <<< (nI n &&& 31)) = nI (m + 2 ^ n) := by decide +kernel
theorem mk_or {n : Nat} {p : Nat → Bool} (hn : n < 6) (hp : p n = true) : (nI (mk n p)) ||| (nI 1 <<< (nI n &&& 31)) = nI (mk (n + 1) p) := by
  rw [nI_or_bit n hn _ mk_lt]
  show _ = nI (mk n p + (if p n then 2 ^ n else 0))
  rw [hp]; rfl
theorem mk_skip {n : Nat} {p : Nat → Bool} (hp : p n = false) : mk (n + 1) p = mk n p := by
  show mk n p + (if p n then 2 ^ n else 0) = mk n p
  rw [hp]; rfl
set_option maxRecDepth 4000 in
theorem c_Int_bitCount {l : Launch} {h : sH} {x : Nat} (hx : x < 64) : sX l m_Int_bitCount 0 [.int (nI x)] h (some (.int (nI (pc6 x)))) (h) := by
  refine en_Int_bitCount ?_
  refine e_iload_0 (p' := 1) D_Int_bitCount_0 rfl ?_
  refine e_iload_0 (p' := 2) D_Int_bitCount_1 rfl ?_
  refine e_iconst (v := nI 1) (p' := 3) D_Int_bitCount_2 cst_iconst_1 rfl ?_
  refine e_iushr (p' := 4) D_Int_bitCount_3 rfl rfl ?_
  refine e_ldcw (p' := 7) D_Int_bitCount_4 K_Int_265 rfl ?_
  refine e_iand (p' := 8) D_Int_bitCount_7 rfl ?_
  first | refine e_isubN (p' := 9) D_Int_bitCount_8 (by omega) rfl ?_ | refine e_isub (p' := 9) D_Int_bitCount_8 rfl ?_
  refine e_istore_0 (p' := 10) D_Int_bitCount_9 (Nat.le_of_ble_eq_true rfl) rfl ?_
  refine e_iload_0 (p' := 11) D_Int_bitCount_10 rfl ?_
  refine e_ldcw (p' := 14) D_Int_bitCount_11 K_Int_266 rfl ?_
  refine e_iand (p' := 15) D_Int_bitCount_14 rfl ?_
  refine e_iload_0 (p' := 16) D_Int_bitCount_15 rfl ?_
  refine e_iconst (v := nI 2) (p' := 17) D_Int_bitCount_16 cst_iconst_2 rfl ?_
  refine e_iushr (p' := 18) D_Int_bitCount_17 rfl rfl ?_
  refine e_ldcw (p' := 21) D_Int_bitCount_18 K_Int_266 rfl ?_
  refine e_iand (p' := 22) D_Int_bitCount_21 rfl ?_
  first | refine e_iaddN (p' := 23) D_Int_bitCount_22 rfl ?_ | refine e_iadd (p' := 23) D_Int_bitCount_22 rfl ?_
  refine e_istore_0 (p' := 24) D_Int_bitCount_23 (Nat.le_of_ble_eq_true rfl) rfl ?_
  refine e_iload_0 (p' := 25) D_Int_bitCount_24 rfl ?_
  refine e_iload_0 (p' := 26) D_Int_bitCount_25 rfl ?_
  refine e_iconst (v := nI 4) (p' := 27) D_Int_bitCount_26 cst_iconst_4 rfl ?_
  refine e_iushr (p' := 28) D_Int_bitCount_27 rfl rfl ?_
  first | refine e_iaddN (p' := 29) D_Int_bitCount_28 rfl ?_ | refine e_iadd (p' := 29) D_Int_bitCount_28 rfl ?_
  refine e_ldcw (p' := 32) D_Int_bitCount_29 K_Int_267 rfl ?_
  refine e_iand (p' := 33) D_Int_bitCount_32 rfl ?_
  refine e_istore_0 (p' := 34) D_Int_bitCount_33 (Nat.le_of_ble_eq_true rfl) rfl ?_
  refine e_iload_0 (p' := 35) D_Int_bitCount_34 rfl ?_
  refine e_iload_0 (p' := 36) D_Int_bitCount_35 rfl ?_
  refine e_bipush (v := nI 8) (p' := 38) D_Int_bitCount_36 cst_bipush_8 rfl ?_
  refine e_iushr (p' := 39) D_Int_bitCount_38 rfl rfl ?_
  first | refine e_iaddN (p' := 40) D_Int_bitCount_39 rfl ?_ | refine e_iadd (p' := 40) D_Int_bitCount_39 rfl ?_
  refine e_istore_0 (p' := 41) D_Int_bitCount_40 (Nat.le_of_ble_eq_true rfl) rfl ?_
  refine e_iload_0 (p' := 42) D_Int_bitCount_41 rfl ?_
  refine e_iload_0 (p' := 43) D_Int_bitCount_42 rfl ?_
  refine e_bipush (v := nI 16) (p' := 45) D_Int_bitCount_43 cst_bipush_16 rfl ?_
  refine e_iushr (p' := 46) D_Int_bitCount_45 rfl rfl ?_
  first | refine e_iaddN (p' := 47) D_Int_bitCount_46 rfl ?_ | refine e_iadd (p' := 47) D_Int_bitCount_46 rfl ?_
  refine e_istore_0 (p' := 48) D_Int_bitCount_47 (Nat.le_of_ble_eq_true rfl) rfl ?_
  refine e_iload_0 (p' := 49) D_Int_bitCount_48 rfl ?_
  refine e_bipush (v := nI 63) (p' := 51) D_Int_bitCount_49 cst_bipush_63 rfl ?_
  refine e_iand (p' := 52) D_Int_bitCount_51 rfl ?_
  refine e_ireturn (ty := .int) D_Int_bitCount_52 rfl (by first | rfl | exact sBo_nar _) ⟨by decide, by decide⟩ ?_
  refine ⟨?_, rfl⟩
  revert x
  decide +kernel
-- a grid: ((rows, columns, modulus), numbers by place)
abbrev Gd : Type := (Nat × Nat × Nat) × (Nat → Nat)
def GridAt (h : sH) (g : Nat) (x : Gd) : Prop := h.2 g = oC 0 [.ref (g + 1), .int (nI x.1.1), .int (nI x.1.2.1), .int (nI x.1.2.2)] ∧ h.2 (g + 1) = oC 3 [.ref (g + 2)] ∧ h.2 (g + 2) = iA 36 (nF x.2)
def Mok (m : Nat) : Prop := m = 5 ∨ m = 7 ∨ m = 11 ∨ m = 13
def Gok (x : Gd) : Prop := (2 ≤ x.1.1 ∧ x.1.1 ≤ 6) ∧ (2 ≤ x.1.2.1 ∧ x.1.2.1 ≤ 6) ∧ Mok x.1.2.2 ∧ (∀ p, x.2 p < x.1.2.2) ∧ ∀ p, (x.1.1 ≤ p / 6 ∨ x.1.2.1 ≤ p % 6) → x.2 p = 0
theorem Mok.le {m : Nat} (h : Mok m) : 5 ≤ m ∧ m ≤ 13 := by unfold Mok at h; omega
def at' (x : Gd) (r c : Nat) : Nat := x.2 (6 * r + c)
def td (x : Gd) (r c : Nat) : Bool := decide (0 < at' x r c)
theorem Gok.out {x : Gd} (h : Gok x) {r c : Nat} (hc : c < 6) (ho : x.1.1 ≤ r ∨ x.1.2.1 ≤ c) : at' x r c = 0 := by
  refine h.2.2.2.2 _ ?_
  rw [show (6 * r + c) / 6 = r by omega, show (6 * r + c) % 6 = c by omega]
  exact ho
theorem Gok.lt {x : Gd} (h : Gok x) (r c : Nat) : at' x r c < x.1.2.2 := h.2.2.2.1 _
theorem Gok.small {x : Gd} (h : Gok x) (r c : Nat) : at' x r c < 13 := Nat.lt_of_lt_of_le (h.lt r c) h.2.2.1.le.2
def gMask (x : Gd) (r : Nat) : Nat := mk 6 (td x r)
theorem gMask_C {x : Gd} (h : Gok x) (r : Nat) : mk x.1.2.1 (td x r) = gMask x r := by
  refine (mk_more h.2.1.2 fun k h1 h2 => ?_).symm
  unfold td
  rw [h.out h2 (Or.inr h1)]; rfl
/-- how many entries are told -/
def told (x : Gd) : Nat := sm 36 (fun p => if 0 < x.2 p then 1 else 0)
theorem told_rows {x : Gd} (h : Gok x) : sm x.1.1 (fun r => ct 6 (td x r)) = told x := by
  unfold told
  rw [show 36 = 6 * 6 from rfl, sm_split]
  rw [← sm_more (m := 6) h.1.2]
  · refine sm_congr fun r _ => sm_congr fun c _ => ?_
    unfold td at'
    simp
  · intro r h1 h2
    refine sm_zero fun c hc => ?_
    unfold td
    rw [h.out hc (Or.inl h1)]; rfl
/-- the least number that gives the dividend with the divisor -/
def qtF (m a b : Nat) : Nat → Nat → Nat
  | 0, _ => 0
  | n + 1, k => if k * b % m = a then k else qtF m a b n (k + 1)
def qt (m a b : Nat) : Nat := qtF m a b m 0
def gHas (x : Gd) (row col : Int32) : Bool := decide (0 ≤ row) && (decide (row < nI x.1.1) && (decide (0 ≤ col) && decide (col < nI x.1.2.1)))
theorem gHas_N {x : Gd} {r c : Nat} (hx : Gok x) (hr : r < 2 ^ 31) (hc : c < 2 ^ 31) : gHas x (nI r) (nI c) = (decide (r < x.1.1) && decide (c < x.1.2.1)) := by
  unfold gHas
  have h1 := hx.1
  have h2 := hx.2.1
  have e1 : decide ((0 : Int32) ≤ nI r) = true := decide_eq_true (nI_pos' hr)
  have e2 : decide ((0 : Int32) ≤ nI c) = true := decide_eq_true (nI_pos' hc)
  have e3 := nI_ltI (a := r) (b := x.1.1) hr (by omega)
  have e4 := nI_ltI (a := c) (b := x.1.2.1) hc (by omega)
  simp [e1, e2, e3, e4]
theorem gHas_f {x : Gd} {row col : Int32} (h : row < 0 ∨ nI x.1.1 ≤ row ∨ col < 0 ∨ nI x.1.2.1 ≤ col) : gHas x row col = false := by
  unfold gHas
  rcases h with h | h | h | h
  · rw [decide_eq_false (Int32.not_le.mpr h)]; rfl
  · rw [decide_eq_false (Int32.not_lt.mpr h)]; simp
  · rw [decide_eq_false (Int32.not_le.mpr h)]; simp
  · rw [decide_eq_false (Int32.not_lt.mpr h)]; simp
theorem gHas_t {x : Gd} {row col : Int32} (h1 : ¬ row < 0) (h2 : ¬ nI x.1.1 ≤ row) (h3 : ¬ col < 0) (h4 : ¬ nI x.1.2.1 ≤ col) : gHas x row col = true := by
  unfold gHas
  rw [decide_eq_true (Int32.not_lt.mp h1), decide_eq_true (Int32.not_le.mp h2), decide_eq_true (Int32.not_lt.mp h3), decide_eq_true (Int32.not_le.mp h4)]; rfl
/-- the heap with another grid at g -/
def gSet (h : sH) (g : Nat) (x : Gd) : sH := sUp (sUp h g (oC 0 [.ref (g + 1), .int (nI x.1.1), .int (nI x.1.2.1), .int (nI x.1.2.2)])) (g + 2) (iA 36 (nF x.2))
theorem gSet_ne {h : sH} {g a : Nat} {x : Gd} (h1 : a ≠ g) (h2 : a ≠ g + 2) : (gSet h g x).2 a = h.2 a := by
  unfold gSet
  rw [sUp_ne h2, sUp_ne h1]
theorem gSet_at {h : sH} {g : Nat} {x y : Gd} (hG : GridAt h g y) : GridAt (gSet h g x) g x :=
  ⟨by unfold gSet; rw [sUp_ne (by omega), sUp_eq], by rw [gSet_ne (by omega) (by omega)]; exact hG.2.1, by unfold gSet; rw [sUp_eq]⟩
theorem GridAt.kept {h h' : sH} {g : Nat} {x : Gd} (hG : GridAt h g x) (h1 : h'.2 g = h.2 g) (h2 : h'.2 (g + 1) = h.2 (g + 1)) (h3 : h'.2 (g + 2) = h.2 (g + 2)) : GridAt h' g x :=
  ⟨h1.trans hG.1, h2.trans hG.2.1, h3.trans hG.2.2⟩
theorem GridAt.off {h : sH} {g a : Nat} {x y : Gd} (hG : GridAt h g x) (n : g + 3 ≤ a ∨ a + 3 ≤ g) : GridAt (gSet h a y) g x :=
  hG.kept (gSet_ne (by omega) (by omega)) (gSet_ne (by omega) (by omega)) (gSet_ne (by omega) (by omega))
set_option maxRecDepth 4000 in
theorem c_Grid_rows {l : Launch} {h : sH} {g : Nat} {x : Gd} (hG : GridAt h g x) : sX l m_Grid_rows 0 [.ref g] h (some (.int (nI x.1.1))) (h) := by
  obtain ⟨g0, g1, g2⟩ := hG
  refine en_Grid_rows ?_
  refine e_aload_0 (p' := 1) D_Grid_rows_0 rfl ?_
  refine e_getfield (p' := 4) D_Grid_rows_1 F_Grid_20 (by first | assumption | exact sUp_eq | (rw [sUp_ne (by omega)]; assumption) | (rw [sUp_ne (by omega), sUp_ne (by omega)]; assumption) | (rw [sUp_ne (by omega)]; exact sUp_eq) | (simp [sUp]; done)) (by rfl) rfl ?_
  refine e_ireturn (ty := .int) D_Grid_rows_4 rfl (by first | rfl | exact sBo_nar _) ⟨by decide, by decide⟩ ?_
  exact ⟨by first | rfl | (simp; done) | (simp [*]; done), by first | rfl | (simp; done)⟩
set_option maxRecDepth 4000 in
theorem c_Grid_columns {l : Launch} {h : sH} {g : Nat} {x : Gd} (hG : GridAt h g x) : sX l m_Grid_columns 0 [.ref g] h (some (.int (nI x.1.2.1))) (h) := by
  obtain ⟨g0, g1, g2⟩ := hG
  refine en_Grid_columns ?_
  refine e_aload_0 (p' := 1) D_Grid_columns_0 rfl ?_
  refine e_getfield (p' := 4) D_Grid_columns_1 F_Grid_24 (by first | assumption | exact sUp_eq | (rw [sUp_ne (by omega)]; assumption) | (rw [sUp_ne (by omega), sUp_ne (by omega)]; assumption) | (rw [sUp_ne (by omega)]; exact sUp_eq) | (simp [sUp]; done)) (by rfl) rfl ?_
  refine e_ireturn (ty := .int) D_Grid_columns_4 rfl (by first | rfl | exact sBo_nar _) ⟨by decide, by decide⟩ ?_
  exact ⟨by first | rfl | (simp; done) | (simp [*]; done), by first | rfl | (simp; done)⟩
set_option maxRecDepth 4000 in
theorem c_Grid_modulus {l : Launch} {h : sH} {g : Nat} {x : Gd} (hG : GridAt h g x) : sX l m_Grid_modulus 0 [.ref g] h (some (.int (nI x.1.2.2))) (h) := by
  obtain ⟨g0, g1, g2⟩ := hG
  refine en_Grid_modulus ?_
  refine e_aload_0 (p' := 1) D_Grid_modulus_0 rfl ?_
  refine e_getfield (p' := 4) D_Grid_modulus_1 F_Grid_27 (by first | assumption | exact sUp_eq | (rw [sUp_ne (by omega)]; assumption) | (rw [sUp_ne (by omega), sUp_ne (by omega)]; assumption) | (rw [sUp_ne (by omega)]; exact sUp_eq) | (simp [sUp]; done)) (by rfl) rfl ?_
  refine e_ireturn (ty := .int) D_Grid_modulus_4 rfl (by first | rfl | exact sBo_nar _) ⟨by decide, by decide⟩ ?_
  exact ⟨by first | rfl | (simp; done) | (simp [*]; done), by first | rfl | (simp; done)⟩
set_option maxRecDepth 4000 in
theorem c_Grid_has {l : Launch} {h : sH} {g : Nat} {x : Gd} (hG : GridAt h g x) {row col : Int32} : sX l m_Grid_has 0 [.ref g, .int row, .int col] h (some (.int (sBo (gHas x row col)))) (h) := by
  obtain ⟨g0, g1, g2⟩ := hG
  refine en_Grid_has ?_
  have jn28 : gHas x row col = false → sEv l m_Grid_has 0 (0, 0, 0, 0) (sKm 0 0 (fun r1 h1 => r1 = some (.int (sBo (gHas x row col))) ∧ h1 = h)) 28 [none, none, none] [] h := by
    intro hf
    refine e_iconst (v := nI 0) (p' := 29) D_Grid_has_28 cst_iconst_0 rfl ?_
    refine e_ireturn (ty := .boolean) D_Grid_has_29 rfl (by first | rfl | exact sBo_nar _) ⟨by decide, by decide⟩ ?_
    refine ⟨?_, rfl⟩
    first | (rw [hf]; rfl) | (rw [gHas_t hc1 hc9 hc13 hc21]; rfl)
  refine e_iload_1 (p' := 1) D_Grid_has_0 rfl ?_
  refine e_if_lt (q := 28) (p' := 4) D_Grid_has_1 rfl rfl (fun hc1 => ?_) (fun hc1 => ?_)
  ·
    refine sEv.castW (jn28 (gHas_f (by simp only [*, true_or, or_true]))) ?_ ?_ ?_
    · first | exact lvW_rfl _ | (simp [lvW]; done) | (simp [lvW, *]; done) | (simp [lvW]; omega)
    · rfl
    · first | rfl | (simp; done)
  ·
    refine e_iload_1 (p' := 5) D_Grid_has_4 rfl ?_
    refine e_aload_0 (p' := 6) D_Grid_has_5 rfl ?_
    refine e_getfield (p' := 9) D_Grid_has_6 F_Grid_20 (by first | assumption | exact sUp_eq | (rw [sUp_ne (by omega)]; assumption) | (rw [sUp_ne (by omega), sUp_ne (by omega)]; assumption) | (rw [sUp_ne (by omega)]; exact sUp_eq) | (simp [sUp]; done)) (by rfl) rfl ?_
    refine e_icmp_ge (q := 28) (p' := 12) D_Grid_has_9 rfl rfl (fun hc9 => ?_) (fun hc9 => ?_)
    ·
      refine sEv.castW (jn28 (gHas_f (by simp only [*, true_or, or_true]))) ?_ ?_ ?_
      · first | exact lvW_rfl _ | (simp [lvW]; done) | (simp [lvW, *]; done) | (simp [lvW]; omega)
      · rfl
      · first | rfl | (simp; done)
    ·
      refine e_iload_2 (p' := 13) D_Grid_has_12 rfl ?_
      refine e_if_lt (q := 28) (p' := 16) D_Grid_has_13 rfl rfl (fun hc13 => ?_) (fun hc13 => ?_)
      ·
        refine sEv.castW (jn28 (gHas_f (by simp only [*, true_or, or_true]))) ?_ ?_ ?_
        · first | exact lvW_rfl _ | (simp [lvW]; done) | (simp [lvW, *]; done) | (simp [lvW]; omega)
        · rfl
        · first | rfl | (simp; done)
      ·
        refine e_iload_2 (p' := 17) D_Grid_has_16 rfl ?_
        refine e_aload_0 (p' := 18) D_Grid_has_17 rfl ?_
        refine e_getfield (p' := 21) D_Grid_has_18 F_Grid_24 (by first | assumption | exact sUp_eq | (rw [sUp_ne (by omega)]; assumption) | (rw [sUp_ne (by omega), sUp_ne (by omega)]; assumption) | (rw [sUp_ne (by omega)]; exact sUp_eq) | (simp [sUp]; done)) (by rfl) rfl ?_
        refine e_icmp_ge (q := 28) (p' := 24) D_Grid_has_21 rfl rfl (fun hc21 => ?_) (fun hc21 => ?_)
        ·
          refine sEv.castW (jn28 (gHas_f (by simp only [*, true_or, or_true]))) ?_ ?_ ?_
          · first | exact lvW_rfl _ | (simp [lvW]; done) | (simp [lvW, *]; done) | (simp [lvW]; omega)
          · rfl
          · first | rfl | (simp; done)
        ·
          refine e_iconst (v := nI 1) (p' := 25) D_Grid_has_24 cst_iconst_1 rfl ?_
          refine e_goto (p' := 29) D_Grid_has_25 rfl ?_
          refine e_ireturn (ty := .boolean) D_Grid_has_29 rfl (by first | rfl | exact sBo_nar _) ⟨by decide, by decide⟩ ?_
          refine ⟨?_, rfl⟩
          first | (rw [hf]; rfl) | (rw [gHas_t hc1 hc9 hc13 hc21]; rfl)
end
section
/-! ===== contracts: Grid ===== -/
theorem gMask_lt {x : Gd} {r : Nat} : gMask x r < 64 := mk_lt
theorem at_out {x : Gd} (hx : Gok x) {r c : Nat} (hr : r < 6) (hc : c < 6) (h : gHas x (nI r) (nI c) = false) : at' x r c = 0 := by
  rw [gHas_N hx (by omega) (by omega)] at h
  refine hx.out hc ?_
  by_cases h1 : r < x.1.1
  · by_cases h2 : c < x.1.2.1
    · simp [h1, h2] at h
    · exact Or.inr (Nat.not_lt.mp h2)
  · exact Or.inl (Nat.not_lt.mp h1)
theorem Gok.zero {x : Gd} (hx : Gok x) {p : Nat} (hp : 36 ≤ p) : x.2 p = 0 := hx.2.2.2.2 p (Or.inl (by have := hx.1; omega))
theorem has_in {x : Gd} (hx : Gok x) {r c : Nat} (hr : r < x.1.1) (hc : c < x.1.2.1) : gHas x (nI r) (nI c) = true := by
  have h1 := hx.1
  have h2 := hx.2.1
  rw [gHas_N hx (by omega) (by omega)]
  simp [hr, hc]
set_option maxRecDepth 4000 in
theorem c_Grid_number {l : Launch} {h : sH} {g : Nat} {x : Gd} (hG : GridAt h g x) (hx : Gok x) {r c : Nat} (hr : r < 6) (hc : c < 6) : sX l m_Grid_number 1 [.ref g, .int (nI r), .int (nI c)] h (some (.int (nI (at' x r c)))) (h) := by
  have hG0 := hG
  obtain ⟨g0, g1, g2⟩ := hG
  have hR := hx.1
  have hC := hx.2.1
  have hM := hx.2.2.1.le
  refine en_Grid_number ?_
  refine e_aload_0 (p' := 1) D_Grid_number_0 rfl ?_
  refine e_iload_1 (p' := 2) D_Grid_number_1 rfl ?_
  refine e_iload_2 (p' := 3) D_Grid_number_2 rfl ?_
  refine x_callV1 (p' := 6) D_Grid_number_3 V_Grid_37 (c_Grid_has hG0) rfl (by first | assumption | exact sUp_eq | (rw [sUp_ne (by omega)]; assumption) | (rw [sUp_ne (by omega), sUp_ne (by omega)]; assumption) | (rw [sUp_ne (by omega)]; exact sUp_eq) | (simp [sUp]; done)) rfl (Nat.le_of_ble_eq_true rfl) (by decide) ⟨by decide, by decide⟩ rfl ?_
  refine e_ifB_eq (q := 25) (p' := 9) D_Grid_number_6 rfl rfl (fun hc6 => ?_) (fun hc6 => ?_)
  ·
    refine e_iconst (v := nI 0) (p' := 26) D_Grid_number_25 cst_iconst_0 rfl ?_
    refine e_ireturn (ty := .int) D_Grid_number_26 rfl (by first | rfl | exact sBo_nar _) ⟨by decide, by decide⟩ ?_
    first | exact ⟨rfl, rfl⟩ | (rw [at_out hx hr hc hc6]; exact ⟨rfl, rfl⟩)
  ·
    refine e_aload_0 (p' := 10) D_Grid_number_9 rfl ?_
    refine e_getfield (p' := 13) D_Grid_number_10 F_Grid_14 (by first | assumption | exact sUp_eq | (rw [sUp_ne (by omega)]; assumption) | (rw [sUp_ne (by omega), sUp_ne (by omega)]; assumption) | (rw [sUp_ne (by omega)]; exact sUp_eq) | (simp [sUp]; done)) (by rfl) rfl ?_
    refine e_bipush (v := nI 6) (p' := 15) D_Grid_number_13 cst_bipush_6 rfl ?_
    refine e_iload_1 (p' := 16) D_Grid_number_15 rfl ?_
    first | refine e_imulN (p' := 17) D_Grid_number_16 rfl ?_ | refine e_imul (p' := 17) D_Grid_number_16 rfl ?_
    refine e_iload_2 (p' := 18) D_Grid_number_17 rfl ?_
    first | refine e_iaddN (p' := 19) D_Grid_number_18 rfl ?_ | refine e_iadd (p' := 19) D_Grid_number_18 rfl ?_
    refine x_callV1 (p' := 22) D_Grid_number_19 V_Grid_41 (c_Num_get g1 g2 (by omega) (by omega)) rfl (by first | assumption | exact sUp_eq | (rw [sUp_ne (by omega)]; assumption) | (rw [sUp_ne (by omega), sUp_ne (by omega)]; assumption) | (rw [sUp_ne (by omega)]; exact sUp_eq) | (simp [sUp]; done)) rfl (Nat.le_of_ble_eq_true rfl) (by decide) ⟨by decide, by decide⟩ rfl ?_
    refine e_goto (p' := 26) D_Grid_number_22 rfl ?_
    refine e_ireturn (ty := .int) D_Grid_number_26 rfl (by first | rfl | exact sBo_nar _) ⟨by decide, by decide⟩ ?_
    first | exact ⟨rfl, rfl⟩ | (rw [at_out hx hr hc hc6]; exact ⟨rfl, rfl⟩)
set_option maxRecDepth 4000 in
theorem c_Grid_setNumber {l : Launch} {h : sH} {g : Nat} {x : Gd} (hG : GridAt h g x) (hx : Gok x) {r c v : Nat} (hr : r < x.1.1) (hc : c < x.1.2.1) : sX l m_Grid_setNumber 1 [.ref g, .int (nI r), .int (nI c), .int (nI v)] h (none) (gSet h g (x.1, up x.2 (6 * r + c) v)) := by
  have hG0 := hG
  obtain ⟨g0, g1, g2⟩ := hG
  have hR := hx.1
  have hC := hx.2.1
  have hM := hx.2.2.1.le
  have hin := has_in hx hr hc
  refine en_Grid_setNumber ?_
  refine e_aload_0 (p' := 1) D_Grid_setNumber_0 rfl ?_
  refine e_iload_1 (p' := 2) D_Grid_setNumber_1 rfl ?_
  refine e_iload_2 (p' := 3) D_Grid_setNumber_2 rfl ?_
  refine x_callV1 (p' := 6) D_Grid_setNumber_3 V_Grid_37 (c_Grid_has hG0) rfl (by first | assumption | exact sUp_eq | (rw [sUp_ne (by omega)]; assumption) | (rw [sUp_ne (by omega), sUp_ne (by omega)]; assumption) | (rw [sUp_ne (by omega)]; exact sUp_eq) | (simp [sUp]; done)) rfl (Nat.le_of_ble_eq_true rfl) (by decide) ⟨by decide, by decide⟩ rfl ?_
  refine e_ifB_eq (q := 23) (p' := 9) D_Grid_setNumber_6 rfl rfl (fun hc6 => ?_) (fun hc6 => ?_)
  ·
    rw [hin] at hc6; cases hc6
  ·
    refine e_aload_0 (p' := 10) D_Grid_setNumber_9 rfl ?_
    refine e_getfield (p' := 13) D_Grid_setNumber_10 F_Grid_14 (by first | assumption | exact sUp_eq | (rw [sUp_ne (by omega)]; assumption) | (rw [sUp_ne (by omega), sUp_ne (by omega)]; assumption) | (rw [sUp_ne (by omega)]; exact sUp_eq) | (simp [sUp]; done)) (by rfl) rfl ?_
    refine e_bipush (v := nI 6) (p' := 15) D_Grid_setNumber_13 cst_bipush_6 rfl ?_
    refine e_iload_1 (p' := 16) D_Grid_setNumber_15 rfl ?_
    first | refine e_imulN (p' := 17) D_Grid_setNumber_16 rfl ?_ | refine e_imul (p' := 17) D_Grid_setNumber_16 rfl ?_
    refine e_iload_2 (p' := 18) D_Grid_setNumber_17 rfl ?_
    first | refine e_iaddN (p' := 19) D_Grid_setNumber_18 rfl ?_ | refine e_iadd (p' := 19) D_Grid_setNumber_18 rfl ?_
    refine e_iload_3 (p' := 20) D_Grid_setNumber_19 rfl ?_
    refine x_callV0 (p' := 23) D_Grid_setNumber_20 V_Grid_45 (c_Num_set g1 g2 (by omega) (by omega)) rfl (by first | assumption | exact sUp_eq | (rw [sUp_ne (by omega)]; assumption) | (rw [sUp_ne (by omega), sUp_ne (by omega)]; assumption) | (rw [sUp_ne (by omega)]; exact sUp_eq) | (simp [sUp]; done)) rfl (Nat.le_of_ble_eq_true rfl) (by decide) ⟨by decide, by decide⟩ rfl ?_
    refine e_return D_Grid_setNumber_23 rfl ⟨by decide, by decide⟩ ?_
    refine ⟨rfl, ?_⟩
    unfold gSet
    rw [sUp_self g0, upd_nF]
set_option maxRecDepth 4000 in
theorem c_Grid_toldInRow {l : Launch} {h : sH} {g : Nat} {x : Gd} (hG : GridAt h g x) (hx : Gok x) {r : Nat} (hr : r < 6) : sX l m_Grid_toldInRow 2 [.ref g, .int (nI r)] h (some (.int (nI (gMask x r)))) (h) := by
  have hG0 := hG
  obtain ⟨g0, g1, g2⟩ := hG
  have hR := hx.1
  have hC := hx.2.1
  have hM := hx.2.2.1.le
  refine en_Grid_toldInRow ?_
  refine e_iconst (v := nI 0) (p' := 1) D_Grid_toldInRow_0 cst_iconst_0 rfl ?_
  refine e_istore_2 (p' := 2) D_Grid_toldInRow_1 (Nat.le_of_ble_eq_true rfl) rfl rfl ?_
  refine e_iconst (v := nI 0) (p' := 3) D_Grid_toldInRow_2 cst_iconst_0 rfl ?_
  refine e_istore_3 (p' := 4) D_Grid_toldInRow_3 (Nat.le_of_ble_eq_true rfl) rfl rfl ?_
  have lk4 : ∀ i : Nat, i ≤ x.1.2.1 → sEv l m_Grid_toldInRow 2 (0, 0, 0, 0) (sKm 0 0 (fun r1 h1 => r1 = some (.int (nI (gMask x r))) ∧ h1 = h)) 4 [some (.ref g), some (.int (nI r)), some (.int (nI (mk i (td x r)))), some (.int (nI i))] [] (h) := by
    refine lp_up _ ?_ ?_
    · skip
      refine e_iload_3 (p' := 5) D_Grid_toldInRow_4 rfl ?_
      refine e_aload_0 (p' := 6) D_Grid_toldInRow_5 rfl ?_
      refine e_getfield (p' := 9) D_Grid_toldInRow_6 F_Grid_24 (by first | assumption | exact sUp_eq | (rw [sUp_ne (by omega)]; assumption) | (rw [sUp_ne (by omega), sUp_ne (by omega)]; assumption) | (rw [sUp_ne (by omega)]; exact sUp_eq) | (simp [sUp]; done)) (by rfl) rfl ?_
      first | refine e_icmpN_ge (q := 33) (p' := 12) D_Grid_toldInRow_9 (by omega) (by omega) rfl rfl (fun hc9 => ?_) (fun hc9 => ?_) | refine e_icmp_ge (q := 33) (p' := 12) D_Grid_toldInRow_9 rfl rfl (fun hc9 => ?_) (fun hc9 => ?_)
      ·
        refine e_iload_2 (p' := 34) D_Grid_toldInRow_33 rfl ?_
        refine e_ireturn (ty := .int) D_Grid_toldInRow_34 rfl (by first | rfl | exact sBo_nar _) ⟨by decide, by decide⟩ ?_
        rw [gMask_C hx]; exact ⟨rfl, rfl⟩
      ·
        exfalso; omega
    · intro i hi ih4 
      refine e_iload_3 (p' := 5) D_Grid_toldInRow_4 rfl ?_
      refine e_aload_0 (p' := 6) D_Grid_toldInRow_5 rfl ?_
      refine e_getfield (p' := 9) D_Grid_toldInRow_6 F_Grid_24 (by first | assumption | exact sUp_eq | (rw [sUp_ne (by omega)]; assumption) | (rw [sUp_ne (by omega), sUp_ne (by omega)]; assumption) | (rw [sUp_ne (by omega)]; exact sUp_eq) | (simp [sUp]; done)) (by rfl) rfl ?_
      first | refine e_icmpN_ge (q := 33) (p' := 12) D_Grid_toldInRow_9 (by omega) (by omega) rfl rfl (fun hc9 => ?_) (fun hc9 => ?_) | refine e_icmp_ge (q := 33) (p' := 12) D_Grid_toldInRow_9 rfl rfl (fun hc9 => ?_) (fun hc9 => ?_)
      ·
        exfalso; omega
      ·
        refine e_aload_0 (p' := 13) D_Grid_toldInRow_12 rfl ?_
        refine e_iload_1 (p' := 14) D_Grid_toldInRow_13 rfl ?_
        refine e_iload_3 (p' := 15) D_Grid_toldInRow_14 rfl ?_
        have hs := hx.small r i
        refine x_callV1 (p' := 18) D_Grid_toldInRow_15 V_Grid_49 (c_Grid_number hG0 hx hr (by omega)) rfl (by first | assumption | exact sUp_eq | (rw [sUp_ne (by omega)]; assumption) | (rw [sUp_ne (by omega), sUp_ne (by omega)]; assumption) | (rw [sUp_ne (by omega)]; exact sUp_eq) | (simp [sUp]; done)) rfl (Nat.le_of_ble_eq_true rfl) (by decide) ⟨by decide, by decide⟩ rfl ?_
        refine e_ifN_eq (q := 27) (p' := 21) D_Grid_toldInRow_18 (by omega) rfl rfl (fun hc18 => ?_) (fun hc18 => ?_)
        ·
          first | refine e_iincN_3 (n := 1) (p' := 30) D_Grid_toldInRow_27 (Nat.le_of_ble_eq_true rfl) rfl rfl ?_ | refine e_iinc_3 (p' := 30) D_Grid_toldInRow_27 (Nat.le_of_ble_eq_true rfl) rfl rfl rfl ?_
          refine e_goto (p' := 4) D_Grid_toldInRow_30 rfl ?_
          refine sEv.castW (ih4) ?_ ?_ ?_
          · first | exact lvW_rfl _ | (rw [mk_skip (by simp [td, hc18])]; exact lvW_rfl _)
          · rfl
          · first | rfl | (simp; done)
        ·
          refine e_iload_2 (p' := 22) D_Grid_toldInRow_21 rfl ?_
          refine e_iconst (v := nI 1) (p' := 23) D_Grid_toldInRow_22 cst_iconst_1 rfl ?_
          refine e_iload_3 (p' := 24) D_Grid_toldInRow_23 rfl ?_
          refine e_ishl (p' := 25) D_Grid_toldInRow_24 rfl ?_
          refine e_ior (p' := 26) D_Grid_toldInRow_25 rfl ?_
          rw [mk_or (p := td x r) (by omega) (decide_eq_true (Nat.pos_of_ne_zero hc18))]
          refine e_istore_2 (p' := 27) D_Grid_toldInRow_26 (Nat.le_of_ble_eq_true rfl) rfl rfl ?_
          first | refine e_iincN_3 (n := 1) (p' := 30) D_Grid_toldInRow_27 (Nat.le_of_ble_eq_true rfl) rfl rfl ?_ | refine e_iinc_3 (p' := 30) D_Grid_toldInRow_27 (Nat.le_of_ble_eq_true rfl) rfl rfl rfl ?_
          refine e_goto (p' := 4) D_Grid_toldInRow_30 rfl ?_
          refine sEv.castW (ih4) ?_ ?_ ?_
          · first | exact lvW_rfl _ | (rw [mk_skip (by simp [td, hc18])]; exact lvW_rfl _)
          · rfl
          · first | rfl | (simp; done)
  refine sEv.castW (lk4 0 (by omega) ) ?_ ?_ ?_
  · first | exact lvW_rfl _ | (rw [mk_skip (by simp [td, hc18])]; exact lvW_rfl _)
  · rfl
  · first | rfl | (simp; done)
set_option maxRecDepth 4000 in
theorem c_Grid_toldCount {l : Launch} {h : sH} {g : Nat} {x : Gd} (hG : GridAt h g x) (hx : Gok x) : sX l m_Grid_toldCount 3 [.ref g] h (some (.int (nI (told x)))) (h) := by
  have hG0 := hG
  obtain ⟨g0, g1, g2⟩ := hG
  have hR := hx.1
  have hC := hx.2.1
  have hM := hx.2.2.1.le
  refine en_Grid_toldCount ?_
  refine e_iconst (v := nI 0) (p' := 1) D_Grid_toldCount_0 cst_iconst_0 rfl ?_
  refine e_istore_1 (p' := 2) D_Grid_toldCount_1 (Nat.le_of_ble_eq_true rfl) rfl rfl ?_
  refine e_iconst (v := nI 0) (p' := 3) D_Grid_toldCount_2 cst_iconst_0 rfl ?_
  refine e_istore_2 (p' := 4) D_Grid_toldCount_3 (Nat.le_of_ble_eq_true rfl) rfl rfl ?_
  have lk4 : ∀ i : Nat, i ≤ x.1.1 → sEv l m_Grid_toldCount 3 (0, 0, 0, 0) (sKm 0 0 (fun r1 h1 => r1 = some (.int (nI (told x))) ∧ h1 = h)) 4 [some (.ref g), some (.int (nI (sm i (fun r => ct 6 (td x r))))), some (.int (nI i))] [] (h) := by
    refine lp_up _ ?_ ?_
    · skip
      refine e_iload_2 (p' := 5) D_Grid_toldCount_4 rfl ?_
      refine e_aload_0 (p' := 6) D_Grid_toldCount_5 rfl ?_
      refine e_getfield (p' := 9) D_Grid_toldCount_6 F_Grid_20 (by first | assumption | exact sUp_eq | (rw [sUp_ne (by omega)]; assumption) | (rw [sUp_ne (by omega), sUp_ne (by omega)]; assumption) | (rw [sUp_ne (by omega)]; exact sUp_eq) | (simp [sUp]; done)) (by rfl) rfl ?_
      first | refine e_icmpN_ge (q := 29) (p' := 12) D_Grid_toldCount_9 (by omega) (by omega) rfl rfl (fun hc9 => ?_) (fun hc9 => ?_) | refine e_icmp_ge (q := 29) (p' := 12) D_Grid_toldCount_9 rfl rfl (fun hc9 => ?_) (fun hc9 => ?_)
      ·
        refine e_iload_1 (p' := 30) D_Grid_toldCount_29 rfl ?_
        refine e_ireturn (ty := .int) D_Grid_toldCount_30 rfl (by first | rfl | exact sBo_nar _) ⟨by decide, by decide⟩ ?_
        rw [told_rows hx]; exact ⟨rfl, rfl⟩
      ·
        exfalso; omega
    · intro i hi ih4 
      refine e_iload_2 (p' := 5) D_Grid_toldCount_4 rfl ?_
      refine e_aload_0 (p' := 6) D_Grid_toldCount_5 rfl ?_
      refine e_getfield (p' := 9) D_Grid_toldCount_6 F_Grid_20 (by first | assumption | exact sUp_eq | (rw [sUp_ne (by omega)]; assumption) | (rw [sUp_ne (by omega), sUp_ne (by omega)]; assumption) | (rw [sUp_ne (by omega)]; exact sUp_eq) | (simp [sUp]; done)) (by rfl) rfl ?_
      first | refine e_icmpN_ge (q := 29) (p' := 12) D_Grid_toldCount_9 (by omega) (by omega) rfl rfl (fun hc9 => ?_) (fun hc9 => ?_) | refine e_icmp_ge (q := 29) (p' := 12) D_Grid_toldCount_9 rfl rfl (fun hc9 => ?_) (fun hc9 => ?_)
      ·
        exfalso; omega
      ·
        refine e_iload_1 (p' := 13) D_Grid_toldCount_12 rfl ?_
        refine e_aload_0 (p' := 14) D_Grid_toldCount_13 rfl ?_
        refine e_iload_2 (p' := 15) D_Grid_toldCount_14 rfl ?_
        refine x_callV1 (p' := 18) D_Grid_toldCount_15 V_Grid_53 (c_Grid_toldInRow hG0 hx (by omega)) rfl (by first | assumption | exact sUp_eq | (rw [sUp_ne (by omega)]; assumption) | (rw [sUp_ne (by omega), sUp_ne (by omega)]; assumption) | (rw [sUp_ne (by omega)]; exact sUp_eq) | (simp [sUp]; done)) rfl (Nat.le_of_ble_eq_true rfl) (by decide) ⟨by decide, by decide⟩ rfl ?_
        refine x_callS1 (p' := 21) D_Grid_toldCount_18 S_Grid_56 (c_Int_bitCount gMask_lt) rfl rfl (Nat.le_of_ble_eq_true rfl) (by decide) ⟨by decide, by decide⟩ rfl ?_
        rw [show pc6 (gMask x i) = ct 6 (td x i) from pc6_mk]
        first | refine e_iaddN (p' := 22) D_Grid_toldCount_21 rfl ?_ | refine e_iadd (p' := 22) D_Grid_toldCount_21 rfl ?_
        refine e_istore_1 (p' := 23) D_Grid_toldCount_22 (Nat.le_of_ble_eq_true rfl) rfl rfl ?_
        first | refine e_iincN_2 (n := 1) (p' := 26) D_Grid_toldCount_23 (Nat.le_of_ble_eq_true rfl) rfl rfl ?_ | refine e_iinc_2 (p' := 26) D_Grid_toldCount_23 (Nat.le_of_ble_eq_true rfl) rfl rfl rfl ?_
        refine e_goto (p' := 4) D_Grid_toldCount_26 rfl ?_
        refine sEv.castW (ih4) ?_ ?_ ?_
        · first | exact lvW_rfl _ | (simp [lvW]; done) | (simp [lvW, *]; done) | (simp [lvW]; omega)
        · rfl
        · first | rfl | (simp; done)
  refine sEv.castW (lk4 0 (by omega) ) ?_ ?_ ?_
  · first | exact lvW_rfl _ | (simp [lvW]; done) | (simp [lvW, *]; done) | (simp [lvW]; omega)
  · rfl
  · first | rfl | (simp; done)
set_option maxRecDepth 4000 in
theorem c_Grid_product {l : Launch} {h : sH} {g : Nat} {x : Gd} (hG : GridAt h g x) (hx : Gok x) {a b : Nat} (ha : a ≤ 200) (hb : b ≤ 200) : sX l m_Grid_product 0 [.ref g, .int (nI a), .int (nI b)] h (some (.int (nI (a * b % x.1.2.2)))) (h) := by
  have hG0 := hG
  obtain ⟨g0, g1, g2⟩ := hG
  have hR := hx.1
  have hC := hx.2.1
  have hM := hx.2.2.1.le
  have hab : a * b ≤ 200 * 200 := Nat.mul_le_mul ha hb
  refine en_Grid_product ?_
  refine e_aload_0 (p' := 1) D_Grid_product_0 rfl ?_
  refine e_getfield (p' := 4) D_Grid_product_1 F_Grid_27 (by first | assumption | exact sUp_eq | (rw [sUp_ne (by omega)]; assumption) | (rw [sUp_ne (by omega), sUp_ne (by omega)]; assumption) | (rw [sUp_ne (by omega)]; exact sUp_eq) | (simp [sUp]; done)) (by rfl) rfl ?_
  refine e_ifN_le (q := 18) (p' := 7) D_Grid_product_4 (by omega) rfl rfl (fun hc4 => ?_) (fun hc4 => ?_)
  ·
    exfalso; omega
  ·
    refine e_iload_1 (p' := 8) D_Grid_product_7 rfl ?_
    refine e_iload_2 (p' := 9) D_Grid_product_8 rfl ?_
    first | refine e_imulN (p' := 10) D_Grid_product_9 rfl ?_ | refine e_imul (p' := 10) D_Grid_product_9 rfl ?_
    refine e_aload_0 (p' := 11) D_Grid_product_10 rfl ?_
    refine e_getfield (p' := 14) D_Grid_product_11 F_Grid_27 (by first | assumption | exact sUp_eq | (rw [sUp_ne (by omega)]; assumption) | (rw [sUp_ne (by omega), sUp_ne (by omega)]; assumption) | (rw [sUp_ne (by omega)]; exact sUp_eq) | (simp [sUp]; done)) (by rfl) rfl ?_
    first | refine e_iremN (p' := 15) D_Grid_product_14 (by omega) (by omega) (by omega) rfl ?_ | refine e_irem (p' := 15) D_Grid_product_14 (by assumption) rfl ?_
    refine e_goto (p' := 19) D_Grid_product_15 rfl ?_
    refine e_ireturn (ty := .int) D_Grid_product_19 rfl (by first | rfl | exact sBo_nar _) ⟨by decide, by decide⟩ ?_
    exact ⟨by first | rfl | (simp; done) | (simp [*]; done), by first | rfl | (simp; done)⟩
set_option maxRecDepth 4000 in
theorem c_Grid_remainder {l : Launch} {h : sH} {g : Nat} {x : Gd} (hG : GridAt h g x) (hx : Gok x) {a : Nat} (ha : a < 2 ^ 31) : sX l m_Grid_remainder 0 [.ref g, .int (nI a)] h (some (.int (nI (a % x.1.2.2)))) (h) := by
  have hG0 := hG
  obtain ⟨g0, g1, g2⟩ := hG
  have hR := hx.1
  have hC := hx.2.1
  have hM := hx.2.2.1.le
  refine en_Grid_remainder ?_
  refine e_aload_0 (p' := 1) D_Grid_remainder_0 rfl ?_
  refine e_getfield (p' := 4) D_Grid_remainder_1 F_Grid_27 (by first | assumption | exact sUp_eq | (rw [sUp_ne (by omega)]; assumption) | (rw [sUp_ne (by omega), sUp_ne (by omega)]; assumption) | (rw [sUp_ne (by omega)]; exact sUp_eq) | (simp [sUp]; done)) (by rfl) rfl ?_
  refine e_ifN_le (q := 16) (p' := 7) D_Grid_remainder_4 (by omega) rfl rfl (fun hc4 => ?_) (fun hc4 => ?_)
  ·
    exfalso; omega
  ·
    refine e_iload_1 (p' := 8) D_Grid_remainder_7 rfl ?_
    refine e_aload_0 (p' := 9) D_Grid_remainder_8 rfl ?_
    refine e_getfield (p' := 12) D_Grid_remainder_9 F_Grid_27 (by first | assumption | exact sUp_eq | (rw [sUp_ne (by omega)]; assumption) | (rw [sUp_ne (by omega), sUp_ne (by omega)]; assumption) | (rw [sUp_ne (by omega)]; exact sUp_eq) | (simp [sUp]; done)) (by rfl) rfl ?_
    first | refine e_iremN (p' := 13) D_Grid_remainder_12 (by omega) (by omega) (by omega) rfl ?_ | refine e_irem (p' := 13) D_Grid_remainder_12 (by assumption) rfl ?_
    refine e_goto (p' := 17) D_Grid_remainder_13 rfl ?_
    refine e_ireturn (ty := .int) D_Grid_remainder_17 rfl (by first | rfl | exact sBo_nar _) ⟨by decide, by decide⟩ ?_
    exact ⟨by first | rfl | (simp; done) | (simp [*]; done), by first | rfl | (simp; done)⟩
set_option maxRecDepth 4000 in
theorem c_Grid_quotient {l : Launch} {h : sH} {g : Nat} {x : Gd} (hG : GridAt h g x) (hx : Gok x) {a b : Nat} (ha : a ≤ 200) (hb : b ≤ 200) : sX l m_Grid_quotient 1 [.ref g, .int (nI a), .int (nI b)] h (some (.int (nI (qt x.1.2.2 a b)))) (h) := by
  have hG0 := hG
  obtain ⟨g0, g1, g2⟩ := hG
  have hR := hx.1
  have hC := hx.2.1
  have hM := hx.2.2.1.le
  refine en_Grid_quotient ?_
  refine e_iconst (v := nI 0) (p' := 1) D_Grid_quotient_0 cst_iconst_0 rfl ?_
  refine e_istore_3 (p' := 2) D_Grid_quotient_1 (Nat.le_of_ble_eq_true rfl) rfl rfl ?_
  have lk2 : ∀ k : Nat, k ≤ x.1.2.2 → qtF x.1.2.2 a b (x.1.2.2 - k) k = qt x.1.2.2 a b → sEv l m_Grid_quotient 1 (0, 0, 0, 0) (sKm 0 0 (fun r1 h1 => r1 = some (.int (nI (qt x.1.2.2 a b))) ∧ h1 = h)) 2 [some (.ref g), some (.int (nI a)), some (.int (nI b)), some (.int (nI k))] [] (h) := by
    refine lp_up _ ?_ ?_
    · intro hq
      refine e_iload_3 (p' := 3) D_Grid_quotient_2 rfl ?_
      refine e_aload_0 (p' := 4) D_Grid_quotient_3 rfl ?_
      refine e_getfield (p' := 7) D_Grid_quotient_4 F_Grid_27 (by first | assumption | exact sUp_eq | (rw [sUp_ne (by omega)]; assumption) | (rw [sUp_ne (by omega), sUp_ne (by omega)]; assumption) | (rw [sUp_ne (by omega)]; exact sUp_eq) | (simp [sUp]; done)) (by rfl) rfl ?_
      first | refine e_icmpN_ge (q := 28) (p' := 10) D_Grid_quotient_7 (by omega) (by omega) rfl rfl (fun hc7 => ?_) (fun hc7 => ?_) | refine e_icmp_ge (q := 28) (p' := 10) D_Grid_quotient_7 rfl rfl (fun hc7 => ?_) (fun hc7 => ?_)
      ·
        refine e_iconst (v := nI 0) (p' := 29) D_Grid_quotient_28 cst_iconst_0 rfl ?_
        refine e_ireturn (ty := .int) D_Grid_quotient_29 rfl (by first | rfl | exact sBo_nar _) ⟨by decide, by decide⟩ ?_
        rw [Nat.sub_self] at hq
        unfold qtF at hq
        rw [← hq]; exact ⟨rfl, rfl⟩
      ·
        exfalso; omega
    · intro k hk ih2 hq
      refine e_iload_3 (p' := 3) D_Grid_quotient_2 rfl ?_
      refine e_aload_0 (p' := 4) D_Grid_quotient_3 rfl ?_
      refine e_getfield (p' := 7) D_Grid_quotient_4 F_Grid_27 (by first | assumption | exact sUp_eq | (rw [sUp_ne (by omega)]; assumption) | (rw [sUp_ne (by omega), sUp_ne (by omega)]; assumption) | (rw [sUp_ne (by omega)]; exact sUp_eq) | (simp [sUp]; done)) (by rfl) rfl ?_
      first | refine e_icmpN_ge (q := 28) (p' := 10) D_Grid_quotient_7 (by omega) (by omega) rfl rfl (fun hc7 => ?_) (fun hc7 => ?_) | refine e_icmp_ge (q := 28) (p' := 10) D_Grid_quotient_7 rfl rfl (fun hc7 => ?_) (fun hc7 => ?_)
      ·
        exfalso; omega
      ·
        refine e_aload_0 (p' := 11) D_Grid_quotient_10 rfl ?_
        refine e_iload_3 (p' := 12) D_Grid_quotient_11 rfl ?_
        refine e_iload_2 (p' := 13) D_Grid_quotient_12 rfl ?_
        have hmm := Nat.mod_lt (k * b) (y := x.1.2.2) (by omega)
        refine x_callV1 (p' := 16) D_Grid_quotient_13 V_Grid_61 (c_Grid_product hG0 hx (by omega) hb) rfl (by first | assumption | exact sUp_eq | (rw [sUp_ne (by omega)]; assumption) | (rw [sUp_ne (by omega), sUp_ne (by omega)]; assumption) | (rw [sUp_ne (by omega)]; exact sUp_eq) | (simp [sUp]; done)) rfl (Nat.le_of_ble_eq_true rfl) (by decide) ⟨by decide, by decide⟩ rfl ?_
        refine e_iload_1 (p' := 17) D_Grid_quotient_16 rfl ?_
        first | refine e_icmpN_ne (q := 22) (p' := 20) D_Grid_quotient_17 (by omega) (by omega) rfl rfl (fun hc17 => ?_) (fun hc17 => ?_) | refine e_icmp_ne (q := 22) (p' := 20) D_Grid_quotient_17 rfl rfl (fun hc17 => ?_) (fun hc17 => ?_)
        ·
          first | refine e_iincN_3 (n := 1) (p' := 25) D_Grid_quotient_22 (Nat.le_of_ble_eq_true rfl) rfl rfl ?_ | refine e_iinc_3 (p' := 25) D_Grid_quotient_22 (Nat.le_of_ble_eq_true rfl) rfl rfl rfl ?_
          refine e_goto (p' := 2) D_Grid_quotient_25 rfl ?_
          rw [show x.1.2.2 - k = (x.1.2.2 - (k + 1)) + 1 by omega] at hq
          unfold qtF at hq
          rw [if_neg hc17] at hq
          refine sEv.castW (ih2 hq) ?_ ?_ ?_
          · first | exact lvW_rfl _ | (simp [lvW]; done) | (simp [lvW, *]; done) | (simp [lvW]; omega)
          · rfl
          · first | rfl | (simp; done)
        ·
          refine e_iload_3 (p' := 21) D_Grid_quotient_20 rfl ?_
          refine e_ireturn (ty := .int) D_Grid_quotient_21 rfl (by first | rfl | exact sBo_nar _) ⟨by decide, by decide⟩ ?_
          rw [show x.1.2.2 - k = (x.1.2.2 - (k + 1)) + 1 by omega] at hq
          unfold qtF at hq
          rw [if_pos (by omega)] at hq
          rw [← hq]; exact ⟨rfl, rfl⟩
  refine sEv.castW (lk2 0 (by omega) rfl) ?_ ?_ ?_
  · first | exact lvW_rfl _ | (simp [lvW]; done) | (simp [lvW, *]; done) | (simp [lvW]; omega)
  · rfl
  · first | rfl | (simp; done)
set_option maxRecDepth 4000 in
theorem c_Grid_clear {l : Launch} {h : sH} {g : Nat} {x : Gd} (hG : GridAt h g x) (hx : Gok x) {r c m : Nat} : sX l m_Grid_clear 1 [.ref g, .int (nI r), .int (nI c), .int (nI m)] h (none) (gSet h g ((r, c, m), fun _ => 0)) := by
  have hG0 := hG
  obtain ⟨g0, g1, g2⟩ := hG
  have hR := hx.1
  have hC := hx.2.1
  have hM := hx.2.2.1.le
  refine en_Grid_clear ?_
  refine e_aload_0 (p' := 1) D_Grid_clear_0 rfl ?_
  refine e_iload_1 (p' := 2) D_Grid_clear_1 rfl ?_
  refine e_putfield (p' := 5) D_Grid_clear_2 F_Grid_20 (Or.inl rfl) (by first | assumption | exact sUp_eq | (rw [sUp_ne (by omega)]; assumption) | (rw [sUp_ne (by omega), sUp_ne (by omega)]; assumption) | (rw [sUp_ne (by omega)]; exact sUp_eq) | (simp [sUp]; done)) (fun _ => ⟨rfl, rfl⟩) (Nat.le_of_ble_eq_true rfl) (by rfl) rfl ?_
  try dsimp only [List.set]
  refine e_aload_0 (p' := 6) D_Grid_clear_5 rfl ?_
  refine e_iload_2 (p' := 7) D_Grid_clear_6 rfl ?_
  refine e_putfield (p' := 10) D_Grid_clear_7 F_Grid_24 (Or.inl rfl) (by first | assumption | exact sUp_eq | (rw [sUp_ne (by omega)]; assumption) | (rw [sUp_ne (by omega), sUp_ne (by omega)]; assumption) | (rw [sUp_ne (by omega)]; exact sUp_eq) | (simp [sUp]; done)) (fun _ => ⟨rfl, rfl⟩) (Nat.le_of_ble_eq_true rfl) (by rfl) rfl ?_
  try dsimp only [List.set]
  rw [sUp_sUp]
  refine e_aload_0 (p' := 11) D_Grid_clear_10 rfl ?_
  refine e_iload_3 (p' := 12) D_Grid_clear_11 rfl ?_
  refine e_putfield (p' := 15) D_Grid_clear_12 F_Grid_27 (Or.inl rfl) (by first | assumption | exact sUp_eq | (rw [sUp_ne (by omega)]; assumption) | (rw [sUp_ne (by omega), sUp_ne (by omega)]; assumption) | (rw [sUp_ne (by omega)]; exact sUp_eq) | (simp [sUp]; done)) (fun _ => ⟨rfl, rfl⟩) (Nat.le_of_ble_eq_true rfl) (by rfl) rfl ?_
  try dsimp only [List.set]
  rw [sUp_sUp]
  refine e_aload_0 (p' := 16) D_Grid_clear_15 rfl ?_
  refine e_getfield (p' := 19) D_Grid_clear_16 F_Grid_14 (by first | assumption | exact sUp_eq | (rw [sUp_ne (by omega)]; assumption) | (rw [sUp_ne (by omega), sUp_ne (by omega)]; assumption) | (rw [sUp_ne (by omega)]; exact sUp_eq) | (simp [sUp]; done)) (by rfl) rfl ?_
  refine e_iconst (v := nI 0) (p' := 20) D_Grid_clear_19 cst_iconst_0 rfl ?_
  refine x_callV0 (p' := 23) D_Grid_clear_20 V_Grid_30 (c_Num_setEach (by first | assumption | exact sUp_eq | (rw [sUp_ne (by omega)]; assumption) | (rw [sUp_ne (by omega), sUp_ne (by omega)]; assumption) | (rw [sUp_ne (by omega)]; exact sUp_eq) | (simp [sUp]; done)) (by first | assumption | exact sUp_eq | (rw [sUp_ne (by omega)]; assumption) | (rw [sUp_ne (by omega), sUp_ne (by omega)]; assumption) | (rw [sUp_ne (by omega)]; exact sUp_eq) | (simp [sUp]; done)) (by omega)) rfl (by first | assumption | exact sUp_eq | (rw [sUp_ne (by omega)]; assumption) | (rw [sUp_ne (by omega), sUp_ne (by omega)]; assumption) | (rw [sUp_ne (by omega)]; exact sUp_eq) | (simp [sUp]; done)) rfl (Nat.le_of_ble_eq_true rfl) (by decide) ⟨by decide, by decide⟩ rfl ?_
  refine e_return D_Grid_clear_23 rfl ⟨by decide, by decide⟩ ?_
  refine ⟨rfl, ?_⟩
  unfold gSet
  refine sUp_arr fun k => ?_
  by_cases e : k < 36
  · simp [e, nF]
  · simp [e, nF, hx.zero (Nat.not_lt.mp e)]
set_option maxRecDepth 4000 in
theorem c_Grid_copyFrom {l : Launch} {h : sH} {g : Nat} {x : Gd} (hG : GridAt h g x) (hx : Gok x) {g' : Nat} {y : Gd} (hG2 : GridAt h g' y) (hy : Gok y) (hgg : g + 3 ≤ g' ∨ g' + 3 ≤ g) : sX l m_Grid_copyFrom 2 [.ref g, .ref g'] h (none) (gSet h g y) := by
  have hG0 := hG
  obtain ⟨g0, g1, g2⟩ := hG
  have hR := hx.1
  have hC := hx.2.1
  have hM := hx.2.2.1.le
  obtain ⟨y0, y1, y2⟩ := hG2
  refine en_Grid_copyFrom ?_
  refine e_aload_0 (p' := 1) D_Grid_copyFrom_0 rfl ?_
  refine e_aload_1 (p' := 2) D_Grid_copyFrom_1 rfl ?_
  refine e_getfield (p' := 5) D_Grid_copyFrom_2 F_Grid_20 (by first | assumption | exact sUp_eq | (rw [sUp_ne (by omega)]; assumption) | (rw [sUp_ne (by omega), sUp_ne (by omega)]; assumption) | (rw [sUp_ne (by omega)]; exact sUp_eq) | (simp [sUp]; done)) (by rfl) rfl ?_
  refine e_putfield (p' := 8) D_Grid_copyFrom_5 F_Grid_20 (Or.inl rfl) (by first | assumption | exact sUp_eq | (rw [sUp_ne (by omega)]; assumption) | (rw [sUp_ne (by omega), sUp_ne (by omega)]; assumption) | (rw [sUp_ne (by omega)]; exact sUp_eq) | (simp [sUp]; done)) (fun _ => ⟨rfl, rfl⟩) (Nat.le_of_ble_eq_true rfl) (by rfl) rfl ?_
  try dsimp only [List.set]
  refine e_aload_0 (p' := 9) D_Grid_copyFrom_8 rfl ?_
  refine e_aload_1 (p' := 10) D_Grid_copyFrom_9 rfl ?_
  refine e_getfield (p' := 13) D_Grid_copyFrom_10 F_Grid_24 (by first | assumption | exact sUp_eq | (rw [sUp_ne (by omega)]; assumption) | (rw [sUp_ne (by omega), sUp_ne (by omega)]; assumption) | (rw [sUp_ne (by omega)]; exact sUp_eq) | (simp [sUp]; done)) (by rfl) rfl ?_
  refine e_putfield (p' := 16) D_Grid_copyFrom_13 F_Grid_24 (Or.inl rfl) (by first | assumption | exact sUp_eq | (rw [sUp_ne (by omega)]; assumption) | (rw [sUp_ne (by omega), sUp_ne (by omega)]; assumption) | (rw [sUp_ne (by omega)]; exact sUp_eq) | (simp [sUp]; done)) (fun _ => ⟨rfl, rfl⟩) (Nat.le_of_ble_eq_true rfl) (by rfl) rfl ?_
  try dsimp only [List.set]
  rw [sUp_sUp]
  refine e_aload_0 (p' := 17) D_Grid_copyFrom_16 rfl ?_
  refine e_aload_1 (p' := 18) D_Grid_copyFrom_17 rfl ?_
  refine e_getfield (p' := 21) D_Grid_copyFrom_18 F_Grid_27 (by first | assumption | exact sUp_eq | (rw [sUp_ne (by omega)]; assumption) | (rw [sUp_ne (by omega), sUp_ne (by omega)]; assumption) | (rw [sUp_ne (by omega)]; exact sUp_eq) | (simp [sUp]; done)) (by rfl) rfl ?_
  refine e_putfield (p' := 24) D_Grid_copyFrom_21 F_Grid_27 (Or.inl rfl) (by first | assumption | exact sUp_eq | (rw [sUp_ne (by omega)]; assumption) | (rw [sUp_ne (by omega), sUp_ne (by omega)]; assumption) | (rw [sUp_ne (by omega)]; exact sUp_eq) | (simp [sUp]; done)) (fun _ => ⟨rfl, rfl⟩) (Nat.le_of_ble_eq_true rfl) (by rfl) rfl ?_
  try dsimp only [List.set]
  rw [sUp_sUp]
  refine e_aload_0 (p' := 25) D_Grid_copyFrom_24 rfl ?_
  refine e_getfield (p' := 28) D_Grid_copyFrom_25 F_Grid_14 (by first | assumption | exact sUp_eq | (rw [sUp_ne (by omega)]; assumption) | (rw [sUp_ne (by omega), sUp_ne (by omega)]; assumption) | (rw [sUp_ne (by omega)]; exact sUp_eq) | (simp [sUp]; done)) (by rfl) rfl ?_
  refine e_aload_1 (p' := 29) D_Grid_copyFrom_28 rfl ?_
  refine e_getfield (p' := 32) D_Grid_copyFrom_29 F_Grid_14 (by first | assumption | exact sUp_eq | (rw [sUp_ne (by omega)]; assumption) | (rw [sUp_ne (by omega), sUp_ne (by omega)]; assumption) | (rw [sUp_ne (by omega)]; exact sUp_eq) | (simp [sUp]; done)) (by rfl) rfl ?_
  refine x_callV0 (p' := 35) D_Grid_copyFrom_32 V_Grid_33 (c_Num_copyFrom (by first | assumption | exact sUp_eq | (rw [sUp_ne (by omega)]; assumption) | (rw [sUp_ne (by omega), sUp_ne (by omega)]; assumption) | (rw [sUp_ne (by omega)]; exact sUp_eq) | (simp [sUp]; done)) (by first | assumption | exact sUp_eq | (rw [sUp_ne (by omega)]; assumption) | (rw [sUp_ne (by omega), sUp_ne (by omega)]; assumption) | (rw [sUp_ne (by omega)]; exact sUp_eq) | (simp [sUp]; done)) (by first | assumption | exact sUp_eq | (rw [sUp_ne (by omega)]; assumption) | (rw [sUp_ne (by omega), sUp_ne (by omega)]; assumption) | (rw [sUp_ne (by omega)]; exact sUp_eq) | (simp [sUp]; done)) (by first | assumption | exact sUp_eq | (rw [sUp_ne (by omega)]; assumption) | (rw [sUp_ne (by omega), sUp_ne (by omega)]; assumption) | (rw [sUp_ne (by omega)]; exact sUp_eq) | (simp [sUp]; done)) (by omega) (by omega) (by omega)) rfl (by first | assumption | exact sUp_eq | (rw [sUp_ne (by omega)]; assumption) | (rw [sUp_ne (by omega), sUp_ne (by omega)]; assumption) | (rw [sUp_ne (by omega)]; exact sUp_eq) | (simp [sUp]; done)) rfl (Nat.le_of_ble_eq_true rfl) (by decide) ⟨by decide, by decide⟩ rfl ?_
  refine e_return D_Grid_copyFrom_35 rfl ⟨by decide, by decide⟩ ?_
  refine ⟨rfl, ?_⟩
  unfold gSet
  refine sUp_arr fun k => ?_
  by_cases e : k < 36
  · simp [e]
  · simp [e, nF, hx.zero (Nat.not_lt.mp e), hy.zero (Nat.not_lt.mp e)]
end
