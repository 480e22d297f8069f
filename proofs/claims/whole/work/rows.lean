section
-- ===== PART A: goes FIRST, ahead of the names: the tables' words, and 'selects' of the private methods out of them =====
/-- a private method of a class that the tables say can be made, by its rows of tables_1 -/
def lw_okq (q : MethodName × Nat) : Prop := (q.1.cls ≠ "java/lang/invoke/MethodHandle" ∧ q.1.cls ≠ "java/lang/invoke/VarHandle") ∧ Cond.instantiable q.1.cls q.2 ∈ tables_1 ∧ Cond.privateMethod q.1 ∈ tables_1 ∧ Cond.instanceMethod q.1 ∈ tables_1
theorem lw_p0 : lw_okq (⟨"OneRankGrid$History", "pastAt", "(I)LOneRankGrid$Grid;"⟩, 3) := ⟨⟨by decide +kernel, by decide +kernel⟩, List.mem_of_getElem? (i := 159) (by decide +kernel), List.mem_of_getElem? (i := 259) (by decide +kernel), List.mem_of_getElem? (i := 260) (by decide +kernel)⟩
theorem lw_p1 : lw_okq (⟨"OneRankGrid", "errorOfTelling", "(III)I"⟩, 8) := ⟨⟨by decide +kernel, by decide +kernel⟩, List.mem_of_getElem? (i := 14) (by decide +kernel), List.mem_of_getElem? (i := 284) (by decide +kernel), List.mem_of_getElem? (i := 285) (by decide +kernel)⟩
theorem lw_p2 : lw_okq (⟨"OneRankGrid$Parts", "spread", "(LOneRankGrid$Grid;)V"⟩, 6) := ⟨⟨by decide +kernel, by decide +kernel⟩, List.mem_of_getElem? (i := 55) (by decide +kernel), List.mem_of_getElem? (i := 317) (by decide +kernel), List.mem_of_getElem? (i := 318) (by decide +kernel)⟩
theorem lw_p3 : lw_okq (⟨"OneRankGrid$Parts", "reachOver", "(LOneRankGrid$Grid;II)Z"⟩, 6) := ⟨⟨by decide +kernel, by decide +kernel⟩, List.mem_of_getElem? (i := 55) (by decide +kernel), List.mem_of_getElem? (i := 326) (by decide +kernel), List.mem_of_getElem? (i := 327) (by decide +kernel)⟩
theorem lw_p4 : lw_okq (⟨"OneRankGrid$Parts", "allToldAreProducts", "(LOneRankGrid$Grid;)Z"⟩, 6) := ⟨⟨by decide +kernel, by decide +kernel⟩, List.mem_of_getElem? (i := 55) (by decide +kernel), List.mem_of_getElem? (i := 338) (by decide +kernel), List.mem_of_getElem? (i := 339) (by decide +kernel)⟩
theorem lw_p5 : lw_okq (⟨"OneRankGrid", "countOfParts", "(I)I"⟩, 8) := ⟨⟨by decide +kernel, by decide +kernel⟩, List.mem_of_getElem? (i := 14) (by decide +kernel), List.mem_of_getElem? (i := 440) (by decide +kernel), List.mem_of_getElem? (i := 441) (by decide +kernel)⟩
theorem lw_p6 : lw_okq (⟨"OneRankGrid$Minors", "countBelow", "(LOneRankGrid$Grid;IIZ)I"⟩, 1) := ⟨⟨by decide +kernel, by decide +kernel⟩, List.mem_of_getElem? (i := 126) (by decide +kernel), List.mem_of_getElem? (i := 454) (by decide +kernel), List.mem_of_getElem? (i := 455) (by decide +kernel)⟩
theorem lw_p7 : lw_okq (⟨"OneRankGrid$Minors", "rankOf", "(LOneRankGrid$Grid;I)I"⟩, 1) := ⟨⟨by decide +kernel, by decide +kernel⟩, List.mem_of_getElem? (i := 126) (by decide +kernel), List.mem_of_getElem? (i := 466) (by decide +kernel), List.mem_of_getElem? (i := 467) (by decide +kernel)⟩
theorem lw_p8 : lw_okq (⟨"OneRankGrid$Minors", "bringUp", "(III)Z"⟩, 1) := ⟨⟨by decide +kernel, by decide +kernel⟩, List.mem_of_getElem? (i := 126) (by decide +kernel), List.mem_of_getElem? (i := 475) (by decide +kernel), List.mem_of_getElem? (i := 476) (by decide +kernel)⟩
theorem lw_p9 : lw_okq (⟨"OneRankGrid$Minors", "eliminate", "(LOneRankGrid$Grid;III)V"⟩, 1) := ⟨⟨by decide +kernel, by decide +kernel⟩, List.mem_of_getElem? (i := 126) (by decide +kernel), List.mem_of_getElem? (i := 485) (by decide +kernel), List.mem_of_getElem? (i := 486) (by decide +kernel)⟩
theorem lw_p10 : lw_okq (⟨"OneRankGrid$Rings", "walk", "(III)V"⟩, 11) := ⟨⟨by decide +kernel, by decide +kernel⟩, List.mem_of_getElem? (i := 82) (by decide +kernel), List.mem_of_getElem? (i := 517) (by decide +kernel), List.mem_of_getElem? (i := 518) (by decide +kernel)⟩
theorem lw_p11 : lw_okq (⟨"OneRankGrid$Rings", "lead", "(III)Z"⟩, 11) := ⟨⟨by decide +kernel, by decide +kernel⟩, List.mem_of_getElem? (i := 82) (by decide +kernel), List.mem_of_getElem? (i := 521) (by decide +kernel), List.mem_of_getElem? (i := 522) (by decide +kernel)⟩
theorem lw_p12 : lw_okq (⟨"OneRankGrid$Rings", "findRatios", "(III)V"⟩, 11) := ⟨⟨by decide +kernel, by decide +kernel⟩, List.mem_of_getElem? (i := 82) (by decide +kernel), List.mem_of_getElem? (i := 526) (by decide +kernel), List.mem_of_getElem? (i := 527) (by decide +kernel)⟩
theorem lw_p13 : lw_okq (⟨"OneRankGrid$Rings", "forgetSetsOf", "(I)V"⟩, 11) := ⟨⟨by decide +kernel, by decide +kernel⟩, List.mem_of_getElem? (i := 82) (by decide +kernel), List.mem_of_getElem? (i := 533) (by decide +kernel), List.mem_of_getElem? (i := 534) (by decide +kernel)⟩
theorem lw_p14 : lw_okq (⟨"OneRankGrid$Rings", "leadOn", "(II)Z"⟩, 11) := ⟨⟨by decide +kernel, by decide +kernel⟩, List.mem_of_getElem? (i := 82) (by decide +kernel), List.mem_of_getElem? (i := 538) (by decide +kernel), List.mem_of_getElem? (i := 539) (by decide +kernel)⟩
theorem lw_p15 : lw_okq (⟨"OneRankGrid$Rings", "collect", "(I)V"⟩, 11) := ⟨⟨by decide +kernel, by decide +kernel⟩, List.mem_of_getElem? (i := 82) (by decide +kernel), List.mem_of_getElem? (i := 543) (by decide +kernel), List.mem_of_getElem? (i := 544) (by decide +kernel)⟩
def lw_privs_1 : List (MethodName × Nat) := [(⟨"OneRankGrid$History", "pastAt", "(I)LOneRankGrid$Grid;"⟩, 3), (⟨"OneRankGrid", "errorOfTelling", "(III)I"⟩, 8), (⟨"OneRankGrid$Parts", "spread", "(LOneRankGrid$Grid;)V"⟩, 6), (⟨"OneRankGrid$Parts", "reachOver", "(LOneRankGrid$Grid;II)Z"⟩, 6), (⟨"OneRankGrid$Parts", "allToldAreProducts", "(LOneRankGrid$Grid;)Z"⟩, 6), (⟨"OneRankGrid", "countOfParts", "(I)I"⟩, 8), (⟨"OneRankGrid$Minors", "countBelow", "(LOneRankGrid$Grid;IIZ)I"⟩, 1), (⟨"OneRankGrid$Minors", "rankOf", "(LOneRankGrid$Grid;I)I"⟩, 1), (⟨"OneRankGrid$Minors", "bringUp", "(III)Z"⟩, 1), (⟨"OneRankGrid$Minors", "eliminate", "(LOneRankGrid$Grid;III)V"⟩, 1), (⟨"OneRankGrid$Rings", "walk", "(III)V"⟩, 11), (⟨"OneRankGrid$Rings", "lead", "(III)Z"⟩, 11), (⟨"OneRankGrid$Rings", "findRatios", "(III)V"⟩, 11), (⟨"OneRankGrid$Rings", "forgetSetsOf", "(I)V"⟩, 11), (⟨"OneRankGrid$Rings", "leadOn", "(II)Z"⟩, 11), (⟨"OneRankGrid$Rings", "collect", "(I)V"⟩, 11)]
theorem lw_r1 : ∀ q ∈ lw_privs_1, lw_okq q := List.forall_mem_cons.mpr ⟨lw_p0, List.forall_mem_cons.mpr ⟨lw_p1, List.forall_mem_cons.mpr ⟨lw_p2, List.forall_mem_cons.mpr ⟨lw_p3, List.forall_mem_cons.mpr ⟨lw_p4, List.forall_mem_cons.mpr ⟨lw_p5, List.forall_mem_cons.mpr ⟨lw_p6, List.forall_mem_cons.mpr ⟨lw_p7, List.forall_mem_cons.mpr ⟨lw_p8, List.forall_mem_cons.mpr ⟨lw_p9, List.forall_mem_cons.mpr ⟨lw_p10, List.forall_mem_cons.mpr ⟨lw_p11, List.forall_mem_cons.mpr ⟨lw_p12, List.forall_mem_cons.mpr ⟨lw_p13, List.forall_mem_cons.mpr ⟨lw_p14, List.forall_mem_cons.mpr ⟨lw_p15, fun _ h => absurd h List.not_mem_nil⟩⟩⟩⟩⟩⟩⟩⟩⟩⟩⟩⟩⟩⟩⟩⟩
theorem lw_p16 : lw_okq (⟨"OneRankGrid$Rings", "noteWrong", "(III)V"⟩, 11) := ⟨⟨by decide +kernel, by decide +kernel⟩, List.mem_of_getElem? (i := 82) (by decide +kernel), List.mem_of_getElem? (i := 547) (by decide +kernel), List.mem_of_getElem? (i := 548) (by decide +kernel)⟩
theorem lw_p17 : lw_okq (⟨"OneRankGrid", "shortestWrongTurns", "()I"⟩, 8) := ⟨⟨by decide +kernel, by decide +kernel⟩, List.mem_of_getElem? (i := 14) (by decide +kernel), List.mem_of_getElem? (i := 563) (by decide +kernel), List.mem_of_getElem? (i := 564) (by decide +kernel)⟩
theorem lw_p18 : lw_okq (⟨"OneRankGrid", "countCompletions", "()J"⟩, 8) := ⟨⟨by decide +kernel, by decide +kernel⟩, List.mem_of_getElem? (i := 14) (by decide +kernel), List.mem_of_getElem? (i := 579) (by decide +kernel), List.mem_of_getElem? (i := 580) (by decide +kernel)⟩
theorem lw_p19 : lw_okq (⟨"OneRankGrid", "factorOf", "(JI)I"⟩, 8) := ⟨⟨by decide +kernel, by decide +kernel⟩, List.mem_of_getElem? (i := 14) (by decide +kernel), List.mem_of_getElem? (i := 591) (by decide +kernel), List.mem_of_getElem? (i := 592) (by decide +kernel)⟩
theorem lw_p20 : lw_okq (⟨"OneRankGrid", "slotAt", "(I)LOneRankGrid$Slot;"⟩, 8) := ⟨⟨by decide +kernel, by decide +kernel⟩, List.mem_of_getElem? (i := 14) (by decide +kernel), List.mem_of_getElem? (i := 652) (by decide +kernel), List.mem_of_getElem? (i := 653) (by decide +kernel)⟩
theorem lw_p21 : lw_okq (⟨"OneRankGridModel", "toldMany", "()I"⟩, 22) := ⟨⟨by decide +kernel, by decide +kernel⟩, List.mem_of_getElem? (i := 673) (by decide +kernel), List.mem_of_getElem? (i := 759) (by decide +kernel), List.mem_of_getElem? (i := 760) (by decide +kernel)⟩
theorem lw_p22 : lw_okq (⟨"OneRankGridModel", "record", "()V"⟩, 22) := ⟨⟨by decide +kernel, by decide +kernel⟩, List.mem_of_getElem? (i := 673) (by decide +kernel), List.mem_of_getElem? (i := 767) (by decide +kernel), List.mem_of_getElem? (i := 768) (by decide +kernel)⟩
theorem lw_p23 : lw_okq (⟨"OneRankGridModel", "isEntry", "(II)Z"⟩, 22) := ⟨⟨by decide +kernel, by decide +kernel⟩, List.mem_of_getElem? (i := 673) (by decide +kernel), List.mem_of_getElem? (i := 779) (by decide +kernel), List.mem_of_getElem? (i := 780) (by decide +kernel)⟩
theorem lw_p24 : lw_okq (⟨"OneRankGridModel", "at", "(II)I"⟩, 22) := ⟨⟨by decide +kernel, by decide +kernel⟩, List.mem_of_getElem? (i := 673) (by decide +kernel), List.mem_of_getElem? (i := 783) (by decide +kernel), List.mem_of_getElem? (i := 784) (by decide +kernel)⟩
theorem lw_p25 : lw_okq (⟨"OneRankGridModel", "layParts", "()V"⟩, 22) := ⟨⟨by decide +kernel, by decide +kernel⟩, List.mem_of_getElem? (i := 673) (by decide +kernel), List.mem_of_getElem? (i := 791) (by decide +kernel), List.mem_of_getElem? (i := 792) (by decide +kernel)⟩
theorem lw_p26 : lw_okq (⟨"OneRankGridModel", "spread", "(I)V"⟩, 22) := ⟨⟨by decide +kernel, by decide +kernel⟩, List.mem_of_getElem? (i := 673) (by decide +kernel), List.mem_of_getElem? (i := 795) (by decide +kernel), List.mem_of_getElem? (i := 796) (by decide +kernel)⟩
theorem lw_p27 : lw_okq (⟨"OneRankGridModel", "over", "(I)I"⟩, 22) := ⟨⟨by decide +kernel, by decide +kernel⟩, List.mem_of_getElem? (i := 673) (by decide +kernel), List.mem_of_getElem? (i := 799) (by decide +kernel), List.mem_of_getElem? (i := 800) (by decide +kernel)⟩
theorem lw_p28 : lw_okq (⟨"OneRankGridModel", "times", "(II)I"⟩, 22) := ⟨⟨by decide +kernel, by decide +kernel⟩, List.mem_of_getElem? (i := 673) (by decide +kernel), List.mem_of_getElem? (i := 803) (by decide +kernel), List.mem_of_getElem? (i := 804) (by decide +kernel)⟩
theorem lw_p29 : lw_okq (⟨"OneRankGridModel", "follows", "(II)I"⟩, 22) := ⟨⟨by decide +kernel, by decide +kernel⟩, List.mem_of_getElem? (i := 673) (by decide +kernel), List.mem_of_getElem? (i := 811) (by decide +kernel), List.mem_of_getElem? (i := 812) (by decide +kernel)⟩
theorem lw_p30 : lw_okq (⟨"OneRankGridModel", "followsWithout", "(II)I"⟩, 22) := ⟨⟨by decide +kernel, by decide +kernel⟩, List.mem_of_getElem? (i := 673) (by decide +kernel), List.mem_of_getElem? (i := 815) (by decide +kernel), List.mem_of_getElem? (i := 816) (by decide +kernel)⟩
theorem lw_p31 : lw_okq (⟨"OneRankGridModel", "minorsWith", "(II)I"⟩, 22) := ⟨⟨by decide +kernel, by decide +kernel⟩, List.mem_of_getElem? (i := 673) (by decide +kernel), List.mem_of_getElem? (i := 819) (by decide +kernel), List.mem_of_getElem? (i := 820) (by decide +kernel)⟩
def lw_privs_2 : List (MethodName × Nat) := [(⟨"OneRankGrid$Rings", "noteWrong", "(III)V"⟩, 11), (⟨"OneRankGrid", "shortestWrongTurns", "()I"⟩, 8), (⟨"OneRankGrid", "countCompletions", "()J"⟩, 8), (⟨"OneRankGrid", "factorOf", "(JI)I"⟩, 8), (⟨"OneRankGrid", "slotAt", "(I)LOneRankGrid$Slot;"⟩, 8), (⟨"OneRankGridModel", "toldMany", "()I"⟩, 22), (⟨"OneRankGridModel", "record", "()V"⟩, 22), (⟨"OneRankGridModel", "isEntry", "(II)Z"⟩, 22), (⟨"OneRankGridModel", "at", "(II)I"⟩, 22), (⟨"OneRankGridModel", "layParts", "()V"⟩, 22), (⟨"OneRankGridModel", "spread", "(I)V"⟩, 22), (⟨"OneRankGridModel", "over", "(I)I"⟩, 22), (⟨"OneRankGridModel", "times", "(II)I"⟩, 22), (⟨"OneRankGridModel", "follows", "(II)I"⟩, 22), (⟨"OneRankGridModel", "followsWithout", "(II)I"⟩, 22), (⟨"OneRankGridModel", "minorsWith", "(II)I"⟩, 22)]
theorem lw_r2 : ∀ q ∈ lw_privs_2, lw_okq q := List.forall_mem_cons.mpr ⟨lw_p16, List.forall_mem_cons.mpr ⟨lw_p17, List.forall_mem_cons.mpr ⟨lw_p18, List.forall_mem_cons.mpr ⟨lw_p19, List.forall_mem_cons.mpr ⟨lw_p20, List.forall_mem_cons.mpr ⟨lw_p21, List.forall_mem_cons.mpr ⟨lw_p22, List.forall_mem_cons.mpr ⟨lw_p23, List.forall_mem_cons.mpr ⟨lw_p24, List.forall_mem_cons.mpr ⟨lw_p25, List.forall_mem_cons.mpr ⟨lw_p26, List.forall_mem_cons.mpr ⟨lw_p27, List.forall_mem_cons.mpr ⟨lw_p28, List.forall_mem_cons.mpr ⟨lw_p29, List.forall_mem_cons.mpr ⟨lw_p30, List.forall_mem_cons.mpr ⟨lw_p31, fun _ h => absurd h List.not_mem_nil⟩⟩⟩⟩⟩⟩⟩⟩⟩⟩⟩⟩⟩⟩⟩⟩
theorem lw_p32 : lw_okq (⟨"OneRankGridModel", "rowsOf", "(I)I"⟩, 22) := ⟨⟨by decide +kernel, by decide +kernel⟩, List.mem_of_getElem? (i := 673) (by decide +kernel), List.mem_of_getElem? (i := 827) (by decide +kernel), List.mem_of_getElem? (i := 828) (by decide +kernel)⟩
theorem lw_p33 : lw_okq (⟨"OneRankGridModel", "columnsOf", "(I)I"⟩, 22) := ⟨⟨by decide +kernel, by decide +kernel⟩, List.mem_of_getElem? (i := 673) (by decide +kernel), List.mem_of_getElem? (i := 831) (by decide +kernel), List.mem_of_getElem? (i := 832) (by decide +kernel)⟩
theorem lw_p34 : lw_okq (⟨"OneRankGridModel", "toldIn", "(I)I"⟩, 22) := ⟨⟨by decide +kernel, by decide +kernel⟩, List.mem_of_getElem? (i := 673) (by decide +kernel), List.mem_of_getElem? (i := 835) (by decide +kernel), List.mem_of_getElem? (i := 836) (by decide +kernel)⟩
theorem lw_p35 : lw_okq (⟨"OneRankGridModel", "inParts", "()I"⟩, 22) := ⟨⟨by decide +kernel, by decide +kernel⟩, List.mem_of_getElem? (i := 673) (by decide +kernel), List.mem_of_getElem? (i := 843) (by decide +kernel), List.mem_of_getElem? (i := 844) (by decide +kernel)⟩
theorem lw_p36 : lw_okq (⟨"OneRankGridModel", "minors", "(Z)I"⟩, 22) := ⟨⟨by decide +kernel, by decide +kernel⟩, List.mem_of_getElem? (i := 673) (by decide +kernel), List.mem_of_getElem? (i := 847) (by decide +kernel), List.mem_of_getElem? (i := 848) (by decide +kernel)⟩
theorem lw_p37 : lw_okq (⟨"OneRankGridModel", "rankBound", "()I"⟩, 22) := ⟨⟨by decide +kernel, by decide +kernel⟩, List.mem_of_getElem? (i := 673) (by decide +kernel), List.mem_of_getElem? (i := 851) (by decide +kernel), List.mem_of_getElem? (i := 852) (by decide +kernel)⟩
theorem lw_p38 : lw_okq (⟨"OneRankGridModel", "rankBy", "(I)I"⟩, 22) := ⟨⟨by decide +kernel, by decide +kernel⟩, List.mem_of_getElem? (i := 673) (by decide +kernel), List.mem_of_getElem? (i := 855) (by decide +kernel), List.mem_of_getElem? (i := 856) (by decide +kernel)⟩
theorem lw_p39 : lw_okq (⟨"OneRankGridModel", "areTold", "(II)Z"⟩, 22) := ⟨⟨by decide +kernel, by decide +kernel⟩, List.mem_of_getElem? (i := 673) (by decide +kernel), List.mem_of_getElem? (i := 859) (by decide +kernel), List.mem_of_getElem? (i := 860) (by decide +kernel)⟩
theorem lw_p40 : lw_okq (⟨"OneRankGridModel", "rankOf", "(II)I"⟩, 22) := ⟨⟨by decide +kernel, by decide +kernel⟩, List.mem_of_getElem? (i := 673) (by decide +kernel), List.mem_of_getElem? (i := 863) (by decide +kernel), List.mem_of_getElem? (i := 864) (by decide +kernel)⟩
theorem lw_p41 : lw_okq (⟨"OneRankGridModel", "exchange", "(III)V"⟩, 22) := ⟨⟨by decide +kernel, by decide +kernel⟩, List.mem_of_getElem? (i := 673) (by decide +kernel), List.mem_of_getElem? (i := 867) (by decide +kernel), List.mem_of_getElem? (i := 868) (by decide +kernel)⟩
theorem lw_p42 : lw_okq (⟨"OneRankGridModel", "clearBy", "(IIII)V"⟩, 22) := ⟨⟨by decide +kernel, by decide +kernel⟩, List.mem_of_getElem? (i := 673) (by decide +kernel), List.mem_of_getElem? (i := 871) (by decide +kernel), List.mem_of_getElem? (i := 872) (by decide +kernel)⟩
theorem lw_p43 : lw_okq (⟨"OneRankGridModel", "goCycles", "(I)V"⟩, 22) := ⟨⟨by decide +kernel, by decide +kernel⟩, List.mem_of_getElem? (i := 673) (by decide +kernel), List.mem_of_getElem? (i := 879) (by decide +kernel), List.mem_of_getElem? (i := 880) (by decide +kernel)⟩
theorem lw_p44 : lw_okq (⟨"OneRankGridModel", "canStand", "(II)Z"⟩, 22) := ⟨⟨by decide +kernel, by decide +kernel⟩, List.mem_of_getElem? (i := 673) (by decide +kernel), List.mem_of_getElem? (i := 883) (by decide +kernel), List.mem_of_getElem? (i := 884) (by decide +kernel)⟩
theorem lw_p45 : lw_okq (⟨"OneRankGridModel", "meet", "(I)V"⟩, 22) := ⟨⟨by decide +kernel, by decide +kernel⟩, List.mem_of_getElem? (i := 673) (by decide +kernel), List.mem_of_getElem? (i := 887) (by decide +kernel), List.mem_of_getElem? (i := 888) (by decide +kernel)⟩
theorem lw_p46 : lw_okq (⟨"OneRankGridModel", "isWrong", "(I)Z"⟩, 22) := ⟨⟨by decide +kernel, by decide +kernel⟩, List.mem_of_getElem? (i := 673) (by decide +kernel), List.mem_of_getElem? (i := 891) (by decide +kernel), List.mem_of_getElem? (i := 892) (by decide +kernel)⟩
theorem lw_p47 : lw_okq (⟨"OneRankGridModel", "factorOf", "(JI)I"⟩, 22) := ⟨⟨by decide +kernel, by decide +kernel⟩, List.mem_of_getElem? (i := 673) (by decide +kernel), List.mem_of_getElem? (i := 908) (by decide +kernel), List.mem_of_getElem? (i := 909) (by decide +kernel)⟩
def lw_privs_3 : List (MethodName × Nat) := [(⟨"OneRankGridModel", "rowsOf", "(I)I"⟩, 22), (⟨"OneRankGridModel", "columnsOf", "(I)I"⟩, 22), (⟨"OneRankGridModel", "toldIn", "(I)I"⟩, 22), (⟨"OneRankGridModel", "inParts", "()I"⟩, 22), (⟨"OneRankGridModel", "minors", "(Z)I"⟩, 22), (⟨"OneRankGridModel", "rankBound", "()I"⟩, 22), (⟨"OneRankGridModel", "rankBy", "(I)I"⟩, 22), (⟨"OneRankGridModel", "areTold", "(II)Z"⟩, 22), (⟨"OneRankGridModel", "rankOf", "(II)I"⟩, 22), (⟨"OneRankGridModel", "exchange", "(III)V"⟩, 22), (⟨"OneRankGridModel", "clearBy", "(IIII)V"⟩, 22), (⟨"OneRankGridModel", "goCycles", "(I)V"⟩, 22), (⟨"OneRankGridModel", "canStand", "(II)Z"⟩, 22), (⟨"OneRankGridModel", "meet", "(I)V"⟩, 22), (⟨"OneRankGridModel", "isWrong", "(I)Z"⟩, 22), (⟨"OneRankGridModel", "factorOf", "(JI)I"⟩, 22)]
theorem lw_r3 : ∀ q ∈ lw_privs_3, lw_okq q := List.forall_mem_cons.mpr ⟨lw_p32, List.forall_mem_cons.mpr ⟨lw_p33, List.forall_mem_cons.mpr ⟨lw_p34, List.forall_mem_cons.mpr ⟨lw_p35, List.forall_mem_cons.mpr ⟨lw_p36, List.forall_mem_cons.mpr ⟨lw_p37, List.forall_mem_cons.mpr ⟨lw_p38, List.forall_mem_cons.mpr ⟨lw_p39, List.forall_mem_cons.mpr ⟨lw_p40, List.forall_mem_cons.mpr ⟨lw_p41, List.forall_mem_cons.mpr ⟨lw_p42, List.forall_mem_cons.mpr ⟨lw_p43, List.forall_mem_cons.mpr ⟨lw_p44, List.forall_mem_cons.mpr ⟨lw_p45, List.forall_mem_cons.mpr ⟨lw_p46, List.forall_mem_cons.mpr ⟨lw_p47, fun _ h => absurd h List.not_mem_nil⟩⟩⟩⟩⟩⟩⟩⟩⟩⟩⟩⟩⟩⟩⟩⟩
theorem lw_p48 : lw_okq (⟨"OneRankGridModel", "isWellWith", "(II)Z"⟩, 22) := ⟨⟨by decide +kernel, by decide +kernel⟩, List.mem_of_getElem? (i := 673) (by decide +kernel), List.mem_of_getElem? (i := 916) (by decide +kernel), List.mem_of_getElem? (i := 917) (by decide +kernel)⟩
theorem lw_p49 : lw_okq (⟨"OneRankGridModel", "gain", "(II)I"⟩, 22) := ⟨⟨by decide +kernel, by decide +kernel⟩, List.mem_of_getElem? (i := 673) (by decide +kernel), List.mem_of_getElem? (i := 929) (by decide +kernel), List.mem_of_getElem? (i := 930) (by decide +kernel)⟩
theorem lw_p50 : lw_okq (⟨"OneRankGridModel", "readPad", "()I"⟩, 22) := ⟨⟨by decide +kernel, by decide +kernel⟩, List.mem_of_getElem? (i := 673) (by decide +kernel), List.mem_of_getElem? (i := 949) (by decide +kernel), List.mem_of_getElem? (i := 950) (by decide +kernel)⟩
def lw_privs_4 : List (MethodName × Nat) := [(⟨"OneRankGridModel", "isWellWith", "(II)Z"⟩, 22), (⟨"OneRankGridModel", "gain", "(II)I"⟩, 22), (⟨"OneRankGridModel", "readPad", "()I"⟩, 22)]
theorem lw_r4 : ∀ q ∈ lw_privs_4, lw_okq q := List.forall_mem_cons.mpr ⟨lw_p48, List.forall_mem_cons.mpr ⟨lw_p49, List.forall_mem_cons.mpr ⟨lw_p50, fun _ h => absurd h List.not_mem_nil⟩⟩⟩
def lw_privs : List (MethodName × Nat) := lw_privs_1 ++ (lw_privs_2 ++ (lw_privs_3 ++ (lw_privs_4)))
def lw_tbl : List Cond := k2_sels lw_privs ++ tables_1
theorem lw_privs_ok : ∀ q ∈ lw_privs, lw_okq q := by
  show ∀ q ∈ lw_privs_1 ++ (lw_privs_2 ++ (lw_privs_3 ++ (lw_privs_4))), lw_okq q
  exact List.forall_mem_append.mpr ⟨lw_r1, List.forall_mem_append.mpr ⟨lw_r2, List.forall_mem_append.mpr ⟨lw_r3, lw_r4⟩⟩⟩
-- ===== end of PART A; then your names; then what follows =====
end
section
def RX0 : String := "OneRankGrid$Grid"
def TX0 : u_T := fun k => match k with
  | 0 => ("OneRankGrid$Grid", "numbers", "LOneRankGrid$Numbers;", true)
  | 1 => ("OneRankGrid$Grid", "rows", "I", false)
  | 2 => ("OneRankGrid$Grid", "columns", "I", false)
  | _ => ("OneRankGrid$Grid", "modulus", "I", false)
def tyX0 : Nat → FieldType := fun k => match k with
  | 0 => .object "OneRankGrid$Numbers"
  | 1 => .int
  | 2 => .int
  | _ => .int
abbrev wsX00 : List Cond := u_ws RX0 TX0 4
theorem nmX0 : ∀ a, a < 4 → ∀ b, b < 4 → a ≠ b → (TX0 a).2.1 ≠ (TX0 b).2.1 := by decide +kernel
theorem tyX0_ok : ∀ k, k < 4 → parseFieldDescriptor (TX0 k).2.2.1 = some (tyX0 k) := by decide +kernel
abbrev cX0_init : ByteArray := prog_2_method_1_code
def yX0_init : MethodName := ⟨RX0, "<init>", "()V"⟩
abbrev cX0_rows : ByteArray := prog_2_method_2_code
def yX0_rows : MethodName := ⟨RX0, "rows", "()I"⟩
abbrev cX0_columns : ByteArray := prog_2_method_3_code
def yX0_columns : MethodName := ⟨RX0, "columns", "()I"⟩
abbrev cX0_modulus : ByteArray := prog_2_method_4_code
def yX0_modulus : MethodName := ⟨RX0, "modulus", "()I"⟩
abbrev cX0_clear : ByteArray := prog_2_method_5_code
def yX0_clear : MethodName := ⟨RX0, "clear", "(III)V"⟩
abbrev cX0_copyFrom : ByteArray := prog_2_method_6_code
def yX0_copyFrom : MethodName := ⟨RX0, "copyFrom", "(LOneRankGrid$Grid;)V"⟩
abbrev cX0_has : ByteArray := prog_2_method_7_code
def yX0_has : MethodName := ⟨RX0, "has", "(II)Z"⟩
abbrev cX0_number : ByteArray := prog_2_method_8_code
def yX0_number : MethodName := ⟨RX0, "number", "(II)I"⟩
abbrev cX0_setNumber : ByteArray := prog_2_method_9_code
def yX0_setNumber : MethodName := ⟨RX0, "setNumber", "(III)V"⟩
abbrev cX0_toldInRow : ByteArray := prog_2_method_10_code
def yX0_toldInRow : MethodName := ⟨RX0, "toldInRow", "(I)I"⟩
abbrev cX0_toldCount : ByteArray := prog_2_method_11_code
def yX0_toldCount : MethodName := ⟨RX0, "toldCount", "()I"⟩
abbrev cX0_product : ByteArray := prog_2_method_12_code
def yX0_product : MethodName := ⟨RX0, "product", "(II)I"⟩
abbrev cX0_remainder : ByteArray := prog_2_method_13_code
def yX0_remainder : MethodName := ⟨RX0, "remainder", "(I)I"⟩
abbrev cX0_quotient : ByteArray := prog_2_method_14_code
def yX0_quotient : MethodName := ⟨RX0, "quotient", "(II)I"⟩
def RX1 : String := "OneRankGrid$History"
def TX1 : u_T := fun k => match k with
  | 0 => ("OneRankGrid$History", "past", "[LOneRankGrid$Grid;", true)
  | 1 => ("OneRankGrid$History", "oldest", "I", false)
  | _ => ("OneRankGrid$History", "size", "I", false)
def tyX1 : Nat → FieldType := fun k => match k with
  | 0 => .array (.object "OneRankGrid$Grid")
  | 1 => .int
  | _ => .int
abbrev wsX10 : List Cond := u_ws RX1 TX1 3
theorem nmX1 : ∀ a, a < 3 → ∀ b, b < 3 → a ≠ b → (TX1 a).2.1 ≠ (TX1 b).2.1 := by decide +kernel
theorem tyX1_ok : ∀ k, k < 3 → parseFieldDescriptor (TX1 k).2.2.1 = some (tyX1 k) := by decide +kernel
abbrev cX1_init : ByteArray := prog_3_method_1_code
def yX1_init : MethodName := ⟨RX1, "<init>", "()V"⟩
abbrev cX1_size : ByteArray := prog_3_method_2_code
def yX1_size : MethodName := ⟨RX1, "size", "()I"⟩
abbrev cX1_record : ByteArray := prog_3_method_3_code
def yX1_record : MethodName := ⟨RX1, "record", "(LOneRankGrid$Grid;)V"⟩
abbrev cX1_takeLatest : ByteArray := prog_3_method_4_code
def yX1_takeLatest : MethodName := ⟨RX1, "takeLatest", "()LOneRankGrid$Grid;"⟩
abbrev cX1_pastAt : ByteArray := prog_3_method_5_code
def yX1_pastAt : MethodName := ⟨RX1, "pastAt", "(I)LOneRankGrid$Grid;"⟩
def RX2 : String := "OneRankGrid$Minors"
def TX2 : u_T := fun k => match k with
  | _ => ("OneRankGrid$Minors", "matrix", "LOneRankGrid$Numbers;", true)
def tyX2 : Nat → FieldType := fun k => match k with
  | _ => .object "OneRankGrid$Numbers"
abbrev wsX20 : List Cond := u_ws RX2 TX2 1
theorem nmX2 : ∀ a, a < 1 → ∀ b, b < 1 → a ≠ b → (TX2 a).2.1 ≠ (TX2 b).2.1 := by decide +kernel
theorem tyX2_ok : ∀ k, k < 1 → parseFieldDescriptor (TX2 k).2.2.1 = some (tyX2 k) := by decide +kernel
abbrev cX2_init : ByteArray := prog_4_method_1_code
def yX2_init : MethodName := ⟨RX2, "<init>", "()V"⟩
abbrev cX2_countAll : ByteArray := prog_4_method_2_code
def yX2_countAll : MethodName := ⟨RX2, "countAll", "(LOneRankGrid$Grid;Z)I"⟩
abbrev cX2_countBelow : ByteArray := prog_4_method_3_code
def yX2_countBelow : MethodName := ⟨RX2, "countBelow", "(LOneRankGrid$Grid;IIZ)I"⟩
abbrev cX2_countThrough : ByteArray := prog_4_method_4_code
def yX2_countThrough : MethodName := ⟨RX2, "countThrough", "(LOneRankGrid$Grid;II)I"⟩
abbrev cX2_isMinor : ByteArray := prog_4_method_5_code
def yX2_isMinor : MethodName := ⟨RX2, "isMinor", "(LOneRankGrid$Grid;IIII)Z"⟩
abbrev cX2_isZero : ByteArray := prog_4_method_6_code
def yX2_isZero : MethodName := ⟨RX2, "isZero", "(LOneRankGrid$Grid;IIII)Z"⟩
abbrev cX2_leastRank : ByteArray := prog_4_method_7_code
def yX2_leastRank : MethodName := ⟨RX2, "leastRank", "(LOneRankGrid$Grid;)I"⟩
abbrev cX2_rankOf : ByteArray := prog_4_method_8_code
def yX2_rankOf : MethodName := ⟨RX2, "rankOf", "(LOneRankGrid$Grid;I)I"⟩
abbrev cX2_bringUp : ByteArray := prog_4_method_9_code
def yX2_bringUp : MethodName := ⟨RX2, "bringUp", "(III)Z"⟩
abbrev cX2_eliminate : ByteArray := prog_4_method_10_code
def yX2_eliminate : MethodName := ⟨RX2, "eliminate", "(LOneRankGrid$Grid;III)V"⟩
def RX3 : String := "OneRankGrid$Numbers"
def TX3 : u_T := fun k => match k with
  | _ => ("OneRankGrid$Numbers", "numbers", "[I", true)
def tyX3 : Nat → FieldType := fun k => match k with
  | _ => .array .int
abbrev wsX30 : List Cond := u_ws RX3 TX3 1
theorem nmX3 : ∀ a, a < 1 → ∀ b, b < 1 → a ≠ b → (TX3 a).2.1 ≠ (TX3 b).2.1 := by decide +kernel
theorem tyX3_ok : ∀ k, k < 1 → parseFieldDescriptor (TX3 k).2.2.1 = some (tyX3 k) := by decide +kernel
abbrev cX3_init : ByteArray := prog_5_method_1_code
def yX3_init : MethodName := ⟨RX3, "<init>", "(I)V"⟩
abbrev cX3_get : ByteArray := prog_5_method_2_code
def yX3_get : MethodName := ⟨RX3, "get", "(I)I"⟩
abbrev cX3_set : ByteArray := prog_5_method_3_code
def yX3_set : MethodName := ⟨RX3, "set", "(II)V"⟩
abbrev cX3_setEach : ByteArray := prog_5_method_4_code
def yX3_setEach : MethodName := ⟨RX3, "setEach", "(I)V"⟩
abbrev cX3_copyFrom : ByteArray := prog_5_method_5_code
def yX3_copyFrom : MethodName := ⟨RX3, "copyFrom", "(LOneRankGrid$Numbers;)V"⟩
abbrev cX3_swap : ByteArray := prog_5_method_6_code
def yX3_swap : MethodName := ⟨RX3, "swap", "(II)V"⟩
def RX4 : String := "OneRankGrid$Pad"
def TX4 : u_T := fun k => match k with
  | 0 => ("OneRankGrid$Pad", "codes", "LOneRankGrid$Numbers;", true)
  | 1 => ("OneRankGrid$Pad", "length", "I", false)
  | 2 => ("OneRankGrid$Pad", "rows", "I", false)
  | _ => ("OneRankGrid$Pad", "columns", "I", false)
def tyX4 : Nat → FieldType := fun k => match k with
  | 0 => .object "OneRankGrid$Numbers"
  | 1 => .int
  | 2 => .int
  | _ => .int
abbrev wsX40 : List Cond := u_ws RX4 TX4 4
theorem nmX4 : ∀ a, a < 4 → ∀ b, b < 4 → a ≠ b → (TX4 a).2.1 ≠ (TX4 b).2.1 := by decide +kernel
theorem tyX4_ok : ∀ k, k < 4 → parseFieldDescriptor (TX4 k).2.2.1 = some (tyX4 k) := by decide +kernel
abbrev cX4_init : ByteArray := prog_6_method_1_code
def yX4_init : MethodName := ⟨RX4, "<init>", "()V"⟩
abbrev cX4_length : ByteArray := prog_6_method_2_code
def yX4_length : MethodName := ⟨RX4, "length", "()I"⟩
abbrev cX4_empty : ByteArray := prog_6_method_3_code
def yX4_empty : MethodName := ⟨RX4, "empty", "()V"⟩
abbrev cX4_append : ByteArray := prog_6_method_4_code
def yX4_append : MethodName := ⟨RX4, "append", "(I)V"⟩
abbrev cX4_scan : ByteArray := prog_6_method_5_code
def yX4_scan : MethodName := ⟨RX4, "scan", "()I"⟩
abbrev cX4_rows : ByteArray := prog_6_method_6_code
def yX4_rows : MethodName := ⟨RX4, "rows", "()I"⟩
abbrev cX4_columns : ByteArray := prog_6_method_7_code
def yX4_columns : MethodName := ⟨RX4, "columns", "()I"⟩
abbrev cX4_number : ByteArray := prog_6_method_8_code
def yX4_number : MethodName := ⟨RX4, "number", "(II)I"⟩
abbrev cX4_greatestNumber : ByteArray := prog_6_method_9_code
def yX4_greatestNumber : MethodName := ⟨RX4, "greatestNumber", "()I"⟩
abbrev cX4_signOf : ByteArray := prog_6_method_10_code
def yX4_signOf : MethodName := ⟨RX4, "signOf", "(I)I"⟩
def RX5 : String := "OneRankGrid$Parts"
def TX5 : u_T := fun k => match k with
  | 0 => ("OneRankGrid$Parts", "rowParts", "LOneRankGrid$Numbers;", true)
  | 1 => ("OneRankGrid$Parts", "columnParts", "LOneRankGrid$Numbers;", true)
  | 2 => ("OneRankGrid$Parts", "rowNumbers", "LOneRankGrid$Numbers;", true)
  | 3 => ("OneRankGrid$Parts", "columnNumbers", "LOneRankGrid$Numbers;", true)
  | 4 => ("OneRankGrid$Parts", "size", "I", false)
  | _ => ("OneRankGrid$Parts", "consistent", "Z", false)
def tyX5 : Nat → FieldType := fun k => match k with
  | 0 => .object "OneRankGrid$Numbers"
  | 1 => .object "OneRankGrid$Numbers"
  | 2 => .object "OneRankGrid$Numbers"
  | 3 => .object "OneRankGrid$Numbers"
  | 4 => .int
  | _ => .boolean
abbrev wsX50 : List Cond := u_ws RX5 TX5 6
theorem nmX5 : ∀ a, a < 6 → ∀ b, b < 6 → a ≠ b → (TX5 a).2.1 ≠ (TX5 b).2.1 := by decide +kernel
theorem tyX5_ok : ∀ k, k < 6 → parseFieldDescriptor (TX5 k).2.2.1 = some (tyX5 k) := by decide +kernel
abbrev cX5_init : ByteArray := prog_7_method_1_code
def yX5_init : MethodName := ⟨RX5, "<init>", "()V"⟩
abbrev cX5_find : ByteArray := prog_7_method_2_code
def yX5_find : MethodName := ⟨RX5, "find", "(LOneRankGrid$Grid;)V"⟩
abbrev cX5_spread : ByteArray := prog_7_method_3_code
def yX5_spread : MethodName := ⟨RX5, "spread", "(LOneRankGrid$Grid;)V"⟩
abbrev cX5_reachOver : ByteArray := prog_7_method_4_code
def yX5_reachOver : MethodName := ⟨RX5, "reachOver", "(LOneRankGrid$Grid;II)Z"⟩
abbrev cX5_allToldAreProducts : ByteArray := prog_7_method_5_code
def yX5_allToldAreProducts : MethodName := ⟨RX5, "allToldAreProducts", "(LOneRankGrid$Grid;)Z"⟩
abbrev cX5_size : ByteArray := prog_7_method_6_code
def yX5_size : MethodName := ⟨RX5, "size", "()I"⟩
abbrev cX5_isConsistent : ByteArray := prog_7_method_7_code
def yX5_isConsistent : MethodName := ⟨RX5, "isConsistent", "()Z"⟩
abbrev cX5_partOfRow : ByteArray := prog_7_method_8_code
def yX5_partOfRow : MethodName := ⟨RX5, "partOfRow", "(I)I"⟩
abbrev cX5_partOfColumn : ByteArray := prog_7_method_9_code
def yX5_partOfColumn : MethodName := ⟨RX5, "partOfColumn", "(I)I"⟩
abbrev cX5_areJoined : ByteArray := prog_7_method_10_code
def yX5_areJoined : MethodName := ⟨RX5, "areJoined", "(II)Z"⟩
abbrev cX5_product : ByteArray := prog_7_method_11_code
def yX5_product : MethodName := ⟨RX5, "product", "(LOneRankGrid$Grid;II)I"⟩
abbrev cX5_following : ByteArray := prog_7_method_12_code
def yX5_following : MethodName := ⟨RX5, "following", "(LOneRankGrid$Grid;II)I"⟩
abbrev cX5_rowsOf : ByteArray := prog_7_method_13_code
def yX5_rowsOf : MethodName := ⟨RX5, "rowsOf", "(I)I"⟩
abbrev cX5_columnsOf : ByteArray := prog_7_method_14_code
def yX5_columnsOf : MethodName := ⟨RX5, "columnsOf", "(I)I"⟩
abbrev cX5_membersOf : ByteArray := prog_7_method_15_code
def yX5_membersOf : MethodName := ⟨RX5, "membersOf", "(LOneRankGrid$Numbers;I)I"⟩
abbrev cX5_toldIn : ByteArray := prog_7_method_16_code
def yX5_toldIn : MethodName := ⟨RX5, "toldIn", "(LOneRankGrid$Grid;I)I"⟩
abbrev cX5_joinedEntries : ByteArray := prog_7_method_17_code
def yX5_joinedEntries : MethodName := ⟨RX5, "joinedEntries", "()I"⟩
abbrev cX5_gain : ByteArray := prog_7_method_18_code
def yX5_gain : MethodName := ⟨RX5, "gain", "(II)I"⟩
def RX6 : String := "OneRankGrid$Rings"
def TX6 : u_T := fun k => match k with
  | 0 => ("OneRankGrid$Rings", "grid", "LOneRankGrid$Grid;", true)
  | 1 => ("OneRankGrid$Rings", "toldInRow", "LOneRankGrid$Numbers;", true)
  | 2 => ("OneRankGrid$Rings", "ways", "LOneRankGrid$Numbers;", true)
  | 3 => ("OneRankGrid$Rings", "ratios", "LOneRankGrid$Numbers;", true)
  | 4 => ("OneRankGrid$Rings", "turns", "I", false)
  | 5 => ("OneRankGrid$Rings", "home", "I", false)
  | 6 => ("OneRankGrid$Rings", "greatestRatio", "I", false)
  | 7 => ("OneRankGrid$Rings", "all", "I", false)
  | 8 => ("OneRankGrid$Rings", "wrongOnes", "I", false)
  | 9 => ("OneRankGrid$Rings", "wrongRows", "I", false)
  | _ => ("OneRankGrid$Rings", "wrongColumns", "I", false)
def tyX6 : Nat → FieldType := fun k => match k with
  | 0 => .object "OneRankGrid$Grid"
  | 1 => .object "OneRankGrid$Numbers"
  | 2 => .object "OneRankGrid$Numbers"
  | 3 => .object "OneRankGrid$Numbers"
  | 4 => .int
  | 5 => .int
  | 6 => .int
  | 7 => .int
  | 8 => .int
  | 9 => .int
  | _ => .int
abbrev wsX60 : List Cond := u_ws RX6 TX6 11
theorem nmX6 : ∀ a, a < 11 → ∀ b, b < 11 → a ≠ b → (TX6 a).2.1 ≠ (TX6 b).2.1 := by decide +kernel
theorem tyX6_ok : ∀ k, k < 11 → parseFieldDescriptor (TX6 k).2.2.1 = some (tyX6 k) := by decide +kernel
abbrev cX6_init : ByteArray := prog_8_method_1_code
def yX6_init : MethodName := ⟨RX6, "<init>", "()V"⟩
abbrev cX6_search : ByteArray := prog_8_method_2_code
def yX6_search : MethodName := ⟨RX6, "search", "(LOneRankGrid$Grid;IZ)V"⟩
abbrev cX6_walk : ByteArray := prog_8_method_3_code
def yX6_walk : MethodName := ⟨RX6, "walk", "(III)V"⟩
abbrev cX6_lead : ByteArray := prog_8_method_4_code
def yX6_lead : MethodName := ⟨RX6, "lead", "(III)Z"⟩
abbrev cX6_findRatios : ByteArray := prog_8_method_5_code
def yX6_findRatios : MethodName := ⟨RX6, "findRatios", "(III)V"⟩
abbrev cX6_leadOn : ByteArray := prog_8_method_6_code
def yX6_leadOn : MethodName := ⟨RX6, "leadOn", "(II)Z"⟩
abbrev cX6_forgetSetsOf : ByteArray := prog_8_method_7_code
def yX6_forgetSetsOf : MethodName := ⟨RX6, "forgetSetsOf", "(I)V"⟩
abbrev cX6_collect : ByteArray := prog_8_method_8_code
def yX6_collect : MethodName := ⟨RX6, "collect", "(I)V"⟩
abbrev cX6_noteWrong : ByteArray := prog_8_method_9_code
def yX6_noteWrong : MethodName := ⟨RX6, "noteWrong", "(III)V"⟩
abbrev cX6_all : ByteArray := prog_8_method_10_code
def yX6_all : MethodName := ⟨RX6, "all", "()I"⟩
abbrev cX6_wrongOnes : ByteArray := prog_8_method_11_code
def yX6_wrongOnes : MethodName := ⟨RX6, "wrongOnes", "()I"⟩
abbrev cX6_wrongRows : ByteArray := prog_8_method_12_code
def yX6_wrongRows : MethodName := ⟨RX6, "wrongRows", "()I"⟩
abbrev cX6_wrongColumns : ByteArray := prog_8_method_13_code
def yX6_wrongColumns : MethodName := ⟨RX6, "wrongColumns", "()I"⟩
def RX7 : String := "OneRankGrid$Slot"
def TX7 : u_T := fun k => match k with
  | 0 => ("OneRankGrid$Slot", "saved", "LOneRankGrid$Grid;", true)
  | _ => ("OneRankGrid$Slot", "filled", "Z", false)
def tyX7 : Nat → FieldType := fun k => match k with
  | 0 => .object "OneRankGrid$Grid"
  | _ => .boolean
abbrev wsX70 : List Cond := u_ws RX7 TX7 2
theorem nmX7 : ∀ a, a < 2 → ∀ b, b < 2 → a ≠ b → (TX7 a).2.1 ≠ (TX7 b).2.1 := by decide +kernel
theorem tyX7_ok : ∀ k, k < 2 → parseFieldDescriptor (TX7 k).2.2.1 = some (tyX7 k) := by decide +kernel
abbrev cX7_init : ByteArray := prog_9_method_1_code
def yX7_init : MethodName := ⟨RX7, "<init>", "()V"⟩
abbrev cX7_isFilled : ByteArray := prog_9_method_2_code
def yX7_isFilled : MethodName := ⟨RX7, "isFilled", "()Z"⟩
abbrev cX7_keep : ByteArray := prog_9_method_3_code
def yX7_keep : MethodName := ⟨RX7, "keep", "(LOneRankGrid$Grid;)V"⟩
abbrev cX7_giveTo : ByteArray := prog_9_method_4_code
def yX7_giveTo : MethodName := ⟨RX7, "giveTo", "(LOneRankGrid$Grid;)V"⟩
def RX8 : String := "OneRankGrid"
def TX8 : u_T := fun k => match k with
  | 0 => ("OneRankGrid", "grid", "LOneRankGrid$Grid;", true)
  | 1 => ("OneRankGrid", "trial", "LOneRankGrid$Grid;", true)
  | 2 => ("OneRankGrid", "parts", "LOneRankGrid$Parts;", true)
  | 3 => ("OneRankGrid", "rings", "LOneRankGrid$Rings;", true)
  | 4 => ("OneRankGrid", "minors", "LOneRankGrid$Minors;", true)
  | 5 => ("OneRankGrid", "pad", "LOneRankGrid$Pad;", true)
  | 6 => ("OneRankGrid", "history", "LOneRankGrid$History;", true)
  | _ => ("OneRankGrid", "slots", "[LOneRankGrid$Slot;", true)
def tyX8 : Nat → FieldType := fun k => match k with
  | 0 => .object "OneRankGrid$Grid"
  | 1 => .object "OneRankGrid$Grid"
  | 2 => .object "OneRankGrid$Parts"
  | 3 => .object "OneRankGrid$Rings"
  | 4 => .object "OneRankGrid$Minors"
  | 5 => .object "OneRankGrid$Pad"
  | 6 => .object "OneRankGrid$History"
  | _ => .array (.object "OneRankGrid$Slot")
abbrev wsX80 : List Cond := u_ws RX8 TX8 8
theorem nmX8 : ∀ a, a < 8 → ∀ b, b < 8 → a ≠ b → (TX8 a).2.1 ≠ (TX8 b).2.1 := by decide +kernel
theorem tyX8_ok : ∀ k, k < 8 → parseFieldDescriptor (TX8 k).2.2.1 = some (tyX8 k) := by decide +kernel
abbrev cX8_init : ByteArray := prog_1_method_1_code
def yX8_init : MethodName := ⟨RX8, "<init>", "()V"⟩
abbrev cX8_begin : ByteArray := prog_1_method_2_code
def yX8_begin : MethodName := ⟨RX8, "begin", "(III)I"⟩
abbrev cX8_tell : ByteArray := prog_1_method_3_code
def yX8_tell : MethodName := ⟨RX8, "tell", "(III)I"⟩
abbrev cX8_tellAll : ByteArray := prog_1_method_4_code
def yX8_tellAll : MethodName := ⟨RX8, "tellAll", "()I"⟩
abbrev cX8_read : ByteArray := prog_1_method_5_code
def yX8_read : MethodName := ⟨RX8, "read", "()I"⟩
abbrev cX8_entry : ByteArray := prog_1_method_6_code
def yX8_entry : MethodName := ⟨RX8, "entry", "(III)I"⟩
abbrev cX8_part : ByteArray := prog_1_method_7_code
def yX8_part : MethodName := ⟨RX8, "part", "(II)I"⟩
abbrev cX8_count : ByteArray := prog_1_method_8_code
def yX8_count : MethodName := ⟨RX8, "count", "(I)I"⟩
abbrev cX8_countOfParts : ByteArray := prog_1_method_9_code
def yX8_countOfParts : MethodName := ⟨RX8, "countOfParts", "(I)I"⟩
abbrev cX8_cycles : ByteArray := prog_1_method_10_code
def yX8_cycles : MethodName := ⟨RX8, "cycles", "(II)I"⟩
abbrev cX8_wrong : ByteArray := prog_1_method_11_code
def yX8_wrong : MethodName := ⟨RX8, "wrong", "(I)I"⟩
abbrev cX8_shortestWrongTurns : ByteArray := prog_1_method_12_code
def yX8_shortestWrongTurns : MethodName := ⟨RX8, "shortestWrongTurns", "()I"⟩
abbrev cX8_completions : ByteArray := prog_1_method_13_code
def yX8_completions : MethodName := ⟨RX8, "completions", "()J"⟩
abbrev cX8_completed : ByteArray := prog_1_method_14_code
def yX8_completed : MethodName := ⟨RX8, "completed", "(JII)I"⟩
abbrev cX8_countCompletions : ByteArray := prog_1_method_15_code
def yX8_countCompletions : MethodName := ⟨RX8, "countCompletions", "()J"⟩
abbrev cX8_factorOf : ByteArray := prog_1_method_16_code
def yX8_factorOf : MethodName := ⟨RX8, "factorOf", "(JI)I"⟩
abbrev cX8_isWellIf : ByteArray := prog_1_method_17_code
def yX8_isWellIf : MethodName := ⟨RX8, "isWellIf", "(III)I"⟩
abbrev cX8_spoilers : ByteArray := prog_1_method_18_code
def yX8_spoilers : MethodName := ⟨RX8, "spoilers", "()J"⟩
abbrev cX8_bestEntry : ByteArray := prog_1_method_19_code
def yX8_bestEntry : MethodName := ⟨RX8, "bestEntry", "(I)I"⟩
abbrev cX8_put : ByteArray := prog_1_method_20_code
def yX8_put : MethodName := ⟨RX8, "put", "(J)I"⟩
abbrev cX8_wipe : ByteArray := prog_1_method_21_code
def yX8_wipe : MethodName := ⟨RX8, "wipe", "()I"⟩
abbrev cX8_fault : ByteArray := prog_1_method_22_code
def yX8_fault : MethodName := ⟨RX8, "fault", "()I"⟩
abbrev cX8_sizeOf : ByteArray := prog_1_method_23_code
def yX8_sizeOf : MethodName := ⟨RX8, "sizeOf", "(J)I"⟩
abbrev cX8_undo : ByteArray := prog_1_method_24_code
def yX8_undo : MethodName := ⟨RX8, "undo", "()I"⟩
abbrev cX8_save : ByteArray := prog_1_method_25_code
def yX8_save : MethodName := ⟨RX8, "save", "(I)I"⟩
abbrev cX8_restore : ByteArray := prog_1_method_26_code
def yX8_restore : MethodName := ⟨RX8, "restore", "(I)I"⟩
abbrev cX8_slotAt : ByteArray := prog_1_method_27_code
def yX8_slotAt : MethodName := ⟨RX8, "slotAt", "(I)LOneRankGrid$Slot;"⟩
abbrev cX8_errorOfTelling : ByteArray := prog_1_method_28_code
def yX8_errorOfTelling : MethodName := ⟨RX8, "errorOfTelling", "(III)I"⟩
abbrev cX8_isOutside : ByteArray := prog_1_method_29_code
def yX8_isOutside : MethodName := ⟨RX8, "isOutside", "(III)Z"⟩
abbrev cX8_isModulus : ByteArray := prog_1_method_30_code
def yX8_isModulus : MethodName := ⟨RX8, "isModulus", "(I)Z"⟩
abbrev cX8_holds : ByteArray := prog_1_method_31_code
def yX8_holds : MethodName := ⟨RX8, "holds", "(II)Z"⟩
def RX9 : String := "OneRankGridModel"
def TX9 : u_T := fun k => match k with
  | 0 => ("OneRankGridModel", "z", "[I", true)
  | 1 => ("OneRankGridModel", "past", "[I", true)
  | 2 => ("OneRankGridModel", "slots", "[I", true)
  | 3 => ("OneRankGridModel", "isSaved", "[Z", true)
  | 4 => ("OneRankGridModel", "pastMany", "I", false)
  | 5 => ("OneRankGridModel", "pad", "[C", true)
  | 6 => ("OneRankGridModel", "typed", "I", false)
  | 7 => ("OneRankGridModel", "rowPart", "[I", true)
  | 8 => ("OneRankGridModel", "columnPart", "[I", true)
  | 9 => ("OneRankGridModel", "rowNumber", "[I", true)
  | 10 => ("OneRankGridModel", "columnNumber", "[I", true)
  | 11 => ("OneRankGridModel", "partMany", "I", false)
  | 12 => ("OneRankGridModel", "isWell", "Z", false)
  | 13 => ("OneRankGridModel", "work", "[I", true)
  | 14 => ("OneRankGridModel", "ring", "[I", true)
  | 15 => ("OneRankGridModel", "allCycles", "I", false)
  | 16 => ("OneRankGridModel", "wrongCycles", "I", false)
  | 17 => ("OneRankGridModel", "wrongRows", "I", false)
  | 18 => ("OneRankGridModel", "wrongColumns", "I", false)
  | 19 => ("OneRankGridModel", "read", "[I", true)
  | 20 => ("OneRankGridModel", "readRows", "I", false)
  | _ => ("OneRankGridModel", "readColumns", "I", false)
def tyX9 : Nat → FieldType := fun k => match k with
  | 0 => .array .int
  | 1 => .array .int
  | 2 => .array .int
  | 3 => .array .boolean
  | 4 => .int
  | 5 => .array .char
  | 6 => .int
  | 7 => .array .int
  | 8 => .array .int
  | 9 => .array .int
  | 10 => .array .int
  | 11 => .int
  | 12 => .boolean
  | 13 => .array .int
  | 14 => .array .int
  | 15 => .int
  | 16 => .int
  | 17 => .int
  | 18 => .int
  | 19 => .array .int
  | 20 => .int
  | _ => .int
abbrev wsX90 : List Cond := u_ws RX9 TX9 22
theorem nmX9 : ∀ a, a < 22 → ∀ b, b < 22 → a ≠ b → (TX9 a).2.1 ≠ (TX9 b).2.1 := by decide +kernel
theorem tyX9_ok : ∀ k, k < 22 → parseFieldDescriptor (TX9 k).2.2.1 = some (tyX9 k) := by decide +kernel
abbrev cX9_init : ByteArray := prog_11_method_1_code
def yX9_init : MethodName := ⟨RX9, "<init>", "()V"⟩
abbrev cX9_in : ByteArray := prog_11_method_2_code
def yX9_in : MethodName := ⟨RX9, "in", "(III)Z"⟩
abbrev cX9_isEntry : ByteArray := prog_11_method_3_code
def yX9_isEntry : MethodName := ⟨RX9, "isEntry", "(II)Z"⟩
abbrev cX9_record : ByteArray := prog_11_method_4_code
def yX9_record : MethodName := ⟨RX9, "record", "()V"⟩
abbrev cX9_undo : ByteArray := prog_11_method_5_code
def yX9_undo : MethodName := ⟨RX9, "undo", "()I"⟩
abbrev cX9_toldMany : ByteArray := prog_11_method_6_code
def yX9_toldMany : MethodName := ⟨RX9, "toldMany", "()I"⟩
abbrev cX9_save : ByteArray := prog_11_method_7_code
def yX9_save : MethodName := ⟨RX9, "save", "(I)I"⟩
abbrev cX9_restore : ByteArray := prog_11_method_8_code
def yX9_restore : MethodName := ⟨RX9, "restore", "(I)I"⟩
abbrev cX9_times : ByteArray := prog_11_method_9_code
def yX9_times : MethodName := ⟨RX9, "times", "(II)I"⟩
abbrev cX9_over : ByteArray := prog_11_method_10_code
def yX9_over : MethodName := ⟨RX9, "over", "(I)I"⟩
abbrev cX9_at : ByteArray := prog_11_method_11_code
def yX9_at : MethodName := ⟨RX9, "at", "(II)I"⟩
abbrev cX9_spread : ByteArray := prog_11_method_12_code
def yX9_spread : MethodName := ⟨RX9, "spread", "(I)V"⟩
abbrev cX9_layParts : ByteArray := prog_11_method_13_code
def yX9_layParts : MethodName := ⟨RX9, "layParts", "()V"⟩
abbrev cX9_isWellWith : ByteArray := prog_11_method_14_code
def yX9_isWellWith : MethodName := ⟨RX9, "isWellWith", "(II)Z"⟩
abbrev cX9_begin : ByteArray := prog_11_method_15_code
def yX9_begin : MethodName := ⟨RX9, "begin", "(III)I"⟩
abbrev cX9_tell : ByteArray := prog_11_method_16_code
def yX9_tell : MethodName := ⟨RX9, "tell", "(III)I"⟩
abbrev cX9_tellAll : ByteArray := prog_11_method_17_code
def yX9_tellAll : MethodName := ⟨RX9, "tellAll", "()I"⟩
abbrev cX9_follows : ByteArray := prog_11_method_18_code
def yX9_follows : MethodName := ⟨RX9, "follows", "(II)I"⟩
abbrev cX9_followsWithout : ByteArray := prog_11_method_19_code
def yX9_followsWithout : MethodName := ⟨RX9, "followsWithout", "(II)I"⟩
abbrev cX9_minorsWith : ByteArray := prog_11_method_20_code
def yX9_minorsWith : MethodName := ⟨RX9, "minorsWith", "(II)I"⟩
abbrev cX9_entry : ByteArray := prog_11_method_21_code
def yX9_entry : MethodName := ⟨RX9, "entry", "(III)I"⟩
abbrev cX9_rowsOf : ByteArray := prog_11_method_22_code
def yX9_rowsOf : MethodName := ⟨RX9, "rowsOf", "(I)I"⟩
abbrev cX9_columnsOf : ByteArray := prog_11_method_23_code
def yX9_columnsOf : MethodName := ⟨RX9, "columnsOf", "(I)I"⟩
abbrev cX9_toldIn : ByteArray := prog_11_method_24_code
def yX9_toldIn : MethodName := ⟨RX9, "toldIn", "(I)I"⟩
abbrev cX9_part : ByteArray := prog_11_method_25_code
def yX9_part : MethodName := ⟨RX9, "part", "(II)I"⟩
abbrev cX9_inParts : ByteArray := prog_11_method_26_code
def yX9_inParts : MethodName := ⟨RX9, "inParts", "()I"⟩
abbrev cX9_minors : ByteArray := prog_11_method_27_code
def yX9_minors : MethodName := ⟨RX9, "minors", "(Z)I"⟩
abbrev cX9_areTold : ByteArray := prog_11_method_28_code
def yX9_areTold : MethodName := ⟨RX9, "areTold", "(II)Z"⟩
abbrev cX9_clearBy : ByteArray := prog_11_method_29_code
def yX9_clearBy : MethodName := ⟨RX9, "clearBy", "(IIII)V"⟩
abbrev cX9_exchange : ByteArray := prog_11_method_30_code
def yX9_exchange : MethodName := ⟨RX9, "exchange", "(III)V"⟩
abbrev cX9_rankOf : ByteArray := prog_11_method_31_code
def yX9_rankOf : MethodName := ⟨RX9, "rankOf", "(II)I"⟩
abbrev cX9_rankBy : ByteArray := prog_11_method_32_code
def yX9_rankBy : MethodName := ⟨RX9, "rankBy", "(I)I"⟩
abbrev cX9_rankBound : ByteArray := prog_11_method_33_code
def yX9_rankBound : MethodName := ⟨RX9, "rankBound", "()I"⟩
abbrev cX9_count : ByteArray := prog_11_method_34_code
def yX9_count : MethodName := ⟨RX9, "count", "(I)I"⟩
abbrev cX9_isWrong : ByteArray := prog_11_method_35_code
def yX9_isWrong : MethodName := ⟨RX9, "isWrong", "(I)Z"⟩
abbrev cX9_meet : ByteArray := prog_11_method_36_code
def yX9_meet : MethodName := ⟨RX9, "meet", "(I)V"⟩
abbrev cX9_canStand : ByteArray := prog_11_method_37_code
def yX9_canStand : MethodName := ⟨RX9, "canStand", "(II)Z"⟩
abbrev cX9_goCycles : ByteArray := prog_11_method_38_code
def yX9_goCycles : MethodName := ⟨RX9, "goCycles", "(I)V"⟩
abbrev cX9_cycles : ByteArray := prog_11_method_39_code
def yX9_cycles : MethodName := ⟨RX9, "cycles", "(II)I"⟩
abbrev cX9_wrong : ByteArray := prog_11_method_40_code
def yX9_wrong : MethodName := ⟨RX9, "wrong", "(I)I"⟩
abbrev cX9_completions : ByteArray := prog_11_method_41_code
def yX9_completions : MethodName := ⟨RX9, "completions", "()J"⟩
abbrev cX9_factorOf : ByteArray := prog_11_method_42_code
def yX9_factorOf : MethodName := ⟨RX9, "factorOf", "(JI)I"⟩
abbrev cX9_completed : ByteArray := prog_11_method_43_code
def yX9_completed : MethodName := ⟨RX9, "completed", "(JII)I"⟩
abbrev cX9_isWellIf : ByteArray := prog_11_method_44_code
def yX9_isWellIf : MethodName := ⟨RX9, "isWellIf", "(III)I"⟩
abbrev cX9_spoilers : ByteArray := prog_11_method_45_code
def yX9_spoilers : MethodName := ⟨RX9, "spoilers", "()J"⟩
abbrev cX9_bits : ByteArray := prog_11_method_46_code
def yX9_bits : MethodName := ⟨RX9, "bits", "(I)I"⟩
abbrev cX9_gain : ByteArray := prog_11_method_47_code
def yX9_gain : MethodName := ⟨RX9, "gain", "(II)I"⟩
abbrev cX9_bestEntry : ByteArray := prog_11_method_48_code
def yX9_bestEntry : MethodName := ⟨RX9, "bestEntry", "(I)I"⟩
abbrev cX9_put : ByteArray := prog_11_method_49_code
def yX9_put : MethodName := ⟨RX9, "put", "(J)I"⟩
abbrev cX9_wipe : ByteArray := prog_11_method_50_code
def yX9_wipe : MethodName := ⟨RX9, "wipe", "()I"⟩
abbrev cX9_numberOf : ByteArray := prog_11_method_51_code
def yX9_numberOf : MethodName := ⟨RX9, "numberOf", "(I)I"⟩
abbrev cX9_readPad : ByteArray := prog_11_method_52_code
def yX9_readPad : MethodName := ⟨RX9, "readPad", "()I"⟩
abbrev cX9_fault : ByteArray := prog_11_method_53_code
def yX9_fault : MethodName := ⟨RX9, "fault", "()I"⟩
abbrev cX9_read : ByteArray := prog_11_method_54_code
def yX9_read : MethodName := ⟨RX9, "read", "()I"⟩
def RJ6 : String := "java/lang/Integer"
def TJ6 : u_T := fun k => match k with
  | _ => ("", "", "", false)
def tyJ6 : Nat → FieldType := fun k => match k with
  | _ => .int
abbrev wsJ60 : List Cond := u_ws RJ6 TJ6 0
theorem nmJ6 : ∀ a, a < 0 → ∀ b, b < 0 → a ≠ b → (TJ6 a).2.1 ≠ (TJ6 b).2.1 := by decide +kernel
theorem tyJ6_ok : ∀ k, k < 0 → parseFieldDescriptor (TJ6 k).2.2.1 = some (tyJ6 k) := by decide +kernel
abbrev cJ6_bitCount_0f7a4 : ByteArray := prog_12_method_49_code
def yJ6_bitCount_0f7a4 : MethodName := ⟨RJ6, "bitCount", "(I)I"⟩
def RJ9 : String := "java/lang/Math"
def TJ9 : u_T := fun k => match k with
  | _ => ("", "", "", false)
def tyJ9 : Nat → FieldType := fun k => match k with
  | _ => .int
abbrev wsJ90 : List Cond := u_ws RJ9 TJ9 0
theorem nmJ9 : ∀ a, a < 0 → ∀ b, b < 0 → a ≠ b → (TJ9 a).2.1 ≠ (TJ9 b).2.1 := by decide +kernel
theorem tyJ9_ok : ∀ k, k < 0 → parseFieldDescriptor (TJ9 k).2.2.1 = some (tyJ9 k) := by decide +kernel
abbrev cJ9_max_7cf53 : ByteArray := prog_13_method_65_code
def yJ9_max_7cf53 : MethodName := ⟨RJ9, "max", "(II)I"⟩
def RL : String := "OneRankGridLaw"
abbrev cL_law : ByteArray := code
def yL_law : MethodName := ⟨RL, "law", "([I)Z"⟩
abbrev vwCl : List vw_C := [(RX0, TX0, 4), (RX1, TX1, 3), (RX2, TX2, 1), (RX3, TX3, 1), (RX4, TX4, 4), (RX5, TX5, 6), (RX6, TX6, 11), (RX7, TX7, 2), (RX8, TX8, 8), (RX9, TX9, 22)]
end
section
/-! ===== the engine: abstract frames over relative addresses; one judgement, one rule an instruction ===== -/
abbrev sM : Type := MethodName × ByteArray × Nat × Option FieldType
abbrev sC : Type := (Nat × Nat × (Nat → Int32)) ⊕ ((Nat × Nat × (Nat → Option Nat)) ⊕ (Nat × List Value))
abbrev sH : Type := Nat × (Nat → sC)
abbrev sG : Type := Nat × va_G × (Nat → ClassId)
abbrev sB : Type := Nat × Nat × Nat × Nat
/-- a relative address stands for base + address; 'retAddr a' stands for the absolute reference a (the law's script) -/
def sTr (b : Nat) : Value → Value
  | .ref a => .ref (b + a)
  | .retAddr a => .ref a
  | v => v
def sE (G : sG) : sC → va_E
  | .inl x => .inl (G.2.2 x.1, (x.2.1, .inl x.2.2))
  | .inr (.inl x) => .inl (G.2.2 x.1, (x.2.1, .inr (.inr (.inr (.inr (fun j => (x.2.2 j).map (fun a => G.1 + a)))))))
  | .inr (.inr x) => .inr (x.1, x.2.map (sTr G.1))
def sW (G : sG) (h : sH) : va_W := (List.range h.1).map fun i => (G.1 + i, sE G (h.2 i))
def sJ : sC := .inr (.inr (99, []))
def sR (G : sG) (h : sH) (H : Heap) : Prop := va_P G.2.1 vwCl (sW G h) H ∧ H.size = G.1 + h.1 ∧ ∀ i, h.1 ≤ i → h.2 i = sJ
def sUp (h : sH) (k : Nat) (c : sC) : sH := (h.1, fun j => if j = k then c else h.2 j)
def sPush (h : sH) (c : sC) : sH := (h.1 + 1, fun j => if j = h.1 then c else h.2 j)
theorem sW_get {G : sG} {h : sH} {i : Nat} (hi : i < h.1) : (sW G h)[i]? = some (G.1 + i, sE G (h.2 i)) := by simp [sW, hi]
theorem sW_len {G : sG} {h : sH} : (sW G h).length = h.1 := by simp [sW]
theorem sW_of {G : sG} {h : sH} {i : Nat} {q : Nat × va_E} (hq : (sW G h)[i]? = some q) : i < h.1 ∧ q = (G.1 + i, sE G (h.2 i)) := by
  have hi : i < h.1 := by
    have := (List.getElem?_eq_some_iff.mp hq).1
    rwa [sW_len] at this
  exact ⟨hi, (Option.some.inj (hq.symm.trans (sW_get hi)))⟩
theorem sW_set {G : sG} {h : sH} {k : Nat} {c : sC} : (sW G h).set k (G.1 + k, sE G c) = sW G (sUp h k c) := by
  apply List.ext_getElem?
  intro i
  rw [List.getElem?_set]
  by_cases hk : k = i
  · subst hk
    rw [if_pos rfl, sW_len]
    by_cases hi : k < h.1
    · rw [if_pos hi, sW_get (h := sUp h k c) hi]
      simp [sUp]
    · rw [if_neg hi]
      exact (List.getElem?_eq_none (by rw [sW_len]; exact Nat.not_lt.mp hi)).symm
  · rw [if_neg hk]
    by_cases hi : i < h.1
    · rw [sW_get hi, sW_get (h := sUp h k c) hi]
      simp [sUp, Ne.symm hk]
    · rw [List.getElem?_eq_none (by rw [sW_len]; exact Nat.not_lt.mp hi), List.getElem?_eq_none (by rw [sW_len]; exact Nat.not_lt.mp hi)]
theorem sD (G : sG) (h : sH) : va_D (fun q => G.1 ≤ q) (sW G h) := by
  refine ⟨fun i j p q hi hj hpq => ?_, fun k q hk => ?_⟩
  · obtain ⟨-, rfl⟩ := sW_of hi
    obtain ⟨-, rfl⟩ := sW_of hj
    exact Nat.add_left_cancel hpq
  · obtain ⟨-, rfl⟩ := sW_of hk
    exact Nat.le_add_right _ _
theorem sR_lt {G : sG} {h : sH} {H : Heap} (hR : sR G h H) {a : Nat} (hc : h.2 a ≠ sJ) : a < h.1 := by
  rcases Nat.lt_or_ge a h.1 with q | q
  · exact q
  · exact absurd (hR.2.2 a q) hc
theorem sR_upd {G : sG} {h : sH} {H H1 : Heap} (hR : sR G h H) {a : Nat} (ha : a < h.1) {c : sC} (he : va_at G.2.1 vwCl (G.1 + a, sE G c) H1) (z : H1.size = H.size) (oq : ∀ q : Nat, q ≠ G.1 + a → H1[q]? = H[q]?) : sR G (sUp h a c) H1 := by
  refine ⟨?_, z.trans hR.2.1, fun i hi => ?_⟩
  · rw [← sW_set]
    exact hR.1.set (sD G h) (sW_get ha) he oq
  · show (if i = a then c else h.2 i) = sJ
    rw [if_neg (by have : h.1 ≤ i := hi; omega)]
    exact hR.2.2 i hi
theorem sR_push {G : sG} {h : sH} {H H1 : Heap} (hR : sR G h H) {c : sC} (he : va_at G.2.1 vwCl (G.1 + h.1, sE G c) H1) (z : H1.size = H.size + 1) (oq : ∀ q : Nat, q < H.size → H1[q]? = H[q]?) : sR G (sPush h c) H1 := by
  refine ⟨fun k q hq => ?_, ?_, fun i hi => ?_⟩
  · obtain ⟨hk, rfl⟩ := sW_of hq
    have hk' : k < h.1 + 1 := hk
    by_cases e : k = h.1
    · subst e
      simpa [sPush] using he
    · have hlt : k < h.1 := by omega
      have h1 := hR.1 k _ (sW_get hlt)
      have h2 : (sPush h c).2 k = h.2 k := by simp [sPush, e]
      rw [h2]
      exact h1.kept (oq (G.1 + k) (by rw [hR.2.1]; omega))
  · rw [z, hR.2.1]
    show _ = G.1 + (h.1 + 1)
    omega
  · have hi' : h.1 + 1 ≤ i := hi
    show (if i = h.1 then c else h.2 i) = sJ
    rw [if_neg (by omega)]
    exact hR.2.2 i (by omega)
-- what holds of the tables at every state
def sTys (G : sG) : List (ClassId × FieldType) := [(G.2.2 0, .int), (G.2.2 1, .char), (G.2.2 2, .boolean), (G.2.2 3, .object "OneRankGrid$Grid"), (G.2.2 4, .object "OneRankGrid$Slot")]
def sTyOf : Nat → FieldType
  | 0 => .int
  | 1 => .char
  | 2 => .boolean
  | 3 => .object "OneRankGrid$Grid"
  | _ => .object "OneRankGrid$Slot"
theorem sTys_get (G : sG) {t : Nat} (h : t < 5) : (sTys G)[t]? = some (G.2.2 t, sTyOf t) := by
  match t, h with
  | 0, _ => rfl
  | 1, _ => rfl
  | 2, _ => rfl
  | 3, _ => rfl
  | 4, _ => rfl
def sNest : List Cond := [
  .methodLinkNest RX8 9 yX0_init RX8, .methodLinkNest RX8 21 yX5_init RX8, .methodLinkNest RX8 28 yX6_init RX8, .methodLinkNest RX8 35 yX2_init RX8, .methodLinkNest RX8 42 yX4_init RX8, .methodLinkNest RX8 60 yX7_init RX8,
  .methodLinkNest RX1 17 yX0_init RX8, .methodLinkNest RX2 56 yX8_holds RX8, .methodLinkNest RX6 11 yX0_init RX8, .methodLinkNest RX6 84 yX8_holds RX8, .methodLinkNest RX7 9 yX0_init RX8]
def sNestW (w : Cond) : Prop := ∃ a i x h, w = Cond.methodLinkNest a i x h
def sBase (G : sG) (U : State) : Prop := va_K G.2.1 vwCl (sTys G) U ∧ (va_AO "OneRankGrid$Grid" U ∧ va_AO "OneRankGrid$Slot" U) ∧ ∀ w ∈ sNest, sNestW w ∧ va_Nw w U
theorem sBase.warm {G : sG} {s U : State} (hW : s.WarmedH U.vm) (h : sBase G s) : sBase G U := by
  refine ⟨va_K.moved hW.alike h.1, ⟨va_AO.moved hW.alike h.2.1.1, va_AO.moved hW.alike h.2.1.2⟩, fun w hw => ?_⟩
  obtain ⟨⟨a, i, x, hh, rfl⟩, h2⟩ := h.2.2 w hw
  exact ⟨⟨a, i, x, hh, rfl⟩, va_Nw.warmM hW h2⟩
theorem sBase.blind {G : sG} {U : State} {g : JFrame} {mk : MethodId} {a : Array Value} (h : sBase G U) : sBase G (U.calling g mk a) := by
  refine ⟨va_K.moved (u := U) (U := U.calling g mk a) (Vm.Alike.refl U.vm) h.1, ⟨va_AO.moved (u := U) (U := U.calling g mk a) (Vm.Alike.refl U.vm) h.2.1.1, va_AO.moved (u := U) (U := U.calling g mk a) (Vm.Alike.refl U.vm) h.2.1.2⟩, fun w hw => ?_⟩
  obtain ⟨⟨b, i, x, hh, rfl⟩, h2⟩ := h.2.2 w hw
  exact ⟨⟨b, i, x, hh, rfl⟩, va_Nw.same rfl (u := U) (U := U.calling g mk a) rfl h2⟩
def lw_good : List Cond := lw_tbl.filter goodWord
theorem lw_goodIn {w : Cond} (h : w ∈ lw_tbl) (hg : goodWord w = true) : w ∈ lw_good := List.mem_filter.mpr ⟨h, hg⟩
theorem lw_good_tbl {w : Cond} (h : w ∈ lw_good) : w ∈ lw_tbl := (List.mem_filter.mp h).1
theorem lw_good_word {w : Cond} (h : w ∈ lw_good) : goodWord w = true := (List.mem_filter.mp h).2
-- the locals: a list by slot, 'none' where nothing is known
def sLv (b : Nat) (lv : List (Option Value)) : List (Nat × Value) := (List.range lv.length).filterMap fun i => match lv[i]? with
  | some (some v) => some (i, sTr b v)
  | _ => none
theorem sLv_mem {b : Nat} {lv : List (Option Value)} {q : Nat × Value} : q ∈ sLv b lv ↔ ∃ v, lv[q.1]? = some (some v) ∧ q.2 = sTr b v := by
  obtain ⟨i, w⟩ := q
  unfold sLv
  rw [List.mem_filterMap]
  constructor
  · rintro ⟨j, hj, h⟩
    cases hl : lv[j]? with
    | none => rw [hl] at h; cases h
    | some o =>
      cases o with
      | none => rw [hl] at h; cases h
      | some v =>
        rw [hl] at h
        cases h
        exact ⟨v, hl, rfl⟩
  · rintro ⟨v, h1, h2⟩
    dsimp only at h1 h2
    subst h2
    refine ⟨i, List.mem_range.mpr (List.getElem?_eq_some_iff.mp h1).1, ?_⟩
    rw [h1]
def sL (b nL : Nat) (lv : List (Option Value)) (ls : Array Slot) : Prop := lv_has ls nL (sLv b lv)
theorem sL_at {b nL : Nat} {lv : List (Option Value)} {ls : Array Slot} (h : sL b nL lv ls) {i : Nat} {v : Value} (hi : lv[i]? = some (some v)) : ls[i]? = some (.val (sTr b v)) := h.2.2 (i, sTr b v) (sLv_mem.mpr ⟨v, hi, rfl⟩)
theorem sTr_cat (b : Nat) (v : Value) : (sTr b v).category = v.category := by cases v <;> rfl
theorem sTr_sum (b : Nat) (st : List Value) : ((st.map (sTr b)).map fun v => v.category).sum = (st.map fun v => v.category).sum := by
  congr 1
  rw [List.map_map]
  exact List.map_congr_left fun v _ => sTr_cat b v
/-- the slot below a store holds no long -/
def sNoL (lv : List (Option Value)) (i : Nat) : Prop := ∀ j v, j + 1 = i → lv[j]? = some (some v) → v.category = 1
theorem sL_set1 {b nL : Nat} {lv : List (Option Value)} {ls' : Array Slot} {i : Nat} {v : Value} (hn : sNoL lv i) (h : lv_has ls' nL ((i, sTr b v) :: (sLv b lv).filter (fun q => !(q.1 == i) && !(q.1 + 1 == i && q.2.category == 2)))) : sL b nL (lv.set i (some v)) ls' := by
  refine ⟨h.1, h.2.1, fun q hq => ?_⟩
  obtain ⟨w, h1, h2⟩ := sLv_mem.mp hq
  by_cases hi : i = q.1
  · rw [List.getElem?_set, if_pos hi] at h1
    split at h1
    · cases h1
      exact h.2.2 q (by rw [show q = (i, sTr b v) from Prod.ext hi.symm h2]; exact List.mem_cons_self)
    · cases h1
  · rw [List.getElem?_set, if_neg hi] at h1
    refine h.2.2 q (List.mem_cons_of_mem _ (List.mem_filter.mpr ⟨sLv_mem.mpr ⟨w, h1, h2⟩, ?_⟩))
    have hi' : ¬ q.1 = i := fun e => hi e.symm
    by_cases h3 : q.1 + 1 = i
    · have := hn q.1 w h3 h1
      rw [h2, sTr_cat, this]
      simp [hi']
    · simp [hi', h3]
theorem sL_set2 {b nL : Nat} {lv : List (Option Value)} {ls' : Array Slot} {i : Nat} {v : Value} (hn : sNoL lv i) (h : lv_has ls' nL ((i, sTr b v) :: (sLv b lv).filter (fun q => !(q.1 == i) && (!(q.1 == i + 1) && !(q.1 + 1 == i && q.2.category == 2))))) : sL b nL ((lv.set i (some v)).set (i + 1) none) ls' := by
  refine ⟨h.1, h.2.1, fun q hq => ?_⟩
  obtain ⟨w, h1, h2⟩ := sLv_mem.mp hq
  by_cases hj : i + 1 = q.1
  · rw [List.getElem?_set, if_pos hj] at h1
    split at h1 <;> cases h1
  · rw [List.getElem?_set, if_neg hj] at h1
    by_cases hi : i = q.1
    · rw [List.getElem?_set, if_pos hi] at h1
      split at h1
      · cases h1
        exact h.2.2 q (by rw [show q = (i, sTr b v) from Prod.ext hi.symm h2]; exact List.mem_cons_self)
      · cases h1
    · rw [List.getElem?_set, if_neg hi] at h1
      refine h.2.2 q (List.mem_cons_of_mem _ (List.mem_filter.mpr ⟨sLv_mem.mpr ⟨w, h1, h2⟩, ?_⟩))
      have hi' : ¬ q.1 = i := fun e => hi e.symm
      have hj' : ¬ q.1 = i + 1 := fun e => hj e.symm
      by_cases h3 : q.1 + 1 = i
      · have := hn q.1 w h3 h1
        rw [h2, sTr_cat, this]
        simp [hi', hj']
      · simp [hi', hj', h3]
-- the judgement
abbrev sK : Type := (sG → State → Array Value → Method → Prop) × (sG → State → Array Value → List Frame → State → Prop)
def sCtx (l : Launch) (M : sM) (d : Nat) (B : sB) (K : sK) (G : sG) (p : Program) (R : Room) (s : State) (m : MethodId) (args : Array Value) (meth : Method) (c : Code) : Prop :=
  p.tables.exec = Jvm.exec ∧ c.code = M.2.1 ∧ c.maxLocals = M.2.2.1 ∧ meth.sig.returnType = M.2.2.2 ∧ meth.locks = false ∧ s.vm.findClass M.1.cls = some m.cls ∧ (M.1.name = "<init>" → meth.name = "<init>") ∧ (∀ w ∈ lw_good, w.before args s = true) ∧ sBase G s ∧
    (d ≤ R.frames ∧ 60 * d ≤ R.locals ∧ B.2.2.1 ≤ R.cells ∧ B.2.2.2 ≤ R.slots) ∧ G.1 ≤ s.heap.size ∧ K.1 G s args meth
def sEv (l : Launch) (M : sM) (d : Nat) (B : sB) (K : sK) (pc : Nat) (lv : List (Option Value)) (st : List Value) (h : sH) : Prop :=
  ∀ (G : sG) (p : Program) (e : Env) (R : Room) (s : State) (m : MethodId) (args : Array Value) (below : List Frame) (meth : Method) (c : Code) (H : Heap) (locs : List Loc) (ls : Array Slot),
    sCtx l M d B K G p R s m args meth c → sR G h H → va_S (fun q => G.1 ≤ q) s.heap H locs → sL G.1 M.2.2.1 lv ls →
    W p l e R s m args below meth c H locs B.1 B.2.1 (K.2 G s args below) (F0 m pc ls (st.map (sTr G.1)))
-- contracts
def sQ (G : sG) (Q : Option Value → sH → Prop) : Array Value → State → Outcome → State → Prop := fun _ st oc t => (∃ (r : Option Value) (h' : sH), oc = .returned (r.map (sTr G.1)) ∧ Q r h' ∧ sR G h' t.heap) ∧ va_F (fun q => G.1 ≤ q) st t
def sWs (M : sM) : List Cond := Cond.code M.1 M.2.1 M.2.2.1 M.2.2.2 :: lw_good
def sRm (d mc ms : Nat) : Room := { frames := d, cells := mc, slots := ms, locals := 60 * d }
def sPc (G : sG) (as : List Value) (h : sH) : Array Value → State → Prop := va_Pc (as.map (sTr G.1)) (fun U => sR G h U.heap ∧ sBase G U)
def sCall (l : Launch) (M : sM) (d mc ms : Nat) (as : List Value) (h : sH) (Q : Option Value → sH → Prop) : Prop :=
  ∀ G : sG, Met l M.1 (sWs M) (sRm d mc ms) (sPc G as h) (sQ G Q) mc ms (fun q => G.1 ≤ q)
/-- a method's own end: what it answers, and the heap behind it -/
def sKm (mc ms : Nat) (Q : Option Value → sH → Prop) : sK := (fun _ _ _ _ => True, fun G s args below => MQ below (sQ G Q) args s mc ms (fun q => G.1 ≤ q))
def sArgs : List Value → List (Option Value)
  | [] => []
  | v :: vs => if v.category = 2 then some v :: none :: sArgs vs else some v :: sArgs vs
theorem sArgs_mem (b : Nat) (vs : List Value) (k : Nat) (i : Nat) (v : Value) (h : (sArgs vs)[i]? = some (some v)) : (k + i, sTr b v) ∈ lv_args k (vs.map (sTr b)) := by
  induction vs generalizing k i with
  | nil => simp [sArgs] at h
  | cons w vs ih =>
    rw [List.map_cons, lv_args]
    unfold sArgs at h
    rw [sTr_cat]
    split at h
    · rename_i hc
      rw [if_pos hc]
      match i with
      | 0 => cases h; exact List.mem_cons_self
      | 1 => cases h
      | i + 2 =>
        have h' : (sArgs vs)[i]? = some (some v) := h
        have := ih (k + 2) i h'
        rw [show k + (i + 2) = k + 2 + i by omega]
        exact List.mem_cons_of_mem _ this
    · rename_i hc
      rw [if_neg hc]
      match i with
      | 0 => cases h; exact List.mem_cons_self
      | i + 1 =>
        have h' : (sArgs vs)[i]? = some (some v) := h
        have := ih (k + 1) i h'
        rw [show k + (i + 1) = k + 1 + i by omega]
        exact List.mem_cons_of_mem _ this
theorem sLg_len (b : Nat) (vs : List Value) : (lg_sl (vs.map (sTr b))).length = (sArgs vs).length := by
  induction vs with
  | nil => rfl
  | cons v vs ih =>
    have : lg_sl ((v :: vs).map (sTr b)) = (if (sTr b v).category = 2 then [.val (sTr b v), .second] else [.val (sTr b v)]) ++ lg_sl (vs.map (sTr b)) := rfl
    rw [this, sTr_cat]
    unfold sArgs
    split <;> simp [ih]
theorem sArgs_pad {as : List Value} {n i : Nat} {v : Value} (h : (sArgs as ++ List.replicate n none)[i]? = some (some v)) : (sArgs as)[i]? = some (some v) := by
  rw [List.getElem?_append] at h
  split at h
  · exact h
  · rw [List.getElem?_replicate] at h
    split at h <;> cases h
theorem sCall_of {l : Launch} {M : sM} {d mc ms : Nat} {as : List Value} {h : sH} {Q : Option Value → sH → Prop} (n : Nat) (hpl : plainName M.1.cls = true) (hle : (sArgs as).length ≤ M.2.2.1)
    (k : sEv l M d (0, 0, mc, ms) (sKm mc ms Q) 0 (sArgs as ++ List.replicate n none) [] h) : sCall l M d mc ms as h Q := by
  intro G
  refine Met.ofW (cc := M.2.1) (maxL := M.2.2.1) (ret := M.2.2.2) hpl rfl ?_
  intro p e s m args below meth c s₁ B hml hv
  obtain ⟨rfl, hR, hB⟩ := hv
  have hts := atoms_spec (ws := sWs M) B.pre
  have hl := lv_entry (as.map (sTr G.1)) (n := M.2.2.1) (by rw [sLg_len]; exact hle)
  rw [lg_entry_eq]
  refine k G p e (sRm d mc ms) s m _ below meth c s.heap [] _ ⟨B.exec, B.bytes, hml, B.returns, B.notSynchronized, findClass_of_methodNamed B.named, fun hi => ?_, fun w hw => hts w (List.mem_cons_of_mem _ hw), hB, ⟨Nat.le_refl _, Nat.le_refl _, Nat.le_refl _, Nat.le_refl _⟩, ?_, trivial⟩ hR va_S.rf ⟨hl.1, hl.2.1, fun q hq => ?_⟩
  · exact (name_of_methodNamed B.named B.method).1.trans hi
  · rw [hR.2.1]; exact Nat.le_add_right _ _
  · obtain ⟨w, h1, h2⟩ := sLv_mem.mp hq
    have h3 := sArgs_mem G.1 as 0 q.1 w (sArgs_pad h1)
    rw [Nat.zero_add, ← h2] at h3
    exact hl.2.2 q h3
end
section
/-! ===== the rules: one an instruction ===== -/
theorem nI_subN {a b : Nat} (h : b ≤ a) : nI a - nI b = nI (a - b) := pk_sub h
theorem sI_zero : (0 : Int32) = nI 0 := rfl
def sBo : Bool → Int32
  | true => nI 1
  | false => nI 0
theorem sBo_0 {b : Bool} : sBo b = 0 ↔ b = false := by cases b <;> decide
def sN1 : Option Value → Bool
  | some (.long _) => false
  | some (.double _) => false
  | _ => true
theorem sN1_ok {lv : List (Option Value)} {j : Nat} {o : Option Value} (hj : lv[j]? = some o) (h : sN1 o = true) : sNoL lv (j + 1) := by
  intro k v hk hv
  have hk' : k = j := by omega
  subst hk'
  rw [hj] at hv
  have ho : o = some v := Option.some.inj hv
  rw [ho] at h
  cases v <;> first | rfl | cases h
theorem sNoL_0 {lv : List (Option Value)} : sNoL lv 0 := fun j _ h => absurd h (by omega)
section RULES
variable {l : Launch} {M : sM} {d : Nat} {B : sB} {K : sK} {pc p' : Nat} {lv : List (Option Value)} {st : List Value} {h : sH}
theorem e_of {q : Nat} {st' : List Value} (f : ∀ (b : Nat) (p : Program) (e : Env) (R : Room) (s : State) (m : MethodId) (args : Array Value) (below : List Frame) (meth : Method) (c : Code) (H : Heap) (locs : List Loc) (ls : Array Slot) (cells slots : Nat) (Q : State → Prop), p.tables.exec = Jvm.exec → c.code = M.2.1 →
    W p l e R s m args below meth c H locs cells slots Q (F0 m q ls (st'.map (sTr b))) → W p l e R s m args below meth c H locs cells slots Q (F0 m pc ls (st.map (sTr b)))) (kk : sEv l M d B K q lv st' h) : sEv l M d B K pc lv st h := by
  intro G p e R s m args below meth c H locs ls C hR hS hL
  exact f G.1 p e R s m args below meth c H locs ls _ _ _ C.1 C.2.1 (kk G p e R s m args below meth c H locs ls C hR hS hL)
theorem e_ld {q i : Nat} {v : Value} (hi : lv[i]? = some (some v)) (f : ∀ (b : Nat) (p : Program) (e : Env) (R : Room) (s : State) (m : MethodId) (args : Array Value) (below : List Frame) (meth : Method) (c : Code) (H : Heap) (locs : List Loc) (ls : Array Slot) (cells slots : Nat) (Q : State → Prop), p.tables.exec = Jvm.exec → c.code = M.2.1 → ls[i]? = some (.val (sTr b v)) →
    W p l e R s m args below meth c H locs cells slots Q (F0 m q ls ((v :: st).map (sTr b))) → W p l e R s m args below meth c H locs cells slots Q (F0 m pc ls (st.map (sTr b)))) (kk : sEv l M d B K q lv (v :: st) h) : sEv l M d B K pc lv st h := by
  intro G p e R s m args below meth c H locs ls C hR hS hL
  exact f G.1 p e R s m args below meth c H locs ls _ _ _ C.1 C.2.1 (sL_at hL hi) (kk G p e R s m args below meth c H locs ls C hR hS hL)
theorem e_st1 {q i : Nat} {v : Value} (hno : sNoL lv i) (f : ∀ (b : Nat) (p : Program) (e : Env) (R : Room) (s : State) (m : MethodId) (args : Array Value) (below : List Frame) (meth : Method) (c : Code) (H : Heap) (locs : List Loc) (ls : Array Slot) (cells slots : Nat) (Q : State → Prop), p.tables.exec = Jvm.exec → c.code = M.2.1 → lv_has ls M.2.2.1 (sLv b lv) →
    (∀ ls' : Array Slot, lv_has ls' M.2.2.1 ((i, sTr b v) :: (sLv b lv).filter (fun q => !(q.1 == i) && !(q.1 + 1 == i && q.2.category == 2))) → W p l e R s m args below meth c H locs cells slots Q (F0 m q ls' (st.map (sTr b)))) → W p l e R s m args below meth c H locs cells slots Q (F0 m pc ls ((v :: st).map (sTr b)))) (kk : sEv l M d B K q (lv.set i (some v)) st h) : sEv l M d B K pc lv (v :: st) h := by
  intro G p e R s m args below meth c H locs ls C hR hS hL
  exact f G.1 p e R s m args below meth c H locs ls _ _ _ C.1 C.2.1 hL (fun ls' hl' => kk G p e R s m args below meth c H locs ls' C hR hS (sL_set1 hno hl'))
theorem e_st2 {q i : Nat} {v : Value} (hno : sNoL lv i) (f : ∀ (b : Nat) (p : Program) (e : Env) (R : Room) (s : State) (m : MethodId) (args : Array Value) (below : List Frame) (meth : Method) (c : Code) (H : Heap) (locs : List Loc) (ls : Array Slot) (cells slots : Nat) (Q : State → Prop), p.tables.exec = Jvm.exec → c.code = M.2.1 → lv_has ls M.2.2.1 (sLv b lv) →
    (∀ ls' : Array Slot, lv_has ls' M.2.2.1 ((i, sTr b v) :: (sLv b lv).filter (fun q => !(q.1 == i) && (!(q.1 == i + 1) && !(q.1 + 1 == i && q.2.category == 2)))) → W p l e R s m args below meth c H locs cells slots Q (F0 m q ls' (st.map (sTr b)))) → W p l e R s m args below meth c H locs cells slots Q (F0 m pc ls ((v :: st).map (sTr b)))) (kk : sEv l M d B K q ((lv.set i (some v)).set (i + 1) none) st h) : sEv l M d B K pc lv (v :: st) h := by
  intro G p e R s m args below meth c H locs ls C hR hS hL
  exact f G.1 p e R s m args below meth c H locs ls _ _ _ C.1 C.2.1 hL (fun ls' hl' => kk G p e R s m args below meth c H locs ls' C hR hS (sL_set2 hno hl'))
theorem e_inc {q i : Nat} {x : Int32} {v : Int32} (hi : lv[i]? = some (some (.int x))) (hno : sNoL lv i) (f : ∀ (b : Nat) (p : Program) (e : Env) (R : Room) (s : State) (m : MethodId) (args : Array Value) (below : List Frame) (meth : Method) (c : Code) (H : Heap) (locs : List Loc) (ls : Array Slot) (cells slots : Nat) (Q : State → Prop) (k : Nat), p.tables.exec = Jvm.exec → c.code = M.2.1 → lv_has ls M.2.2.1 (sLv b lv) → (sLv b lv)[k]? = some (i, .int x) →
    (∀ ls' : Array Slot, lv_has ls' M.2.2.1 ((i, .int v) :: (sLv b lv).filter (fun q => !(q.1 == i) && !(q.1 + 1 == i && q.2.category == 2))) → W p l e R s m args below meth c H locs cells slots Q (F0 m q ls' (st.map (sTr b)))) → W p l e R s m args below meth c H locs cells slots Q (F0 m pc ls (st.map (sTr b)))) (kk : sEv l M d B K q (lv.set i (some (.int v))) st h) : sEv l M d B K pc lv st h := by
  intro G p e R s m args below meth c H locs ls C hR hS hL
  obtain ⟨k, hk⟩ := List.getElem?_of_mem (sLv_mem (b := G.1) (q := (i, .int x)).mpr ⟨.int x, hi, rfl⟩)
  exact f G.1 p e R s m args below meth c H locs ls _ _ _ k C.1 C.2.1 hL hk (fun ls' hl' => kk G p e R s m args below meth c H locs ls' C hR hS (sL_set1 (v := .int v) hno hl'))

theorem e_iconst {n : Int} {v : Int32} (hd : decode M.2.1 pc = .ok (.iconst n, 1)) (hv : Int32.ofInt n = v) (hp : pc + 1 = p') (kk : sEv l M d B K p' lv (.int v :: st) h) : sEv l M d B K pc lv (st) h := by
  subst hp
  exact e_of (fun b p e R s m args below meth c H locs ls cells slots Q hx hb k => lv_iconst hx hb hd hv k) kk
theorem e_bipush {n : Int} {v : Int32} (hd : decode M.2.1 pc = .ok (.bipush n, 2)) (hv : (Int8.ofInt n).toInt32 = v) (hp : pc + 2 = p') (kk : sEv l M d B K p' lv (.int v :: st) h) : sEv l M d B K pc lv (st) h := by
  subst hp
  exact e_of (fun b p e R s m args below meth c H locs ls cells slots Q hx hb k => lv_bipush hx hb hd hv k) kk
theorem e_sipush {n : Int} {v : Int32} (hd : decode M.2.1 pc = .ok (.sipush n, 3)) (hv : (Int16.ofInt n).toInt32 = v) (hp : pc + 3 = p') (kk : sEv l M d B K p' lv (.int v :: st) h) : sEv l M d B K pc lv (st) h := by
  subst hp
  exact e_of (fun b p e R s m args below meth c H locs ls cells slots Q hx hb k => lv_sipush hx hb hd hv k) kk
theorem e_lconst {n : Fin 2} {v : Int64} (hd : decode M.2.1 pc = .ok (.lconst n, 1)) (hv : Int64.ofNat (n : Nat) = v) (hp : pc + 1 = p') (kk : sEv l M d B K p' lv (.long v :: st) h) : sEv l M d B K pc lv (st) h := by
  subst hp
  exact e_of (fun b p e R s m args below meth c H locs ls cells slots Q hx hb k => lv_lconst hx hb hd hv k) kk
theorem e_aconst_null (hd : decode M.2.1 pc = .ok (.aconst_null, 1)) (hp : pc + 1 = p') (kk : sEv l M d B K p' lv (.null :: st) h) : sEv l M d B K pc lv (st) h := by
  subst hp
  exact e_of (fun b p e R s m args below meth c H locs ls cells slots Q hx hb k => lv_null hx hb hd k) kk
theorem e_dup {v : Value} (hd : decode M.2.1 pc = .ok (.dup, 1)) (hv : v.category = 1) (hp : pc + 1 = p') (kk : sEv l M d B K p' lv (v :: v :: st) h) : sEv l M d B K pc lv (v :: st) h := by
  subst hp
  exact e_of (fun b p e R s m args below meth c H locs ls cells slots Q hx hb k => lv_dup hx hb hd (by rw [sTr_cat]; exact hv) k) kk
theorem e_dup2 {v w : Value} (hd : decode M.2.1 pc = .ok (.dup2, 1)) (hv : v.category = 1) (hw : w.category = 1) (hp : pc + 1 = p') (kk : sEv l M d B K p' lv (v :: w :: v :: w :: st) h) : sEv l M d B K pc lv (v :: w :: st) h := by
  subst hp
  exact e_of (fun b p e R s m args below meth c H locs ls cells slots Q hx hb k => lv_dup2_11 hx hb hd (by rw [sTr_cat]; exact hv) (by rw [sTr_cat]; exact hw) k) kk
theorem e_iadd {x y : Int32} (hd : decode M.2.1 pc = .ok (.iadd, 1)) (hp : pc + 1 = p') (kk : sEv l M d B K p' lv (.int (x + y) :: st) h) : sEv l M d B K pc lv (.int y :: .int x :: st) h := by
  subst hp
  exact e_of (fun b p e R s m args below meth c H locs ls cells slots Q hx hb k => lv_iadd hx hb hd k) kk
theorem e_isub {x y : Int32} (hd : decode M.2.1 pc = .ok (.isub, 1)) (hp : pc + 1 = p') (kk : sEv l M d B K p' lv (.int (x - y) :: st) h) : sEv l M d B K pc lv (.int y :: .int x :: st) h := by
  subst hp
  exact e_of (fun b p e R s m args below meth c H locs ls cells slots Q hx hb k => lv_isub hx hb hd k) kk
theorem e_imul {x y : Int32} (hd : decode M.2.1 pc = .ok (.imul, 1)) (hp : pc + 1 = p') (kk : sEv l M d B K p' lv (.int (x * y) :: st) h) : sEv l M d B K pc lv (.int y :: .int x :: st) h := by
  subst hp
  exact e_of (fun b p e R s m args below meth c H locs ls cells slots Q hx hb k => lv_imul hx hb hd k) kk
theorem e_iand {x y : Int32} (hd : decode M.2.1 pc = .ok (.iand, 1)) (hp : pc + 1 = p') (kk : sEv l M d B K p' lv (.int (x &&& y) :: st) h) : sEv l M d B K pc lv (.int y :: .int x :: st) h := by
  subst hp
  exact e_of (fun b p e R s m args below meth c H locs ls cells slots Q hx hb k => lv_iand hx hb hd k) kk
theorem e_ior {x y : Int32} (hd : decode M.2.1 pc = .ok (.ior, 1)) (hp : pc + 1 = p') (kk : sEv l M d B K p' lv (.int (x ||| y) :: st) h) : sEv l M d B K pc lv (.int y :: .int x :: st) h := by
  subst hp
  exact e_of (fun b p e R s m args below meth c H locs ls cells slots Q hx hb k => lv_ior hx hb hd k) kk
theorem e_ixor {x y : Int32} (hd : decode M.2.1 pc = .ok (.ixor, 1)) (hp : pc + 1 = p') (kk : sEv l M d B K p' lv (.int (x ^^^ y) :: st) h) : sEv l M d B K pc lv (.int y :: .int x :: st) h := by
  subst hp
  exact e_of (fun b p e R s m args below meth c H locs ls cells slots Q hx hb k => lv_ixor hx hb hd k) kk
theorem e_ishl {x y : Int32} (hd : decode M.2.1 pc = .ok (.ishl, 1)) (hp : pc + 1 = p') (kk : sEv l M d B K p' lv (.int (x <<< (y &&& 31)) :: st) h) : sEv l M d B K pc lv (.int y :: .int x :: st) h := by
  subst hp
  exact e_of (fun b p e R s m args below meth c H locs ls cells slots Q hx hb k => lv_ishl hx hb hd k) kk
theorem e_ishr {x y : Int32} (hd : decode M.2.1 pc = .ok (.ishr, 1)) (hp : pc + 1 = p') (kk : sEv l M d B K p' lv (.int (x >>> (y &&& 31)) :: st) h) : sEv l M d B K pc lv (.int y :: .int x :: st) h := by
  subst hp
  exact e_of (fun b p e R s m args below meth c H locs ls cells slots Q hx hb k => lv_ishr hx hb hd k) kk
theorem e_iushr {x y v : Int32} (hd : decode M.2.1 pc = .ok (.iushr, 1)) (hv : (x.toUInt32 >>> (y.toUInt32 &&& Int32.toUInt32 31)).toInt32 = v) (hp : pc + 1 = p') (kk : sEv l M d B K p' lv (.int v :: st) h) : sEv l M d B K pc lv (.int y :: .int x :: st) h := by
  subst hp
  exact e_of (fun b p e R s m args below meth c H locs ls cells slots Q hx hb k => lv_iushr hx hb hd hv k) kk
theorem e_idiv {x y : Int32} (hd : decode M.2.1 pc = .ok (.idiv, 1)) (hne : ¬ y = 0) (hp : pc + 1 = p') (kk : sEv l M d B K p' lv (.int (x / y) :: st) h) : sEv l M d B K pc lv (.int y :: .int x :: st) h := by
  subst hp
  exact e_of (fun b p e R s m args below meth c H locs ls cells slots Q hx hb k => lv_idiv hx hb hd hne k) kk
theorem e_irem {x y : Int32} (hd : decode M.2.1 pc = .ok (.irem, 1)) (hne : ¬ y = 0) (hp : pc + 1 = p') (kk : sEv l M d B K p' lv (.int (x - x / y * y) :: st) h) : sEv l M d B K pc lv (.int y :: .int x :: st) h := by
  subst hp
  exact e_of (fun b p e R s m args below meth c H locs ls cells slots Q hx hb k => lv_irem hx hb hd hne k) kk
theorem e_lmul {x y : Int64} (hd : decode M.2.1 pc = .ok (.lmul, 1)) (hp : pc + 1 = p') (kk : sEv l M d B K p' lv (.long (x * y) :: st) h) : sEv l M d B K pc lv (.long y :: .long x :: st) h := by
  subst hp
  exact e_of (fun b p e R s m args below meth c H locs ls cells slots Q hx hb k => lv_lmul hx hb hd k) kk
theorem e_land {x y : Int64} (hd : decode M.2.1 pc = .ok (.land, 1)) (hp : pc + 1 = p') (kk : sEv l M d B K p' lv (.long (x &&& y) :: st) h) : sEv l M d B K pc lv (.long y :: .long x :: st) h := by
  subst hp
  exact e_of (fun b p e R s m args below meth c H locs ls cells slots Q hx hb k => lv_land hx hb hd k) kk
theorem e_lor {x y : Int64} (hd : decode M.2.1 pc = .ok (.lor, 1)) (hp : pc + 1 = p') (kk : sEv l M d B K p' lv (.long (x ||| y) :: st) h) : sEv l M d B K pc lv (.long y :: .long x :: st) h := by
  subst hp
  exact e_of (fun b p e R s m args below meth c H locs ls cells slots Q hx hb k => lv_lor hx hb hd k) kk
theorem e_ldiv {x y : Int64} (hd : decode M.2.1 pc = .ok (.ldiv, 1)) (hne : ¬ y = 0) (hp : pc + 1 = p') (kk : sEv l M d B K p' lv (.long (x / y) :: st) h) : sEv l M d B K pc lv (.long y :: .long x :: st) h := by
  subst hp
  exact e_of (fun b p e R s m args below meth c H locs ls cells slots Q hx hb k => lv_ldiv hx hb hd hne k) kk
theorem e_lrem {x y : Int64} (hd : decode M.2.1 pc = .ok (.lrem, 1)) (hne : ¬ y = 0) (hp : pc + 1 = p') (kk : sEv l M d B K p' lv (.long (x - x / y * y) :: st) h) : sEv l M d B K pc lv (.long y :: .long x :: st) h := by
  subst hp
  exact e_of (fun b p e R s m args below meth c H locs ls cells slots Q hx hb k => lv_lrem hx hb hd hne k) kk
theorem e_lushr {x v : Int64} {y : Int32} (hd : decode M.2.1 pc = .ok (.lushr, 1)) (hv : (x.toUInt64 >>> (y.toInt64.toUInt64 &&& Int64.toUInt64 63)).toInt64 = v) (hp : pc + 1 = p') (kk : sEv l M d B K p' lv (.long v :: st) h) : sEv l M d B K pc lv (.int y :: .long x :: st) h := by
  subst hp
  exact e_of (fun b p e R s m args below meth c H locs ls cells slots Q hx hb k => lv_lushr hx hb hd hv k) kk
theorem e_lshl {x v : Int64} {y : Int32} (hd : decode M.2.1 pc = .ok (.lshl, 1)) (hv : x <<< (y.toInt64 &&& 63) = v) (hp : pc + 1 = p') (kk : sEv l M d B K p' lv (.long v :: st) h) : sEv l M d B K pc lv (.int y :: .long x :: st) h := by
  subst hp
  exact e_of (fun b p e R s m args below meth c H locs ls cells slots Q hx hb k => lv_lshl hx hb hd hv k) kk
theorem e_i2l {x : Int32} {v : Int64} (hd : decode M.2.1 pc = .ok (.i2l, 1)) (hv : x.toInt64 = v) (hp : pc + 1 = p') (kk : sEv l M d B K p' lv (.long v :: st) h) : sEv l M d B K pc lv (.int x :: st) h := by
  subst hp
  exact e_of (fun b p e R s m args below meth c H locs ls cells slots Q hx hb k => lv_i2l hx hb hd hv k) kk
theorem e_l2i {x : Int64} {v : Int32} (hd : decode M.2.1 pc = .ok (.l2i, 1)) (hv : x.toInt32 = v) (hp : pc + 1 = p') (kk : sEv l M d B K p' lv (.int v :: st) h) : sEv l M d B K pc lv (.long x :: st) h := by
  subst hp
  exact e_of (fun b p e R s m args below meth c H locs ls cells slots Q hx hb k => lv_l2i hx hb hd hv k) kk
theorem e_i2c {x v : Int32} (hd : decode M.2.1 pc = .ok (.i2c, 1)) (hv : (x.toUInt32 % 65536).toInt32 = v) (hp : pc + 1 = p') (kk : sEv l M d B K p' lv (.int v :: st) h) : sEv l M d B K pc lv (.int x :: st) h := by
  subst hp
  exact e_of (fun b p e R s m args below meth c H locs ls cells slots Q hx hb k => lv_i2c hx hb hd hv k) kk
theorem e_lcmp {x y : Int64} (hd : decode M.2.1 pc = .ok (.lcmp, 1)) (hp : pc + 1 = p') (kk : sEv l M d B K p' lv (.int (lg_cmp x y) :: st) h) : sEv l M d B K pc lv (.long y :: .long x :: st) h := by
  subst hp
  exact e_of (fun b p e R s m args below meth c H locs ls cells slots Q hx hb k => W.lcmp hx hb hd k) kk
theorem e_iaddN {a b : Nat} (hd : decode M.2.1 pc = .ok (.iadd, 1)) (hp : pc + 1 = p') (kk : sEv l M d B K p' lv (.int (nI (a + b)) :: st) h) : sEv l M d B K pc lv (.int (nI b) :: .int (nI a) :: st) h := e_iadd hd hp (by rw [nI_add]; exact kk)
theorem e_imulN {a b : Nat} (hd : decode M.2.1 pc = .ok (.imul, 1)) (hp : pc + 1 = p') (kk : sEv l M d B K p' lv (.int (nI (a * b)) :: st) h) : sEv l M d B K pc lv (.int (nI b) :: .int (nI a) :: st) h := e_imul hd hp (by rw [pk_mul]; exact kk)
theorem e_isubN {a b : Nat} (hd : decode M.2.1 pc = .ok (.isub, 1)) (hab : b ≤ a) (hp : pc + 1 = p') (kk : sEv l M d B K p' lv (.int (nI (a - b)) :: st) h) : sEv l M d B K pc lv (.int (nI b) :: .int (nI a) :: st) h := e_isub hd hp (by rw [pk_sub hab]; exact kk)
theorem e_iremN {a b : Nat} (hd : decode M.2.1 pc = .ok (.irem, 1)) (ha : a < 2 ^ 31) (h0 : 0 < b) (hb : b < 2 ^ 31) (hp : pc + 1 = p') (kk : sEv l M d B K p' lv (.int (nI (a % b)) :: st) h) : sEv l M d B K pc lv (.int (nI b) :: .int (nI a) :: st) h := e_irem hd (nI_ne0 h0 hb) hp (by rw [pk_rem ha h0 hb]; exact kk)
theorem e_idivN {a b : Nat} (hd : decode M.2.1 pc = .ok (.idiv, 1)) (ha : a < 2 ^ 31) (h0 : 0 < b) (hb : b < 2 ^ 31) (hp : pc + 1 = p') (kk : sEv l M d B K p' lv (.int (nI (a / b)) :: st) h) : sEv l M d B K pc lv (.int (nI b) :: .int (nI a) :: st) h := e_idiv hd (nI_ne0 h0 hb) hp (by rw [pk_div ha h0 hb]; exact kk)
theorem e_i2lN {a : Nat} (hd : decode M.2.1 pc = .ok (.i2l, 1)) (ha : a < 2 ^ 31) (hp : pc + 1 = p') (kk : sEv l M d B K p' lv (.long (lN a) :: st) h) : sEv l M d B K pc lv (.int (nI a) :: st) h := e_i2l hd (nI_l ha) hp kk

theorem e_iload_0 {r : List (Option Value)} {x : Int32} (hd : decode M.2.1 pc = .ok (.iload_n 0, 1)) (hp : pc + 1 = p') (kk : sEv l M d B K p' (some (.int x) :: r) (.int x :: st) h) : sEv l M d B K pc (some (.int x) :: r) st h := by
  subst hp
  exact e_ld (i := 0) rfl (fun b p e R s m args below meth c H locs ls cells slots Q hx hb hl k => lv_iload_n hx hb hd rfl hl k) kk
theorem e_lload_0 {r : List (Option Value)} {x : Int64} (hd : decode M.2.1 pc = .ok (.lload_n 0, 1)) (hp : pc + 1 = p') (kk : sEv l M d B K p' (some (.long x) :: r) (.long x :: st) h) : sEv l M d B K pc (some (.long x) :: r) st h := by
  subst hp
  exact e_ld (i := 0) rfl (fun b p e R s m args below meth c H locs ls cells slots Q hx hb hl k => lv_lload_n hx hb hd rfl hl k) kk
theorem e_aload_0 {r : List (Option Value)} {x : Nat} (hd : decode M.2.1 pc = .ok (.aload_n 0, 1)) (hp : pc + 1 = p') (kk : sEv l M d B K p' (some (.ref x) :: r) (.ref x :: st) h) : sEv l M d B K pc (some (.ref x) :: r) st h := by
  subst hp
  exact e_ld (i := 0) rfl (fun b p e R s m args below meth c H locs ls cells slots Q hx hb hl k => lv_aload_n hx hb hd rfl hl k) kk
theorem e_istore_0 {a0 : Option Value} {r : List (Option Value)} {x : Int32} (hd : decode M.2.1 pc = .ok (.istore_n 0, 1)) (hn : 0 < M.2.2.1) (hp : pc + 1 = p') (kk : sEv l M d B K p' (some (.int x) :: r) st h) : sEv l M d B K pc (a0 :: r) (.int x :: st) h := by
  subst hp
  exact e_st1 (i := 0) sNoL_0 (fun b p e R s m args below meth c H locs ls cells slots Q hx hb hl k => lv_istore_n hx hb hd rfl hl hn rfl k) kk
theorem e_astore_0 {a0 : Option Value} {r : List (Option Value)} {x : Nat} (hd : decode M.2.1 pc = .ok (.astore_n 0, 1)) (hn : 0 < M.2.2.1) (hp : pc + 1 = p') (kk : sEv l M d B K p' (some (.ref x) :: r) st h) : sEv l M d B K pc (a0 :: r) (.ref x :: st) h := by
  subst hp
  exact e_st1 (i := 0) sNoL_0 (fun b p e R s m args below meth c H locs ls cells slots Q hx hb hl k => lv_astore_n hx hb hd rfl hl hn rfl k) kk
theorem e_lstore_0 {a0 a1 : Option Value} {r : List (Option Value)} {x : Int64} (hd : decode M.2.1 pc = .ok (.lstore_n 0, 1)) (hn : 1 < M.2.2.1) (hp : pc + 1 = p') (kk : sEv l M d B K p' (some (.long x) :: none :: r) st h) : sEv l M d B K pc (a0 :: a1 :: r) (.long x :: st) h := by
  subst hp
  exact e_st2 (i := 0) sNoL_0 (fun b p e R s m args below meth c H locs ls cells slots Q hx hb hl k => lv_lstore_n hx hb hd rfl hl hn rfl k) kk
theorem e_iinc_0 {r : List (Option Value)} {x v : Int32} {n : Int} (hd : decode M.2.1 pc = .ok (.iinc 0 n, 3)) (hn : 0 < M.2.2.1) (hv : x + Int32.ofInt n = v) (hp : pc + 3 = p') (kk : sEv l M d B K p' (some (.int v) :: r) st h) : sEv l M d B K pc (some (.int x) :: r) st h := by
  subst hp
  exact e_inc (i := 0) rfl sNoL_0 (fun b p e R s m args below meth c H locs ls cells slots Q k0 hx hb hl hk k => lv_iinc hx hb hd hl hk hv hn rfl k) kk
theorem e_iincN_0 {r : List (Option Value)} {a n : Nat} (hd : decode M.2.1 pc = .ok (.iinc 0 (n : Int), 3)) (hn : 0 < M.2.2.1) (hp : pc + 3 = p') (kk : sEv l M d B K p' (some (.int (nI (a + n))) :: r) st h) : sEv l M d B K pc (some (.int (nI a)) :: r) st h := e_iinc_0 hd hn (by rw [← nI_add]; rfl) hp kk
theorem e_iload_1 {a0 : Option Value} {r : List (Option Value)} {x : Int32} (hd : decode M.2.1 pc = .ok (.iload_n 1, 1)) (hp : pc + 1 = p') (kk : sEv l M d B K p' (a0 :: some (.int x) :: r) (.int x :: st) h) : sEv l M d B K pc (a0 :: some (.int x) :: r) st h := by
  subst hp
  exact e_ld (i := 1) rfl (fun b p e R s m args below meth c H locs ls cells slots Q hx hb hl k => lv_iload_n hx hb hd rfl hl k) kk
theorem e_lload_1 {a0 : Option Value} {r : List (Option Value)} {x : Int64} (hd : decode M.2.1 pc = .ok (.lload_n 1, 1)) (hp : pc + 1 = p') (kk : sEv l M d B K p' (a0 :: some (.long x) :: r) (.long x :: st) h) : sEv l M d B K pc (a0 :: some (.long x) :: r) st h := by
  subst hp
  exact e_ld (i := 1) rfl (fun b p e R s m args below meth c H locs ls cells slots Q hx hb hl k => lv_lload_n hx hb hd rfl hl k) kk
theorem e_aload_1 {a0 : Option Value} {r : List (Option Value)} {x : Nat} (hd : decode M.2.1 pc = .ok (.aload_n 1, 1)) (hp : pc + 1 = p') (kk : sEv l M d B K p' (a0 :: some (.ref x) :: r) (.ref x :: st) h) : sEv l M d B K pc (a0 :: some (.ref x) :: r) st h := by
  subst hp
  exact e_ld (i := 1) rfl (fun b p e R s m args below meth c H locs ls cells slots Q hx hb hl k => lv_aload_n hx hb hd rfl hl k) kk
theorem e_istore_1 {a0 a1 : Option Value} {r : List (Option Value)} {x : Int32} (hd : decode M.2.1 pc = .ok (.istore_n 1, 1)) (hn : 1 < M.2.2.1) (hno : sN1 a0 = true) (hp : pc + 1 = p') (kk : sEv l M d B K p' (a0 :: some (.int x) :: r) st h) : sEv l M d B K pc (a0 :: a1 :: r) (.int x :: st) h := by
  subst hp
  exact e_st1 (i := 1) (sN1_ok (j := 0) (o := a0) rfl hno) (fun b p e R s m args below meth c H locs ls cells slots Q hx hb hl k => lv_istore_n hx hb hd rfl hl hn rfl k) kk
theorem e_astore_1 {a0 a1 : Option Value} {r : List (Option Value)} {x : Nat} (hd : decode M.2.1 pc = .ok (.astore_n 1, 1)) (hn : 1 < M.2.2.1) (hno : sN1 a0 = true) (hp : pc + 1 = p') (kk : sEv l M d B K p' (a0 :: some (.ref x) :: r) st h) : sEv l M d B K pc (a0 :: a1 :: r) (.ref x :: st) h := by
  subst hp
  exact e_st1 (i := 1) (sN1_ok (j := 0) (o := a0) rfl hno) (fun b p e R s m args below meth c H locs ls cells slots Q hx hb hl k => lv_astore_n hx hb hd rfl hl hn rfl k) kk
theorem e_lstore_1 {a0 a1 a2 : Option Value} {r : List (Option Value)} {x : Int64} (hd : decode M.2.1 pc = .ok (.lstore_n 1, 1)) (hn : 2 < M.2.2.1) (hno : sN1 a0 = true) (hp : pc + 1 = p') (kk : sEv l M d B K p' (a0 :: some (.long x) :: none :: r) st h) : sEv l M d B K pc (a0 :: a1 :: a2 :: r) (.long x :: st) h := by
  subst hp
  exact e_st2 (i := 1) (sN1_ok (j := 0) (o := a0) rfl hno) (fun b p e R s m args below meth c H locs ls cells slots Q hx hb hl k => lv_lstore_n hx hb hd rfl hl hn rfl k) kk
theorem e_iinc_1 {a0 : Option Value} {r : List (Option Value)} {x v : Int32} {n : Int} (hd : decode M.2.1 pc = .ok (.iinc 1 n, 3)) (hn : 1 < M.2.2.1) (hno : sN1 a0 = true) (hv : x + Int32.ofInt n = v) (hp : pc + 3 = p') (kk : sEv l M d B K p' (a0 :: some (.int v) :: r) st h) : sEv l M d B K pc (a0 :: some (.int x) :: r) st h := by
  subst hp
  exact e_inc (i := 1) rfl (sN1_ok (j := 0) (o := a0) rfl hno) (fun b p e R s m args below meth c H locs ls cells slots Q k0 hx hb hl hk k => lv_iinc hx hb hd hl hk hv hn rfl k) kk
theorem e_iincN_1 {a0 : Option Value} {r : List (Option Value)} {a n : Nat} (hd : decode M.2.1 pc = .ok (.iinc 1 (n : Int), 3)) (hn : 1 < M.2.2.1) (hno : sN1 a0 = true) (hp : pc + 3 = p') (kk : sEv l M d B K p' (a0 :: some (.int (nI (a + n))) :: r) st h) : sEv l M d B K pc (a0 :: some (.int (nI a)) :: r) st h := e_iinc_1 hd hn hno (by rw [← nI_add]; rfl) hp kk
theorem e_iload_2 {a0 a1 : Option Value} {r : List (Option Value)} {x : Int32} (hd : decode M.2.1 pc = .ok (.iload_n 2, 1)) (hp : pc + 1 = p') (kk : sEv l M d B K p' (a0 :: a1 :: some (.int x) :: r) (.int x :: st) h) : sEv l M d B K pc (a0 :: a1 :: some (.int x) :: r) st h := by
  subst hp
  exact e_ld (i := 2) rfl (fun b p e R s m args below meth c H locs ls cells slots Q hx hb hl k => lv_iload_n hx hb hd rfl hl k) kk
theorem e_lload_2 {a0 a1 : Option Value} {r : List (Option Value)} {x : Int64} (hd : decode M.2.1 pc = .ok (.lload_n 2, 1)) (hp : pc + 1 = p') (kk : sEv l M d B K p' (a0 :: a1 :: some (.long x) :: r) (.long x :: st) h) : sEv l M d B K pc (a0 :: a1 :: some (.long x) :: r) st h := by
  subst hp
  exact e_ld (i := 2) rfl (fun b p e R s m args below meth c H locs ls cells slots Q hx hb hl k => lv_lload_n hx hb hd rfl hl k) kk
theorem e_aload_2 {a0 a1 : Option Value} {r : List (Option Value)} {x : Nat} (hd : decode M.2.1 pc = .ok (.aload_n 2, 1)) (hp : pc + 1 = p') (kk : sEv l M d B K p' (a0 :: a1 :: some (.ref x) :: r) (.ref x :: st) h) : sEv l M d B K pc (a0 :: a1 :: some (.ref x) :: r) st h := by
  subst hp
  exact e_ld (i := 2) rfl (fun b p e R s m args below meth c H locs ls cells slots Q hx hb hl k => lv_aload_n hx hb hd rfl hl k) kk
theorem e_istore_2 {a0 a1 a2 : Option Value} {r : List (Option Value)} {x : Int32} (hd : decode M.2.1 pc = .ok (.istore_n 2, 1)) (hn : 2 < M.2.2.1) (hno : sN1 a1 = true) (hp : pc + 1 = p') (kk : sEv l M d B K p' (a0 :: a1 :: some (.int x) :: r) st h) : sEv l M d B K pc (a0 :: a1 :: a2 :: r) (.int x :: st) h := by
  subst hp
  exact e_st1 (i := 2) (sN1_ok (j := 1) (o := a1) rfl hno) (fun b p e R s m args below meth c H locs ls cells slots Q hx hb hl k => lv_istore_n hx hb hd rfl hl hn rfl k) kk
theorem e_astore_2 {a0 a1 a2 : Option Value} {r : List (Option Value)} {x : Nat} (hd : decode M.2.1 pc = .ok (.astore_n 2, 1)) (hn : 2 < M.2.2.1) (hno : sN1 a1 = true) (hp : pc + 1 = p') (kk : sEv l M d B K p' (a0 :: a1 :: some (.ref x) :: r) st h) : sEv l M d B K pc (a0 :: a1 :: a2 :: r) (.ref x :: st) h := by
  subst hp
  exact e_st1 (i := 2) (sN1_ok (j := 1) (o := a1) rfl hno) (fun b p e R s m args below meth c H locs ls cells slots Q hx hb hl k => lv_astore_n hx hb hd rfl hl hn rfl k) kk
theorem e_lstore_2 {a0 a1 a2 a3 : Option Value} {r : List (Option Value)} {x : Int64} (hd : decode M.2.1 pc = .ok (.lstore_n 2, 1)) (hn : 3 < M.2.2.1) (hno : sN1 a1 = true) (hp : pc + 1 = p') (kk : sEv l M d B K p' (a0 :: a1 :: some (.long x) :: none :: r) st h) : sEv l M d B K pc (a0 :: a1 :: a2 :: a3 :: r) (.long x :: st) h := by
  subst hp
  exact e_st2 (i := 2) (sN1_ok (j := 1) (o := a1) rfl hno) (fun b p e R s m args below meth c H locs ls cells slots Q hx hb hl k => lv_lstore_n hx hb hd rfl hl hn rfl k) kk
theorem e_iinc_2 {a0 a1 : Option Value} {r : List (Option Value)} {x v : Int32} {n : Int} (hd : decode M.2.1 pc = .ok (.iinc 2 n, 3)) (hn : 2 < M.2.2.1) (hno : sN1 a1 = true) (hv : x + Int32.ofInt n = v) (hp : pc + 3 = p') (kk : sEv l M d B K p' (a0 :: a1 :: some (.int v) :: r) st h) : sEv l M d B K pc (a0 :: a1 :: some (.int x) :: r) st h := by
  subst hp
  exact e_inc (i := 2) rfl (sN1_ok (j := 1) (o := a1) rfl hno) (fun b p e R s m args below meth c H locs ls cells slots Q k0 hx hb hl hk k => lv_iinc hx hb hd hl hk hv hn rfl k) kk
theorem e_iincN_2 {a0 a1 : Option Value} {r : List (Option Value)} {a n : Nat} (hd : decode M.2.1 pc = .ok (.iinc 2 (n : Int), 3)) (hn : 2 < M.2.2.1) (hno : sN1 a1 = true) (hp : pc + 3 = p') (kk : sEv l M d B K p' (a0 :: a1 :: some (.int (nI (a + n))) :: r) st h) : sEv l M d B K pc (a0 :: a1 :: some (.int (nI a)) :: r) st h := e_iinc_2 hd hn hno (by rw [← nI_add]; rfl) hp kk
theorem e_iload_3 {a0 a1 a2 : Option Value} {r : List (Option Value)} {x : Int32} (hd : decode M.2.1 pc = .ok (.iload_n 3, 1)) (hp : pc + 1 = p') (kk : sEv l M d B K p' (a0 :: a1 :: a2 :: some (.int x) :: r) (.int x :: st) h) : sEv l M d B K pc (a0 :: a1 :: a2 :: some (.int x) :: r) st h := by
  subst hp
  exact e_ld (i := 3) rfl (fun b p e R s m args below meth c H locs ls cells slots Q hx hb hl k => lv_iload_n hx hb hd rfl hl k) kk
theorem e_lload_3 {a0 a1 a2 : Option Value} {r : List (Option Value)} {x : Int64} (hd : decode M.2.1 pc = .ok (.lload_n 3, 1)) (hp : pc + 1 = p') (kk : sEv l M d B K p' (a0 :: a1 :: a2 :: some (.long x) :: r) (.long x :: st) h) : sEv l M d B K pc (a0 :: a1 :: a2 :: some (.long x) :: r) st h := by
  subst hp
  exact e_ld (i := 3) rfl (fun b p e R s m args below meth c H locs ls cells slots Q hx hb hl k => lv_lload_n hx hb hd rfl hl k) kk
theorem e_aload_3 {a0 a1 a2 : Option Value} {r : List (Option Value)} {x : Nat} (hd : decode M.2.1 pc = .ok (.aload_n 3, 1)) (hp : pc + 1 = p') (kk : sEv l M d B K p' (a0 :: a1 :: a2 :: some (.ref x) :: r) (.ref x :: st) h) : sEv l M d B K pc (a0 :: a1 :: a2 :: some (.ref x) :: r) st h := by
  subst hp
  exact e_ld (i := 3) rfl (fun b p e R s m args below meth c H locs ls cells slots Q hx hb hl k => lv_aload_n hx hb hd rfl hl k) kk
theorem e_istore_3 {a0 a1 a2 a3 : Option Value} {r : List (Option Value)} {x : Int32} (hd : decode M.2.1 pc = .ok (.istore_n 3, 1)) (hn : 3 < M.2.2.1) (hno : sN1 a2 = true) (hp : pc + 1 = p') (kk : sEv l M d B K p' (a0 :: a1 :: a2 :: some (.int x) :: r) st h) : sEv l M d B K pc (a0 :: a1 :: a2 :: a3 :: r) (.int x :: st) h := by
  subst hp
  exact e_st1 (i := 3) (sN1_ok (j := 2) (o := a2) rfl hno) (fun b p e R s m args below meth c H locs ls cells slots Q hx hb hl k => lv_istore_n hx hb hd rfl hl hn rfl k) kk
theorem e_astore_3 {a0 a1 a2 a3 : Option Value} {r : List (Option Value)} {x : Nat} (hd : decode M.2.1 pc = .ok (.astore_n 3, 1)) (hn : 3 < M.2.2.1) (hno : sN1 a2 = true) (hp : pc + 1 = p') (kk : sEv l M d B K p' (a0 :: a1 :: a2 :: some (.ref x) :: r) st h) : sEv l M d B K pc (a0 :: a1 :: a2 :: a3 :: r) (.ref x :: st) h := by
  subst hp
  exact e_st1 (i := 3) (sN1_ok (j := 2) (o := a2) rfl hno) (fun b p e R s m args below meth c H locs ls cells slots Q hx hb hl k => lv_astore_n hx hb hd rfl hl hn rfl k) kk
theorem e_lstore_3 {a0 a1 a2 a3 a4 : Option Value} {r : List (Option Value)} {x : Int64} (hd : decode M.2.1 pc = .ok (.lstore_n 3, 1)) (hn : 4 < M.2.2.1) (hno : sN1 a2 = true) (hp : pc + 1 = p') (kk : sEv l M d B K p' (a0 :: a1 :: a2 :: some (.long x) :: none :: r) st h) : sEv l M d B K pc (a0 :: a1 :: a2 :: a3 :: a4 :: r) (.long x :: st) h := by
  subst hp
  exact e_st2 (i := 3) (sN1_ok (j := 2) (o := a2) rfl hno) (fun b p e R s m args below meth c H locs ls cells slots Q hx hb hl k => lv_lstore_n hx hb hd rfl hl hn rfl k) kk
theorem e_iinc_3 {a0 a1 a2 : Option Value} {r : List (Option Value)} {x v : Int32} {n : Int} (hd : decode M.2.1 pc = .ok (.iinc 3 n, 3)) (hn : 3 < M.2.2.1) (hno : sN1 a2 = true) (hv : x + Int32.ofInt n = v) (hp : pc + 3 = p') (kk : sEv l M d B K p' (a0 :: a1 :: a2 :: some (.int v) :: r) st h) : sEv l M d B K pc (a0 :: a1 :: a2 :: some (.int x) :: r) st h := by
  subst hp
  exact e_inc (i := 3) rfl (sN1_ok (j := 2) (o := a2) rfl hno) (fun b p e R s m args below meth c H locs ls cells slots Q k0 hx hb hl hk k => lv_iinc hx hb hd hl hk hv hn rfl k) kk
theorem e_iincN_3 {a0 a1 a2 : Option Value} {r : List (Option Value)} {a n : Nat} (hd : decode M.2.1 pc = .ok (.iinc 3 (n : Int), 3)) (hn : 3 < M.2.2.1) (hno : sN1 a2 = true) (hp : pc + 3 = p') (kk : sEv l M d B K p' (a0 :: a1 :: a2 :: some (.int (nI (a + n))) :: r) st h) : sEv l M d B K pc (a0 :: a1 :: a2 :: some (.int (nI a)) :: r) st h := e_iinc_3 hd hn hno (by rw [← nI_add]; rfl) hp kk
theorem e_iload_4 {a0 a1 a2 a3 : Option Value} {r : List (Option Value)} {x : Int32} (hd : decode M.2.1 pc = .ok (.iload 4, 2)) (hp : pc + 2 = p') (kk : sEv l M d B K p' (a0 :: a1 :: a2 :: a3 :: some (.int x) :: r) (.int x :: st) h) : sEv l M d B K pc (a0 :: a1 :: a2 :: a3 :: some (.int x) :: r) st h := by
  subst hp
  exact e_ld (i := 4) rfl (fun b p e R s m args below meth c H locs ls cells slots Q hx hb hl k => lv_iload hx hb hd hl k) kk
theorem e_lload_4 {a0 a1 a2 a3 : Option Value} {r : List (Option Value)} {x : Int64} (hd : decode M.2.1 pc = .ok (.lload 4, 2)) (hp : pc + 2 = p') (kk : sEv l M d B K p' (a0 :: a1 :: a2 :: a3 :: some (.long x) :: r) (.long x :: st) h) : sEv l M d B K pc (a0 :: a1 :: a2 :: a3 :: some (.long x) :: r) st h := by
  subst hp
  exact e_ld (i := 4) rfl (fun b p e R s m args below meth c H locs ls cells slots Q hx hb hl k => lv_lload hx hb hd hl k) kk
theorem e_aload_4 {a0 a1 a2 a3 : Option Value} {r : List (Option Value)} {x : Nat} (hd : decode M.2.1 pc = .ok (.aload 4, 2)) (hp : pc + 2 = p') (kk : sEv l M d B K p' (a0 :: a1 :: a2 :: a3 :: some (.ref x) :: r) (.ref x :: st) h) : sEv l M d B K pc (a0 :: a1 :: a2 :: a3 :: some (.ref x) :: r) st h := by
  subst hp
  exact e_ld (i := 4) rfl (fun b p e R s m args below meth c H locs ls cells slots Q hx hb hl k => lv_aload hx hb hd hl k) kk
theorem e_istore_4 {a0 a1 a2 a3 a4 : Option Value} {r : List (Option Value)} {x : Int32} (hd : decode M.2.1 pc = .ok (.istore 4, 2)) (hn : 4 < M.2.2.1) (hno : sN1 a3 = true) (hp : pc + 2 = p') (kk : sEv l M d B K p' (a0 :: a1 :: a2 :: a3 :: some (.int x) :: r) st h) : sEv l M d B K pc (a0 :: a1 :: a2 :: a3 :: a4 :: r) (.int x :: st) h := by
  subst hp
  exact e_st1 (i := 4) (sN1_ok (j := 3) (o := a3) rfl hno) (fun b p e R s m args below meth c H locs ls cells slots Q hx hb hl k => lv_istore hx hb hd hl hn rfl k) kk
theorem e_astore_4 {a0 a1 a2 a3 a4 : Option Value} {r : List (Option Value)} {x : Nat} (hd : decode M.2.1 pc = .ok (.astore 4, 2)) (hn : 4 < M.2.2.1) (hno : sN1 a3 = true) (hp : pc + 2 = p') (kk : sEv l M d B K p' (a0 :: a1 :: a2 :: a3 :: some (.ref x) :: r) st h) : sEv l M d B K pc (a0 :: a1 :: a2 :: a3 :: a4 :: r) (.ref x :: st) h := by
  subst hp
  exact e_st1 (i := 4) (sN1_ok (j := 3) (o := a3) rfl hno) (fun b p e R s m args below meth c H locs ls cells slots Q hx hb hl k => lv_astore hx hb hd hl hn rfl k) kk
theorem e_lstore_4 {a0 a1 a2 a3 a4 a5 : Option Value} {r : List (Option Value)} {x : Int64} (hd : decode M.2.1 pc = .ok (.lstore 4, 2)) (hn : 5 < M.2.2.1) (hno : sN1 a3 = true) (hp : pc + 2 = p') (kk : sEv l M d B K p' (a0 :: a1 :: a2 :: a3 :: some (.long x) :: none :: r) st h) : sEv l M d B K pc (a0 :: a1 :: a2 :: a3 :: a4 :: a5 :: r) (.long x :: st) h := by
  subst hp
  exact e_st2 (i := 4) (sN1_ok (j := 3) (o := a3) rfl hno) (fun b p e R s m args below meth c H locs ls cells slots Q hx hb hl k => lv_lstore hx hb hd hl hn rfl k) kk
theorem e_iinc_4 {a0 a1 a2 a3 : Option Value} {r : List (Option Value)} {x v : Int32} {n : Int} (hd : decode M.2.1 pc = .ok (.iinc 4 n, 3)) (hn : 4 < M.2.2.1) (hno : sN1 a3 = true) (hv : x + Int32.ofInt n = v) (hp : pc + 3 = p') (kk : sEv l M d B K p' (a0 :: a1 :: a2 :: a3 :: some (.int v) :: r) st h) : sEv l M d B K pc (a0 :: a1 :: a2 :: a3 :: some (.int x) :: r) st h := by
  subst hp
  exact e_inc (i := 4) rfl (sN1_ok (j := 3) (o := a3) rfl hno) (fun b p e R s m args below meth c H locs ls cells slots Q k0 hx hb hl hk k => lv_iinc hx hb hd hl hk hv hn rfl k) kk
theorem e_iincN_4 {a0 a1 a2 a3 : Option Value} {r : List (Option Value)} {a n : Nat} (hd : decode M.2.1 pc = .ok (.iinc 4 (n : Int), 3)) (hn : 4 < M.2.2.1) (hno : sN1 a3 = true) (hp : pc + 3 = p') (kk : sEv l M d B K p' (a0 :: a1 :: a2 :: a3 :: some (.int (nI (a + n))) :: r) st h) : sEv l M d B K pc (a0 :: a1 :: a2 :: a3 :: some (.int (nI a)) :: r) st h := e_iinc_4 hd hn hno (by rw [← nI_add]; rfl) hp kk
theorem e_iload_5 {a0 a1 a2 a3 a4 : Option Value} {r : List (Option Value)} {x : Int32} (hd : decode M.2.1 pc = .ok (.iload 5, 2)) (hp : pc + 2 = p') (kk : sEv l M d B K p' (a0 :: a1 :: a2 :: a3 :: a4 :: some (.int x) :: r) (.int x :: st) h) : sEv l M d B K pc (a0 :: a1 :: a2 :: a3 :: a4 :: some (.int x) :: r) st h := by
  subst hp
  exact e_ld (i := 5) rfl (fun b p e R s m args below meth c H locs ls cells slots Q hx hb hl k => lv_iload hx hb hd hl k) kk
theorem e_lload_5 {a0 a1 a2 a3 a4 : Option Value} {r : List (Option Value)} {x : Int64} (hd : decode M.2.1 pc = .ok (.lload 5, 2)) (hp : pc + 2 = p') (kk : sEv l M d B K p' (a0 :: a1 :: a2 :: a3 :: a4 :: some (.long x) :: r) (.long x :: st) h) : sEv l M d B K pc (a0 :: a1 :: a2 :: a3 :: a4 :: some (.long x) :: r) st h := by
  subst hp
  exact e_ld (i := 5) rfl (fun b p e R s m args below meth c H locs ls cells slots Q hx hb hl k => lv_lload hx hb hd hl k) kk
theorem e_aload_5 {a0 a1 a2 a3 a4 : Option Value} {r : List (Option Value)} {x : Nat} (hd : decode M.2.1 pc = .ok (.aload 5, 2)) (hp : pc + 2 = p') (kk : sEv l M d B K p' (a0 :: a1 :: a2 :: a3 :: a4 :: some (.ref x) :: r) (.ref x :: st) h) : sEv l M d B K pc (a0 :: a1 :: a2 :: a3 :: a4 :: some (.ref x) :: r) st h := by
  subst hp
  exact e_ld (i := 5) rfl (fun b p e R s m args below meth c H locs ls cells slots Q hx hb hl k => lv_aload hx hb hd hl k) kk
theorem e_istore_5 {a0 a1 a2 a3 a4 a5 : Option Value} {r : List (Option Value)} {x : Int32} (hd : decode M.2.1 pc = .ok (.istore 5, 2)) (hn : 5 < M.2.2.1) (hno : sN1 a4 = true) (hp : pc + 2 = p') (kk : sEv l M d B K p' (a0 :: a1 :: a2 :: a3 :: a4 :: some (.int x) :: r) st h) : sEv l M d B K pc (a0 :: a1 :: a2 :: a3 :: a4 :: a5 :: r) (.int x :: st) h := by
  subst hp
  exact e_st1 (i := 5) (sN1_ok (j := 4) (o := a4) rfl hno) (fun b p e R s m args below meth c H locs ls cells slots Q hx hb hl k => lv_istore hx hb hd hl hn rfl k) kk
theorem e_astore_5 {a0 a1 a2 a3 a4 a5 : Option Value} {r : List (Option Value)} {x : Nat} (hd : decode M.2.1 pc = .ok (.astore 5, 2)) (hn : 5 < M.2.2.1) (hno : sN1 a4 = true) (hp : pc + 2 = p') (kk : sEv l M d B K p' (a0 :: a1 :: a2 :: a3 :: a4 :: some (.ref x) :: r) st h) : sEv l M d B K pc (a0 :: a1 :: a2 :: a3 :: a4 :: a5 :: r) (.ref x :: st) h := by
  subst hp
  exact e_st1 (i := 5) (sN1_ok (j := 4) (o := a4) rfl hno) (fun b p e R s m args below meth c H locs ls cells slots Q hx hb hl k => lv_astore hx hb hd hl hn rfl k) kk
theorem e_lstore_5 {a0 a1 a2 a3 a4 a5 a6 : Option Value} {r : List (Option Value)} {x : Int64} (hd : decode M.2.1 pc = .ok (.lstore 5, 2)) (hn : 6 < M.2.2.1) (hno : sN1 a4 = true) (hp : pc + 2 = p') (kk : sEv l M d B K p' (a0 :: a1 :: a2 :: a3 :: a4 :: some (.long x) :: none :: r) st h) : sEv l M d B K pc (a0 :: a1 :: a2 :: a3 :: a4 :: a5 :: a6 :: r) (.long x :: st) h := by
  subst hp
  exact e_st2 (i := 5) (sN1_ok (j := 4) (o := a4) rfl hno) (fun b p e R s m args below meth c H locs ls cells slots Q hx hb hl k => lv_lstore hx hb hd hl hn rfl k) kk
theorem e_iinc_5 {a0 a1 a2 a3 a4 : Option Value} {r : List (Option Value)} {x v : Int32} {n : Int} (hd : decode M.2.1 pc = .ok (.iinc 5 n, 3)) (hn : 5 < M.2.2.1) (hno : sN1 a4 = true) (hv : x + Int32.ofInt n = v) (hp : pc + 3 = p') (kk : sEv l M d B K p' (a0 :: a1 :: a2 :: a3 :: a4 :: some (.int v) :: r) st h) : sEv l M d B K pc (a0 :: a1 :: a2 :: a3 :: a4 :: some (.int x) :: r) st h := by
  subst hp
  exact e_inc (i := 5) rfl (sN1_ok (j := 4) (o := a4) rfl hno) (fun b p e R s m args below meth c H locs ls cells slots Q k0 hx hb hl hk k => lv_iinc hx hb hd hl hk hv hn rfl k) kk
theorem e_iincN_5 {a0 a1 a2 a3 a4 : Option Value} {r : List (Option Value)} {a n : Nat} (hd : decode M.2.1 pc = .ok (.iinc 5 (n : Int), 3)) (hn : 5 < M.2.2.1) (hno : sN1 a4 = true) (hp : pc + 3 = p') (kk : sEv l M d B K p' (a0 :: a1 :: a2 :: a3 :: a4 :: some (.int (nI (a + n))) :: r) st h) : sEv l M d B K pc (a0 :: a1 :: a2 :: a3 :: a4 :: some (.int (nI a)) :: r) st h := e_iinc_5 hd hn hno (by rw [← nI_add]; rfl) hp kk
theorem e_iload_6 {a0 a1 a2 a3 a4 a5 : Option Value} {r : List (Option Value)} {x : Int32} (hd : decode M.2.1 pc = .ok (.iload 6, 2)) (hp : pc + 2 = p') (kk : sEv l M d B K p' (a0 :: a1 :: a2 :: a3 :: a4 :: a5 :: some (.int x) :: r) (.int x :: st) h) : sEv l M d B K pc (a0 :: a1 :: a2 :: a3 :: a4 :: a5 :: some (.int x) :: r) st h := by
  subst hp
  exact e_ld (i := 6) rfl (fun b p e R s m args below meth c H locs ls cells slots Q hx hb hl k => lv_iload hx hb hd hl k) kk
theorem e_lload_6 {a0 a1 a2 a3 a4 a5 : Option Value} {r : List (Option Value)} {x : Int64} (hd : decode M.2.1 pc = .ok (.lload 6, 2)) (hp : pc + 2 = p') (kk : sEv l M d B K p' (a0 :: a1 :: a2 :: a3 :: a4 :: a5 :: some (.long x) :: r) (.long x :: st) h) : sEv l M d B K pc (a0 :: a1 :: a2 :: a3 :: a4 :: a5 :: some (.long x) :: r) st h := by
  subst hp
  exact e_ld (i := 6) rfl (fun b p e R s m args below meth c H locs ls cells slots Q hx hb hl k => lv_lload hx hb hd hl k) kk
theorem e_aload_6 {a0 a1 a2 a3 a4 a5 : Option Value} {r : List (Option Value)} {x : Nat} (hd : decode M.2.1 pc = .ok (.aload 6, 2)) (hp : pc + 2 = p') (kk : sEv l M d B K p' (a0 :: a1 :: a2 :: a3 :: a4 :: a5 :: some (.ref x) :: r) (.ref x :: st) h) : sEv l M d B K pc (a0 :: a1 :: a2 :: a3 :: a4 :: a5 :: some (.ref x) :: r) st h := by
  subst hp
  exact e_ld (i := 6) rfl (fun b p e R s m args below meth c H locs ls cells slots Q hx hb hl k => lv_aload hx hb hd hl k) kk
theorem e_istore_6 {a0 a1 a2 a3 a4 a5 a6 : Option Value} {r : List (Option Value)} {x : Int32} (hd : decode M.2.1 pc = .ok (.istore 6, 2)) (hn : 6 < M.2.2.1) (hno : sN1 a5 = true) (hp : pc + 2 = p') (kk : sEv l M d B K p' (a0 :: a1 :: a2 :: a3 :: a4 :: a5 :: some (.int x) :: r) st h) : sEv l M d B K pc (a0 :: a1 :: a2 :: a3 :: a4 :: a5 :: a6 :: r) (.int x :: st) h := by
  subst hp
  exact e_st1 (i := 6) (sN1_ok (j := 5) (o := a5) rfl hno) (fun b p e R s m args below meth c H locs ls cells slots Q hx hb hl k => lv_istore hx hb hd hl hn rfl k) kk
theorem e_astore_6 {a0 a1 a2 a3 a4 a5 a6 : Option Value} {r : List (Option Value)} {x : Nat} (hd : decode M.2.1 pc = .ok (.astore 6, 2)) (hn : 6 < M.2.2.1) (hno : sN1 a5 = true) (hp : pc + 2 = p') (kk : sEv l M d B K p' (a0 :: a1 :: a2 :: a3 :: a4 :: a5 :: some (.ref x) :: r) st h) : sEv l M d B K pc (a0 :: a1 :: a2 :: a3 :: a4 :: a5 :: a6 :: r) (.ref x :: st) h := by
  subst hp
  exact e_st1 (i := 6) (sN1_ok (j := 5) (o := a5) rfl hno) (fun b p e R s m args below meth c H locs ls cells slots Q hx hb hl k => lv_astore hx hb hd hl hn rfl k) kk
theorem e_lstore_6 {a0 a1 a2 a3 a4 a5 a6 a7 : Option Value} {r : List (Option Value)} {x : Int64} (hd : decode M.2.1 pc = .ok (.lstore 6, 2)) (hn : 7 < M.2.2.1) (hno : sN1 a5 = true) (hp : pc + 2 = p') (kk : sEv l M d B K p' (a0 :: a1 :: a2 :: a3 :: a4 :: a5 :: some (.long x) :: none :: r) st h) : sEv l M d B K pc (a0 :: a1 :: a2 :: a3 :: a4 :: a5 :: a6 :: a7 :: r) (.long x :: st) h := by
  subst hp
  exact e_st2 (i := 6) (sN1_ok (j := 5) (o := a5) rfl hno) (fun b p e R s m args below meth c H locs ls cells slots Q hx hb hl k => lv_lstore hx hb hd hl hn rfl k) kk
theorem e_iinc_6 {a0 a1 a2 a3 a4 a5 : Option Value} {r : List (Option Value)} {x v : Int32} {n : Int} (hd : decode M.2.1 pc = .ok (.iinc 6 n, 3)) (hn : 6 < M.2.2.1) (hno : sN1 a5 = true) (hv : x + Int32.ofInt n = v) (hp : pc + 3 = p') (kk : sEv l M d B K p' (a0 :: a1 :: a2 :: a3 :: a4 :: a5 :: some (.int v) :: r) st h) : sEv l M d B K pc (a0 :: a1 :: a2 :: a3 :: a4 :: a5 :: some (.int x) :: r) st h := by
  subst hp
  exact e_inc (i := 6) rfl (sN1_ok (j := 5) (o := a5) rfl hno) (fun b p e R s m args below meth c H locs ls cells slots Q k0 hx hb hl hk k => lv_iinc hx hb hd hl hk hv hn rfl k) kk
theorem e_iincN_6 {a0 a1 a2 a3 a4 a5 : Option Value} {r : List (Option Value)} {a n : Nat} (hd : decode M.2.1 pc = .ok (.iinc 6 (n : Int), 3)) (hn : 6 < M.2.2.1) (hno : sN1 a5 = true) (hp : pc + 3 = p') (kk : sEv l M d B K p' (a0 :: a1 :: a2 :: a3 :: a4 :: a5 :: some (.int (nI (a + n))) :: r) st h) : sEv l M d B K pc (a0 :: a1 :: a2 :: a3 :: a4 :: a5 :: some (.int (nI a)) :: r) st h := e_iinc_6 hd hn hno (by rw [← nI_add]; rfl) hp kk
theorem e_iload_7 {a0 a1 a2 a3 a4 a5 a6 : Option Value} {r : List (Option Value)} {x : Int32} (hd : decode M.2.1 pc = .ok (.iload 7, 2)) (hp : pc + 2 = p') (kk : sEv l M d B K p' (a0 :: a1 :: a2 :: a3 :: a4 :: a5 :: a6 :: some (.int x) :: r) (.int x :: st) h) : sEv l M d B K pc (a0 :: a1 :: a2 :: a3 :: a4 :: a5 :: a6 :: some (.int x) :: r) st h := by
  subst hp
  exact e_ld (i := 7) rfl (fun b p e R s m args below meth c H locs ls cells slots Q hx hb hl k => lv_iload hx hb hd hl k) kk
theorem e_lload_7 {a0 a1 a2 a3 a4 a5 a6 : Option Value} {r : List (Option Value)} {x : Int64} (hd : decode M.2.1 pc = .ok (.lload 7, 2)) (hp : pc + 2 = p') (kk : sEv l M d B K p' (a0 :: a1 :: a2 :: a3 :: a4 :: a5 :: a6 :: some (.long x) :: r) (.long x :: st) h) : sEv l M d B K pc (a0 :: a1 :: a2 :: a3 :: a4 :: a5 :: a6 :: some (.long x) :: r) st h := by
  subst hp
  exact e_ld (i := 7) rfl (fun b p e R s m args below meth c H locs ls cells slots Q hx hb hl k => lv_lload hx hb hd hl k) kk
theorem e_aload_7 {a0 a1 a2 a3 a4 a5 a6 : Option Value} {r : List (Option Value)} {x : Nat} (hd : decode M.2.1 pc = .ok (.aload 7, 2)) (hp : pc + 2 = p') (kk : sEv l M d B K p' (a0 :: a1 :: a2 :: a3 :: a4 :: a5 :: a6 :: some (.ref x) :: r) (.ref x :: st) h) : sEv l M d B K pc (a0 :: a1 :: a2 :: a3 :: a4 :: a5 :: a6 :: some (.ref x) :: r) st h := by
  subst hp
  exact e_ld (i := 7) rfl (fun b p e R s m args below meth c H locs ls cells slots Q hx hb hl k => lv_aload hx hb hd hl k) kk
theorem e_istore_7 {a0 a1 a2 a3 a4 a5 a6 a7 : Option Value} {r : List (Option Value)} {x : Int32} (hd : decode M.2.1 pc = .ok (.istore 7, 2)) (hn : 7 < M.2.2.1) (hno : sN1 a6 = true) (hp : pc + 2 = p') (kk : sEv l M d B K p' (a0 :: a1 :: a2 :: a3 :: a4 :: a5 :: a6 :: some (.int x) :: r) st h) : sEv l M d B K pc (a0 :: a1 :: a2 :: a3 :: a4 :: a5 :: a6 :: a7 :: r) (.int x :: st) h := by
  subst hp
  exact e_st1 (i := 7) (sN1_ok (j := 6) (o := a6) rfl hno) (fun b p e R s m args below meth c H locs ls cells slots Q hx hb hl k => lv_istore hx hb hd hl hn rfl k) kk
theorem e_astore_7 {a0 a1 a2 a3 a4 a5 a6 a7 : Option Value} {r : List (Option Value)} {x : Nat} (hd : decode M.2.1 pc = .ok (.astore 7, 2)) (hn : 7 < M.2.2.1) (hno : sN1 a6 = true) (hp : pc + 2 = p') (kk : sEv l M d B K p' (a0 :: a1 :: a2 :: a3 :: a4 :: a5 :: a6 :: some (.ref x) :: r) st h) : sEv l M d B K pc (a0 :: a1 :: a2 :: a3 :: a4 :: a5 :: a6 :: a7 :: r) (.ref x :: st) h := by
  subst hp
  exact e_st1 (i := 7) (sN1_ok (j := 6) (o := a6) rfl hno) (fun b p e R s m args below meth c H locs ls cells slots Q hx hb hl k => lv_astore hx hb hd hl hn rfl k) kk
theorem e_lstore_7 {a0 a1 a2 a3 a4 a5 a6 a7 a8 : Option Value} {r : List (Option Value)} {x : Int64} (hd : decode M.2.1 pc = .ok (.lstore 7, 2)) (hn : 8 < M.2.2.1) (hno : sN1 a6 = true) (hp : pc + 2 = p') (kk : sEv l M d B K p' (a0 :: a1 :: a2 :: a3 :: a4 :: a5 :: a6 :: some (.long x) :: none :: r) st h) : sEv l M d B K pc (a0 :: a1 :: a2 :: a3 :: a4 :: a5 :: a6 :: a7 :: a8 :: r) (.long x :: st) h := by
  subst hp
  exact e_st2 (i := 7) (sN1_ok (j := 6) (o := a6) rfl hno) (fun b p e R s m args below meth c H locs ls cells slots Q hx hb hl k => lv_lstore hx hb hd hl hn rfl k) kk
theorem e_iinc_7 {a0 a1 a2 a3 a4 a5 a6 : Option Value} {r : List (Option Value)} {x v : Int32} {n : Int} (hd : decode M.2.1 pc = .ok (.iinc 7 n, 3)) (hn : 7 < M.2.2.1) (hno : sN1 a6 = true) (hv : x + Int32.ofInt n = v) (hp : pc + 3 = p') (kk : sEv l M d B K p' (a0 :: a1 :: a2 :: a3 :: a4 :: a5 :: a6 :: some (.int v) :: r) st h) : sEv l M d B K pc (a0 :: a1 :: a2 :: a3 :: a4 :: a5 :: a6 :: some (.int x) :: r) st h := by
  subst hp
  exact e_inc (i := 7) rfl (sN1_ok (j := 6) (o := a6) rfl hno) (fun b p e R s m args below meth c H locs ls cells slots Q k0 hx hb hl hk k => lv_iinc hx hb hd hl hk hv hn rfl k) kk
theorem e_iincN_7 {a0 a1 a2 a3 a4 a5 a6 : Option Value} {r : List (Option Value)} {a n : Nat} (hd : decode M.2.1 pc = .ok (.iinc 7 (n : Int), 3)) (hn : 7 < M.2.2.1) (hno : sN1 a6 = true) (hp : pc + 3 = p') (kk : sEv l M d B K p' (a0 :: a1 :: a2 :: a3 :: a4 :: a5 :: a6 :: some (.int (nI (a + n))) :: r) st h) : sEv l M d B K pc (a0 :: a1 :: a2 :: a3 :: a4 :: a5 :: a6 :: some (.int (nI a)) :: r) st h := e_iinc_7 hd hn hno (by rw [← nI_add]; rfl) hp kk
theorem e_iload_8 {a0 a1 a2 a3 a4 a5 a6 a7 : Option Value} {r : List (Option Value)} {x : Int32} (hd : decode M.2.1 pc = .ok (.iload 8, 2)) (hp : pc + 2 = p') (kk : sEv l M d B K p' (a0 :: a1 :: a2 :: a3 :: a4 :: a5 :: a6 :: a7 :: some (.int x) :: r) (.int x :: st) h) : sEv l M d B K pc (a0 :: a1 :: a2 :: a3 :: a4 :: a5 :: a6 :: a7 :: some (.int x) :: r) st h := by
  subst hp
  exact e_ld (i := 8) rfl (fun b p e R s m args below meth c H locs ls cells slots Q hx hb hl k => lv_iload hx hb hd hl k) kk
theorem e_lload_8 {a0 a1 a2 a3 a4 a5 a6 a7 : Option Value} {r : List (Option Value)} {x : Int64} (hd : decode M.2.1 pc = .ok (.lload 8, 2)) (hp : pc + 2 = p') (kk : sEv l M d B K p' (a0 :: a1 :: a2 :: a3 :: a4 :: a5 :: a6 :: a7 :: some (.long x) :: r) (.long x :: st) h) : sEv l M d B K pc (a0 :: a1 :: a2 :: a3 :: a4 :: a5 :: a6 :: a7 :: some (.long x) :: r) st h := by
  subst hp
  exact e_ld (i := 8) rfl (fun b p e R s m args below meth c H locs ls cells slots Q hx hb hl k => lv_lload hx hb hd hl k) kk
theorem e_aload_8 {a0 a1 a2 a3 a4 a5 a6 a7 : Option Value} {r : List (Option Value)} {x : Nat} (hd : decode M.2.1 pc = .ok (.aload 8, 2)) (hp : pc + 2 = p') (kk : sEv l M d B K p' (a0 :: a1 :: a2 :: a3 :: a4 :: a5 :: a6 :: a7 :: some (.ref x) :: r) (.ref x :: st) h) : sEv l M d B K pc (a0 :: a1 :: a2 :: a3 :: a4 :: a5 :: a6 :: a7 :: some (.ref x) :: r) st h := by
  subst hp
  exact e_ld (i := 8) rfl (fun b p e R s m args below meth c H locs ls cells slots Q hx hb hl k => lv_aload hx hb hd hl k) kk
theorem e_istore_8 {a0 a1 a2 a3 a4 a5 a6 a7 a8 : Option Value} {r : List (Option Value)} {x : Int32} (hd : decode M.2.1 pc = .ok (.istore 8, 2)) (hn : 8 < M.2.2.1) (hno : sN1 a7 = true) (hp : pc + 2 = p') (kk : sEv l M d B K p' (a0 :: a1 :: a2 :: a3 :: a4 :: a5 :: a6 :: a7 :: some (.int x) :: r) st h) : sEv l M d B K pc (a0 :: a1 :: a2 :: a3 :: a4 :: a5 :: a6 :: a7 :: a8 :: r) (.int x :: st) h := by
  subst hp
  exact e_st1 (i := 8) (sN1_ok (j := 7) (o := a7) rfl hno) (fun b p e R s m args below meth c H locs ls cells slots Q hx hb hl k => lv_istore hx hb hd hl hn rfl k) kk
theorem e_astore_8 {a0 a1 a2 a3 a4 a5 a6 a7 a8 : Option Value} {r : List (Option Value)} {x : Nat} (hd : decode M.2.1 pc = .ok (.astore 8, 2)) (hn : 8 < M.2.2.1) (hno : sN1 a7 = true) (hp : pc + 2 = p') (kk : sEv l M d B K p' (a0 :: a1 :: a2 :: a3 :: a4 :: a5 :: a6 :: a7 :: some (.ref x) :: r) st h) : sEv l M d B K pc (a0 :: a1 :: a2 :: a3 :: a4 :: a5 :: a6 :: a7 :: a8 :: r) (.ref x :: st) h := by
  subst hp
  exact e_st1 (i := 8) (sN1_ok (j := 7) (o := a7) rfl hno) (fun b p e R s m args below meth c H locs ls cells slots Q hx hb hl k => lv_astore hx hb hd hl hn rfl k) kk
theorem e_lstore_8 {a0 a1 a2 a3 a4 a5 a6 a7 a8 a9 : Option Value} {r : List (Option Value)} {x : Int64} (hd : decode M.2.1 pc = .ok (.lstore 8, 2)) (hn : 9 < M.2.2.1) (hno : sN1 a7 = true) (hp : pc + 2 = p') (kk : sEv l M d B K p' (a0 :: a1 :: a2 :: a3 :: a4 :: a5 :: a6 :: a7 :: some (.long x) :: none :: r) st h) : sEv l M d B K pc (a0 :: a1 :: a2 :: a3 :: a4 :: a5 :: a6 :: a7 :: a8 :: a9 :: r) (.long x :: st) h := by
  subst hp
  exact e_st2 (i := 8) (sN1_ok (j := 7) (o := a7) rfl hno) (fun b p e R s m args below meth c H locs ls cells slots Q hx hb hl k => lv_lstore hx hb hd hl hn rfl k) kk
theorem e_iinc_8 {a0 a1 a2 a3 a4 a5 a6 a7 : Option Value} {r : List (Option Value)} {x v : Int32} {n : Int} (hd : decode M.2.1 pc = .ok (.iinc 8 n, 3)) (hn : 8 < M.2.2.1) (hno : sN1 a7 = true) (hv : x + Int32.ofInt n = v) (hp : pc + 3 = p') (kk : sEv l M d B K p' (a0 :: a1 :: a2 :: a3 :: a4 :: a5 :: a6 :: a7 :: some (.int v) :: r) st h) : sEv l M d B K pc (a0 :: a1 :: a2 :: a3 :: a4 :: a5 :: a6 :: a7 :: some (.int x) :: r) st h := by
  subst hp
  exact e_inc (i := 8) rfl (sN1_ok (j := 7) (o := a7) rfl hno) (fun b p e R s m args below meth c H locs ls cells slots Q k0 hx hb hl hk k => lv_iinc hx hb hd hl hk hv hn rfl k) kk
theorem e_iincN_8 {a0 a1 a2 a3 a4 a5 a6 a7 : Option Value} {r : List (Option Value)} {a n : Nat} (hd : decode M.2.1 pc = .ok (.iinc 8 (n : Int), 3)) (hn : 8 < M.2.2.1) (hno : sN1 a7 = true) (hp : pc + 3 = p') (kk : sEv l M d B K p' (a0 :: a1 :: a2 :: a3 :: a4 :: a5 :: a6 :: a7 :: some (.int (nI (a + n))) :: r) st h) : sEv l M d B K pc (a0 :: a1 :: a2 :: a3 :: a4 :: a5 :: a6 :: a7 :: some (.int (nI a)) :: r) st h := e_iinc_8 hd hn hno (by rw [← nI_add]; rfl) hp kk
theorem e_aloadS_0 {r : List (Option Value)} {x : Nat} (hd : decode M.2.1 pc = .ok (.aload_n 0, 1)) (hp : pc + 1 = p') (kk : sEv l M d B K p' (some (.retAddr x) :: r) (.retAddr x :: st) h) : sEv l M d B K pc (some (.retAddr x) :: r) st h := by
  subst hp
  exact e_ld (i := 0) rfl (fun b p e R s m args below meth c H locs ls cells slots Q hx hb hl k => lv_aload_n hx hb hd rfl hl k) kk
theorem e_goto {off : Int} (hd : decode M.2.1 pc = .ok (.goto off, 3)) (hp : (pc : Int) + off = (p' : Int)) (kk : sEv l M d B K p' lv st h) : sEv l M d B K pc lv st h :=
  e_of (fun b p e R s m args below meth c H locs ls cells slots Q hx hb k => lv_goto hx hb hd hp k) kk
theorem e_tsOut {dflt lo hi : Int} {offs : Array Int} {len : Nat} {x : Int32} (hd : decode M.2.1 pc = .ok (.tableswitch dflt lo hi offs, len)) (hx0 : x.toInt < lo ∨ hi < x.toInt) (hp : (pc : Int) + dflt = (p' : Int)) (kk : sEv l M d B K p' lv st h) : sEv l M d B K pc lv (.int x :: st) h :=
  e_of (fun b p e R s m args below meth c H locs ls cells slots Q hx hb k => lv_tableOut hx hb hd hx0 hp k) kk
theorem e_tsIn {dflt lo hi : Int} {offs : Array Int} {len : Nat} {x : Int32} {off : Int} (hd : decode M.2.1 pc = .ok (.tableswitch dflt lo hi offs, len)) (h1 : ¬ x.toInt < lo) (h2 : ¬ hi < x.toInt) (ho : offs[(x.toInt - lo).toNat]? = some off) (hp : (pc : Int) + off = (p' : Int)) (kk : sEv l M d B K p' lv st h) : sEv l M d B K pc lv (.int x :: st) h :=
  e_of (fun b p e R s m args below meth c H locs ls cells slots Q hx hb k => lv_tableIn hx hb hd h1 h2 ho hp k) kk
theorem e_ifnonnull {a : Nat} {off : Int} (hd : decode M.2.1 pc = .ok (.ifnonnull off, 3)) (hp : (pc : Int) + off = (p' : Int)) (kk : sEv l M d B K p' lv st h) : sEv l M d B K pc lv (.ref a :: st) h :=
  e_of (fun b p e R s m args below meth c H locs ls cells slots Q hx hb k => lv_ifnonnull hx hb hd hp k) kk
theorem e_ifnonnullN {off : Int} (hd : decode M.2.1 pc = .ok (.ifnonnull off, 3)) (hp : pc + 3 = p') (kk : sEv l M d B K p' lv st h) : sEv l M d B K pc lv (.null :: st) h := by
  subst hp
  exact e_of (fun b p e R s m args below meth c H locs ls cells slots Q hx hb k => lv_ifnonnullN hx hb hd k) kk
theorem e_ifnull {a : Nat} {off : Int} (hd : decode M.2.1 pc = .ok (.ifnull off, 3)) (hp : pc + 3 = p') (kk : sEv l M d B K p' lv st h) : sEv l M d B K pc lv (.ref a :: st) h := by
  subst hp
  exact e_of (fun b p e R s m args below meth c H locs ls cells slots Q hx hb k => lv_ifnull hx hb hd k) kk
theorem e_ifnullN {off : Int} (hd : decode M.2.1 pc = .ok (.ifnull off, 3)) (hp : (pc : Int) + off = (p' : Int)) (kk : sEv l M d B K p' lv st h) : sEv l M d B K pc lv (.null :: st) h :=
  e_of (fun b p e R s m args below meth c H locs ls cells slots Q hx hb k => lv_ifnullN hx hb hd hp k) kk

theorem e_icmp_eq {x y : Int32} {off : Int} {q : Nat} (hd : decode M.2.1 pc = .ok (.if_icmp .eq off, 3)) (hq : (pc : Int) + off = (q : Int)) (hp : pc + 3 = p') (kt : x = y → sEv l M d B K q lv st h) (kf : ¬ (x = y) → sEv l M d B K p' lv st h) : sEv l M d B K pc lv (.int y :: .int x :: st) h := by
  subst hp
  intro G p e R s m args below meth c H locs ls C hR hS hL
  exact lv_icmp_eq C.1 C.2.1 hd hq (fun hc => kt hc G p e R s m args below meth c H locs ls C hR hS hL) (fun hc => kf hc G p e R s m args below meth c H locs ls C hR hS hL)
theorem e_icmpN_eq {a b : Nat} {off : Int} {q : Nat} (hd : decode M.2.1 pc = .ok (.if_icmp .eq off, 3)) (ha : a < 2 ^ 31) (hb : b < 2 ^ 31) (hq : (pc : Int) + off = (q : Int)) (hp : pc + 3 = p') (kt : a = b → sEv l M d B K q lv st h) (kf : ¬ (a = b) → sEv l M d B K p' lv st h) : sEv l M d B K pc lv (.int (nI b) :: .int (nI a) :: st) h := by
  have hi : (nI a = nI b) ↔ (a = b) := nI_eq ha hb
  exact e_icmp_eq hd hq hp (fun hc => kt (hi.mp hc)) (fun hc => kf (fun z => hc (hi.mpr z)))
theorem e_if_eq {x : Int32} {off : Int} {q : Nat} (hd : decode M.2.1 pc = .ok (.ifCond .eq off, 3)) (hq : (pc : Int) + off = (q : Int)) (hp : pc + 3 = p') (kt : x = 0 → sEv l M d B K q lv st h) (kf : ¬ (x = 0) → sEv l M d B K p' lv st h) : sEv l M d B K pc lv (.int x :: st) h := by
  subst hp
  intro G p e R s m args below meth c H locs ls C hR hS hL
  exact lv_if_eq C.1 C.2.1 hd hq (fun hc => kt hc G p e R s m args below meth c H locs ls C hR hS hL) (fun hc => kf hc G p e R s m args below meth c H locs ls C hR hS hL)
theorem e_ifN_eq {a : Nat} {off : Int} {q : Nat} (hd : decode M.2.1 pc = .ok (.ifCond .eq off, 3)) (ha : a < 2 ^ 31) (hq : (pc : Int) + off = (q : Int)) (hp : pc + 3 = p') (kt : a = 0 → sEv l M d B K q lv st h) (kf : ¬ (a = 0) → sEv l M d B K p' lv st h) : sEv l M d B K pc lv (.int (nI a) :: st) h := by
  have hi : (nI a = 0) ↔ (a = 0) := by rw [sI_zero]; exact nI_eq ha (by decide)
  exact e_if_eq hd hq hp (fun hc => kt (hi.mp hc)) (fun hc => kf (fun z => hc (hi.mpr z)))
theorem e_icmp_ne {x y : Int32} {off : Int} {q : Nat} (hd : decode M.2.1 pc = .ok (.if_icmp .ne off, 3)) (hq : (pc : Int) + off = (q : Int)) (hp : pc + 3 = p') (kt : ¬ x = y → sEv l M d B K q lv st h) (kf : x = y → sEv l M d B K p' lv st h) : sEv l M d B K pc lv (.int y :: .int x :: st) h := by
  subst hp
  intro G p e R s m args below meth c H locs ls C hR hS hL
  exact lv_icmp_ne C.1 C.2.1 hd hq (fun hc => kt hc G p e R s m args below meth c H locs ls C hR hS hL) (fun hc => kf hc G p e R s m args below meth c H locs ls C hR hS hL)
theorem e_icmpN_ne {a b : Nat} {off : Int} {q : Nat} (hd : decode M.2.1 pc = .ok (.if_icmp .ne off, 3)) (ha : a < 2 ^ 31) (hb : b < 2 ^ 31) (hq : (pc : Int) + off = (q : Int)) (hp : pc + 3 = p') (kt : ¬ a = b → sEv l M d B K q lv st h) (kf : a = b → sEv l M d B K p' lv st h) : sEv l M d B K pc lv (.int (nI b) :: .int (nI a) :: st) h := by
  have hi : (¬ nI a = nI b) ↔ (¬ a = b) := not_congr (nI_eq ha hb)
  exact e_icmp_ne hd hq hp (fun hc => kt (hi.mp hc)) (fun hc => kf (by rw [← Decidable.not_not (p := (a = b))]; exact fun z => (hi.mpr z) hc))
theorem e_if_ne {x : Int32} {off : Int} {q : Nat} (hd : decode M.2.1 pc = .ok (.ifCond .ne off, 3)) (hq : (pc : Int) + off = (q : Int)) (hp : pc + 3 = p') (kt : ¬ x = 0 → sEv l M d B K q lv st h) (kf : x = 0 → sEv l M d B K p' lv st h) : sEv l M d B K pc lv (.int x :: st) h := by
  subst hp
  intro G p e R s m args below meth c H locs ls C hR hS hL
  exact lv_if_ne C.1 C.2.1 hd hq (fun hc => kt hc G p e R s m args below meth c H locs ls C hR hS hL) (fun hc => kf hc G p e R s m args below meth c H locs ls C hR hS hL)
theorem e_ifN_ne {a : Nat} {off : Int} {q : Nat} (hd : decode M.2.1 pc = .ok (.ifCond .ne off, 3)) (ha : a < 2 ^ 31) (hq : (pc : Int) + off = (q : Int)) (hp : pc + 3 = p') (kt : ¬ a = 0 → sEv l M d B K q lv st h) (kf : a = 0 → sEv l M d B K p' lv st h) : sEv l M d B K pc lv (.int (nI a) :: st) h := by
  have hi : (¬ nI a = 0) ↔ (¬ a = 0) := by rw [sI_zero]; exact not_congr (nI_eq ha (by decide))
  exact e_if_ne hd hq hp (fun hc => kt (hi.mp hc)) (fun hc => kf (by rw [← Decidable.not_not (p := (a = 0))]; exact fun z => (hi.mpr z) hc))
theorem e_icmp_lt {x y : Int32} {off : Int} {q : Nat} (hd : decode M.2.1 pc = .ok (.if_icmp .lt off, 3)) (hq : (pc : Int) + off = (q : Int)) (hp : pc + 3 = p') (kt : x < y → sEv l M d B K q lv st h) (kf : ¬ (x < y) → sEv l M d B K p' lv st h) : sEv l M d B K pc lv (.int y :: .int x :: st) h := by
  subst hp
  intro G p e R s m args below meth c H locs ls C hR hS hL
  exact lv_icmp_lt C.1 C.2.1 hd hq (fun hc => kt hc G p e R s m args below meth c H locs ls C hR hS hL) (fun hc => kf hc G p e R s m args below meth c H locs ls C hR hS hL)
theorem e_icmpN_lt {a b : Nat} {off : Int} {q : Nat} (hd : decode M.2.1 pc = .ok (.if_icmp .lt off, 3)) (ha : a < 2 ^ 31) (hb : b < 2 ^ 31) (hq : (pc : Int) + off = (q : Int)) (hp : pc + 3 = p') (kt : a < b → sEv l M d B K q lv st h) (kf : ¬ (a < b) → sEv l M d B K p' lv st h) : sEv l M d B K pc lv (.int (nI b) :: .int (nI a) :: st) h := by
  have hi : (nI a < nI b) ↔ (a < b) := nI_ltI ha hb
  exact e_icmp_lt hd hq hp (fun hc => kt (hi.mp hc)) (fun hc => kf (fun z => hc (hi.mpr z)))
theorem e_if_lt {x : Int32} {off : Int} {q : Nat} (hd : decode M.2.1 pc = .ok (.ifCond .lt off, 3)) (hq : (pc : Int) + off = (q : Int)) (hp : pc + 3 = p') (kt : x < 0 → sEv l M d B K q lv st h) (kf : ¬ (x < 0) → sEv l M d B K p' lv st h) : sEv l M d B K pc lv (.int x :: st) h := by
  subst hp
  intro G p e R s m args below meth c H locs ls C hR hS hL
  exact lv_if_lt C.1 C.2.1 hd hq (fun hc => kt hc G p e R s m args below meth c H locs ls C hR hS hL) (fun hc => kf hc G p e R s m args below meth c H locs ls C hR hS hL)
theorem e_ifN_lt {a : Nat} {off : Int} {q : Nat} (hd : decode M.2.1 pc = .ok (.ifCond .lt off, 3)) (ha : a < 2 ^ 31) (hq : (pc : Int) + off = (q : Int)) (hp : pc + 3 = p') (kt : a < 0 → sEv l M d B K q lv st h) (kf : ¬ (a < 0) → sEv l M d B K p' lv st h) : sEv l M d B K pc lv (.int (nI a) :: st) h := by
  have hi : (nI a < 0) ↔ (a < 0) := by rw [sI_zero]; exact nI_ltI ha (by decide)
  exact e_if_lt hd hq hp (fun hc => kt (hi.mp hc)) (fun hc => kf (fun z => hc (hi.mpr z)))
theorem e_icmp_ge {x y : Int32} {off : Int} {q : Nat} (hd : decode M.2.1 pc = .ok (.if_icmp .ge off, 3)) (hq : (pc : Int) + off = (q : Int)) (hp : pc + 3 = p') (kt : y ≤ x → sEv l M d B K q lv st h) (kf : ¬ (y ≤ x) → sEv l M d B K p' lv st h) : sEv l M d B K pc lv (.int y :: .int x :: st) h := by
  subst hp
  intro G p e R s m args below meth c H locs ls C hR hS hL
  exact lv_icmp_ge C.1 C.2.1 hd hq (fun hc => kt hc G p e R s m args below meth c H locs ls C hR hS hL) (fun hc => kf hc G p e R s m args below meth c H locs ls C hR hS hL)
theorem e_icmpN_ge {a b : Nat} {off : Int} {q : Nat} (hd : decode M.2.1 pc = .ok (.if_icmp .ge off, 3)) (ha : a < 2 ^ 31) (hb : b < 2 ^ 31) (hq : (pc : Int) + off = (q : Int)) (hp : pc + 3 = p') (kt : b ≤ a → sEv l M d B K q lv st h) (kf : ¬ (b ≤ a) → sEv l M d B K p' lv st h) : sEv l M d B K pc lv (.int (nI b) :: .int (nI a) :: st) h := by
  have hi : (nI b ≤ nI a) ↔ (b ≤ a) := nI_leI hb ha
  exact e_icmp_ge hd hq hp (fun hc => kt (hi.mp hc)) (fun hc => kf (fun z => hc (hi.mpr z)))
theorem e_if_ge {x : Int32} {off : Int} {q : Nat} (hd : decode M.2.1 pc = .ok (.ifCond .ge off, 3)) (hq : (pc : Int) + off = (q : Int)) (hp : pc + 3 = p') (kt : 0 ≤ x → sEv l M d B K q lv st h) (kf : ¬ (0 ≤ x) → sEv l M d B K p' lv st h) : sEv l M d B K pc lv (.int x :: st) h := by
  subst hp
  intro G p e R s m args below meth c H locs ls C hR hS hL
  exact lv_if_ge C.1 C.2.1 hd hq (fun hc => kt hc G p e R s m args below meth c H locs ls C hR hS hL) (fun hc => kf hc G p e R s m args below meth c H locs ls C hR hS hL)
theorem e_ifN_ge {a : Nat} {off : Int} {q : Nat} (hd : decode M.2.1 pc = .ok (.ifCond .ge off, 3)) (ha : a < 2 ^ 31) (hq : (pc : Int) + off = (q : Int)) (hp : pc + 3 = p') (kt : 0 ≤ a → sEv l M d B K q lv st h) (kf : ¬ (0 ≤ a) → sEv l M d B K p' lv st h) : sEv l M d B K pc lv (.int (nI a) :: st) h := by
  have hi : (0 ≤ nI a) ↔ (0 ≤ a) := by rw [sI_zero]; exact nI_leI (by decide) ha
  exact e_if_ge hd hq hp (fun hc => kt (hi.mp hc)) (fun hc => kf (fun z => hc (hi.mpr z)))
theorem e_icmp_gt {x y : Int32} {off : Int} {q : Nat} (hd : decode M.2.1 pc = .ok (.if_icmp .gt off, 3)) (hq : (pc : Int) + off = (q : Int)) (hp : pc + 3 = p') (kt : y < x → sEv l M d B K q lv st h) (kf : ¬ (y < x) → sEv l M d B K p' lv st h) : sEv l M d B K pc lv (.int y :: .int x :: st) h := by
  subst hp
  intro G p e R s m args below meth c H locs ls C hR hS hL
  exact lv_icmp_gt C.1 C.2.1 hd hq (fun hc => kt hc G p e R s m args below meth c H locs ls C hR hS hL) (fun hc => kf hc G p e R s m args below meth c H locs ls C hR hS hL)
theorem e_icmpN_gt {a b : Nat} {off : Int} {q : Nat} (hd : decode M.2.1 pc = .ok (.if_icmp .gt off, 3)) (ha : a < 2 ^ 31) (hb : b < 2 ^ 31) (hq : (pc : Int) + off = (q : Int)) (hp : pc + 3 = p') (kt : b < a → sEv l M d B K q lv st h) (kf : ¬ (b < a) → sEv l M d B K p' lv st h) : sEv l M d B K pc lv (.int (nI b) :: .int (nI a) :: st) h := by
  have hi : (nI b < nI a) ↔ (b < a) := nI_ltI hb ha
  exact e_icmp_gt hd hq hp (fun hc => kt (hi.mp hc)) (fun hc => kf (fun z => hc (hi.mpr z)))
theorem e_if_gt {x : Int32} {off : Int} {q : Nat} (hd : decode M.2.1 pc = .ok (.ifCond .gt off, 3)) (hq : (pc : Int) + off = (q : Int)) (hp : pc + 3 = p') (kt : 0 < x → sEv l M d B K q lv st h) (kf : ¬ (0 < x) → sEv l M d B K p' lv st h) : sEv l M d B K pc lv (.int x :: st) h := by
  subst hp
  intro G p e R s m args below meth c H locs ls C hR hS hL
  exact lv_if_gt C.1 C.2.1 hd hq (fun hc => kt hc G p e R s m args below meth c H locs ls C hR hS hL) (fun hc => kf hc G p e R s m args below meth c H locs ls C hR hS hL)
theorem e_ifN_gt {a : Nat} {off : Int} {q : Nat} (hd : decode M.2.1 pc = .ok (.ifCond .gt off, 3)) (ha : a < 2 ^ 31) (hq : (pc : Int) + off = (q : Int)) (hp : pc + 3 = p') (kt : 0 < a → sEv l M d B K q lv st h) (kf : ¬ (0 < a) → sEv l M d B K p' lv st h) : sEv l M d B K pc lv (.int (nI a) :: st) h := by
  have hi : (0 < nI a) ↔ (0 < a) := by rw [sI_zero]; exact nI_ltI (by decide) ha
  exact e_if_gt hd hq hp (fun hc => kt (hi.mp hc)) (fun hc => kf (fun z => hc (hi.mpr z)))
theorem e_icmp_le {x y : Int32} {off : Int} {q : Nat} (hd : decode M.2.1 pc = .ok (.if_icmp .le off, 3)) (hq : (pc : Int) + off = (q : Int)) (hp : pc + 3 = p') (kt : x ≤ y → sEv l M d B K q lv st h) (kf : ¬ (x ≤ y) → sEv l M d B K p' lv st h) : sEv l M d B K pc lv (.int y :: .int x :: st) h := by
  subst hp
  intro G p e R s m args below meth c H locs ls C hR hS hL
  exact lv_icmp_le C.1 C.2.1 hd hq (fun hc => kt hc G p e R s m args below meth c H locs ls C hR hS hL) (fun hc => kf hc G p e R s m args below meth c H locs ls C hR hS hL)
theorem e_icmpN_le {a b : Nat} {off : Int} {q : Nat} (hd : decode M.2.1 pc = .ok (.if_icmp .le off, 3)) (ha : a < 2 ^ 31) (hb : b < 2 ^ 31) (hq : (pc : Int) + off = (q : Int)) (hp : pc + 3 = p') (kt : a ≤ b → sEv l M d B K q lv st h) (kf : ¬ (a ≤ b) → sEv l M d B K p' lv st h) : sEv l M d B K pc lv (.int (nI b) :: .int (nI a) :: st) h := by
  have hi : (nI a ≤ nI b) ↔ (a ≤ b) := nI_leI ha hb
  exact e_icmp_le hd hq hp (fun hc => kt (hi.mp hc)) (fun hc => kf (fun z => hc (hi.mpr z)))
theorem e_if_le {x : Int32} {off : Int} {q : Nat} (hd : decode M.2.1 pc = .ok (.ifCond .le off, 3)) (hq : (pc : Int) + off = (q : Int)) (hp : pc + 3 = p') (kt : x ≤ 0 → sEv l M d B K q lv st h) (kf : ¬ (x ≤ 0) → sEv l M d B K p' lv st h) : sEv l M d B K pc lv (.int x :: st) h := by
  subst hp
  intro G p e R s m args below meth c H locs ls C hR hS hL
  exact lv_if_le C.1 C.2.1 hd hq (fun hc => kt hc G p e R s m args below meth c H locs ls C hR hS hL) (fun hc => kf hc G p e R s m args below meth c H locs ls C hR hS hL)
theorem e_ifN_le {a : Nat} {off : Int} {q : Nat} (hd : decode M.2.1 pc = .ok (.ifCond .le off, 3)) (ha : a < 2 ^ 31) (hq : (pc : Int) + off = (q : Int)) (hp : pc + 3 = p') (kt : a ≤ 0 → sEv l M d B K q lv st h) (kf : ¬ (a ≤ 0) → sEv l M d B K p' lv st h) : sEv l M d B K pc lv (.int (nI a) :: st) h := by
  have hi : (nI a ≤ 0) ↔ (a ≤ 0) := by rw [sI_zero]; exact nI_leI ha (by decide)
  exact e_if_le hd hq hp (fun hc => kt (hi.mp hc)) (fun hc => kf (fun z => hc (hi.mpr z)))
theorem e_ifB_eq {b : Bool} {off : Int} {q : Nat} (hd : decode M.2.1 pc = .ok (.ifCond .eq off, 3)) (hq : (pc : Int) + off = (q : Int)) (hp : pc + 3 = p') (kt : b = false → sEv l M d B K q lv st h) (kf : b = true → sEv l M d B K p' lv st h) : sEv l M d B K pc lv (.int (sBo b) :: st) h :=
  e_if_eq hd hq hp (fun hc => kt (sBo_0.mp hc)) (fun hc => kf (by cases b with | true => rfl | false => exact absurd rfl hc))
theorem e_ifB_ne {b : Bool} {off : Int} {q : Nat} (hd : decode M.2.1 pc = .ok (.ifCond .ne off, 3)) (hq : (pc : Int) + off = (q : Int)) (hp : pc + 3 = p') (kt : b = true → sEv l M d B K q lv st h) (kf : b = false → sEv l M d B K p' lv st h) : sEv l M d B K pc lv (.int (sBo b) :: st) h :=
  e_if_ne hd hq hp (fun hc => kt (by cases b with | true => rfl | false => exact absurd rfl hc)) (fun hc => kf (sBo_0.mp hc))
end RULES
end
section
/-! ===== rules of the heap, of calls and of ends ===== -/
/-- a field by its place in the constant pool of 'own': field k of class ci -/
def sFL (own : String) (idx ci k : Nat) (fin : Bool) (ty : FieldType) : Prop := ∃ (C : String) (T : u_T) (N : Nat) (ty0 : Nat → FieldType), vwCl[ci]? = some (C, T, N) ∧ k < N ∧ Cond.fieldLink own idx (T k).1 (T k).2.1 (T k).2.2.1 ∈ lw_good ∧ (∀ w ∈ u_ws C T N, w ∈ lw_good) ∧ ty0 k = ty ∧ (T k).2.2.2 = fin ∧ (T k).1 = own ∧
  (∀ j, j < N → parseFieldDescriptor (T j).2.2.1 = some (ty0 j)) ∧ (∀ a, a < N → ∀ b, b < N → a ≠ b → (T a).2.1 ≠ (T b).2.1)
theorem vwCl_99 : vwCl[99]? = none := rfl
theorem sJ_obj {ci : Nat} {fs : List Value} {q : vw_C} (hq : vwCl[ci]? = some q) : (.inr (.inr (ci, fs)) : sC) ≠ sJ := by
  intro e
  have : ci = 99 := (Prod.mk.inj (Sum.inr.inj (Sum.inr.inj e))).1
  rw [this, vwCl_99] at hq
  cases hq
theorem sJ_arr {x : Nat × Nat × (Nat → Int32)} : (.inl x : sC) ≠ sJ := fun e => by cases e
theorem sJ_arq {x : Nat × Nat × (Nat → Option Nat)} : (.inr (.inl x) : sC) ≠ sJ := fun e => by cases (Sum.inr.inj e)
section HEAP
variable {l : Launch} {M : sM} {d : Nat} {B : sB} {K : sK} {pc p' : Nat} {lv : List (Option Value)} {st : List Value} {h : sH}
theorem e_getfield {idx ci k a : Nat} {fin : Bool} {ty : FieldType} {fs : List Value} {v : Value} (hd : decode M.2.1 pc = .ok (.getfield idx, 3)) (F : sFL M.1.cls idx ci k fin ty) (hc : h.2 a = .inr (.inr (ci, fs))) (hv : fs[k]? = some v) (hp : pc + 3 = p') (kk : sEv l M d B K p' lv (v :: st) h) : sEv l M d B K pc lv (.ref a :: st) h := by
  subst hp
  intro G p e R s m args below meth c H locs ls C hR hS hL
  have k2 := kk G p e R s m args below meth c H locs ls C hR hS hL
  obtain ⟨hx, hb, hml, hrt, hlk, hown, hin, hts, hB, hrm, hG, hK⟩ := C
  obtain ⟨Cn, T, N, ty0, h1, h2, h3, h4, h5, h6, h7, h8, h9⟩ := F
  have ha : a < h.1 := sR_lt hR (by rw [hc]; exact sJ_obj h1)
  exact va_get (D := G.2.1) (Ts := lw_good) hx hb hts h4 hown hB.1 hR.1 a (by rw [sW_get ha, hc]; rfl) h1 k h2 (hts _ h3) (fun _ h => h) (by simp [hv]) hd k2
theorem e_putfield {idx ci k a : Nat} {fin : Bool} {ty : FieldType} {fs fs' : List Value} {v : Value} (hd : decode M.2.1 pc = .ok (.putfield idx, 3)) (F : sFL M.1.cls idx ci k fin ty) (hfi : fin = false ∨ M.1.name = "<init>") (hc : h.2 a = .inr (.inr (ci, fs))) (hty : ∀ b, narrow ty (sTr b v) = sTr b v ∧ fits ty (sTr b v) = true) (hl : k < fs.length) (hfs : fs.set k v = fs') (hp : pc + 3 = p')
    (kk : sEv l M d B K p' lv st (sUp h a (.inr (.inr (ci, fs'))))) : sEv l M d B K pc lv (v :: .ref a :: st) h := by
  subst hp
  subst hfs
  intro G p e R s m args below meth c H locs ls C hR hS hL
  have C0 := C
  obtain ⟨hx, hb, hml, hrt, hlk, hown, hin, hts, hB, hrm, hG, hK⟩ := C
  obtain ⟨Cn, T, N, ty0, h1, h2, h3, h4, h5, h6, h7, h8, h9⟩ := F
  have ha : a < h.1 := sR_lt hR (by rw [hc]; exact sJ_obj h1)
  have he : (sW G h)[a]? = some (G.1 + a, .inr (ci, fs.map (sTr G.1))) := by rw [sW_get ha, hc]; rfl
  have hap := va_apart (own := M.1.cls) hts h4 ty0 h8 h9 hB.1 h1
  obtain ⟨r, g1, cell, q1, q2, q3, q4⟩ := hR.1 a _ he
  have hr : r = (Cn, T, N) := Option.some.inj (g1.symm.trans h1)
  subst hr
  obtain ⟨hSl, hfc, kC, hkC, hkind⟩ := hB.1.1 ci _ h1
  obtain ⟨cf, kf, fi, f, hi, hsl⟩ := hSl k h2
  have hlay := u_lays hts h4 h2
  have hst := (u_facts hfc hkC hlay hi).1
  obtain ⟨hn, hfit⟩ := hty G.1
  have hd2 : parseFieldDescriptor (T k).2.2.1 = some ty := by rw [h8 k h2, h5]
  have go : ∀ H' : Heap, H'[G.1 + a]? = some (cell.setSlot f.slot (sTr G.1 v)) → H'.size = H.size → (∀ q, q ≠ G.1 + a → H'[q]? = H[q]?) → W p l e R s m args below meth c H' (locs ++ [⟨G.1 + a, f.slot⟩]) B.1 B.2.1 (K.2 G s args below) (F0 m (pc + 3) ls (st.map (sTr G.1))) := by
    intro H' e1 e2 e3
    rw [hsl] at e1 ⊢
    refine kk G p e R s m args below meth c H' _ ls C0 (sR_upd hR ha ?_ e2 e3) (hS.put e2 e3 (Nat.le_add_right _ _)) hL
    have e4 : (sE G (.inr (.inr (ci, fs.set k v)))) = .inr (ci, (fs.map (sTr G.1)).set k (sTr G.1 v)) := by
      show (Sum.inr (ci, (fs.set k v).map (sTr G.1)) : va_E) = _
      rw [List.map_set]
    rw [e4]
    exact ⟨_, h1, t_OB.to (V := updV (vp_V (fs.map (sTr G.1))) k (sTr G.1 v)) ⟨_, e1, q2, q3, t_set q4 hap h2 _⟩ (fun j _ => vp_updV_set (by simpa using hl) _ j)⟩
  have hlink : (Cond.fieldLink M.1.cls idx (T k).1 (T k).2.1 (T k).2.2.1).before args s = true := hts _ h3
  by_cases hf : (T k).2.2.2 = true
  · have hin2 : meth.name = "<init>" := by
      rcases hfi with z | z
      · rw [← h6, hf] at z; cases z
      · exact hin z
    have hlayF := hts _ (h4 _ (u_in_lay h2))
    unfold u_lay at hlayF
    rw [if_pos hf] at hlayF
    have hcf : m.cls = cf := by
      obtain ⟨_, _, c', _, _, _, -, -, hf', -, -, -, hown2, -⟩ := Cond.laysFinal_spec hlayF
      have e1 : c' = cf := by have := hi.symm.trans hf'; simp at this; exact this.1.symm
      rw [h7] at hown2
      rw [← e1]; exact Option.some.inj (hown.symm.trans hown2)
    have h6' := u_fits hfc hkC hkind (Or.inr hlayF) hi hd2 hn hfit
    exact W.putFinK hx hb hown hlink hi hst hcf hin2 (by rw [q2]; exact h6') q1 q3 (by rw [hsl]; exact k2_hasslot (q4 k h2)) rfl rfl hd go
  · have hlayN := hts _ (h4 _ (u_in_lay h2))
    unfold u_lay at hlayN
    rw [if_neg hf] at hlayN
    have h6' := u_store hfc hkC hkind hlayN hi hd2 hn hfit
    exact W.putK hx hb (f := f) ⟨hown, hlink, ⟨_, _, _, hi⟩, hst⟩ (by rw [q2]; exact h6') q1 q3 (by rw [hsl]; exact k2_hasslot (q4 k h2)) rfl rfl hd go
theorem sIn {i n : Nat} (hi : i < n) (hn : n < 2 ^ 31) : vp_in (nI i) n := vp_in_nI hi hn
theorem e_iaload {a i n : Nat} {f : Nat → Int32} {x : Int32} (hd : decode M.2.1 pc = .ok (.iaload, 1)) (hc : h.2 a = .inl (0, n, f)) (hi : i < n) (hn : n < 2 ^ 31) (hx : f i = x) (hp : pc + 1 = p') (kk : sEv l M d B K p' lv (.int x :: st) h) : sEv l M d B K pc lv (.int (nI i) :: .ref a :: st) h := by
  subst hp
  subst hx
  intro G p e R s m args below meth c H locs ls C hR hS hL
  have k2 := kk G p e R s m args below meth c H locs ls C hR hS hL
  have ha : a < h.1 := sR_lt hR (by rw [hc]; exact sJ_arr)
  have hcl : (nI i).toNatClampNeg = i := nI_clamp (by omega)
  refine va_iald C.1 C.2.1 C.2.2.2.2.2.2.2.2.1.1 hR.1 a 0 (f := f) (n := n) (cA := G.2.2 0) (by rw [sW_get ha, hc]; rfl) rfl (sIn hi hn) hd ?_
  rw [hcl]
  exact k2
theorem e_caload {a i n : Nat} {f : Nat → Int32} {x : Int32} (hd : decode M.2.1 pc = .ok (.caload, 1)) (hc : h.2 a = .inl (1, n, f)) (hi : i < n) (hn : n < 2 ^ 31) (hx : f i = x) (hp : pc + 1 = p') (kk : sEv l M d B K p' lv (.int x :: st) h) : sEv l M d B K pc lv (.int (nI i) :: .ref a :: st) h := by
  subst hp
  subst hx
  intro G p e R s m args below meth c H locs ls C hR hS hL
  have k2 := kk G p e R s m args below meth c H locs ls C hR hS hL
  have ha : a < h.1 := sR_lt hR (by rw [hc]; exact sJ_arr)
  have hcl : (nI i).toNatClampNeg = i := nI_clamp (by omega)
  refine va_cald C.1 C.2.1 C.2.2.2.2.2.2.2.2.1.1 hR.1 a 1 (f := f) (n := n) (cA := G.2.2 1) (by rw [sW_get ha, hc]; rfl) rfl (sIn hi hn) hd ?_
  rw [hcl]
  exact k2
theorem e_baload {a i n : Nat} {f : Nat → Int32} {x : Int32} (hd : decode M.2.1 pc = .ok (.baload, 1)) (hc : h.2 a = .inl (2, n, f)) (hi : i < n) (hn : n < 2 ^ 31) (hx : f i = x) (hp : pc + 1 = p') (kk : sEv l M d B K p' lv (.int x :: st) h) : sEv l M d B K pc lv (.int (nI i) :: .ref a :: st) h := by
  subst hp
  subst hx
  intro G p e R s m args below meth c H locs ls C hR hS hL
  have k2 := kk G p e R s m args below meth c H locs ls C hR hS hL
  have ha : a < h.1 := sR_lt hR (by rw [hc]; exact sJ_arr)
  have hcl : (nI i).toNatClampNeg = i := nI_clamp (by omega)
  refine va_zald C.1 C.2.1 C.2.2.2.2.2.2.2.2.1.1 hR.1 a 2 (f := f) (n := n) (cA := G.2.2 2) (by rw [sW_get ha, hc]; rfl) rfl (sIn hi hn) hd ?_
  rw [hcl]
  exact k2
theorem e_aaload {a i n t r : Nat} {f : Nat → Option Nat} (hd : decode M.2.1 pc = .ok (.aaload, 1)) (ht : t = 3 ∨ t = 4) (hc : h.2 a = .inr (.inl (t, n, f))) (hi : i < n) (hn : n < 2 ^ 31) (hx : f i = some r) (hp : pc + 1 = p') (kk : sEv l M d B K p' lv (.ref r :: st) h) : sEv l M d B K pc lv (.int (nI i) :: .ref a :: st) h := by
  subst hp
  intro G p e R s m args below meth c H locs ls C hR hS hL
  have k2 := kk G p e R s m args below meth c H locs ls C hR hS hL
  have ha : a < h.1 := sR_lt hR (by rw [hc]; exact sJ_arq)
  have hcl : (nI i).toNatClampNeg = i := nI_clamp (by omega)
  have he : (sW G h)[a]? = some (G.1 + a, .inl (G.2.2 t, n, .inr (.inr (.inr (.inr (fun j => (f j).map (fun a => G.1 + a))))))) := by rw [sW_get ha, hc]; rfl
  rcases ht with rfl | rfl
  · refine va_aldq C.1 C.2.1 C.2.2.2.2.2.2.2.2.1.1 hR.1 a 3 (C := "OneRankGrid$Grid") he rfl (sIn hi hn) hd ?_
    rw [hcl, hx]
    exact k2
  · refine va_aldq C.1 C.2.1 C.2.2.2.2.2.2.2.2.1.1 hR.1 a 4 (C := "OneRankGrid$Slot") he rfl (sIn hi hn) hd ?_
    rw [hcl, hx]
    exact k2
theorem e_alen {a n t : Nat} {f : Nat → Int32} (hd : decode M.2.1 pc = .ok (.arraylength, 1)) (hc : h.2 a = .inl (t, n, f)) (ht : t < 5) (hp : pc + 1 = p') (kk : sEv l M d B K p' lv (.int (nI n) :: st) h) : sEv l M d B K pc lv (.ref a :: st) h := by
  subst hp
  intro G p e R s m args below meth c H locs ls C hR hS hL
  have k2 := kk G p e R s m args below meth c H locs ls C hR hS hL
  have ha : a < h.1 := sR_lt hR (by rw [hc]; exact sJ_arr)
  exact va_alen C.1 C.2.1 C.2.2.2.2.2.2.2.2.1.1 hR.1 a t (x := (n, .inl f)) (cA := G.2.2 t) (by rw [sW_get ha, hc]; rfl) (sTys_get G ht) rfl hd k2
theorem e_alenq {a n t : Nat} {f : Nat → Option Nat} (hd : decode M.2.1 pc = .ok (.arraylength, 1)) (hc : h.2 a = .inr (.inl (t, n, f))) (ht : t < 5) (hp : pc + 1 = p') (kk : sEv l M d B K p' lv (.int (nI n) :: st) h) : sEv l M d B K pc lv (.ref a :: st) h := by
  subst hp
  intro G p e R s m args below meth c H locs ls C hR hS hL
  have k2 := kk G p e R s m args below meth c H locs ls C hR hS hL
  have ha : a < h.1 := sR_lt hR (by rw [hc]; exact sJ_arq)
  exact va_alen C.1 C.2.1 C.2.2.2.2.2.2.2.2.1.1 hR.1 a t (x := (n, .inr (.inr (.inr (.inr (fun j => (f j).map (fun a => G.1 + a))))))) (cA := G.2.2 t) (by rw [sW_get ha, hc]; rfl) (sTys_get G ht) rfl hd k2
theorem sUpd_arr {cA : ClassId} {n i : Nat} {f : Nat → Int32} {x : Int32} : arrV cA n (updV (fun j => .int (f j)) i (.int x)) = vp_cell cA (n, .inl (upd f i x)) := by
  rw [vp_cell_i]
  congr 1
  funext q
  by_cases hq : q = i
  · subst hq
    simp [updV, upd]
  · simp [updV, upd, hq]
theorem e_iastore {a i n : Nat} {f : Nat → Int32} {x : Int32} (hd : decode M.2.1 pc = .ok (.iastore, 1)) (hc : h.2 a = .inl (0, n, f)) (hi : i < n) (hn : n < 2 ^ 31) (hp : pc + 1 = p') (kk : sEv l M d B K p' lv st (sUp h a (.inl (0, n, upd f i x)))) : sEv l M d B K pc lv (.int x :: .int (nI i) :: .ref a :: st) h := by
  subst hp
  intro G p e R s m args below meth c H locs ls C hR hS hL
  have ha : a < h.1 := sR_lt hR (by rw [hc]; exact sJ_arr)
  have hcl : (nI i).toNatClampNeg = i := nI_clamp (by omega)
  have he : (sW G h)[a]? = some (G.1 + a, .inl (G.2.2 0, n, .inl f)) := by rw [sW_get ha, hc]; rfl
  refine W.iast C.1 C.2.1 (hR.1 a _ he) ((C.2.2.2.2.2.2.2.2.1.1.2 0 _ rfl).1 n (fun j => .int (f j))) (fun q => by cases q) (by show ¬ (nI i < 0 ∨ (arrV _ _ _).slots.size ≤ _); rw [arrV_size]; exact sIn hi hn) rfl rfl hd fun H1 e1 z oq => ?_
  refine kk G p e R s m args below meth c H1 _ ls C (sR_upd hR ha ?_ z oq) (hS.put z oq (Nat.le_add_right _ _)) hL
  show H1[G.1 + a]? = some (vp_cell (G.2.2 0) (n, .inl (upd f i x)))
  rw [e1, ← sUpd_arr, hcl]
  exact congrArg some (arrV_store _ _ _ _ _)
theorem e_castore {a i n : Nat} {f : Nat → Int32} {x : Int32} (hd : decode M.2.1 pc = .ok (.castore, 1)) (hc : h.2 a = .inl (1, n, f)) (hi : i < n) (hn : n < 2 ^ 31) (hx : narrow .char (.int x) = .int x) (hp : pc + 1 = p') (kk : sEv l M d B K p' lv st (sUp h a (.inl (1, n, upd f i x)))) : sEv l M d B K pc lv (.int x :: .int (nI i) :: .ref a :: st) h := by
  subst hp
  intro G p e R s m args below meth c H locs ls C hR hS hL
  have ha : a < h.1 := sR_lt hR (by rw [hc]; exact sJ_arr)
  have hcl : (nI i).toNatClampNeg = i := nI_clamp (by omega)
  have he : (sW G h)[a]? = some (G.1 + a, .inl (G.2.2 1, n, .inl f)) := by rw [sW_get ha, hc]; rfl
  refine W.cast C.1 C.2.1 (hR.1 a _ he) ((C.2.2.2.2.2.2.2.2.1.1.2 1 _ rfl).1 n (fun j => .int (f j))) (fun q => by cases q) (by show ¬ (nI i < 0 ∨ (arrV _ _ _).slots.size ≤ _); rw [arrV_size]; exact sIn hi hn) rfl rfl hd fun H1 e1 z oq => ?_
  refine kk G p e R s m args below meth c H1 _ ls C (sR_upd hR ha ?_ z oq) (hS.put z oq (Nat.le_add_right _ _)) hL
  show H1[G.1 + a]? = some (vp_cell (G.2.2 1) (n, .inl (upd f i x)))
  rw [hx] at e1
  rw [e1, ← sUpd_arr, hcl]
  exact congrArg some (arrV_store _ _ _ _ _)
theorem e_bastore {a i n : Nat} {f : Nat → Int32} {x : Int32} (hd : decode M.2.1 pc = .ok (.bastore, 1)) (hc : h.2 a = .inl (2, n, f)) (hi : i < n) (hn : n < 2 ^ 31) (hx : narrow .boolean (.int x) = .int x) (hp : pc + 1 = p') (kk : sEv l M d B K p' lv st (sUp h a (.inl (2, n, upd f i x)))) : sEv l M d B K pc lv (.int x :: .int (nI i) :: .ref a :: st) h := by
  subst hp
  intro G p e R s m args below meth c H locs ls C hR hS hL
  have ha : a < h.1 := sR_lt hR (by rw [hc]; exact sJ_arr)
  have hcl : (nI i).toNatClampNeg = i := nI_clamp (by omega)
  have he : (sW G h)[a]? = some (G.1 + a, .inl (G.2.2 2, n, .inl f)) := by rw [sW_get ha, hc]; rfl
  refine W.zast C.1 C.2.1 (hR.1 a _ he) ((C.2.2.2.2.2.2.2.2.1.1.2 2 _ rfl).1 n (fun j => .int (f j))) (fun q => by cases q) (by show ¬ (nI i < 0 ∨ (arrV _ _ _).slots.size ≤ _); rw [arrV_size]; exact sIn hi hn) rfl rfl hd fun H1 e1 z oq => ?_
  refine kk G p e R s m args below meth c H1 _ ls C (sR_upd hR ha ?_ z oq) (hS.put z oq (Nat.le_add_right _ _)) hL
  show H1[G.1 + a]? = some (vp_cell (G.2.2 2) (n, .inl (upd f i x)))
  rw [hx] at e1
  rw [e1, ← sUpd_arr, hcl]
  exact congrArg some (arrV_store _ _ _ _ _)
theorem e_aastore {a i n t r ci : Nat} {f : Nat → Option Nat} {fs : List Value} {Cn : String} {T : u_T} {N : Nat} (hd : decode M.2.1 pc = .ok (.aastore, 1)) (ht : t < 5) (hty : sTyOf t = .object Cn) (hc : h.2 a = .inr (.inl (t, n, f))) (hr : h.2 r = .inr (.inr (ci, fs))) (hcl : vwCl[ci]? = some (Cn, T, N)) (hi : i < n) (hn : n < 2 ^ 31) (hp : pc + 1 = p') (kk : sEv l M d B K p' lv st (sUp h a (.inr (.inl (t, n, va_up f i (some r)))))) : sEv l M d B K pc lv (.ref r :: .int (nI i) :: .ref a :: st) h := by
  subst hp
  intro G p e R s m args below meth c H locs ls C hR hS hL
  have ha : a < h.1 := sR_lt hR (by rw [hc]; exact sJ_arq)
  have hr1 : r < h.1 := sR_lt hR (by rw [hr]; exact sJ_obj hcl)
  have hci : (nI i).toNatClampNeg = i := nI_clamp (by omega)
  have he : (sW G h)[a]? = some (G.1 + a, .inl (G.2.2 t, n, .inr (.inr (.inr (.inr (fun j => (f j).map (fun a => G.1 + a))))))) := by rw [sW_get ha, hc]; rfl
  have hv : (sW G h)[r]? = some (G.1 + r, .inr (ci, fs.map (sTr G.1))) := by rw [sW_get hr1, hr]; rfl
  have hB := C.2.2.2.2.2.2.2.2.1.1
  have htt : (sTys G)[t]? = some (G.2.2 t, .object Cn) := by rw [sTys_get G ht, hty]
  have hlt : i < n := hi
  obtain ⟨r', hr', cellV, g1, g2, g3, -⟩ := hR.1 r _ hv
  have hcls := (hB.1 ci _ hcl).2
  obtain ⟨kA, comp, k1, k2, k3, -⟩ := (hB.2 t _ htt).2
  have hcomp : comp = G.2.1.1 ci := Option.some.inj (k3.symm.trans hcls.1)
  subst hcomp
  obtain ⟨kC, hkC, -⟩ := hcls.2
  refine W.aast C.1 C.2.1 (hR.1 a _ he) (fun q h => by cases h) (fun h => by cases h) k1 k2 rfl hkC ⟨nI_pos (by omega), by show _ < (arrV _ _ _).slots.size; rw [arrV_size, hci]; exact hlt⟩ g1 (fun q h => by rw [g3] at h; cases h) (by rw [g2]; exact hkC) (by rw [g2]; exact va_assign hcls) rfl rfl hd fun H1 e1 z oq => ?_
  refine kk G p e R s m args below meth c H1 _ ls C (sR_upd hR ha ?_ z oq) (hS.put z oq (Nat.le_add_right _ _)) hL
  show H1[G.1 + a]? = some (vp_cell (G.2.2 t) (n, .inr (.inr (.inr (.inr (fun j => (va_up f i (some r) j).map (fun a => G.1 + a)))))))
  rw [e1, vp_cell_q, vp_cell_q, arrV_store, hci]
  congr 2
  funext q
  by_cases hq : q = i
  · subst hq
    simp [updV, va_up, va_rf]
  · simp [updV, va_up, hq]
end HEAP
end
