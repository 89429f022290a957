section
-- ===== PART A: goes FIRST, ahead of the names: the tables' words, and 'selects' of the private methods out of them =====
/-- a private method of a class that the tables say can be made, by its rows of tables_1 -/
def lw_okq (q : MethodName × Nat) : Prop := (q.1.cls ≠ "java/lang/invoke/MethodHandle" ∧ q.1.cls ≠ "java/lang/invoke/VarHandle") ∧ Cond.instantiable q.1.cls q.2 ∈ tables_1 ∧ Cond.privateMethod q.1 ∈ tables_1 ∧ Cond.instanceMethod q.1 ∈ tables_1
theorem lw_p0 : lw_okq (⟨"IndexBureau", "roundedLevel", "()J"⟩, 14) := ⟨⟨by decide +kernel, by decide +kernel⟩, List.mem_of_getElem? (i := 20) (by decide +kernel), List.mem_of_getElem? (i := 290) (by decide +kernel), List.mem_of_getElem? (i := 291) (by decide +kernel)⟩
theorem lw_p1 : lw_okq (⟨"IndexBureau", "exactLevel", "()V"⟩, 14) := ⟨⟨by decide +kernel, by decide +kernel⟩, List.mem_of_getElem? (i := 20) (by decide +kernel), List.mem_of_getElem? (i := 294) (by decide +kernel), List.mem_of_getElem? (i := 295) (by decide +kernel)⟩
theorem lw_p2 : lw_okq (⟨"IndexBureau$Whole", "clear", "()V"⟩, 2) := ⟨⟨by decide +kernel, by decide +kernel⟩, List.mem_of_getElem? (i := 115) (by decide +kernel), List.mem_of_getElem? (i := 310) (by decide +kernel), List.mem_of_getElem? (i := 311) (by decide +kernel)⟩
theorem lw_p3 : lw_okq (⟨"IndexBureau$Desk", "addTo", "(LIndexBureau$Fraction;JJJ)V"⟩, 9) := ⟨⟨by decide +kernel, by decide +kernel⟩, List.mem_of_getElem? (i := 109) (by decide +kernel), List.mem_of_getElem? (i := 327) (by decide +kernel), List.mem_of_getElem? (i := 328) (by decide +kernel)⟩
theorem lw_p4 : lw_okq (⟨"IndexBureau$Whole", "digitAt", "(I)I"⟩, 2) := ⟨⟨by decide +kernel, by decide +kernel⟩, List.mem_of_getElem? (i := 115) (by decide +kernel), List.mem_of_getElem? (i := 404) (by decide +kernel), List.mem_of_getElem? (i := 405) (by decide +kernel)⟩
theorem lw_p5 : lw_okq (⟨"IndexBureau$Text", "writeWhole", "(LIndexBureau$Whole;)V"⟩, 3) := ⟨⟨by decide +kernel, by decide +kernel⟩, List.mem_of_getElem? (i := 161) (by decide +kernel), List.mem_of_getElem? (i := 468) (by decide +kernel), List.mem_of_getElem? (i := 469) (by decide +kernel)⟩
theorem lw_p6 : lw_okq (⟨"IndexBureau$Text", "writeBackwards", "(IZ)V"⟩, 3) := ⟨⟨by decide +kernel, by decide +kernel⟩, List.mem_of_getElem? (i := 161) (by decide +kernel), List.mem_of_getElem? (i := 476) (by decide +kernel), List.mem_of_getElem? (i := 477) (by decide +kernel)⟩
theorem lw_p7 : lw_okq (⟨"IndexBureau$Text", "append", "(C)V"⟩, 3) := ⟨⟨by decide +kernel, by decide +kernel⟩, List.mem_of_getElem? (i := 161) (by decide +kernel), List.mem_of_getElem? (i := 480) (by decide +kernel), List.mem_of_getElem? (i := 481) (by decide +kernel)⟩
theorem lw_p8 : lw_okq (⟨"IndexBureau$Text", "turnRound", "(I)V"⟩, 3) := ⟨⟨by decide +kernel, by decide +kernel⟩, List.mem_of_getElem? (i := 161) (by decide +kernel), List.mem_of_getElem? (i := 484) (by decide +kernel), List.mem_of_getElem? (i := 485) (by decide +kernel)⟩
theorem lw_p9 : lw_okq (⟨"java/lang/Throwable", "fillInStackTrace", "(I)Ljava/lang/Throwable;"⟩, 6) := ⟨⟨by decide +kernel, by decide +kernel⟩, List.mem_of_getElem? (i := 556) (by decide +kernel), List.mem_of_getElem? (i := 554) (by decide +kernel), List.mem_of_getElem? (i := 555) (by decide +kernel)⟩
theorem lw_p10 : lw_okq (⟨"IndexBureau$Agenda", "isBefore", "(II)Z"⟩, 9) := ⟨⟨by decide +kernel, by decide +kernel⟩, List.mem_of_getElem? (i := 67) (by decide +kernel), List.mem_of_getElem? (i := 648) (by decide +kernel), List.mem_of_getElem? (i := 649) (by decide +kernel)⟩
theorem lw_p11 : lw_okq (⟨"IndexBureau", "perform", "(I)I"⟩, 14) := ⟨⟨by decide +kernel, by decide +kernel⟩, List.mem_of_getElem? (i := 20) (by decide +kernel), List.mem_of_getElem? (i := 652) (by decide +kernel), List.mem_of_getElem? (i := 653) (by decide +kernel)⟩
theorem lw_p12 : lw_okq (⟨"IndexBureau$Shares", "split", "(III)I"⟩, 4) := ⟨⟨by decide +kernel, by decide +kernel⟩, List.mem_of_getElem? (i := 28) (by decide +kernel), List.mem_of_getElem? (i := 665) (by decide +kernel), List.mem_of_getElem? (i := 666) (by decide +kernel)⟩
theorem lw_p13 : lw_okq (⟨"IndexBureau$Shares", "exchange", "(IJIJI)I"⟩, 4) := ⟨⟨by decide +kernel, by decide +kernel⟩, List.mem_of_getElem? (i := 28) (by decide +kernel), List.mem_of_getElem? (i := 672) (by decide +kernel), List.mem_of_getElem? (i := 673) (by decide +kernel)⟩
theorem lw_p14 : lw_okq (⟨"IndexBureau$Shares", "offerRights", "(IIII)I"⟩, 4) := ⟨⟨by decide +kernel, by decide +kernel⟩, List.mem_of_getElem? (i := 28) (by decide +kernel), List.mem_of_getElem? (i := 678) (by decide +kernel), List.mem_of_getElem? (i := 679) (by decide +kernel)⟩
theorem lw_p15 : lw_okq (⟨"IndexBureau$Shares", "payDividend", "(II)I"⟩, 4) := ⟨⟨by decide +kernel, by decide +kernel⟩, List.mem_of_getElem? (i := 28) (by decide +kernel), List.mem_of_getElem? (i := 682) (by decide +kernel), List.mem_of_getElem? (i := 683) (by decide +kernel)⟩
def lw_privs_1 : List (MethodName × Nat) := [(⟨"IndexBureau", "roundedLevel", "()J"⟩, 14), (⟨"IndexBureau", "exactLevel", "()V"⟩, 14), (⟨"IndexBureau$Whole", "clear", "()V"⟩, 2), (⟨"IndexBureau$Desk", "addTo", "(LIndexBureau$Fraction;JJJ)V"⟩, 9), (⟨"IndexBureau$Whole", "digitAt", "(I)I"⟩, 2), (⟨"IndexBureau$Text", "writeWhole", "(LIndexBureau$Whole;)V"⟩, 3), (⟨"IndexBureau$Text", "writeBackwards", "(IZ)V"⟩, 3), (⟨"IndexBureau$Text", "append", "(C)V"⟩, 3), (⟨"IndexBureau$Text", "turnRound", "(I)V"⟩, 3), (⟨"java/lang/Throwable", "fillInStackTrace", "(I)Ljava/lang/Throwable;"⟩, 6), (⟨"IndexBureau$Agenda", "isBefore", "(II)Z"⟩, 9), (⟨"IndexBureau", "perform", "(I)I"⟩, 14), (⟨"IndexBureau$Shares", "split", "(III)I"⟩, 4), (⟨"IndexBureau$Shares", "exchange", "(IJIJI)I"⟩, 4), (⟨"IndexBureau$Shares", "offerRights", "(IIII)I"⟩, 4), (⟨"IndexBureau$Shares", "payDividend", "(II)I"⟩, 4)]
theorem lw_r1 : ∀ q ∈ lw_privs_1, lw_okq q := List.forall_mem_cons.mpr ⟨lw_p0, List.forall_mem_cons.mpr ⟨lw_p1, List.forall_mem_cons.mpr ⟨lw_p2, List.forall_mem_cons.mpr ⟨lw_p3, List.forall_mem_cons.mpr ⟨lw_p4, List.forall_mem_cons.mpr ⟨lw_p5, List.forall_mem_cons.mpr ⟨lw_p6, List.forall_mem_cons.mpr ⟨lw_p7, List.forall_mem_cons.mpr ⟨lw_p8, List.forall_mem_cons.mpr ⟨lw_p9, List.forall_mem_cons.mpr ⟨lw_p10, List.forall_mem_cons.mpr ⟨lw_p11, List.forall_mem_cons.mpr ⟨lw_p12, List.forall_mem_cons.mpr ⟨lw_p13, List.forall_mem_cons.mpr ⟨lw_p14, List.forall_mem_cons.mpr ⟨lw_p15, fun _ h => absurd h List.not_mem_nil⟩⟩⟩⟩⟩⟩⟩⟩⟩⟩⟩⟩⟩⟩⟩⟩
theorem lw_p16 : lw_okq (⟨"IndexBureau$Shares", "leave", "(I)I"⟩, 4) := ⟨⟨by decide +kernel, by decide +kernel⟩, List.mem_of_getElem? (i := 28) (by decide +kernel), List.mem_of_getElem? (i := 686) (by decide +kernel), List.mem_of_getElem? (i := 687) (by decide +kernel)⟩
theorem lw_p17 : lw_okq (⟨"IndexBureau$Shares", "join", "(I)I"⟩, 4) := ⟨⟨by decide +kernel, by decide +kernel⟩, List.mem_of_getElem? (i := 28) (by decide +kernel), List.mem_of_getElem? (i := 697) (by decide +kernel), List.mem_of_getElem? (i := 698) (by decide +kernel)⟩
theorem lw_p18 : lw_okq (⟨"IndexBureau$Shares", "replace", "(III)I"⟩, 4) := ⟨⟨by decide +kernel, by decide +kernel⟩, List.mem_of_getElem? (i := 28) (by decide +kernel), List.mem_of_getElem? (i := 701) (by decide +kernel), List.mem_of_getElem? (i := 702) (by decide +kernel)⟩
theorem lw_p19 : lw_okq (⟨"IndexBureau$Shares", "cap", "(I)I"⟩, 4) := ⟨⟨by decide +kernel, by decide +kernel⟩, List.mem_of_getElem? (i := 28) (by decide +kernel), List.mem_of_getElem? (i := 705) (by decide +kernel), List.mem_of_getElem? (i := 706) (by decide +kernel)⟩
theorem lw_p20 : lw_okq (⟨"IndexBureau$Shares", "findLarge", "(I)I"⟩, 4) := ⟨⟨by decide +kernel, by decide +kernel⟩, List.mem_of_getElem? (i := 28) (by decide +kernel), List.mem_of_getElem? (i := 709) (by decide +kernel), List.mem_of_getElem? (i := 710) (by decide +kernel)⟩
theorem lw_p21 : lw_okq (⟨"IndexBureau$Shares", "plainWorthOf", "(I)J"⟩, 4) := ⟨⟨by decide +kernel, by decide +kernel⟩, List.mem_of_getElem? (i := 28) (by decide +kernel), List.mem_of_getElem? (i := 713) (by decide +kernel), List.mem_of_getElem? (i := 714) (by decide +kernel)⟩
theorem lw_p22 : lw_okq (⟨"IndexBureau$Shares", "putFactor", "(IJJ)V"⟩, 4) := ⟨⟨by decide +kernel, by decide +kernel⟩, List.mem_of_getElem? (i := 28) (by decide +kernel), List.mem_of_getElem? (i := 719) (by decide +kernel), List.mem_of_getElem? (i := 720) (by decide +kernel)⟩
theorem lw_p23 : lw_okq (⟨"IndexBureau", "findNextDivisor", "()V"⟩, 14) := ⟨⟨by decide +kernel, by decide +kernel⟩, List.mem_of_getElem? (i := 20) (by decide +kernel), List.mem_of_getElem? (i := 724) (by decide +kernel), List.mem_of_getElem? (i := 725) (by decide +kernel)⟩
theorem lw_p24 : lw_okq (⟨"IndexBureau", "isCapped", "(I)Z"⟩, 14) := ⟨⟨by decide +kernel, by decide +kernel⟩, List.mem_of_getElem? (i := 20) (by decide +kernel), List.mem_of_getElem? (i := 738) (by decide +kernel), List.mem_of_getElem? (i := 739) (by decide +kernel)⟩
theorem lw_p25 : lw_okq (⟨"IndexBureauModel", "set", "(IJ)V"⟩, 25) := ⟨⟨by decide +kernel, by decide +kernel⟩, List.mem_of_getElem? (i := 747) (by decide +kernel), List.mem_of_getElem? (i := 753) (by decide +kernel), List.mem_of_getElem? (i := 754) (by decide +kernel)⟩
theorem lw_p26 : lw_okq (⟨"IndexBureauModel", "isMember", "(I)Z"⟩, 25) := ⟨⟨by decide +kernel, by decide +kernel⟩, List.mem_of_getElem? (i := 747) (by decide +kernel), List.mem_of_getElem? (i := 849) (by decide +kernel), List.mem_of_getElem? (i := 850) (by decide +kernel)⟩
theorem lw_p27 : lw_okq (⟨"IndexBureauModel", "sum", "()V"⟩, 25) := ⟨⟨by decide +kernel, by decide +kernel⟩, List.mem_of_getElem? (i := 747) (by decide +kernel), List.mem_of_getElem? (i := 862) (by decide +kernel), List.mem_of_getElem? (i := 863) (by decide +kernel)⟩
theorem lw_p28 : lw_okq (⟨"IndexBureauModel", "plain", "(I)J"⟩, 25) := ⟨⟨by decide +kernel, by decide +kernel⟩, List.mem_of_getElem? (i := 747) (by decide +kernel), List.mem_of_getElem? (i := 866) (by decide +kernel), List.mem_of_getElem? (i := 867) (by decide +kernel)⟩
theorem lw_p29 : lw_okq (⟨"IndexBureauModel", "multiply", "(III)V"⟩, 25) := ⟨⟨by decide +kernel, by decide +kernel⟩, List.mem_of_getElem? (i := 747) (by decide +kernel), List.mem_of_getElem? (i := 870) (by decide +kernel), List.mem_of_getElem? (i := 871) (by decide +kernel)⟩
theorem lw_p30 : lw_okq (⟨"IndexBureauModel", "trim", "(I)V"⟩, 25) := ⟨⟨by decide +kernel, by decide +kernel⟩, List.mem_of_getElem? (i := 747) (by decide +kernel), List.mem_of_getElem? (i := 875) (by decide +kernel), List.mem_of_getElem? (i := 876) (by decide +kernel)⟩
theorem lw_p31 : lw_okq (⟨"IndexBureauModel", "add", "(II)V"⟩, 25) := ⟨⟨by decide +kernel, by decide +kernel⟩, List.mem_of_getElem? (i := 747) (by decide +kernel), List.mem_of_getElem? (i := 879) (by decide +kernel), List.mem_of_getElem? (i := 880) (by decide +kernel)⟩
def lw_privs_2 : List (MethodName × Nat) := [(⟨"IndexBureau$Shares", "leave", "(I)I"⟩, 4), (⟨"IndexBureau$Shares", "join", "(I)I"⟩, 4), (⟨"IndexBureau$Shares", "replace", "(III)I"⟩, 4), (⟨"IndexBureau$Shares", "cap", "(I)I"⟩, 4), (⟨"IndexBureau$Shares", "findLarge", "(I)I"⟩, 4), (⟨"IndexBureau$Shares", "plainWorthOf", "(I)J"⟩, 4), (⟨"IndexBureau$Shares", "putFactor", "(IJJ)V"⟩, 4), (⟨"IndexBureau", "findNextDivisor", "()V"⟩, 14), (⟨"IndexBureau", "isCapped", "(I)Z"⟩, 14), (⟨"IndexBureauModel", "set", "(IJ)V"⟩, 25), (⟨"IndexBureauModel", "isMember", "(I)Z"⟩, 25), (⟨"IndexBureauModel", "sum", "()V"⟩, 25), (⟨"IndexBureauModel", "plain", "(I)J"⟩, 25), (⟨"IndexBureauModel", "multiply", "(III)V"⟩, 25), (⟨"IndexBureauModel", "trim", "(I)V"⟩, 25), (⟨"IndexBureauModel", "add", "(II)V"⟩, 25)]
theorem lw_r2 : ∀ q ∈ lw_privs_2, lw_okq q := List.forall_mem_cons.mpr ⟨lw_p16, List.forall_mem_cons.mpr ⟨lw_p17, List.forall_mem_cons.mpr ⟨lw_p18, List.forall_mem_cons.mpr ⟨lw_p19, List.forall_mem_cons.mpr ⟨lw_p20, List.forall_mem_cons.mpr ⟨lw_p21, List.forall_mem_cons.mpr ⟨lw_p22, List.forall_mem_cons.mpr ⟨lw_p23, List.forall_mem_cons.mpr ⟨lw_p24, List.forall_mem_cons.mpr ⟨lw_p25, List.forall_mem_cons.mpr ⟨lw_p26, List.forall_mem_cons.mpr ⟨lw_p27, List.forall_mem_cons.mpr ⟨lw_p28, List.forall_mem_cons.mpr ⟨lw_p29, List.forall_mem_cons.mpr ⟨lw_p30, List.forall_mem_cons.mpr ⟨lw_p31, fun _ h => absurd h List.not_mem_nil⟩⟩⟩⟩⟩⟩⟩⟩⟩⟩⟩⟩⟩⟩⟩⟩
theorem lw_p32 : lw_okq (⟨"IndexBureauModel", "limb", "(II)I"⟩, 25) := ⟨⟨by decide +kernel, by decide +kernel⟩, List.mem_of_getElem? (i := 747) (by decide +kernel), List.mem_of_getElem? (i := 883) (by decide +kernel), List.mem_of_getElem? (i := 884) (by decide +kernel)⟩
theorem lw_p33 : lw_okq (⟨"IndexBureauModel", "copy", "(II)V"⟩, 25) := ⟨⟨by decide +kernel, by decide +kernel⟩, List.mem_of_getElem? (i := 747) (by decide +kernel), List.mem_of_getElem? (i := 888) (by decide +kernel), List.mem_of_getElem? (i := 889) (by decide +kernel)⟩
theorem lw_p34 : lw_okq (⟨"IndexBureauModel", "reduce", "(II)V"⟩, 25) := ⟨⟨by decide +kernel, by decide +kernel⟩, List.mem_of_getElem? (i := 747) (by decide +kernel), List.mem_of_getElem? (i := 892) (by decide +kernel), List.mem_of_getElem? (i := 893) (by decide +kernel)⟩
theorem lw_p35 : lw_okq (⟨"IndexBureauModel", "common", "(II)V"⟩, 25) := ⟨⟨by decide +kernel, by decide +kernel⟩, List.mem_of_getElem? (i := 747) (by decide +kernel), List.mem_of_getElem? (i := 896) (by decide +kernel), List.mem_of_getElem? (i := 897) (by decide +kernel)⟩
theorem lw_p36 : lw_okq (⟨"IndexBureauModel", "isEven", "(I)Z"⟩, 25) := ⟨⟨by decide +kernel, by decide +kernel⟩, List.mem_of_getElem? (i := 747) (by decide +kernel), List.mem_of_getElem? (i := 900) (by decide +kernel), List.mem_of_getElem? (i := 901) (by decide +kernel)⟩
theorem lw_p37 : lw_okq (⟨"IndexBureauModel", "half", "(I)V"⟩, 25) := ⟨⟨by decide +kernel, by decide +kernel⟩, List.mem_of_getElem? (i := 747) (by decide +kernel), List.mem_of_getElem? (i := 904) (by decide +kernel), List.mem_of_getElem? (i := 905) (by decide +kernel)⟩
theorem lw_p38 : lw_okq (⟨"IndexBureauModel", "compare", "(II)I"⟩, 25) := ⟨⟨by decide +kernel, by decide +kernel⟩, List.mem_of_getElem? (i := 747) (by decide +kernel), List.mem_of_getElem? (i := 908) (by decide +kernel), List.mem_of_getElem? (i := 909) (by decide +kernel)⟩
theorem lw_p39 : lw_okq (⟨"IndexBureauModel", "subtract", "(II)V"⟩, 25) := ⟨⟨by decide +kernel, by decide +kernel⟩, List.mem_of_getElem? (i := 747) (by decide +kernel), List.mem_of_getElem? (i := 912) (by decide +kernel), List.mem_of_getElem? (i := 913) (by decide +kernel)⟩
theorem lw_p40 : lw_okq (⟨"IndexBureauModel", "swap", "()V"⟩, 25) := ⟨⟨by decide +kernel, by decide +kernel⟩, List.mem_of_getElem? (i := 747) (by decide +kernel), List.mem_of_getElem? (i := 917) (by decide +kernel), List.mem_of_getElem? (i := 918) (by decide +kernel)⟩
theorem lw_p41 : lw_okq (⟨"IndexBureauModel", "twice", "(II)V"⟩, 25) := ⟨⟨by decide +kernel, by decide +kernel⟩, List.mem_of_getElem? (i := 747) (by decide +kernel), List.mem_of_getElem? (i := 921) (by decide +kernel), List.mem_of_getElem? (i := 922) (by decide +kernel)⟩
theorem lw_p42 : lw_okq (⟨"IndexBureauModel", "isOne", "(I)Z"⟩, 25) := ⟨⟨by decide +kernel, by decide +kernel⟩, List.mem_of_getElem? (i := 747) (by decide +kernel), List.mem_of_getElem? (i := 925) (by decide +kernel), List.mem_of_getElem? (i := 926) (by decide +kernel)⟩
theorem lw_p43 : lw_okq (⟨"IndexBureauModel", "quotient", "(IIII)V"⟩, 25) := ⟨⟨by decide +kernel, by decide +kernel⟩, List.mem_of_getElem? (i := 747) (by decide +kernel), List.mem_of_getElem? (i := 929) (by decide +kernel), List.mem_of_getElem? (i := 930) (by decide +kernel)⟩
theorem lw_p44 : lw_okq (⟨"IndexBureauModel", "bits", "(I)I"⟩, 25) := ⟨⟨by decide +kernel, by decide +kernel⟩, List.mem_of_getElem? (i := 747) (by decide +kernel), List.mem_of_getElem? (i := 933) (by decide +kernel), List.mem_of_getElem? (i := 934) (by decide +kernel)⟩
theorem lw_p45 : lw_okq (⟨"IndexBureauModel", "scale", "(II)V"⟩, 25) := ⟨⟨by decide +kernel, by decide +kernel⟩, List.mem_of_getElem? (i := 747) (by decide +kernel), List.mem_of_getElem? (i := 937) (by decide +kernel), List.mem_of_getElem? (i := 938) (by decide +kernel)⟩
theorem lw_p46 : lw_okq (⟨"IndexBureauModel", "perform", "(I)I"⟩, 25) := ⟨⟨by decide +kernel, by decide +kernel⟩, List.mem_of_getElem? (i := 747) (by decide +kernel), List.mem_of_getElem? (i := 953) (by decide +kernel), List.mem_of_getElem? (i := 954) (by decide +kernel)⟩
theorem lw_p47 : lw_okq (⟨"IndexBureauModel", "remember", "()V"⟩, 25) := ⟨⟨by decide +kernel, by decide +kernel⟩, List.mem_of_getElem? (i := 747) (by decide +kernel), List.mem_of_getElem? (i := 957) (by decide +kernel), List.mem_of_getElem? (i := 958) (by decide +kernel)⟩
def lw_privs_3 : List (MethodName × Nat) := [(⟨"IndexBureauModel", "limb", "(II)I"⟩, 25), (⟨"IndexBureauModel", "copy", "(II)V"⟩, 25), (⟨"IndexBureauModel", "reduce", "(II)V"⟩, 25), (⟨"IndexBureauModel", "common", "(II)V"⟩, 25), (⟨"IndexBureauModel", "isEven", "(I)Z"⟩, 25), (⟨"IndexBureauModel", "half", "(I)V"⟩, 25), (⟨"IndexBureauModel", "compare", "(II)I"⟩, 25), (⟨"IndexBureauModel", "subtract", "(II)V"⟩, 25), (⟨"IndexBureauModel", "swap", "()V"⟩, 25), (⟨"IndexBureauModel", "twice", "(II)V"⟩, 25), (⟨"IndexBureauModel", "isOne", "(I)Z"⟩, 25), (⟨"IndexBureauModel", "quotient", "(IIII)V"⟩, 25), (⟨"IndexBureauModel", "bits", "(I)I"⟩, 25), (⟨"IndexBureauModel", "scale", "(II)V"⟩, 25), (⟨"IndexBureauModel", "perform", "(I)I"⟩, 25), (⟨"IndexBureauModel", "remember", "()V"⟩, 25)]
theorem lw_r3 : ∀ q ∈ lw_privs_3, lw_okq q := List.forall_mem_cons.mpr ⟨lw_p32, List.forall_mem_cons.mpr ⟨lw_p33, List.forall_mem_cons.mpr ⟨lw_p34, List.forall_mem_cons.mpr ⟨lw_p35, List.forall_mem_cons.mpr ⟨lw_p36, List.forall_mem_cons.mpr ⟨lw_p37, List.forall_mem_cons.mpr ⟨lw_p38, List.forall_mem_cons.mpr ⟨lw_p39, List.forall_mem_cons.mpr ⟨lw_p40, List.forall_mem_cons.mpr ⟨lw_p41, List.forall_mem_cons.mpr ⟨lw_p42, List.forall_mem_cons.mpr ⟨lw_p43, List.forall_mem_cons.mpr ⟨lw_p44, List.forall_mem_cons.mpr ⟨lw_p45, List.forall_mem_cons.mpr ⟨lw_p46, List.forall_mem_cons.mpr ⟨lw_p47, fun _ h => absurd h List.not_mem_nil⟩⟩⟩⟩⟩⟩⟩⟩⟩⟩⟩⟩⟩⟩⟩⟩
theorem lw_p48 : lw_okq (⟨"IndexBureauModel", "change", "(IIIII)I"⟩, 25) := ⟨⟨by decide +kernel, by decide +kernel⟩, List.mem_of_getElem? (i := 747) (by decide +kernel), List.mem_of_getElem? (i := 961) (by decide +kernel), List.mem_of_getElem? (i := 962) (by decide +kernel)⟩
theorem lw_p49 : lw_okq (⟨"IndexBureauModel", "split", "(III)I"⟩, 25) := ⟨⟨by decide +kernel, by decide +kernel⟩, List.mem_of_getElem? (i := 747) (by decide +kernel), List.mem_of_getElem? (i := 965) (by decide +kernel), List.mem_of_getElem? (i := 966) (by decide +kernel)⟩
theorem lw_p50 : lw_okq (⟨"IndexBureauModel", "become", "(IJJI)I"⟩, 25) := ⟨⟨by decide +kernel, by decide +kernel⟩, List.mem_of_getElem? (i := 747) (by decide +kernel), List.mem_of_getElem? (i := 973) (by decide +kernel), List.mem_of_getElem? (i := 974) (by decide +kernel)⟩
theorem lw_p51 : lw_okq (⟨"IndexBureauModel", "rights", "(IIII)I"⟩, 25) := ⟨⟨by decide +kernel, by decide +kernel⟩, List.mem_of_getElem? (i := 747) (by decide +kernel), List.mem_of_getElem? (i := 978) (by decide +kernel), List.mem_of_getElem? (i := 979) (by decide +kernel)⟩
theorem lw_p52 : lw_okq (⟨"IndexBureauModel", "dividend", "(II)I"⟩, 25) := ⟨⟨by decide +kernel, by decide +kernel⟩, List.mem_of_getElem? (i := 747) (by decide +kernel), List.mem_of_getElem? (i := 982) (by decide +kernel), List.mem_of_getElem? (i := 983) (by decide +kernel)⟩
theorem lw_p53 : lw_okq (⟨"IndexBureauModel", "count", "(I)I"⟩, 25) := ⟨⟨by decide +kernel, by decide +kernel⟩, List.mem_of_getElem? (i := 747) (by decide +kernel), List.mem_of_getElem? (i := 986) (by decide +kernel), List.mem_of_getElem? (i := 987) (by decide +kernel)⟩
theorem lw_p54 : lw_okq (⟨"IndexBureauModel", "cap", "(I)I"⟩, 25) := ⟨⟨by decide +kernel, by decide +kernel⟩, List.mem_of_getElem? (i := 747) (by decide +kernel), List.mem_of_getElem? (i := 990) (by decide +kernel), List.mem_of_getElem? (i := 991) (by decide +kernel)⟩
theorem lw_p55 : lw_okq (⟨"IndexBureauModel", "putBack", "()V"⟩, 25) := ⟨⟨by decide +kernel, by decide +kernel⟩, List.mem_of_getElem? (i := 747) (by decide +kernel), List.mem_of_getElem? (i := 995) (by decide +kernel), List.mem_of_getElem? (i := 996) (by decide +kernel)⟩
theorem lw_p56 : lw_okq (⟨"IndexBureauModel", "printWhole", "(I)V"⟩, 25) := ⟨⟨by decide +kernel, by decide +kernel⟩, List.mem_of_getElem? (i := 747) (by decide +kernel), List.mem_of_getElem? (i := 1031) (by decide +kernel), List.mem_of_getElem? (i := 1032) (by decide +kernel)⟩
theorem lw_p57 : lw_okq (⟨"IndexBureauModel", "divide", "(II)I"⟩, 25) := ⟨⟨by decide +kernel, by decide +kernel⟩, List.mem_of_getElem? (i := 747) (by decide +kernel), List.mem_of_getElem? (i := 1035) (by decide +kernel), List.mem_of_getElem? (i := 1036) (by decide +kernel)⟩
def lw_privs_4 : List (MethodName × Nat) := [(⟨"IndexBureauModel", "change", "(IIIII)I"⟩, 25), (⟨"IndexBureauModel", "split", "(III)I"⟩, 25), (⟨"IndexBureauModel", "become", "(IJJI)I"⟩, 25), (⟨"IndexBureauModel", "rights", "(IIII)I"⟩, 25), (⟨"IndexBureauModel", "dividend", "(II)I"⟩, 25), (⟨"IndexBureauModel", "count", "(I)I"⟩, 25), (⟨"IndexBureauModel", "cap", "(I)I"⟩, 25), (⟨"IndexBureauModel", "putBack", "()V"⟩, 25), (⟨"IndexBureauModel", "printWhole", "(I)V"⟩, 25), (⟨"IndexBureauModel", "divide", "(II)I"⟩, 25)]
theorem lw_r4 : ∀ q ∈ lw_privs_4, lw_okq q := List.forall_mem_cons.mpr ⟨lw_p48, List.forall_mem_cons.mpr ⟨lw_p49, List.forall_mem_cons.mpr ⟨lw_p50, List.forall_mem_cons.mpr ⟨lw_p51, List.forall_mem_cons.mpr ⟨lw_p52, List.forall_mem_cons.mpr ⟨lw_p53, List.forall_mem_cons.mpr ⟨lw_p54, List.forall_mem_cons.mpr ⟨lw_p55, List.forall_mem_cons.mpr ⟨lw_p56, List.forall_mem_cons.mpr ⟨lw_p57, fun _ h => absurd h List.not_mem_nil⟩⟩⟩⟩⟩⟩⟩⟩⟩⟩
def lw_privs : List (MethodName × Nat) := lw_privs_1 ++ (lw_privs_2 ++ (lw_privs_3 ++ (lw_privs_4)))
def lw_tbl : List Cond := k2_sels lw_privs ++ tables_1
theorem lw_privs_ok : ∀ q ∈ lw_privs, lw_okq q := by
  show ∀ q ∈ lw_privs_1 ++ (lw_privs_2 ++ (lw_privs_3 ++ (lw_privs_4))), lw_okq q
  exact List.forall_mem_append.mpr ⟨lw_r1, List.forall_mem_append.mpr ⟨lw_r2, List.forall_mem_append.mpr ⟨lw_r3, lw_r4⟩⟩⟩
end
section
def RX0 : String := "IndexBureau$Agenda"
def TX0 : u_T := fun k => match k with
  | 0 => ("IndexBureau$Agenda", "kind", "[I", true)
  | 1 => ("IndexBureau$Agenda", "share", "[I", true)
  | 2 => ("IndexBureau$Agenda", "a", "[I", true)
  | 3 => ("IndexBureau$Agenda", "b", "[I", true)
  | 4 => ("IndexBureau$Agenda", "c", "[I", true)
  | 5 => ("IndexBureau$Agenda", "order", "[I", true)
  | 6 => ("IndexBureau$Agenda", "outcome", "[I", true)
  | 7 => ("IndexBureau$Agenda", "waiting", "I", false)
  | _ => ("IndexBureau$Agenda", "arranged", "I", false)
def tyX0 : Nat → FieldType := fun k => match k with
  | 0 => .array .int
  | 1 => .array .int
  | 2 => .array .int
  | 3 => .array .int
  | 4 => .array .int
  | 5 => .array .int
  | 6 => .array .int
  | 7 => .int
  | _ => .int
abbrev wsX00 : List Cond := u_ws RX0 TX0 9
theorem nmX0 : ∀ a, a < 9 → ∀ b, b < 9 → a ≠ b → (TX0 a).2.1 ≠ (TX0 b).2.1 := by decide +kernel
theorem tyX0_ok : ∀ k, k < 9 → parseFieldDescriptor (TX0 k).2.2.1 = some (tyX0 k) := by decide +kernel
abbrev cX0_init : ByteArray := prog_2_method_1_code
def yX0_init : MethodName := ⟨RX0, "<init>", "()V"⟩
abbrev cX0_forget : ByteArray := prog_2_method_2_code
def yX0_forget : MethodName := ⟨RX0, "forget", "()V"⟩
abbrev cX0_isFull : ByteArray := prog_2_method_3_code
def yX0_isFull : MethodName := ⟨RX0, "isFull", "()Z"⟩
abbrev cX0_wasArranged : ByteArray := prog_2_method_4_code
def yX0_wasArranged : MethodName := ⟨RX0, "wasArranged", "(I)Z"⟩
abbrev cX0_note : ByteArray := prog_2_method_5_code
def yX0_note : MethodName := ⟨RX0, "note", "(IIIII)I"⟩
abbrev cX0_arrange : ByteArray := prog_2_method_6_code
def yX0_arrange : MethodName := ⟨RX0, "arrange", "()V"⟩
abbrev cX0_isBefore : ByteArray := prog_2_method_7_code
def yX0_isBefore : MethodName := ⟨RX0, "isBefore", "(II)Z"⟩
def RX1 : String := "IndexBureau$Desk"
def TX1 : u_T := fun k => match k with
  | 0 => ("IndexBureau$Desk", "quotient", "LIndexBureau$Whole;", true)
  | 1 => ("IndexBureau$Desk", "left", "LIndexBureau$Whole;", true)
  | 2 => ("IndexBureau$Desk", "right", "LIndexBureau$Whole;", true)
  | 3 => ("IndexBureau$Desk", "product", "LIndexBureau$Whole;", true)
  | 4 => ("IndexBureau$Desk", "factor", "LIndexBureau$Whole;", true)
  | 5 => ("IndexBureau$Desk", "term", "LIndexBureau$Whole;", true)
  | 6 => ("IndexBureau$Desk", "shifted", "LIndexBureau$Whole;", true)
  | 7 => ("IndexBureau$Desk", "greater", "LIndexBureau$Whole;", true)
  | _ => ("IndexBureau$Desk", "lesser", "LIndexBureau$Whole;", true)
def tyX1 : Nat → FieldType := fun k => match k with
  | 0 => .object "IndexBureau$Whole"
  | 1 => .object "IndexBureau$Whole"
  | 2 => .object "IndexBureau$Whole"
  | 3 => .object "IndexBureau$Whole"
  | 4 => .object "IndexBureau$Whole"
  | 5 => .object "IndexBureau$Whole"
  | 6 => .object "IndexBureau$Whole"
  | 7 => .object "IndexBureau$Whole"
  | _ => .object "IndexBureau$Whole"
abbrev wsX10 : List Cond := u_ws RX1 TX1 9
theorem nmX1 : ∀ a, a < 9 → ∀ b, b < 9 → a ≠ b → (TX1 a).2.1 ≠ (TX1 b).2.1 := by decide +kernel
theorem tyX1_ok : ∀ k, k < 9 → parseFieldDescriptor (TX1 k).2.2.1 = some (tyX1 k) := by decide +kernel
abbrev cX1_init : ByteArray := prog_3_method_1_code
def yX1_init : MethodName := ⟨RX1, "<init>", "()V"⟩
abbrev cX1_commonDivisor : ByteArray := prog_3_method_2_code
def yX1_commonDivisor : MethodName := ⟨RX1, "commonDivisor", "(JJ)J"⟩
abbrev cX1_multiply : ByteArray := prog_3_method_3_code
def yX1_multiply : MethodName := ⟨RX1, "multiply", "(LIndexBureau$Whole;LIndexBureau$Whole;)V"⟩
abbrev cX1_scale : ByteArray := prog_3_method_4_code
def yX1_scale : MethodName := ⟨RX1, "scale", "(LIndexBureau$Whole;J)V"⟩
abbrev cX1_divide : ByteArray := prog_3_method_5_code
def yX1_divide : MethodName := ⟨RX1, "divide", "(LIndexBureau$Whole;LIndexBureau$Whole;)V"⟩
abbrev cX1_cancel : ByteArray := prog_3_method_6_code
def yX1_cancel : MethodName := ⟨RX1, "cancel", "(LIndexBureau$Whole;LIndexBureau$Whole;)V"⟩
abbrev cX1_addUp : ByteArray := prog_3_method_7_code
def yX1_addUp : MethodName := ⟨RX1, "addUp", "(LIndexBureau$Shares;LIndexBureau$Fraction;)V"⟩
abbrev cX1_addTo : ByteArray := prog_3_method_8_code
def yX1_addTo : MethodName := ⟨RX1, "addTo", "(LIndexBureau$Fraction;JJJ)V"⟩
abbrev cX1_weigh : ByteArray := prog_3_method_9_code
def yX1_weigh : MethodName := ⟨RX1, "weigh", "(LIndexBureau$Shares;IILIndexBureau$Fraction;I)V"⟩
abbrev cX1_sameLevel : ByteArray := prog_3_method_10_code
def yX1_sameLevel : MethodName := ⟨RX1, "sameLevel", "(LIndexBureau$Fraction;LIndexBureau$Fraction;LIndexBureau$Fraction;LIndexBureau$Fraction;)Z"⟩
def RX2 : String := "IndexBureau$Fraction"
def TX2 : u_T := fun k => match k with
  | 0 => ("IndexBureau$Fraction", "up", "LIndexBureau$Whole;", true)
  | _ => ("IndexBureau$Fraction", "down", "LIndexBureau$Whole;", true)
def tyX2 : Nat → FieldType := fun k => match k with
  | 0 => .object "IndexBureau$Whole"
  | _ => .object "IndexBureau$Whole"
abbrev wsX20 : List Cond := u_ws RX2 TX2 2
theorem nmX2 : ∀ a, a < 2 → ∀ b, b < 2 → a ≠ b → (TX2 a).2.1 ≠ (TX2 b).2.1 := by decide +kernel
theorem tyX2_ok : ∀ k, k < 2 → parseFieldDescriptor (TX2 k).2.2.1 = some (tyX2 k) := by decide +kernel
abbrev cX2_init : ByteArray := prog_4_method_1_code
def yX2_init : MethodName := ⟨RX2, "<init>", "()V"⟩
abbrev cX2_become : ByteArray := prog_4_method_2_code
def yX2_become : MethodName := ⟨RX2, "become", "(JJ)V"⟩
abbrev cX2_copy : ByteArray := prog_4_method_3_code
def yX2_copy : MethodName := ⟨RX2, "copy", "(LIndexBureau$Fraction;)V"⟩
abbrev cX2_mostDigits : ByteArray := prog_4_method_4_code
def yX2_mostDigits : MethodName := ⟨RX2, "mostDigits", "()I"⟩
def RX3 : String := "IndexBureau$Kind"
def TX3 : u_T := fun k => match k with
  | _ => ("", "", "", false)
def tyX3 : Nat → FieldType := fun k => match k with
  | _ => .int
abbrev wsX30 : List Cond := u_ws RX3 TX3 0
theorem nmX3 : ∀ a, a < 0 → ∀ b, b < 0 → a ≠ b → (TX3 a).2.1 ≠ (TX3 b).2.1 := by decide +kernel
theorem tyX3_ok : ∀ k, k < 0 → parseFieldDescriptor (TX3 k).2.2.1 = some (tyX3 k) := by decide +kernel
def RX4 : String := "IndexBureau$Outcome"
def TX4 : u_T := fun k => match k with
  | _ => ("", "", "", false)
def tyX4 : Nat → FieldType := fun k => match k with
  | _ => .int
abbrev wsX40 : List Cond := u_ws RX4 TX4 0
theorem nmX4 : ∀ a, a < 0 → ∀ b, b < 0 → a ≠ b → (TX4 a).2.1 ≠ (TX4 b).2.1 := by decide +kernel
theorem tyX4_ok : ∀ k, k < 0 → parseFieldDescriptor (TX4 k).2.2.1 = some (tyX4 k) := by decide +kernel
def RX5 : String := "IndexBureau$Shares"
def TX5 : u_T := fun k => match k with
  | 0 => ("IndexBureau$Shares", "value", "[[I", true)
  | 1 => ("IndexBureau$Shares", "factorUp", "[J", true)
  | 2 => ("IndexBureau$Shares", "factorDown", "[J", true)
  | _ => ("IndexBureau$Shares", "members", "I", false)
def tyX5 : Nat → FieldType := fun k => match k with
  | 0 => .array (.array .int)
  | 1 => .array .long
  | 2 => .array .long
  | _ => .int
abbrev wsX50 : List Cond := u_ws RX5 TX5 4
theorem nmX5 : ∀ a, a < 4 → ∀ b, b < 4 → a ≠ b → (TX5 a).2.1 ≠ (TX5 b).2.1 := by decide +kernel
theorem tyX5_ok : ∀ k, k < 4 → parseFieldDescriptor (TX5 k).2.2.1 = some (tyX5 k) := by decide +kernel
abbrev cX5_init : ByteArray := prog_7_method_1_code
def yX5_init : MethodName := ⟨RX5, "<init>", "()V"⟩
abbrev cX5_has : ByteArray := prog_7_method_2_code
def yX5_has : MethodName := ⟨RX5, "has", "(I)Z"⟩
abbrev cX5_fits : ByteArray := prog_7_method_3_code
def yX5_fits : MethodName := ⟨RX5, "fits", "(IJ)Z"⟩
abbrev cX5_isMember : ByteArray := prog_7_method_4_code
def yX5_isMember : MethodName := ⟨RX5, "isMember", "(I)Z"⟩
abbrev cX5_hasFactorOne : ByteArray := prog_7_method_5_code
def yX5_hasFactorOne : MethodName := ⟨RX5, "hasFactorOne", "(I)Z"⟩
abbrev cX5_plainWorth : ByteArray := prog_7_method_6_code
def yX5_plainWorth : MethodName := ⟨RX5, "plainWorth", "(I)J"⟩
abbrev cX5_copy : ByteArray := prog_7_method_7_code
def yX5_copy : MethodName := ⟨RX5, "copy", "(LIndexBureau$Shares;)V"⟩
abbrev cX5_resetFactors : ByteArray := prog_7_method_8_code
def yX5_resetFactors : MethodName := ⟨RX5, "resetFactors", "()V"⟩
abbrev cX5_change : ByteArray := prog_7_method_9_code
def yX5_change : MethodName := ⟨RX5, "change", "(IIIII)I"⟩
abbrev cX5_split : ByteArray := prog_7_method_10_code
def yX5_split : MethodName := ⟨RX5, "split", "(III)I"⟩
abbrev cX5_offerRights : ByteArray := prog_7_method_11_code
def yX5_offerRights : MethodName := ⟨RX5, "offerRights", "(IIII)I"⟩
abbrev cX5_isRatio : ByteArray := prog_7_method_12_code
def yX5_isRatio : MethodName := ⟨RX5, "isRatio", "(II)Z"⟩
abbrev cX5_exchange : ByteArray := prog_7_method_13_code
def yX5_exchange : MethodName := ⟨RX5, "exchange", "(IJIJI)I"⟩
abbrev cX5_payDividend : ByteArray := prog_7_method_14_code
def yX5_payDividend : MethodName := ⟨RX5, "payDividend", "(II)I"⟩
abbrev cX5_leave : ByteArray := prog_7_method_15_code
def yX5_leave : MethodName := ⟨RX5, "leave", "(I)I"⟩
abbrev cX5_join : ByteArray := prog_7_method_16_code
def yX5_join : MethodName := ⟨RX5, "join", "(I)I"⟩
abbrev cX5_replace : ByteArray := prog_7_method_17_code
def yX5_replace : MethodName := ⟨RX5, "replace", "(III)I"⟩
abbrev cX5_cap : ByteArray := prog_7_method_18_code
def yX5_cap : MethodName := ⟨RX5, "cap", "(I)I"⟩
abbrev cX5_findLarge : ByteArray := prog_7_method_19_code
def yX5_findLarge : MethodName := ⟨RX5, "findLarge", "(I)I"⟩
abbrev cX5_plainWorthOf : ByteArray := prog_7_method_20_code
def yX5_plainWorthOf : MethodName := ⟨RX5, "plainWorthOf", "(I)J"⟩
abbrev cX5_putFactor : ByteArray := prog_7_method_21_code
def yX5_putFactor : MethodName := ⟨RX5, "putFactor", "(IJJ)V"⟩
def RX6 : String := "IndexBureau$Text"
def TX6 : u_T := fun k => match k with
  | 0 => ("IndexBureau$Text", "characters", "[C", true)
  | 1 => ("IndexBureau$Text", "rest", "LIndexBureau$Whole;", true)
  | _ => ("IndexBureau$Text", "length", "I", false)
def tyX6 : Nat → FieldType := fun k => match k with
  | 0 => .array .char
  | 1 => .object "IndexBureau$Whole"
  | _ => .int
abbrev wsX60 : List Cond := u_ws RX6 TX6 3
theorem nmX6 : ∀ a, a < 3 → ∀ b, b < 3 → a ≠ b → (TX6 a).2.1 ≠ (TX6 b).2.1 := by decide +kernel
theorem tyX6_ok : ∀ k, k < 3 → parseFieldDescriptor (TX6 k).2.2.1 = some (tyX6 k) := by decide +kernel
abbrev cX6_init : ByteArray := prog_8_method_1_code
def yX6_init : MethodName := ⟨RX6, "<init>", "()V"⟩
abbrev cX6_write : ByteArray := prog_8_method_2_code
def yX6_write : MethodName := ⟨RX6, "write", "(LIndexBureau$Fraction;)V"⟩
abbrev cX6_writeWhole : ByteArray := prog_8_method_3_code
def yX6_writeWhole : MethodName := ⟨RX6, "writeWhole", "(LIndexBureau$Whole;)V"⟩
abbrev cX6_writeBackwards : ByteArray := prog_8_method_4_code
def yX6_writeBackwards : MethodName := ⟨RX6, "writeBackwards", "(IZ)V"⟩
abbrev cX6_append : ByteArray := prog_8_method_5_code
def yX6_append : MethodName := ⟨RX6, "append", "(C)V"⟩
abbrev cX6_turnRound : ByteArray := prog_8_method_6_code
def yX6_turnRound : MethodName := ⟨RX6, "turnRound", "(I)V"⟩
def RX7 : String := "IndexBureau$Whole"
def TX7 : u_T := fun k => match k with
  | 0 => ("IndexBureau$Whole", "digits", "[I", true)
  | _ => ("IndexBureau$Whole", "size", "I", false)
def tyX7 : Nat → FieldType := fun k => match k with
  | 0 => .array .int
  | _ => .int
abbrev wsX70 : List Cond := u_ws RX7 TX7 2
theorem nmX7 : ∀ a, a < 2 → ∀ b, b < 2 → a ≠ b → (TX7 a).2.1 ≠ (TX7 b).2.1 := by decide +kernel
theorem tyX7_ok : ∀ k, k < 2 → parseFieldDescriptor (TX7 k).2.2.1 = some (tyX7 k) := by decide +kernel
abbrev cX7_init : ByteArray := prog_9_method_1_code
def yX7_init : MethodName := ⟨RX7, "<init>", "()V"⟩
abbrev cX7_become : ByteArray := prog_9_method_2_code
def yX7_become : MethodName := ⟨RX7, "become", "(J)V"⟩
abbrev cX7_copy : ByteArray := prog_9_method_3_code
def yX7_copy : MethodName := ⟨RX7, "copy", "(LIndexBureau$Whole;)V"⟩
abbrev cX7_clear : ByteArray := prog_9_method_4_code
def yX7_clear : MethodName := ⟨RX7, "clear", "()V"⟩
abbrev cX7_trim : ByteArray := prog_9_method_5_code
def yX7_trim : MethodName := ⟨RX7, "trim", "(I)V"⟩
abbrev cX7_isZero : ByteArray := prog_9_method_6_code
def yX7_isZero : MethodName := ⟨RX7, "isZero", "()Z"⟩
abbrev cX7_isOne : ByteArray := prog_9_method_7_code
def yX7_isOne : MethodName := ⟨RX7, "isOne", "()Z"⟩
abbrev cX7_isShort : ByteArray := prog_9_method_8_code
def yX7_isShort : MethodName := ⟨RX7, "isShort", "()Z"⟩
abbrev cX7_asLong : ByteArray := prog_9_method_9_code
def yX7_asLong : MethodName := ⟨RX7, "asLong", "()J"⟩
abbrev cX7_binaryDigits : ByteArray := prog_9_method_10_code
def yX7_binaryDigits : MethodName := ⟨RX7, "binaryDigits", "()I"⟩
abbrev cX7_freeBits : ByteArray := prog_9_method_11_code
def yX7_freeBits : MethodName := ⟨RX7, "freeBits", "()I"⟩
abbrev cX7_compareWith : ByteArray := prog_9_method_12_code
def yX7_compareWith : MethodName := ⟨RX7, "compareWith", "(LIndexBureau$Whole;)I"⟩
abbrev cX7_add : ByteArray := prog_9_method_13_code
def yX7_add : MethodName := ⟨RX7, "add", "(LIndexBureau$Whole;)V"⟩
abbrev cX7_setProduct : ByteArray := prog_9_method_14_code
def yX7_setProduct : MethodName := ⟨RX7, "setProduct", "(LIndexBureau$Whole;LIndexBureau$Whole;)V"⟩
abbrev cX7_divideBySmall : ByteArray := prog_9_method_15_code
def yX7_divideBySmall : MethodName := ⟨RX7, "divideBySmall", "(I)I"⟩
abbrev cX7_shiftUp : ByteArray := prog_9_method_16_code
def yX7_shiftUp : MethodName := ⟨RX7, "shiftUp", "(I)V"⟩
abbrev cX7_shiftDown : ByteArray := prog_9_method_17_code
def yX7_shiftDown : MethodName := ⟨RX7, "shiftDown", "(I)V"⟩
abbrev cX7_digitAt : ByteArray := prog_9_method_18_code
def yX7_digitAt : MethodName := ⟨RX7, "digitAt", "(I)I"⟩
abbrev cX7_guessDigit : ByteArray := prog_9_method_19_code
def yX7_guessDigit : MethodName := ⟨RX7, "guessDigit", "(LIndexBureau$Whole;I)I"⟩
abbrev cX7_subtractAt : ByteArray := prog_9_method_20_code
def yX7_subtractAt : MethodName := ⟨RX7, "subtractAt", "(ILIndexBureau$Whole;I)Z"⟩
abbrev cX7_addAt : ByteArray := prog_9_method_21_code
def yX7_addAt : MethodName := ⟨RX7, "addAt", "(ILIndexBureau$Whole;)V"⟩
def RX8 : String := "IndexBureau"
def TX8 : u_T := fun k => match k with
  | 0 => ("IndexBureau", "shares", "LIndexBureau$Shares;", true)
  | 1 => ("IndexBureau", "sharesBefore", "LIndexBureau$Shares;", true)
  | 2 => ("IndexBureau", "agenda", "LIndexBureau$Agenda;", true)
  | 3 => ("IndexBureau", "desk", "LIndexBureau$Desk;", true)
  | 4 => ("IndexBureau", "text", "LIndexBureau$Text;", true)
  | 5 => ("IndexBureau", "divisor", "LIndexBureau$Fraction;", true)
  | 6 => ("IndexBureau", "nextDivisor", "LIndexBureau$Fraction;", true)
  | 7 => ("IndexBureau", "worth", "LIndexBureau$Fraction;", true)
  | 8 => ("IndexBureau", "worthBefore", "LIndexBureau$Fraction;", true)
  | 9 => ("IndexBureau", "result", "LIndexBureau$Fraction;", true)
  | 10 => ("IndexBureau", "levelOfDay", "[J", true)
  | 11 => ("IndexBureau", "daysNoted", "I", false)
  | 12 => ("IndexBureau", "based", "Z", false)
  | _ => ("IndexBureau", "allSound", "Z", false)
def tyX8 : Nat → FieldType := fun k => match k with
  | 0 => .object "IndexBureau$Shares"
  | 1 => .object "IndexBureau$Shares"
  | 2 => .object "IndexBureau$Agenda"
  | 3 => .object "IndexBureau$Desk"
  | 4 => .object "IndexBureau$Text"
  | 5 => .object "IndexBureau$Fraction"
  | 6 => .object "IndexBureau$Fraction"
  | 7 => .object "IndexBureau$Fraction"
  | 8 => .object "IndexBureau$Fraction"
  | 9 => .object "IndexBureau$Fraction"
  | 10 => .array .long
  | 11 => .int
  | 12 => .boolean
  | _ => .boolean
abbrev wsX80 : List Cond := u_ws RX8 TX8 14
theorem nmX8 : ∀ a, a < 14 → ∀ b, b < 14 → a ≠ b → (TX8 a).2.1 ≠ (TX8 b).2.1 := by decide +kernel
theorem tyX8_ok : ∀ k, k < 14 → parseFieldDescriptor (TX8 k).2.2.1 = some (tyX8 k) := by decide +kernel
abbrev cX8_init : ByteArray := prog_1_method_1_code
def yX8_init : MethodName := ⟨RX8, "<init>", "()V"⟩
abbrev cX8_set : ByteArray := prog_1_method_2_code
def yX8_set : MethodName := ⟨RX8, "set", "(III)I"⟩
abbrev cX8_get : ByteArray := prog_1_method_3_code
def yX8_get : MethodName := ⟨RX8, "get", "(II)I"⟩
abbrev cX8_base : ByteArray := prog_1_method_4_code
def yX8_base : MethodName := ⟨RX8, "base", "(II)V"⟩
abbrev cX8_members : ByteArray := prog_1_method_5_code
def yX8_members : MethodName := ⟨RX8, "members", "()I"⟩
abbrev cX8_event : ByteArray := prog_1_method_6_code
def yX8_event : MethodName := ⟨RX8, "event", "(IIIII)I"⟩
abbrev cX8_close : ByteArray := prog_1_method_7_code
def yX8_close : MethodName := ⟨RX8, "close", "()I"⟩
abbrev cX8_outcome : ByteArray := prog_1_method_8_code
def yX8_outcome : MethodName := ⟨RX8, "outcome", "(I)I"⟩
abbrev cX8_noted : ByteArray := prog_1_method_9_code
def yX8_noted : MethodName := ⟨RX8, "noted", "(I)I"⟩
abbrev cX8_days : ByteArray := prog_1_method_10_code
def yX8_days : MethodName := ⟨RX8, "days", "()I"⟩
abbrev cX8_published : ByteArray := prog_1_method_11_code
def yX8_published : MethodName := ⟨RX8, "published", "(I)J"⟩
abbrev cX8_level : ByteArray := prog_1_method_12_code
def yX8_level : MethodName := ⟨RX8, "level", "()J"⟩
abbrev cX8_weight : ByteArray := prog_1_method_13_code
def yX8_weight : MethodName := ⟨RX8, "weight", "(I)I"⟩
abbrev cX8_print : ByteArray := prog_1_method_14_code
def yX8_print : MethodName := ⟨RX8, "print", "(II)I"⟩
abbrev cX8_character : ByteArray := prog_1_method_15_code
def yX8_character : MethodName := ⟨RX8, "character", "(I)I"⟩
abbrev cX8_places : ByteArray := prog_1_method_16_code
def yX8_places : MethodName := ⟨RX8, "places", "(I)I"⟩
abbrev cX8_check : ByteArray := prog_1_method_17_code
def yX8_check : MethodName := ⟨RX8, "check", "()I"⟩
abbrev cX8_refuseUnknown : ByteArray := prog_1_method_18_code
def yX8_refuseUnknown : MethodName := ⟨RX8, "refuseUnknown", "(II)V"⟩
abbrev cX8_perform : ByteArray := prog_1_method_19_code
def yX8_perform : MethodName := ⟨RX8, "perform", "(I)I"⟩
abbrev cX8_findNextDivisor : ByteArray := prog_1_method_20_code
def yX8_findNextDivisor : MethodName := ⟨RX8, "findNextDivisor", "()V"⟩
abbrev cX8_isCapped : ByteArray := prog_1_method_21_code
def yX8_isCapped : MethodName := ⟨RX8, "isCapped", "(I)Z"⟩
abbrev cX8_exactLevel : ByteArray := prog_1_method_22_code
def yX8_exactLevel : MethodName := ⟨RX8, "exactLevel", "()V"⟩
abbrev cX8_roundedLevel : ByteArray := prog_1_method_23_code
def yX8_roundedLevel : MethodName := ⟨RX8, "roundedLevel", "()J"⟩
def RX9 : String := "IndexBureauModel"
def TX9 : u_T := fun k => match k with
  | 0 => ("IndexBureauModel", "limbs", "[I", true)
  | 1 => ("IndexBureauModel", "size", "[I", true)
  | 2 => ("IndexBureauModel", "prices", "[I", true)
  | 3 => ("IndexBureauModel", "counts", "[I", true)
  | 4 => ("IndexBureauModel", "floats", "[I", true)
  | 5 => ("IndexBureauModel", "members", "I", false)
  | 6 => ("IndexBureauModel", "isBased", "Z", false)
  | 7 => ("IndexBureauModel", "oldPrices", "[I", true)
  | 8 => ("IndexBureauModel", "oldCounts", "[I", true)
  | 9 => ("IndexBureauModel", "oldFloats", "[I", true)
  | 10 => ("IndexBureauModel", "oldMembers", "I", false)
  | 11 => ("IndexBureauModel", "noted", "I", false)
  | 12 => ("IndexBureauModel", "kinds", "[I", true)
  | 13 => ("IndexBureauModel", "shares", "[I", true)
  | 14 => ("IndexBureauModel", "as", "[I", true)
  | 15 => ("IndexBureauModel", "bs", "[I", true)
  | 16 => ("IndexBureauModel", "cs", "[I", true)
  | 17 => ("IndexBureauModel", "closed", "I", false)
  | 18 => ("IndexBureauModel", "outcomes", "[I", true)
  | 19 => ("IndexBureauModel", "places", "[I", true)
  | 20 => ("IndexBureauModel", "days", "I", false)
  | 21 => ("IndexBureauModel", "levels", "[J", true)
  | 22 => ("IndexBureauModel", "printed", "I", false)
  | 23 => ("IndexBureauModel", "print", "[I", true)
  | _ => ("IndexBureauModel", "code", "I", false)
def tyX9 : Nat → FieldType := fun k => match k with
  | 0 => .array .int
  | 1 => .array .int
  | 2 => .array .int
  | 3 => .array .int
  | 4 => .array .int
  | 5 => .int
  | 6 => .boolean
  | 7 => .array .int
  | 8 => .array .int
  | 9 => .array .int
  | 10 => .int
  | 11 => .int
  | 12 => .array .int
  | 13 => .array .int
  | 14 => .array .int
  | 15 => .array .int
  | 16 => .array .int
  | 17 => .int
  | 18 => .array .int
  | 19 => .array .int
  | 20 => .int
  | 21 => .array .long
  | 22 => .int
  | 23 => .array .int
  | _ => .int
abbrev wsX90 : List Cond := u_ws RX9 TX9 25
theorem nmX9 : ∀ a, a < 25 → ∀ b, b < 25 → a ≠ b → (TX9 a).2.1 ≠ (TX9 b).2.1 := by decide +kernel
theorem tyX9_ok : ∀ k, k < 25 → parseFieldDescriptor (TX9 k).2.2.1 = some (tyX9 k) := by decide +kernel
abbrev cX9_init : ByteArray := prog_11_method_1_code
def yX9_init : MethodName := ⟨RX9, "<init>", "()V"⟩
abbrev cX9_thrown : ByteArray := prog_11_method_2_code
def yX9_thrown : MethodName := ⟨RX9, "thrown", "()I"⟩
abbrev cX9_in : ByteArray := prog_11_method_3_code
def yX9_in : MethodName := ⟨RX9, "in", "(III)Z"⟩
abbrev cX9_isMember : ByteArray := prog_11_method_4_code
def yX9_isMember : MethodName := ⟨RX9, "isMember", "(I)Z"⟩
abbrev cX9_set : ByteArray := prog_11_method_5_code
def yX9_set : MethodName := ⟨RX9, "set", "(IJ)V"⟩
abbrev cX9_copy : ByteArray := prog_11_method_6_code
def yX9_copy : MethodName := ⟨RX9, "copy", "(II)V"⟩
abbrev cX9_trim : ByteArray := prog_11_method_7_code
def yX9_trim : MethodName := ⟨RX9, "trim", "(I)V"⟩
abbrev cX9_isOne : ByteArray := prog_11_method_8_code
def yX9_isOne : MethodName := ⟨RX9, "isOne", "(I)Z"⟩
abbrev cX9_isEven : ByteArray := prog_11_method_9_code
def yX9_isEven : MethodName := ⟨RX9, "isEven", "(I)Z"⟩
abbrev cX9_bits : ByteArray := prog_11_method_10_code
def yX9_bits : MethodName := ⟨RX9, "bits", "(I)I"⟩
abbrev cX9_limb : ByteArray := prog_11_method_11_code
def yX9_limb : MethodName := ⟨RX9, "limb", "(II)I"⟩
abbrev cX9_add : ByteArray := prog_11_method_12_code
def yX9_add : MethodName := ⟨RX9, "add", "(II)V"⟩
abbrev cX9_compare : ByteArray := prog_11_method_13_code
def yX9_compare : MethodName := ⟨RX9, "compare", "(II)I"⟩
abbrev cX9_multiply : ByteArray := prog_11_method_14_code
def yX9_multiply : MethodName := ⟨RX9, "multiply", "(III)V"⟩
abbrev cX9_scale : ByteArray := prog_11_method_15_code
def yX9_scale : MethodName := ⟨RX9, "scale", "(II)V"⟩
abbrev cX9_divide : ByteArray := prog_11_method_16_code
def yX9_divide : MethodName := ⟨RX9, "divide", "(II)I"⟩
abbrev cX9_twice : ByteArray := prog_11_method_17_code
def yX9_twice : MethodName := ⟨RX9, "twice", "(II)V"⟩
abbrev cX9_subtract : ByteArray := prog_11_method_18_code
def yX9_subtract : MethodName := ⟨RX9, "subtract", "(II)V"⟩
abbrev cX9_half : ByteArray := prog_11_method_19_code
def yX9_half : MethodName := ⟨RX9, "half", "(I)V"⟩
abbrev cX9_quotient : ByteArray := prog_11_method_20_code
def yX9_quotient : MethodName := ⟨RX9, "quotient", "(IIII)V"⟩
abbrev cX9_common : ByteArray := prog_11_method_21_code
def yX9_common : MethodName := ⟨RX9, "common", "(II)V"⟩
abbrev cX9_swap : ByteArray := prog_11_method_22_code
def yX9_swap : MethodName := ⟨RX9, "swap", "()V"⟩
abbrev cX9_reduce : ByteArray := prog_11_method_23_code
def yX9_reduce : MethodName := ⟨RX9, "reduce", "(II)V"⟩
abbrev cX9_plain : ByteArray := prog_11_method_24_code
def yX9_plain : MethodName := ⟨RX9, "plain", "(I)J"⟩
abbrev cX9_sum : ByteArray := prog_11_method_25_code
def yX9_sum : MethodName := ⟨RX9, "sum", "()V"⟩
abbrev cX9_fits : ByteArray := prog_11_method_26_code
def yX9_fits : MethodName := ⟨RX9, "fits", "(II)Z"⟩
abbrev cX9_set_ : ByteArray := prog_11_method_27_code
def yX9_set_ : MethodName := ⟨RX9, "set", "(III)I"⟩
abbrev cX9_get : ByteArray := prog_11_method_28_code
def yX9_get : MethodName := ⟨RX9, "get", "(II)I"⟩
abbrev cX9_base : ByteArray := prog_11_method_29_code
def yX9_base : MethodName := ⟨RX9, "base", "(II)V"⟩
abbrev cX9_members : ByteArray := prog_11_method_30_code
def yX9_members : MethodName := ⟨RX9, "members", "()I"⟩
abbrev cX9_event : ByteArray := prog_11_method_31_code
def yX9_event : MethodName := ⟨RX9, "event", "(IIIII)I"⟩
abbrev cX9_remember : ByteArray := prog_11_method_32_code
def yX9_remember : MethodName := ⟨RX9, "remember", "()V"⟩
abbrev cX9_putBack : ByteArray := prog_11_method_33_code
def yX9_putBack : MethodName := ⟨RX9, "putBack", "()V"⟩
abbrev cX9_become : ByteArray := prog_11_method_34_code
def yX9_become : MethodName := ⟨RX9, "become", "(IJJI)I"⟩
abbrev cX9_rounded : ByteArray := prog_11_method_35_code
def yX9_rounded : MethodName := ⟨RX9, "rounded", "(JJ)J"⟩
abbrev cX9_split : ByteArray := prog_11_method_36_code
def yX9_split : MethodName := ⟨RX9, "split", "(III)I"⟩
abbrev cX9_rights : ByteArray := prog_11_method_37_code
def yX9_rights : MethodName := ⟨RX9, "rights", "(IIII)I"⟩
abbrev cX9_dividend : ByteArray := prog_11_method_38_code
def yX9_dividend : MethodName := ⟨RX9, "dividend", "(II)I"⟩
abbrev cX9_count : ByteArray := prog_11_method_39_code
def yX9_count : MethodName := ⟨RX9, "count", "(I)I"⟩
abbrev cX9_cap : ByteArray := prog_11_method_40_code
def yX9_cap : MethodName := ⟨RX9, "cap", "(I)I"⟩
abbrev cX9_change : ByteArray := prog_11_method_41_code
def yX9_change : MethodName := ⟨RX9, "change", "(IIIII)I"⟩
abbrev cX9_perform : ByteArray := prog_11_method_42_code
def yX9_perform : MethodName := ⟨RX9, "perform", "(I)I"⟩
abbrev cX9_close : ByteArray := prog_11_method_43_code
def yX9_close : MethodName := ⟨RX9, "close", "()I"⟩
abbrev cX9_outcome : ByteArray := prog_11_method_44_code
def yX9_outcome : MethodName := ⟨RX9, "outcome", "(I)I"⟩
abbrev cX9_noted : ByteArray := prog_11_method_45_code
def yX9_noted : MethodName := ⟨RX9, "noted", "(I)I"⟩
abbrev cX9_days : ByteArray := prog_11_method_46_code
def yX9_days : MethodName := ⟨RX9, "days", "()I"⟩
abbrev cX9_published : ByteArray := prog_11_method_47_code
def yX9_published : MethodName := ⟨RX9, "published", "(I)J"⟩
abbrev cX9_level : ByteArray := prog_11_method_48_code
def yX9_level : MethodName := ⟨RX9, "level", "()J"⟩
abbrev cX9_weight : ByteArray := prog_11_method_49_code
def yX9_weight : MethodName := ⟨RX9, "weight", "(I)I"⟩
abbrev cX9_printWhole : ByteArray := prog_11_method_50_code
def yX9_printWhole : MethodName := ⟨RX9, "printWhole", "(I)V"⟩
abbrev cX9_print : ByteArray := prog_11_method_51_code
def yX9_print : MethodName := ⟨RX9, "print", "(II)I"⟩
abbrev cX9_character : ByteArray := prog_11_method_52_code
def yX9_character : MethodName := ⟨RX9, "character", "(I)I"⟩
abbrev cX9_places : ByteArray := prog_11_method_53_code
def yX9_places : MethodName := ⟨RX9, "places", "(I)I"⟩
abbrev cX9_check : ByteArray := prog_11_method_54_code
def yX9_check : MethodName := ⟨RX9, "check", "()I"⟩
def RJ6 : String := "java/lang/Integer"
def TJ6 : u_T := fun k => match k with
  | _ => ("", "", "", false)
def tyJ6 : Nat → FieldType := fun k => match k with
  | _ => .int
abbrev wsJ60 : List Cond := u_ws RJ6 TJ6 0
theorem nmJ6 : ∀ a, a < 0 → ∀ b, b < 0 → a ≠ b → (TJ6 a).2.1 ≠ (TJ6 b).2.1 := by decide +kernel
theorem tyJ6_ok : ∀ k, k < 0 → parseFieldDescriptor (TJ6 k).2.2.1 = some (tyJ6 k) := by decide +kernel
abbrev cJ6_compare_7cf53 : ByteArray := prog_16_method_40_code
def yJ6_compare_7cf53 : MethodName := ⟨RJ6, "compare", "(II)I"⟩
abbrev cJ6_bitCount_0f7a4 : ByteArray := prog_16_method_49_code
def yJ6_bitCount_0f7a4 : MethodName := ⟨RJ6, "bitCount", "(I)I"⟩
def RJ9 : String := "java/lang/Math"
def TJ9 : u_T := fun k => match k with
  | _ => ("", "", "", false)
def tyJ9 : Nat → FieldType := fun k => match k with
  | _ => .int
abbrev wsJ90 : List Cond := u_ws RJ9 TJ9 0
theorem nmJ9 : ∀ a, a < 0 → ∀ b, b < 0 → a ≠ b → (TJ9 a).2.1 ≠ (TJ9 b).2.1 := by decide +kernel
theorem tyJ9_ok : ∀ k, k < 0 → parseFieldDescriptor (TJ9 k).2.2.1 = some (tyJ9 k) := by decide +kernel
abbrev cJ9_max_7cf53 : ByteArray := prog_17_method_65_code
def yJ9_max_7cf53 : MethodName := ⟨RJ9, "max", "(II)I"⟩
abbrev cJ9_max_f86c9 : ByteArray := prog_17_method_66_code
def yJ9_max_f86c9 : MethodName := ⟨RJ9, "max", "(JJ)J"⟩
abbrev cJ9_min_7cf53 : ByteArray := prog_17_method_69_code
def yJ9_min_7cf53 : MethodName := ⟨RJ9, "min", "(II)I"⟩
abbrev cJ9_min_f86c9 : ByteArray := prog_17_method_70_code
def yJ9_min_f86c9 : MethodName := ⟨RJ9, "min", "(JJ)J"⟩
def RJ10 : String := "java/lang/System"
def TJ10 : u_T := fun k => match k with
  | _ => ("", "", "", false)
def tyJ10 : Nat → FieldType := fun k => match k with
  | _ => .int
abbrev wsJ100 : List Cond := u_ws RJ10 TJ10 0
theorem nmJ10 : ∀ a, a < 0 → ∀ b, b < 0 → a ≠ b → (TJ10 a).2.1 ≠ (TJ10 b).2.1 := by decide +kernel
theorem tyJ10_ok : ∀ k, k < 0 → parseFieldDescriptor (TJ10 k).2.2.1 = some (tyJ10 k) := by decide +kernel
def RJ7 : String := "java/util/Arrays"
def TJ7 : u_T := fun k => match k with
  | _ => ("", "", "", false)
def tyJ7 : Nat → FieldType := fun k => match k with
  | _ => .int
abbrev wsJ70 : List Cond := u_ws RJ7 TJ7 0
theorem nmJ7 : ∀ a, a < 0 → ∀ b, b < 0 → a ≠ b → (TJ7 a).2.1 ≠ (TJ7 b).2.1 := by decide +kernel
theorem tyJ7_ok : ∀ k, k < 0 → parseFieldDescriptor (TJ7 k).2.2.1 = some (tyJ7 k) := by decide +kernel
abbrev cJ7_fill_d0a16 : ByteArray := prog_21_method_101_code
def yJ7_fill_d0a16 : MethodName := ⟨RJ7, "fill", "([JJ)V"⟩
abbrev cJ7_fill_53178 : ByteArray := prog_21_method_103_code
def yJ7_fill_53178 : MethodName := ⟨RJ7, "fill", "([II)V"⟩
def RL : String := "IndexBureauLaw"
abbrev cL_set : ByteArray := method_3_code
def yL_set : MethodName := ⟨RL, "set", "(LIndexBureau;III[J)I"⟩
abbrev cL_get : ByteArray := method_4_code
def yL_get : MethodName := ⟨RL, "get", "(LIndexBureau;II[J)I"⟩
abbrev cL_base : ByteArray := method_5_code
def yL_base : MethodName := ⟨RL, "base", "(LIndexBureau;II)I"⟩
abbrev cL_close : ByteArray := method_6_code
def yL_close : MethodName := ⟨RL, "close", "(LIndexBureau;[J)I"⟩
abbrev cL_law : ByteArray := code
def yL_law : MethodName := ⟨RL, "law", "([I)Z"⟩
abbrev classes : List vw_C := [(RX0, TX0, 9), (RX1, TX1, 9), (RX2, TX2, 2), (RX5, TX5, 4), (RX6, TX6, 3), (RX7, TX7, 2), (RX8, TX8, 14), (RX9, TX9, 25)]
/-- the words that a call carries on -/
def ev_ws : List Cond := lw_tbl.filter goodWord
theorem ev_in_RX0 : ∀ w ∈ u_ws RX0 TX0 9, w ∈ ev_ws := by decide +kernel
theorem ev_in_RX1 : ∀ w ∈ u_ws RX1 TX1 9, w ∈ ev_ws := by decide +kernel
theorem ev_in_RX2 : ∀ w ∈ u_ws RX2 TX2 2, w ∈ ev_ws := by decide +kernel
theorem ev_in_RX5 : ∀ w ∈ u_ws RX5 TX5 4, w ∈ ev_ws := by decide +kernel
theorem ev_in_RX6 : ∀ w ∈ u_ws RX6 TX6 3, w ∈ ev_ws := by decide +kernel
theorem ev_in_RX7 : ∀ w ∈ u_ws RX7 TX7 2, w ∈ ev_ws := by decide +kernel
theorem ev_in_RX8 : ∀ w ∈ u_ws RX8 TX8 14, w ∈ ev_ws := by decide +kernel
theorem ev_in_RX9 : ∀ w ∈ u_ws RX9 TX9 25, w ∈ ev_ws := by decide +kernel
theorem ev_cl {ci : Nat} {C : String} {T : u_T} {N : Nat} (h : classes[ci]? = some (C, T, N)) : (∀ w ∈ u_ws C T N, w ∈ ev_ws) ∧ (∀ a, a < N → ∀ b, b < N → a ≠ b → (T a).2.1 ≠ (T b).2.1) ∧ ∃ tt : Nat → FieldType, ∀ k, k < N → parseFieldDescriptor (T k).2.2.1 = some (tt k) := by
  match ci, h with
  | 0, h => cases h; exact ⟨ev_in_RX0, nmX0, tyX0, tyX0_ok⟩
  | 1, h => cases h; exact ⟨ev_in_RX1, nmX1, tyX1, tyX1_ok⟩
  | 2, h => cases h; exact ⟨ev_in_RX2, nmX2, tyX2, tyX2_ok⟩
  | 3, h => cases h; exact ⟨ev_in_RX5, nmX5, tyX5, tyX5_ok⟩
  | 4, h => cases h; exact ⟨ev_in_RX6, nmX6, tyX6, tyX6_ok⟩
  | 5, h => cases h; exact ⟨ev_in_RX7, nmX7, tyX7, tyX7_ok⟩
  | 6, h => cases h; exact ⟨ev_in_RX8, nmX8, tyX8, tyX8_ok⟩
  | 7, h => cases h; exact ⟨ev_in_RX9, nmX9, tyX9, tyX9_ok⟩
  | _ + 8, h => cases h
end
section
/-! THE LIGHT JUDGEMENT: a method's frame over a heap that is a function from addresses to cells. 'ev_J' is the least set of configurations that is closed under the rules (a rule an instruction); the machine keeps every rule (evw). Written by a program: wip/whole/gen/ev.py -/
/-- a cell: an array (its element type, its length, its contents) or an object (the number of its class, its fields) -/
abbrev ev_C : Type := (FieldType × vp_A) ⊕ (Nat × List Value)
abbrev ev_H : Type := Nat → Option ev_C
def ev_up (h : ev_H) (a : Nat) (c : ev_C) : ev_H := fun q => if q = a then some c else h q
/-- locals -/
abbrev ev_V : Type := Nat → Option Value
def ev_s1 (L : ev_V) (i : Nat) (v : Value) : ev_V := fun j => if j = i then some v else if j + 1 = i then (match L j with | some w => if w.category = 2 then none else some w | none => none) else L j
def ev_s2 (L : ev_V) (i : Nat) (v : Value) : ev_V := fun j => if j = i then some v else if j = i + 1 then none else if j + 1 = i then (match L j with | some w => if w.category = 2 then none else some w | none => none) else L j
def ev_lf (l : List (Nat × Value)) : ev_V := fun i => (l.find? (fun q => q.1 == i)).map (fun q => q.2)
/-- how a method ends -/
abbrev ev_R : Type := Option Value ⊕ Nat
/-- a method: name, bytes, room for locals, what it answers -/
abbrev ev_M : Type := MethodName × ByteArray × Nat × Option FieldType
abbrev ev_S : Type := Nat × ev_V × List Value × ev_H × Nat × Nat
abbrev ev_K : Type := ev_R → ev_H → Prop
abbrev ev_L : Type := ev_M → List Value → ev_H → Nat → Nat → ev_K → Prop
/-- what nobody writes: int arrays by their addresses, static fields that hold a reference -/
abbrev ev_G : Type := (Nat → Option (Nat × (Nat → Int32))) × (String → String → String → Option Nat)
def ev_ok (post : Option Value → ev_H → Prop) : ev_K := fun r h => match r with
  | .inl v => post v h
  | .inr _ => False
def ev_isN : Cond → Bool
  | .methodLinkNest _ _ _ _ => true
  | _ => false
def ev_ns : List Cond := lw_tbl.filter ev_isN
def ev_mok (N : ev_M) (n : Nat) : Prop := N.1.cls ≠ "java/lang/invoke/MethodHandle" ∧ N.1.cls ≠ "java/lang/invoke/VarHandle" ∧ (parseMethodDescriptor N.1.desc).map (fun d => d.parameters.length) = some n
def ev_code (N : ev_M) : Cond := .code N.1 N.2.1 N.2.2.1 N.2.2.2
def ev_cv (own : String) (i : Nat) (N : ev_M) (n : Nat) : Prop := Cond.methodLink own i N.1 ∈ ev_ws ∧ Cond.instanceMethod N.1 ∈ ev_ws ∧ Cond.selects N.1.cls N.1 N.1 ∈ ev_ws ∧ Cond.initialized N.1.cls ∈ ev_ws ∧ ev_code N ∈ ev_ws ∧ ev_mok N n
def ev_cs (own : String) (i : Nat) (N : ev_M) (n : Nat) : Prop := Cond.methodLink own i N.1 ∈ ev_ws ∧ Cond.static N.1 ∈ ev_ws ∧ Cond.initialized N.1.cls ∈ ev_ws ∧ ev_code N ∈ ev_ws ∧ ev_mok N n
def ev_ci (own : String) (i : Nat) (N : ev_M) (n : Nat) : Prop := Cond.methodLink own i N.1 ∈ ev_ws ∧ Cond.instanceMethod N.1 ∈ ev_ws ∧ Cond.initialized N.1.cls ∈ ev_ws ∧ ev_code N ∈ ev_ws ∧ N.1.name = "<init>" ∧ N.2.2.2 = none ∧ ev_mok N n
def ev_cvn (own : String) (i : Nat) (N : ev_M) (n : Nat) : Prop := ∃ host, Cond.methodLinkNest own i N.1 host ∈ ev_ns ∧ Cond.instanceMethod N.1 ∈ ev_ws ∧ Cond.selects N.1.cls N.1 N.1 ∈ ev_ws ∧ Cond.initialized N.1.cls ∈ ev_ws ∧ ev_code N ∈ ev_ws ∧ ev_mok N n
def ev_csn (own : String) (i : Nat) (N : ev_M) (n : Nat) : Prop := ∃ host, Cond.methodLinkNest own i N.1 host ∈ ev_ns ∧ Cond.static N.1 ∈ ev_ws ∧ Cond.initialized N.1.cls ∈ ev_ws ∧ ev_code N ∈ ev_ws ∧ ev_mok N n
def ev_cin (own : String) (i : Nat) (N : ev_M) (n : Nat) : Prop := ∃ host, Cond.methodLinkNest own i N.1 host ∈ ev_ns ∧ Cond.instanceMethod N.1 ∈ ev_ws ∧ Cond.initialized N.1.cls ∈ ev_ws ∧ ev_code N ∈ ev_ws ∧ N.1.name = "<init>" ∧ N.2.2.2 = none ∧ ev_mok N n
def ev_fl (own : String) (i ci k : Nat) : Prop := ∃ C T N, classes[ci]? = some (C, T, N) ∧ k < N ∧ Cond.fieldLink own i (T k).1 (T k).2.1 (T k).2.2.1 ∈ ev_ws
def ev_fp (own : String) (i ci k : Nat) (ty : FieldType) : Prop := ∃ C T N, classes[ci]? = some (C, T, N) ∧ k < N ∧ Cond.fieldLink own i (T k).1 (T k).2.1 (T k).2.2.1 ∈ ev_ws ∧ (T k).2.2.2 = false ∧ parseFieldDescriptor (T k).2.2.1 = some ty
def ev_fF (own : String) (i ci k : Nat) (ty : FieldType) : Prop := ∃ C T N, classes[ci]? = some (C, T, N) ∧ k < N ∧ Cond.fieldLink own i (T k).1 (T k).2.1 (T k).2.2.1 ∈ ev_ws ∧ (T k).2.2.2 = true ∧ parseFieldDescriptor (T k).2.2.1 = some ty ∧ (T k).1 = own
def ev_nw (own : String) (i ci N : Nat) (fs : List Value) : Prop := ∃ C T, classes[ci]? = some (C, T, N) ∧ Cond.classLink own i C ∈ ev_ws ∧ Cond.instantiable C N ∈ ev_ws ∧ Cond.initialized C ∈ ev_ws ∧ ∃ tt : Nat → FieldType, (∀ k, k < N → parseFieldDescriptor (T k).2.2.1 = some (tt k)) ∧ ∀ j, j < N → defaultValue (tt j) = vp_V fs j

def ru_iconst (G : ev_G) (C : ev_L) (w : Nat) (M : ev_M) (K : ev_K) (X : ev_S → Prop) : Prop := ∀ {pc : Nat} {L : ev_V} {st : List Value} {h : ev_H} {c z : Nat} {n : Int} {v : Int32}, (decode M.2.1 pc = .ok (.iconst n, 1)) → (Int32.ofInt n = v) → (X ((pc + 1), L, (.int v :: st), h, c, z)) → X (pc, L, st, h, c, z)
def ru_bipush (G : ev_G) (C : ev_L) (w : Nat) (M : ev_M) (K : ev_K) (X : ev_S → Prop) : Prop := ∀ {pc : Nat} {L : ev_V} {st : List Value} {h : ev_H} {c z : Nat} {n : Int} {v : Int32}, (decode M.2.1 pc = .ok (.bipush n, 2)) → ((Int8.ofInt n).toInt32 = v) → (X ((pc + 2), L, (.int v :: st), h, c, z)) → X (pc, L, st, h, c, z)
def ru_sipush (G : ev_G) (C : ev_L) (w : Nat) (M : ev_M) (K : ev_K) (X : ev_S → Prop) : Prop := ∀ {pc : Nat} {L : ev_V} {st : List Value} {h : ev_H} {c z : Nat} {n : Int} {v : Int32}, (decode M.2.1 pc = .ok (.sipush n, 3)) → ((Int16.ofInt n).toInt32 = v) → (X ((pc + 3), L, (.int v :: st), h, c, z)) → X (pc, L, st, h, c, z)
def ru_lconst (G : ev_G) (C : ev_L) (w : Nat) (M : ev_M) (K : ev_K) (X : ev_S → Prop) : Prop := ∀ {pc : Nat} {L : ev_V} {st : List Value} {h : ev_H} {c z : Nat} {n : Fin 2} {v : Int64}, (decode M.2.1 pc = .ok (.lconst n, 1)) → (Int64.ofNat (n : Nat) = v) → (X ((pc + 1), L, (.long v :: st), h, c, z)) → X (pc, L, st, h, c, z)
def ru_null (G : ev_G) (C : ev_L) (w : Nat) (M : ev_M) (K : ev_K) (X : ev_S → Prop) : Prop := ∀ {pc : Nat} {L : ev_V} {st : List Value} {h : ev_H} {c z : Nat} , (decode M.2.1 pc = .ok (.aconst_null, 1)) → (X ((pc + 1), L, (.null :: st), h, c, z)) → X (pc, L, st, h, c, z)
def ru_ldc (G : ev_G) (C : ev_L) (w : Nat) (M : ev_M) (K : ev_K) (X : ev_S → Prop) : Prop := ∀ {pc : Nat} {L : ev_V} {st : List Value} {h : ev_H} {c z : Nat} {i : Nat} {v : Int32}, (decode M.2.1 pc = .ok (.ldc i, 2)) → (Cond.constant M.1.cls i v ∈ ev_ws) → (X ((pc + 2), L, (.int v :: st), h, c, z)) → X (pc, L, st, h, c, z)
def ru_ldc2 (G : ev_G) (C : ev_L) (w : Nat) (M : ev_M) (K : ev_K) (X : ev_S → Prop) : Prop := ∀ {pc : Nat} {L : ev_V} {st : List Value} {h : ev_H} {c z : Nat} {i : Nat} {v : Int64}, (decode M.2.1 pc = .ok (.ldc2_w i, 3)) → (Cond.constantLong M.1.cls i v ∈ ev_ws) → (X ((pc + 3), L, (.long v :: st), h, c, z)) → X (pc, L, st, h, c, z)
def ru_ldcw (G : ev_G) (C : ev_L) (w : Nat) (M : ev_M) (K : ev_K) (X : ev_S → Prop) : Prop := ∀ {pc : Nat} {L : ev_V} {st : List Value} {h : ev_H} {c z : Nat} {i : Nat} {v : Int32}, (decode M.2.1 pc = .ok (.ldc_w i, 3)) → (Cond.constant M.1.cls i v ∈ ev_ws) → (X ((pc + 3), L, (.int v :: st), h, c, z)) → X (pc, L, st, h, c, z)
def ru_iload_n (G : ev_G) (C : ev_L) (w : Nat) (M : ev_M) (K : ev_K) (X : ev_S → Prop) : Prop := ∀ {pc : Nat} {L : ev_V} {st : List Value} {h : ev_H} {c z : Nat} {j : Fin 4} {x : Int32}, (decode M.2.1 pc = .ok (.iload_n j, 1)) → (L (j : Nat) = some (.int x)) → (X ((pc + 1), L, (.int x :: st), h, c, z)) → X (pc, L, st, h, c, z)
def ru_iload (G : ev_G) (C : ev_L) (w : Nat) (M : ev_M) (K : ev_K) (X : ev_S → Prop) : Prop := ∀ {pc : Nat} {L : ev_V} {st : List Value} {h : ev_H} {c z : Nat} {i : Nat} {x : Int32}, (decode M.2.1 pc = .ok (.iload i, 2)) → (L i = some (.int x)) → (X ((pc + 2), L, (.int x :: st), h, c, z)) → X (pc, L, st, h, c, z)
def ru_istore_n (G : ev_G) (C : ev_L) (w : Nat) (M : ev_M) (K : ev_K) (X : ev_S → Prop) : Prop := ∀ {pc : Nat} {L : ev_V} {st : List Value} {h : ev_H} {c z : Nat} {j : Fin 4} {x : Int32}, (decode M.2.1 pc = .ok (.istore_n j, 1)) → (Nat.blt ((j : Nat)) M.2.2.1 = true) → (X ((pc + 1), (ev_s1 L (j : Nat) (.int x)), st, h, c, z)) → X (pc, L, (.int x :: st), h, c, z)
def ru_istore (G : ev_G) (C : ev_L) (w : Nat) (M : ev_M) (K : ev_K) (X : ev_S → Prop) : Prop := ∀ {pc : Nat} {L : ev_V} {st : List Value} {h : ev_H} {c z : Nat} {i : Nat} {x : Int32}, (decode M.2.1 pc = .ok (.istore i, 2)) → (Nat.blt (i) M.2.2.1 = true) → (X ((pc + 2), (ev_s1 L i (.int x)), st, h, c, z)) → X (pc, L, (.int x :: st), h, c, z)
def ru_lload_n (G : ev_G) (C : ev_L) (w : Nat) (M : ev_M) (K : ev_K) (X : ev_S → Prop) : Prop := ∀ {pc : Nat} {L : ev_V} {st : List Value} {h : ev_H} {c z : Nat} {j : Fin 4} {x : Int64}, (decode M.2.1 pc = .ok (.lload_n j, 1)) → (L (j : Nat) = some (.long x)) → (X ((pc + 1), L, (.long x :: st), h, c, z)) → X (pc, L, st, h, c, z)
def ru_lload (G : ev_G) (C : ev_L) (w : Nat) (M : ev_M) (K : ev_K) (X : ev_S → Prop) : Prop := ∀ {pc : Nat} {L : ev_V} {st : List Value} {h : ev_H} {c z : Nat} {i : Nat} {x : Int64}, (decode M.2.1 pc = .ok (.lload i, 2)) → (L i = some (.long x)) → (X ((pc + 2), L, (.long x :: st), h, c, z)) → X (pc, L, st, h, c, z)
def ru_lstore_n (G : ev_G) (C : ev_L) (w : Nat) (M : ev_M) (K : ev_K) (X : ev_S → Prop) : Prop := ∀ {pc : Nat} {L : ev_V} {st : List Value} {h : ev_H} {c z : Nat} {j : Fin 4} {x : Int64}, (decode M.2.1 pc = .ok (.lstore_n j, 1)) → (Nat.blt ((j : Nat) + 1) M.2.2.1 = true) → (X ((pc + 1), (ev_s2 L (j : Nat) (.long x)), st, h, c, z)) → X (pc, L, (.long x :: st), h, c, z)
def ru_lstore (G : ev_G) (C : ev_L) (w : Nat) (M : ev_M) (K : ev_K) (X : ev_S → Prop) : Prop := ∀ {pc : Nat} {L : ev_V} {st : List Value} {h : ev_H} {c z : Nat} {i : Nat} {x : Int64}, (decode M.2.1 pc = .ok (.lstore i, 2)) → (Nat.blt (i + 1) M.2.2.1 = true) → (X ((pc + 2), (ev_s2 L i (.long x)), st, h, c, z)) → X (pc, L, (.long x :: st), h, c, z)
def ru_aload_n (G : ev_G) (C : ev_L) (w : Nat) (M : ev_M) (K : ev_K) (X : ev_S → Prop) : Prop := ∀ {pc : Nat} {L : ev_V} {st : List Value} {h : ev_H} {c z : Nat} {j : Fin 4} {x : Nat}, (decode M.2.1 pc = .ok (.aload_n j, 1)) → (L (j : Nat) = some (.ref x)) → (X ((pc + 1), L, (.ref x :: st), h, c, z)) → X (pc, L, st, h, c, z)
def ru_aload (G : ev_G) (C : ev_L) (w : Nat) (M : ev_M) (K : ev_K) (X : ev_S → Prop) : Prop := ∀ {pc : Nat} {L : ev_V} {st : List Value} {h : ev_H} {c z : Nat} {i : Nat} {x : Nat}, (decode M.2.1 pc = .ok (.aload i, 2)) → (L i = some (.ref x)) → (X ((pc + 2), L, (.ref x :: st), h, c, z)) → X (pc, L, st, h, c, z)
def ru_astore_n (G : ev_G) (C : ev_L) (w : Nat) (M : ev_M) (K : ev_K) (X : ev_S → Prop) : Prop := ∀ {pc : Nat} {L : ev_V} {st : List Value} {h : ev_H} {c z : Nat} {j : Fin 4} {x : Nat}, (decode M.2.1 pc = .ok (.astore_n j, 1)) → (Nat.blt ((j : Nat)) M.2.2.1 = true) → (X ((pc + 1), (ev_s1 L (j : Nat) (.ref x)), st, h, c, z)) → X (pc, L, (.ref x :: st), h, c, z)
def ru_astore (G : ev_G) (C : ev_L) (w : Nat) (M : ev_M) (K : ev_K) (X : ev_S → Prop) : Prop := ∀ {pc : Nat} {L : ev_V} {st : List Value} {h : ev_H} {c z : Nat} {i : Nat} {x : Nat}, (decode M.2.1 pc = .ok (.astore i, 2)) → (Nat.blt (i) M.2.2.1 = true) → (X ((pc + 2), (ev_s1 L i (.ref x)), st, h, c, z)) → X (pc, L, (.ref x :: st), h, c, z)
def ru_iinc (G : ev_G) (C : ev_L) (w : Nat) (M : ev_M) (K : ev_K) (X : ev_S → Prop) : Prop := ∀ {pc : Nat} {L : ev_V} {st : List Value} {h : ev_H} {c z : Nat} {i : Nat} {n : Int} {x : Int32}, (decode M.2.1 pc = .ok (.iinc i n, 3)) → (L i = some (.int x)) → (Nat.blt i M.2.2.1 = true) → (X ((pc + 3), (ev_s1 L i (.int (x + Int32.ofInt n))), st, h, c, z)) → X (pc, L, st, h, c, z)
def ru_iadd (G : ev_G) (C : ev_L) (w : Nat) (M : ev_M) (K : ev_K) (X : ev_S → Prop) : Prop := ∀ {pc : Nat} {L : ev_V} {st : List Value} {h : ev_H} {c z : Nat} {x y : Int32}, (decode M.2.1 pc = .ok (.iadd, 1)) → (X ((pc + 1), L, (.int (x + y) :: st), h, c, z)) → X (pc, L, (.int y :: .int x :: st), h, c, z)
def ru_isub (G : ev_G) (C : ev_L) (w : Nat) (M : ev_M) (K : ev_K) (X : ev_S → Prop) : Prop := ∀ {pc : Nat} {L : ev_V} {st : List Value} {h : ev_H} {c z : Nat} {x y : Int32}, (decode M.2.1 pc = .ok (.isub, 1)) → (X ((pc + 1), L, (.int (x - y) :: st), h, c, z)) → X (pc, L, (.int y :: .int x :: st), h, c, z)
def ru_imul (G : ev_G) (C : ev_L) (w : Nat) (M : ev_M) (K : ev_K) (X : ev_S → Prop) : Prop := ∀ {pc : Nat} {L : ev_V} {st : List Value} {h : ev_H} {c z : Nat} {x y : Int32}, (decode M.2.1 pc = .ok (.imul, 1)) → (X ((pc + 1), L, (.int (x * y) :: st), h, c, z)) → X (pc, L, (.int y :: .int x :: st), h, c, z)
def ru_iand (G : ev_G) (C : ev_L) (w : Nat) (M : ev_M) (K : ev_K) (X : ev_S → Prop) : Prop := ∀ {pc : Nat} {L : ev_V} {st : List Value} {h : ev_H} {c z : Nat} {x y : Int32}, (decode M.2.1 pc = .ok (.iand, 1)) → (X ((pc + 1), L, (.int (x &&& y) :: st), h, c, z)) → X (pc, L, (.int y :: .int x :: st), h, c, z)
def ru_ior (G : ev_G) (C : ev_L) (w : Nat) (M : ev_M) (K : ev_K) (X : ev_S → Prop) : Prop := ∀ {pc : Nat} {L : ev_V} {st : List Value} {h : ev_H} {c z : Nat} {x y : Int32}, (decode M.2.1 pc = .ok (.ior, 1)) → (X ((pc + 1), L, (.int (x ||| y) :: st), h, c, z)) → X (pc, L, (.int y :: .int x :: st), h, c, z)
def ru_ixor (G : ev_G) (C : ev_L) (w : Nat) (M : ev_M) (K : ev_K) (X : ev_S → Prop) : Prop := ∀ {pc : Nat} {L : ev_V} {st : List Value} {h : ev_H} {c z : Nat} {x y : Int32}, (decode M.2.1 pc = .ok (.ixor, 1)) → (X ((pc + 1), L, (.int (x ^^^ y) :: st), h, c, z)) → X (pc, L, (.int y :: .int x :: st), h, c, z)
def ru_ishl (G : ev_G) (C : ev_L) (w : Nat) (M : ev_M) (K : ev_K) (X : ev_S → Prop) : Prop := ∀ {pc : Nat} {L : ev_V} {st : List Value} {h : ev_H} {c z : Nat} {x y : Int32}, (decode M.2.1 pc = .ok (.ishl, 1)) → (X ((pc + 1), L, (.int (x <<< (y &&& 31)) :: st), h, c, z)) → X (pc, L, (.int y :: .int x :: st), h, c, z)
def ru_ishr (G : ev_G) (C : ev_L) (w : Nat) (M : ev_M) (K : ev_K) (X : ev_S → Prop) : Prop := ∀ {pc : Nat} {L : ev_V} {st : List Value} {h : ev_H} {c z : Nat} {x y : Int32}, (decode M.2.1 pc = .ok (.ishr, 1)) → (X ((pc + 1), L, (.int (x >>> (y &&& 31)) :: st), h, c, z)) → X (pc, L, (.int y :: .int x :: st), h, c, z)
def ru_iushr (G : ev_G) (C : ev_L) (w : Nat) (M : ev_M) (K : ev_K) (X : ev_S → Prop) : Prop := ∀ {pc : Nat} {L : ev_V} {st : List Value} {h : ev_H} {c z : Nat} {x y : Int32}, (decode M.2.1 pc = .ok (.iushr, 1)) → (X ((pc + 1), L, (.int ((x.toUInt32 >>> (y.toUInt32 &&& Int32.toUInt32 31)).toInt32) :: st), h, c, z)) → X (pc, L, (.int y :: .int x :: st), h, c, z)
def ru_idiv (G : ev_G) (C : ev_L) (w : Nat) (M : ev_M) (K : ev_K) (X : ev_S → Prop) : Prop := ∀ {pc : Nat} {L : ev_V} {st : List Value} {h : ev_H} {c z : Nat} {x y : Int32}, (decode M.2.1 pc = .ok (.idiv, 1)) → (¬ y = 0) → (X ((pc + 1), L, (.int (x / y) :: st), h, c, z)) → X (pc, L, (.int y :: .int x :: st), h, c, z)
def ru_irem (G : ev_G) (C : ev_L) (w : Nat) (M : ev_M) (K : ev_K) (X : ev_S → Prop) : Prop := ∀ {pc : Nat} {L : ev_V} {st : List Value} {h : ev_H} {c z : Nat} {x y : Int32}, (decode M.2.1 pc = .ok (.irem, 1)) → (¬ y = 0) → (X ((pc + 1), L, (.int (x - x / y * y) :: st), h, c, z)) → X (pc, L, (.int y :: .int x :: st), h, c, z)
def ru_ineg (G : ev_G) (C : ev_L) (w : Nat) (M : ev_M) (K : ev_K) (X : ev_S → Prop) : Prop := ∀ {pc : Nat} {L : ev_V} {st : List Value} {h : ev_H} {c z : Nat} {x : Int32}, (decode M.2.1 pc = .ok (.ineg, 1)) → (X ((pc + 1), L, (.int (-x) :: st), h, c, z)) → X (pc, L, (.int x :: st), h, c, z)
def ru_ladd (G : ev_G) (C : ev_L) (w : Nat) (M : ev_M) (K : ev_K) (X : ev_S → Prop) : Prop := ∀ {pc : Nat} {L : ev_V} {st : List Value} {h : ev_H} {c z : Nat} {x y : Int64}, (decode M.2.1 pc = .ok (.ladd, 1)) → (X ((pc + 1), L, (.long (x + y) :: st), h, c, z)) → X (pc, L, (.long y :: .long x :: st), h, c, z)
def ru_lsub (G : ev_G) (C : ev_L) (w : Nat) (M : ev_M) (K : ev_K) (X : ev_S → Prop) : Prop := ∀ {pc : Nat} {L : ev_V} {st : List Value} {h : ev_H} {c z : Nat} {x y : Int64}, (decode M.2.1 pc = .ok (.lsub, 1)) → (X ((pc + 1), L, (.long (x - y) :: st), h, c, z)) → X (pc, L, (.long y :: .long x :: st), h, c, z)
def ru_lmul (G : ev_G) (C : ev_L) (w : Nat) (M : ev_M) (K : ev_K) (X : ev_S → Prop) : Prop := ∀ {pc : Nat} {L : ev_V} {st : List Value} {h : ev_H} {c z : Nat} {x y : Int64}, (decode M.2.1 pc = .ok (.lmul, 1)) → (X ((pc + 1), L, (.long (x * y) :: st), h, c, z)) → X (pc, L, (.long y :: .long x :: st), h, c, z)
def ru_land (G : ev_G) (C : ev_L) (w : Nat) (M : ev_M) (K : ev_K) (X : ev_S → Prop) : Prop := ∀ {pc : Nat} {L : ev_V} {st : List Value} {h : ev_H} {c z : Nat} {x y : Int64}, (decode M.2.1 pc = .ok (.land, 1)) → (X ((pc + 1), L, (.long (x &&& y) :: st), h, c, z)) → X (pc, L, (.long y :: .long x :: st), h, c, z)
def ru_lor (G : ev_G) (C : ev_L) (w : Nat) (M : ev_M) (K : ev_K) (X : ev_S → Prop) : Prop := ∀ {pc : Nat} {L : ev_V} {st : List Value} {h : ev_H} {c z : Nat} {x y : Int64}, (decode M.2.1 pc = .ok (.lor, 1)) → (X ((pc + 1), L, (.long (x ||| y) :: st), h, c, z)) → X (pc, L, (.long y :: .long x :: st), h, c, z)
def ru_lxor (G : ev_G) (C : ev_L) (w : Nat) (M : ev_M) (K : ev_K) (X : ev_S → Prop) : Prop := ∀ {pc : Nat} {L : ev_V} {st : List Value} {h : ev_H} {c z : Nat} {x y : Int64}, (decode M.2.1 pc = .ok (.lxor, 1)) → (X ((pc + 1), L, (.long (x ^^^ y) :: st), h, c, z)) → X (pc, L, (.long y :: .long x :: st), h, c, z)
def ru_ldiv (G : ev_G) (C : ev_L) (w : Nat) (M : ev_M) (K : ev_K) (X : ev_S → Prop) : Prop := ∀ {pc : Nat} {L : ev_V} {st : List Value} {h : ev_H} {c z : Nat} {x y : Int64}, (decode M.2.1 pc = .ok (.ldiv, 1)) → (¬ y = 0) → (X ((pc + 1), L, (.long (x / y) :: st), h, c, z)) → X (pc, L, (.long y :: .long x :: st), h, c, z)
def ru_lrem (G : ev_G) (C : ev_L) (w : Nat) (M : ev_M) (K : ev_K) (X : ev_S → Prop) : Prop := ∀ {pc : Nat} {L : ev_V} {st : List Value} {h : ev_H} {c z : Nat} {x y : Int64}, (decode M.2.1 pc = .ok (.lrem, 1)) → (¬ y = 0) → (X ((pc + 1), L, (.long (x - x / y * y) :: st), h, c, z)) → X (pc, L, (.long y :: .long x :: st), h, c, z)
def ru_lshl (G : ev_G) (C : ev_L) (w : Nat) (M : ev_M) (K : ev_K) (X : ev_S → Prop) : Prop := ∀ {pc : Nat} {L : ev_V} {st : List Value} {h : ev_H} {c z : Nat} {x : Int64} {y : Int32}, (decode M.2.1 pc = .ok (.lshl, 1)) → (X ((pc + 1), L, (.long (x <<< (y.toInt64 &&& 63)) :: st), h, c, z)) → X (pc, L, (.int y :: .long x :: st), h, c, z)
def ru_lshr (G : ev_G) (C : ev_L) (w : Nat) (M : ev_M) (K : ev_K) (X : ev_S → Prop) : Prop := ∀ {pc : Nat} {L : ev_V} {st : List Value} {h : ev_H} {c z : Nat} {x : Int64} {y : Int32}, (decode M.2.1 pc = .ok (.lshr, 1)) → (X ((pc + 1), L, (.long (x >>> (y.toInt64 &&& 63)) :: st), h, c, z)) → X (pc, L, (.int y :: .long x :: st), h, c, z)
def ru_lushr (G : ev_G) (C : ev_L) (w : Nat) (M : ev_M) (K : ev_K) (X : ev_S → Prop) : Prop := ∀ {pc : Nat} {L : ev_V} {st : List Value} {h : ev_H} {c z : Nat} {x : Int64} {y : Int32}, (decode M.2.1 pc = .ok (.lushr, 1)) → (X ((pc + 1), L, (.long ((x.toUInt64 >>> (y.toInt64.toUInt64 &&& Int64.toUInt64 63)).toInt64) :: st), h, c, z)) → X (pc, L, (.int y :: .long x :: st), h, c, z)
def ru_lneg (G : ev_G) (C : ev_L) (w : Nat) (M : ev_M) (K : ev_K) (X : ev_S → Prop) : Prop := ∀ {pc : Nat} {L : ev_V} {st : List Value} {h : ev_H} {c z : Nat} {x : Int64}, (decode M.2.1 pc = .ok (.lneg, 1)) → (X ((pc + 1), L, (.long (-x) :: st), h, c, z)) → X (pc, L, (.long x :: st), h, c, z)
def ru_i2l (G : ev_G) (C : ev_L) (w : Nat) (M : ev_M) (K : ev_K) (X : ev_S → Prop) : Prop := ∀ {pc : Nat} {L : ev_V} {st : List Value} {h : ev_H} {c z : Nat} {x : Int32}, (decode M.2.1 pc = .ok (.i2l, 1)) → (X ((pc + 1), L, (.long x.toInt64 :: st), h, c, z)) → X (pc, L, (.int x :: st), h, c, z)
def ru_l2i (G : ev_G) (C : ev_L) (w : Nat) (M : ev_M) (K : ev_K) (X : ev_S → Prop) : Prop := ∀ {pc : Nat} {L : ev_V} {st : List Value} {h : ev_H} {c z : Nat} {x : Int64}, (decode M.2.1 pc = .ok (.l2i, 1)) → (X ((pc + 1), L, (.int x.toInt32 :: st), h, c, z)) → X (pc, L, (.long x :: st), h, c, z)
def ru_i2c (G : ev_G) (C : ev_L) (w : Nat) (M : ev_M) (K : ev_K) (X : ev_S → Prop) : Prop := ∀ {pc : Nat} {L : ev_V} {st : List Value} {h : ev_H} {c z : Nat} {x : Int32}, (decode M.2.1 pc = .ok (.i2c, 1)) → (X ((pc + 1), L, (.int (x.toUInt32 % 65536).toInt32 :: st), h, c, z)) → X (pc, L, (.int x :: st), h, c, z)
def ru_i2b (G : ev_G) (C : ev_L) (w : Nat) (M : ev_M) (K : ev_K) (X : ev_S → Prop) : Prop := ∀ {pc : Nat} {L : ev_V} {st : List Value} {h : ev_H} {c z : Nat} {x : Int32}, (decode M.2.1 pc = .ok (.i2b, 1)) → (X ((pc + 1), L, (.int x.toInt8.toInt32 :: st), h, c, z)) → X (pc, L, (.int x :: st), h, c, z)
def ru_lcmp (G : ev_G) (C : ev_L) (w : Nat) (M : ev_M) (K : ev_K) (X : ev_S → Prop) : Prop := ∀ {pc : Nat} {L : ev_V} {st : List Value} {h : ev_H} {c z : Nat} {x y : Int64}, (decode M.2.1 pc = .ok (.lcmp, 1)) → (X ((pc + 1), L, (.int (lg_cmp x y) :: st), h, c, z)) → X (pc, L, (.long y :: .long x :: st), h, c, z)
def ru_dup (G : ev_G) (C : ev_L) (w : Nat) (M : ev_M) (K : ev_K) (X : ev_S → Prop) : Prop := ∀ {pc : Nat} {L : ev_V} {st : List Value} {h : ev_H} {c z : Nat} {va : Value}, (decode M.2.1 pc = .ok (.dup, 1)) → (va.category = 1) → (X ((pc + 1), L, (va :: va :: st), h, c, z)) → X (pc, L, (va :: st), h, c, z)
def ru_pop (G : ev_G) (C : ev_L) (w : Nat) (M : ev_M) (K : ev_K) (X : ev_S → Prop) : Prop := ∀ {pc : Nat} {L : ev_V} {st : List Value} {h : ev_H} {c z : Nat} {va : Value}, (decode M.2.1 pc = .ok (.pop, 1)) → (va.category = 1) → (X ((pc + 1), L, st, h, c, z)) → X (pc, L, (va :: st), h, c, z)
def ru_dup_x1 (G : ev_G) (C : ev_L) (w : Nat) (M : ev_M) (K : ev_K) (X : ev_S → Prop) : Prop := ∀ {pc : Nat} {L : ev_V} {st : List Value} {h : ev_H} {c z : Nat} {va vb : Value}, (decode M.2.1 pc = .ok (.dup_x1, 1)) → (va.category = 1) → (vb.category = 1) → (X ((pc + 1), L, (va :: vb :: va :: st), h, c, z)) → X (pc, L, (va :: vb :: st), h, c, z)
def ru_dup_x2 (G : ev_G) (C : ev_L) (w : Nat) (M : ev_M) (K : ev_K) (X : ev_S → Prop) : Prop := ∀ {pc : Nat} {L : ev_V} {st : List Value} {h : ev_H} {c z : Nat} {va vb vd : Value}, (decode M.2.1 pc = .ok (.dup_x2, 1)) → (va.category = 1) → (vb.category = 1) → (vd.category = 1) → (X ((pc + 1), L, (va :: vb :: vd :: va :: st), h, c, z)) → X (pc, L, (va :: vb :: vd :: st), h, c, z)
def ru_dup2_11 (G : ev_G) (C : ev_L) (w : Nat) (M : ev_M) (K : ev_K) (X : ev_S → Prop) : Prop := ∀ {pc : Nat} {L : ev_V} {st : List Value} {h : ev_H} {c z : Nat} {va vb : Value}, (decode M.2.1 pc = .ok (.dup2, 1)) → (va.category = 1) → (vb.category = 1) → (X ((pc + 1), L, (va :: vb :: va :: vb :: st), h, c, z)) → X (pc, L, (va :: vb :: st), h, c, z)
def ru_dup2_2 (G : ev_G) (C : ev_L) (w : Nat) (M : ev_M) (K : ev_K) (X : ev_S → Prop) : Prop := ∀ {pc : Nat} {L : ev_V} {st : List Value} {h : ev_H} {c z : Nat} {va : Value}, (decode M.2.1 pc = .ok (.dup2, 1)) → (va.category = 2) → (X ((pc + 1), L, (va :: va :: st), h, c, z)) → X (pc, L, (va :: st), h, c, z)
def ru_pop2_2 (G : ev_G) (C : ev_L) (w : Nat) (M : ev_M) (K : ev_K) (X : ev_S → Prop) : Prop := ∀ {pc : Nat} {L : ev_V} {st : List Value} {h : ev_H} {c z : Nat} {va : Value}, (decode M.2.1 pc = .ok (.pop2, 1)) → (va.category = 2) → (X ((pc + 1), L, st, h, c, z)) → X (pc, L, (va :: st), h, c, z)
def ru_dup2_x1_2 (G : ev_G) (C : ev_L) (w : Nat) (M : ev_M) (K : ev_K) (X : ev_S → Prop) : Prop := ∀ {pc : Nat} {L : ev_V} {st : List Value} {h : ev_H} {c z : Nat} {va vb : Value}, (decode M.2.1 pc = .ok (.dup2_x1, 1)) → (va.category = 2) → (vb.category = 1) → (X ((pc + 1), L, (va :: vb :: va :: st), h, c, z)) → X (pc, L, (va :: vb :: st), h, c, z)
def ru_dup2_x2_2 (G : ev_G) (C : ev_L) (w : Nat) (M : ev_M) (K : ev_K) (X : ev_S → Prop) : Prop := ∀ {pc : Nat} {L : ev_V} {st : List Value} {h : ev_H} {c z : Nat} {va vb vd : Value}, (decode M.2.1 pc = .ok (.dup2_x2, 1)) → (va.category = 2) → (vb.category = 1) → (vd.category = 1) → (X ((pc + 1), L, (va :: vb :: vd :: va :: st), h, c, z)) → X (pc, L, (va :: vb :: vd :: st), h, c, z)
def ru_if_eq (G : ev_G) (C : ev_L) (w : Nat) (M : ev_M) (K : ev_K) (X : ev_S → Prop) : Prop := ∀ {pc : Nat} {L : ev_V} {st : List Value} {h : ev_H} {c z : Nat} {off : Int} {tgt : Nat} {x : Int32}, (decode M.2.1 pc = .ok (.ifCond .eq off, 3)) → ((pc : Int) + off = (tgt : Int)) → ((x = 0 → X (tgt, L, st, h, c, z))) → ((¬ x = 0 → X ((pc + 3), L, st, h, c, z))) → X (pc, L, (.int x :: st), h, c, z)
def ru_icmp_eq (G : ev_G) (C : ev_L) (w : Nat) (M : ev_M) (K : ev_K) (X : ev_S → Prop) : Prop := ∀ {pc : Nat} {L : ev_V} {st : List Value} {h : ev_H} {c z : Nat} {off : Int} {tgt : Nat} {x y : Int32}, (decode M.2.1 pc = .ok (.if_icmp .eq off, 3)) → ((pc : Int) + off = (tgt : Int)) → ((x = y → X (tgt, L, st, h, c, z))) → ((¬ x = y → X ((pc + 3), L, st, h, c, z))) → X (pc, L, (.int y :: .int x :: st), h, c, z)
def ru_if_ne (G : ev_G) (C : ev_L) (w : Nat) (M : ev_M) (K : ev_K) (X : ev_S → Prop) : Prop := ∀ {pc : Nat} {L : ev_V} {st : List Value} {h : ev_H} {c z : Nat} {off : Int} {tgt : Nat} {x : Int32}, (decode M.2.1 pc = .ok (.ifCond .ne off, 3)) → ((pc : Int) + off = (tgt : Int)) → ((¬ x = 0 → X (tgt, L, st, h, c, z))) → ((x = 0 → X ((pc + 3), L, st, h, c, z))) → X (pc, L, (.int x :: st), h, c, z)
def ru_icmp_ne (G : ev_G) (C : ev_L) (w : Nat) (M : ev_M) (K : ev_K) (X : ev_S → Prop) : Prop := ∀ {pc : Nat} {L : ev_V} {st : List Value} {h : ev_H} {c z : Nat} {off : Int} {tgt : Nat} {x y : Int32}, (decode M.2.1 pc = .ok (.if_icmp .ne off, 3)) → ((pc : Int) + off = (tgt : Int)) → ((¬ x = y → X (tgt, L, st, h, c, z))) → ((x = y → X ((pc + 3), L, st, h, c, z))) → X (pc, L, (.int y :: .int x :: st), h, c, z)
def ru_if_lt (G : ev_G) (C : ev_L) (w : Nat) (M : ev_M) (K : ev_K) (X : ev_S → Prop) : Prop := ∀ {pc : Nat} {L : ev_V} {st : List Value} {h : ev_H} {c z : Nat} {off : Int} {tgt : Nat} {x : Int32}, (decode M.2.1 pc = .ok (.ifCond .lt off, 3)) → ((pc : Int) + off = (tgt : Int)) → ((x < 0 → X (tgt, L, st, h, c, z))) → ((¬ x < 0 → X ((pc + 3), L, st, h, c, z))) → X (pc, L, (.int x :: st), h, c, z)
def ru_icmp_lt (G : ev_G) (C : ev_L) (w : Nat) (M : ev_M) (K : ev_K) (X : ev_S → Prop) : Prop := ∀ {pc : Nat} {L : ev_V} {st : List Value} {h : ev_H} {c z : Nat} {off : Int} {tgt : Nat} {x y : Int32}, (decode M.2.1 pc = .ok (.if_icmp .lt off, 3)) → ((pc : Int) + off = (tgt : Int)) → ((x < y → X (tgt, L, st, h, c, z))) → ((¬ x < y → X ((pc + 3), L, st, h, c, z))) → X (pc, L, (.int y :: .int x :: st), h, c, z)
def ru_if_ge (G : ev_G) (C : ev_L) (w : Nat) (M : ev_M) (K : ev_K) (X : ev_S → Prop) : Prop := ∀ {pc : Nat} {L : ev_V} {st : List Value} {h : ev_H} {c z : Nat} {off : Int} {tgt : Nat} {x : Int32}, (decode M.2.1 pc = .ok (.ifCond .ge off, 3)) → ((pc : Int) + off = (tgt : Int)) → ((0 ≤ x → X (tgt, L, st, h, c, z))) → ((¬ 0 ≤ x → X ((pc + 3), L, st, h, c, z))) → X (pc, L, (.int x :: st), h, c, z)
def ru_icmp_ge (G : ev_G) (C : ev_L) (w : Nat) (M : ev_M) (K : ev_K) (X : ev_S → Prop) : Prop := ∀ {pc : Nat} {L : ev_V} {st : List Value} {h : ev_H} {c z : Nat} {off : Int} {tgt : Nat} {x y : Int32}, (decode M.2.1 pc = .ok (.if_icmp .ge off, 3)) → ((pc : Int) + off = (tgt : Int)) → ((y ≤ x → X (tgt, L, st, h, c, z))) → ((¬ y ≤ x → X ((pc + 3), L, st, h, c, z))) → X (pc, L, (.int y :: .int x :: st), h, c, z)
def ru_if_gt (G : ev_G) (C : ev_L) (w : Nat) (M : ev_M) (K : ev_K) (X : ev_S → Prop) : Prop := ∀ {pc : Nat} {L : ev_V} {st : List Value} {h : ev_H} {c z : Nat} {off : Int} {tgt : Nat} {x : Int32}, (decode M.2.1 pc = .ok (.ifCond .gt off, 3)) → ((pc : Int) + off = (tgt : Int)) → ((0 < x → X (tgt, L, st, h, c, z))) → ((¬ 0 < x → X ((pc + 3), L, st, h, c, z))) → X (pc, L, (.int x :: st), h, c, z)
def ru_icmp_gt (G : ev_G) (C : ev_L) (w : Nat) (M : ev_M) (K : ev_K) (X : ev_S → Prop) : Prop := ∀ {pc : Nat} {L : ev_V} {st : List Value} {h : ev_H} {c z : Nat} {off : Int} {tgt : Nat} {x y : Int32}, (decode M.2.1 pc = .ok (.if_icmp .gt off, 3)) → ((pc : Int) + off = (tgt : Int)) → ((y < x → X (tgt, L, st, h, c, z))) → ((¬ y < x → X ((pc + 3), L, st, h, c, z))) → X (pc, L, (.int y :: .int x :: st), h, c, z)
def ru_if_le (G : ev_G) (C : ev_L) (w : Nat) (M : ev_M) (K : ev_K) (X : ev_S → Prop) : Prop := ∀ {pc : Nat} {L : ev_V} {st : List Value} {h : ev_H} {c z : Nat} {off : Int} {tgt : Nat} {x : Int32}, (decode M.2.1 pc = .ok (.ifCond .le off, 3)) → ((pc : Int) + off = (tgt : Int)) → ((x ≤ 0 → X (tgt, L, st, h, c, z))) → ((¬ x ≤ 0 → X ((pc + 3), L, st, h, c, z))) → X (pc, L, (.int x :: st), h, c, z)
def ru_icmp_le (G : ev_G) (C : ev_L) (w : Nat) (M : ev_M) (K : ev_K) (X : ev_S → Prop) : Prop := ∀ {pc : Nat} {L : ev_V} {st : List Value} {h : ev_H} {c z : Nat} {off : Int} {tgt : Nat} {x y : Int32}, (decode M.2.1 pc = .ok (.if_icmp .le off, 3)) → ((pc : Int) + off = (tgt : Int)) → ((x ≤ y → X (tgt, L, st, h, c, z))) → ((¬ x ≤ y → X ((pc + 3), L, st, h, c, z))) → X (pc, L, (.int y :: .int x :: st), h, c, z)
def ru_goto (G : ev_G) (C : ev_L) (w : Nat) (M : ev_M) (K : ev_K) (X : ev_S → Prop) : Prop := ∀ {pc : Nat} {L : ev_V} {st : List Value} {h : ev_H} {c z : Nat} {off : Int} {tgt : Nat}, (decode M.2.1 pc = .ok (.goto off, 3)) → ((pc : Int) + off = (tgt : Int)) → (X (tgt, L, st, h, c, z)) → X (pc, L, st, h, c, z)
def ru_tableIn (G : ev_G) (C : ev_L) (w : Nat) (M : ev_M) (K : ev_K) (X : ev_S → Prop) : Prop := ∀ {pc : Nat} {L : ev_V} {st : List Value} {h : ev_H} {c z : Nat} {dflt lo hi : Int} {offs : Array Int} {len : Nat} {x : Int32} {off : Int} {tgt : Nat}, (decode M.2.1 pc = .ok (.tableswitch dflt lo hi offs, len)) → (¬ x.toInt < lo) → (¬ hi < x.toInt) → (offs[(x.toInt - lo).toNat]? = some off) → ((pc : Int) + off = (tgt : Int)) → (X (tgt, L, st, h, c, z)) → X (pc, L, (.int x :: st), h, c, z)
def ru_tableOut (G : ev_G) (C : ev_L) (w : Nat) (M : ev_M) (K : ev_K) (X : ev_S → Prop) : Prop := ∀ {pc : Nat} {L : ev_V} {st : List Value} {h : ev_H} {c z : Nat} {dflt lo hi : Int} {offs : Array Int} {len : Nat} {x : Int32} {tgt : Nat}, (decode M.2.1 pc = .ok (.tableswitch dflt lo hi offs, len)) → (x.toInt < lo ∨ hi < x.toInt) → ((pc : Int) + dflt = (tgt : Int)) → (X (tgt, L, st, h, c, z)) → X (pc, L, (.int x :: st), h, c, z)
def ru_iald (G : ev_G) (C : ev_L) (w : Nat) (M : ev_M) (K : ev_K) (X : ev_S → Prop) : Prop := ∀ {pc : Nat} {L : ev_V} {st : List Value} {h : ev_H} {c z : Nat} {a n : Nat} {f : Nat → Int32} {i : Int32}, (decode M.2.1 pc = .ok (.iaload, 1)) → (h a = some (.inl (.int, n, .inl f))) → (vp_in i n) → (X ((pc + 1), L, (.int (f i.toNatClampNeg) :: st), h, c, z)) → X (pc, L, (.int i :: .ref a :: st), h, c, z)
def ru_cald (G : ev_G) (C : ev_L) (w : Nat) (M : ev_M) (K : ev_K) (X : ev_S → Prop) : Prop := ∀ {pc : Nat} {L : ev_V} {st : List Value} {h : ev_H} {c z : Nat} {a n : Nat} {f : Nat → Int32} {i : Int32}, (decode M.2.1 pc = .ok (.caload, 1)) → (h a = some (.inl (.char, n, .inl f))) → (vp_in i n) → (X ((pc + 1), L, (.int (f i.toNatClampNeg) :: st), h, c, z)) → X (pc, L, (.int i :: .ref a :: st), h, c, z)
def ru_bald (G : ev_G) (C : ev_L) (w : Nat) (M : ev_M) (K : ev_K) (X : ev_S → Prop) : Prop := ∀ {pc : Nat} {L : ev_V} {st : List Value} {h : ev_H} {c z : Nat} {a n : Nat} {f : Nat → Int32} {i : Int32}, (decode M.2.1 pc = .ok (.baload, 1)) → (h a = some (.inl (.byte, n, .inl f))) → (vp_in i n) → (X ((pc + 1), L, (.int (f i.toNatClampNeg) :: st), h, c, z)) → X (pc, L, (.int i :: .ref a :: st), h, c, z)
def ru_zald (G : ev_G) (C : ev_L) (w : Nat) (M : ev_M) (K : ev_K) (X : ev_S → Prop) : Prop := ∀ {pc : Nat} {L : ev_V} {st : List Value} {h : ev_H} {c z : Nat} {a n : Nat} {f : Nat → Int32} {i : Int32}, (decode M.2.1 pc = .ok (.baload, 1)) → (h a = some (.inl (.boolean, n, .inl f))) → (vp_in i n) → (X ((pc + 1), L, (.int (f i.toNatClampNeg) :: st), h, c, z)) → X (pc, L, (.int i :: .ref a :: st), h, c, z)
def ru_lald (G : ev_G) (C : ev_L) (w : Nat) (M : ev_M) (K : ev_K) (X : ev_S → Prop) : Prop := ∀ {pc : Nat} {L : ev_V} {st : List Value} {h : ev_H} {c z : Nat} {a n : Nat} {f : Nat → Int64} {i : Int32}, (decode M.2.1 pc = .ok (.laload, 1)) → (h a = some (.inl (.long, n, .inr (.inl f)))) → (vp_in i n) → (X ((pc + 1), L, (.long (f i.toNatClampNeg) :: st), h, c, z)) → X (pc, L, (.int i :: .ref a :: st), h, c, z)
def ru_aald (G : ev_G) (C : ev_L) (w : Nat) (M : ev_M) (K : ev_K) (X : ev_S → Prop) : Prop := ∀ {pc : Nat} {L : ev_V} {st : List Value} {h : ev_H} {c z : Nat} {a n q : Nat} {f : Nat → Option Nat} {i : Int32}, (decode M.2.1 pc = .ok (.aaload, 1)) → (h a = some (.inl (.array .int, n, .inr (.inr (.inr (.inr f)))))) → (vp_in i n) → (f i.toNatClampNeg = some q) → (X ((pc + 1), L, (.ref q :: st), h, c, z)) → X (pc, L, (.int i :: .ref a :: st), h, c, z)
def ru_iast (G : ev_G) (C : ev_L) (w : Nat) (M : ev_M) (K : ev_K) (X : ev_S → Prop) : Prop := ∀ {pc : Nat} {L : ev_V} {st : List Value} {h : ev_H} {c z : Nat} {a n : Nat} {f : Nat → Int32} {i x : Int32}, (decode M.2.1 pc = .ok (.iastore, 1)) → (h a = some (.inl (.int, n, .inl f))) → (vp_in i n) → (X ((pc + 1), L, st, (ev_up h a (.inl (.int, n, .inl (upd f i.toNatClampNeg x)))), c, z)) → X (pc, L, (.int x :: .int i :: .ref a :: st), h, c, z)
def ru_cast (G : ev_G) (C : ev_L) (w : Nat) (M : ev_M) (K : ev_K) (X : ev_S → Prop) : Prop := ∀ {pc : Nat} {L : ev_V} {st : List Value} {h : ev_H} {c z : Nat} {a n : Nat} {f : Nat → Int32} {i x : Int32}, (decode M.2.1 pc = .ok (.castore, 1)) → (h a = some (.inl (.char, n, .inl f))) → (vp_in i n) → (X ((pc + 1), L, st, (ev_up h a (.inl (.char, n, .inl (upd f i.toNatClampNeg (vp_nar .char x))))), c, z)) → X (pc, L, (.int x :: .int i :: .ref a :: st), h, c, z)
def ru_zast (G : ev_G) (C : ev_L) (w : Nat) (M : ev_M) (K : ev_K) (X : ev_S → Prop) : Prop := ∀ {pc : Nat} {L : ev_V} {st : List Value} {h : ev_H} {c z : Nat} {a n : Nat} {f : Nat → Int32} {i x : Int32}, (decode M.2.1 pc = .ok (.bastore, 1)) → (h a = some (.inl (.boolean, n, .inl f))) → (vp_in i n) → (X ((pc + 1), L, st, (ev_up h a (.inl (.boolean, n, .inl (upd f i.toNatClampNeg (vp_nar .boolean x))))), c, z)) → X (pc, L, (.int x :: .int i :: .ref a :: st), h, c, z)
def ru_bast (G : ev_G) (C : ev_L) (w : Nat) (M : ev_M) (K : ev_K) (X : ev_S → Prop) : Prop := ∀ {pc : Nat} {L : ev_V} {st : List Value} {h : ev_H} {c z : Nat} {a n : Nat} {f : Nat → Int32} {i x : Int32}, (decode M.2.1 pc = .ok (.bastore, 1)) → (h a = some (.inl (.byte, n, .inl f))) → (vp_in i n) → (X ((pc + 1), L, st, (ev_up h a (.inl (.byte, n, .inl (upd f i.toNatClampNeg (vp_nar .byte x))))), c, z)) → X (pc, L, (.int x :: .int i :: .ref a :: st), h, c, z)
def ru_last (G : ev_G) (C : ev_L) (w : Nat) (M : ev_M) (K : ev_K) (X : ev_S → Prop) : Prop := ∀ {pc : Nat} {L : ev_V} {st : List Value} {h : ev_H} {c z : Nat} {a n : Nat} {f : Nat → Int64} {i : Int32} {x : Int64}, (decode M.2.1 pc = .ok (.lastore, 1)) → (h a = some (.inl (.long, n, .inr (.inl f)))) → (vp_in i n) → (X ((pc + 1), L, st, (ev_up h a (.inl (.long, n, .inr (.inl (vp_updL f i.toNatClampNeg x))))), c, z)) → X (pc, L, (.long x :: .int i :: .ref a :: st), h, c, z)
def ru_alen (G : ev_G) (C : ev_L) (w : Nat) (M : ev_M) (K : ev_K) (X : ev_S → Prop) : Prop := ∀ {pc : Nat} {L : ev_V} {st : List Value} {h : ev_H} {c z : Nat} {a : Nat} {ft : FieldType} {x : vp_A}, (decode M.2.1 pc = .ok (.arraylength, 1)) → (h a = some (.inl (ft, x))) → (X ((pc + 1), L, (.int (nI x.1) :: st), h, c, z)) → X (pc, L, (.ref a :: st), h, c, z)
def ru_riald (G : ev_G) (C : ev_L) (w : Nat) (M : ev_M) (K : ev_K) (X : ev_S → Prop) : Prop := ∀ {pc : Nat} {L : ev_V} {st : List Value} {h : ev_H} {c z : Nat} {a n : Nat} {f : Nat → Int32} {i : Int32}, (decode M.2.1 pc = .ok (.iaload, 1)) → (G.1 a = some (n, f)) → (vp_in i n) → (X ((pc + 1), L, (.int (f i.toNatClampNeg) :: st), h, c, z)) → X (pc, L, (.int i :: .ref a :: st), h, c, z)
def ru_ralen (G : ev_G) (C : ev_L) (w : Nat) (M : ev_M) (K : ev_K) (X : ev_S → Prop) : Prop := ∀ {pc : Nat} {L : ev_V} {st : List Value} {h : ev_H} {c z : Nat} {a n : Nat} {f : Nat → Int32}, (decode M.2.1 pc = .ok (.arraylength, 1)) → (G.1 a = some (n, f)) → (X ((pc + 1), L, (.int (nI n) :: st), h, c, z)) → X (pc, L, (.ref a :: st), h, c, z)
def ru_gets (G : ev_G) (C : ev_L) (w : Nat) (M : ev_M) (K : ev_K) (X : ev_S → Prop) : Prop := ∀ {pc : Nat} {L : ev_V} {st : List Value} {h : ev_H} {c z : Nat} {i : Nat} {Cn n d : String} {a : Nat}, (decode M.2.1 pc = .ok (.getstatic i, 3)) → (Cond.fieldLink M.1.cls i Cn n d ∈ ev_ws) → (G.2 Cn n d = some a) → (X ((pc + 3), L, (.ref a :: st), h, c, z)) → X (pc, L, st, h, c, z)
def ru_getf (G : ev_G) (C : ev_L) (w : Nat) (M : ev_M) (K : ev_K) (X : ev_S → Prop) : Prop := ∀ {pc : Nat} {L : ev_V} {st : List Value} {h : ev_H} {c z : Nat} {i a ci kf : Nat} {fs : List Value} {v : Value}, (decode M.2.1 pc = .ok (.getfield i, 3)) → (ev_fl M.1.cls i ci kf) → (h a = some (.inr (ci, fs))) → (fs[kf]? = some v) → (X ((pc + 3), L, (v :: st), h, c, z)) → X (pc, L, (.ref a :: st), h, c, z)
def ru_putf (G : ev_G) (C : ev_L) (w : Nat) (M : ev_M) (K : ev_K) (X : ev_S → Prop) : Prop := ∀ {pc : Nat} {L : ev_V} {st : List Value} {h : ev_H} {c z : Nat} {i a ci kf : Nat} {ty : FieldType} {fs : List Value} {v : Value}, (decode M.2.1 pc = .ok (.putfield i, 3)) → (ev_fp M.1.cls i ci kf ty) → (h a = some (.inr (ci, fs))) → (Nat.blt kf fs.length = true) → (narrow ty v = v) → (fits ty v = true) → (X ((pc + 3), L, st, (ev_up h a (.inr (ci, fs.set kf v))), c, z)) → X (pc, L, (v :: .ref a :: st), h, c, z)
def ru_putF (G : ev_G) (C : ev_L) (w : Nat) (M : ev_M) (K : ev_K) (X : ev_S → Prop) : Prop := ∀ {pc : Nat} {L : ev_V} {st : List Value} {h : ev_H} {c z : Nat} {i a ci kf : Nat} {ty : FieldType} {fs : List Value} {v : Value}, (decode M.2.1 pc = .ok (.putfield i, 3)) → (ev_fF M.1.cls i ci kf ty) → (M.1.name = "<init>") → (h a = some (.inr (ci, fs))) → (Nat.blt kf fs.length = true) → (narrow ty v = v) → (fits ty v = true) → (X ((pc + 3), L, st, (ev_up h a (.inr (ci, fs.set kf v))), c, z)) → X (pc, L, (v :: .ref a :: st), h, c, z)
def ru_newi (G : ev_G) (C : ev_L) (w : Nat) (M : ev_M) (K : ev_K) (X : ev_S → Prop) : Prop := ∀ {pc : Nat} {L : ev_V} {st : List Value} {h : ev_H} {c z : Nat} {n : Int32} {N : Nat}, (decode M.2.1 pc = .ok (.newarray .int, 2)) → (Cond.arrayClass .int ∈ ev_ws) → (¬ n < 0) → (n.toNatClampNeg = N) → (N ≤ 60000000) → ((∀ q, h q = none → X ((pc + 2), L, (.ref q :: st), (ev_up h q (.inl (.int, N, .inl (fun _ => 0)))), c, z))) → X (pc, L, (.int n :: st), h, (c + 1), (z + N))
def ru_newc (G : ev_G) (C : ev_L) (w : Nat) (M : ev_M) (K : ev_K) (X : ev_S → Prop) : Prop := ∀ {pc : Nat} {L : ev_V} {st : List Value} {h : ev_H} {c z : Nat} {n : Int32} {N : Nat}, (decode M.2.1 pc = .ok (.newarray .char, 2)) → (Cond.arrayClass .char ∈ ev_ws) → (¬ n < 0) → (n.toNatClampNeg = N) → (N ≤ 60000000) → ((∀ q, h q = none → X ((pc + 2), L, (.ref q :: st), (ev_up h q (.inl (.char, N, .inl (fun _ => 0)))), c, z))) → X (pc, L, (.int n :: st), h, (c + 1), (z + N))
def ru_newl (G : ev_G) (C : ev_L) (w : Nat) (M : ev_M) (K : ev_K) (X : ev_S → Prop) : Prop := ∀ {pc : Nat} {L : ev_V} {st : List Value} {h : ev_H} {c z : Nat} {n : Int32} {N : Nat}, (decode M.2.1 pc = .ok (.newarray .long, 2)) → (Cond.arrayClass .long ∈ ev_ws) → (¬ n < 0) → (n.toNatClampNeg = N) → (N ≤ 60000000) → ((∀ q, h q = none → X ((pc + 2), L, (.ref q :: st), (ev_up h q (.inl (.long, N, .inr (.inl (fun _ => 0))))), c, z))) → X (pc, L, (.int n :: st), h, (c + 1), (z + N))
def ru_newz (G : ev_G) (C : ev_L) (w : Nat) (M : ev_M) (K : ev_K) (X : ev_S → Prop) : Prop := ∀ {pc : Nat} {L : ev_V} {st : List Value} {h : ev_H} {c z : Nat} {n : Int32} {N : Nat}, (decode M.2.1 pc = .ok (.newarray .boolean, 2)) → (Cond.arrayClass .boolean ∈ ev_ws) → (¬ n < 0) → (n.toNatClampNeg = N) → (N ≤ 60000000) → ((∀ q, h q = none → X ((pc + 2), L, (.ref q :: st), (ev_up h q (.inl (.boolean, N, .inl (fun _ => 0)))), c, z))) → X (pc, L, (.int n :: st), h, (c + 1), (z + N))
def ru_new (G : ev_G) (C : ev_L) (w : Nat) (M : ev_M) (K : ev_K) (X : ev_S → Prop) : Prop := ∀ {pc : Nat} {L : ev_V} {st : List Value} {h : ev_H} {c z : Nat} {i ci N : Nat} {fs : List Value}, (decode M.2.1 pc = .ok (.new i, 3)) → (ev_nw M.1.cls i ci N fs) → ((∀ q, h q = none → X ((pc + 3), L, (.ref q :: st), (ev_up h q (.inr (ci, fs))), c, z))) → X (pc, L, st, h, (c + 1), (z + N))
def ru_iret (G : ev_G) (C : ev_L) (w : Nat) (M : ev_M) (K : ev_K) (X : ev_S → Prop) : Prop := ∀ {pc : Nat} {L : ev_V} {h : ev_H} {c z : Nat} {x : Int32} {ty : FieldType}, (decode M.2.1 pc = .ok (.ireturn, 1)) → (M.2.2.2 = some ty) → (narrow ty (.int x) = .int x) → (K (.inl (some (.int x))) h) → X (pc, L, [.int x], h, c, z)
def ru_lret (G : ev_G) (C : ev_L) (w : Nat) (M : ev_M) (K : ev_K) (X : ev_S → Prop) : Prop := ∀ {pc : Nat} {L : ev_V} {h : ev_H} {c z : Nat} {x : Int64}, (decode M.2.1 pc = .ok (.lreturn, 1)) → (M.2.2.2 = some .long) → (K (.inl (some (.long x))) h) → X (pc, L, [.long x], h, c, z)
def ru_aret (G : ev_G) (C : ev_L) (w : Nat) (M : ev_M) (K : ev_K) (X : ev_S → Prop) : Prop := ∀ {pc : Nat} {L : ev_V} {h : ev_H} {c z : Nat} {x : Nat} {ty : FieldType}, (decode M.2.1 pc = .ok (.areturn, 1)) → (M.2.2.2 = some ty) → ((∃ n, ty = .object n) ∨ ∃ t, ty = .array t) → (K (.inl (some (.ref x))) h) → X (pc, L, [.ref x], h, c, z)
def ru_vret (G : ev_G) (C : ev_L) (w : Nat) (M : ev_M) (K : ev_K) (X : ev_S → Prop) : Prop := ∀ {pc : Nat} {L : ev_V} {h : ev_H} {c z : Nat}, (decode M.2.1 pc = .ok (.return_, 1)) → (M.2.2.2 = none) → (K (.inl none) h) → X (pc, L, [], h, c, z)
def ru_callV (G : ev_G) (C : ev_L) (w : Nat) (M : ev_M) (K : ev_K) (X : ev_S → Prop) : Prop := ∀ {pc : Nat} {L : ev_V} {st : List Value} {h : ev_H} {c z : Nat} {i c1 z1 : Nat} {b : Nat} {ci : Nat} {fs : List Value} {N : ev_M} {As stk : List Value} {post : Option Value → ev_H → Prop}, (decode M.2.1 pc = .ok (.invokevirtual i, 3)) → (ev_cv M.1.cls i N As.length) → (stk = As.reverse ++ .ref b :: st) → (Nat.ble ((st.map (fun v => v.category)).sum) 8 = true) → (h b = some (.inr (ci, fs))) → ((classes[ci]?).map (fun q => q.1) = some N.1.cls) → (C N (.ref b :: As) h c1 z1 (ev_ok post)) → (Nat.ble c1 c = true) → (Nat.ble z1 z = true) → ((∀ r h1, post r h1 → X (pc + 3, L, r.toList ++ st, h1, c - c1, z - z1))) → X (pc, L, stk, h, c, z)
def ru_callS (G : ev_G) (C : ev_L) (w : Nat) (M : ev_M) (K : ev_K) (X : ev_S → Prop) : Prop := ∀ {pc : Nat} {L : ev_V} {st : List Value} {h : ev_H} {c z : Nat} {i c1 z1 : Nat} {N : ev_M} {As stk : List Value} {post : Option Value → ev_H → Prop}, (decode M.2.1 pc = .ok (.invokestatic i, 3)) → (ev_cs M.1.cls i N As.length) → (stk = As.reverse ++ st) → (Nat.ble ((st.map (fun v => v.category)).sum) 8 = true) → (C N As h c1 z1 (ev_ok post)) → (Nat.ble c1 c = true) → (Nat.ble z1 z = true) → ((∀ r h1, post r h1 → X (pc + 3, L, r.toList ++ st, h1, c - c1, z - z1))) → X (pc, L, stk, h, c, z)
def ru_callI (G : ev_G) (C : ev_L) (w : Nat) (M : ev_M) (K : ev_K) (X : ev_S → Prop) : Prop := ∀ {pc : Nat} {L : ev_V} {st : List Value} {h : ev_H} {c z : Nat} {i c1 z1 : Nat} {b : Nat} {N : ev_M} {As stk : List Value} {post : Option Value → ev_H → Prop}, (decode M.2.1 pc = .ok (.invokespecial i, 3)) → (ev_ci M.1.cls i N As.length) → (stk = As.reverse ++ .ref b :: st) → (Nat.ble ((st.map (fun v => v.category)).sum) 8 = true) → (C N (.ref b :: As) h c1 z1 (ev_ok post)) → (Nat.ble c1 c = true) → (Nat.ble z1 z = true) → ((∀ r h1, post r h1 → X (pc + 3, L, r.toList ++ st, h1, c - c1, z - z1))) → X (pc, L, stk, h, c, z)
def ru_callIN (G : ev_G) (C : ev_L) (w : Nat) (M : ev_M) (K : ev_K) (X : ev_S → Prop) : Prop := ∀ {pc : Nat} {L : ev_V} {st : List Value} {h : ev_H} {c z : Nat} {i c1 z1 : Nat} {b : Nat} {N : ev_M} {As stk : List Value} {post : Option Value → ev_H → Prop}, (decode M.2.1 pc = .ok (.invokespecial i, 3)) → (ev_cin M.1.cls i N As.length) → (stk = As.reverse ++ .ref b :: st) → (Nat.ble ((st.map (fun v => v.category)).sum) 8 = true) → (C N (.ref b :: As) h c1 z1 (ev_ok post)) → (Nat.ble c1 c = true) → (Nat.ble z1 z = true) → ((∀ r h1, post r h1 → X (pc + 3, L, r.toList ++ st, h1, c - c1, z - z1))) → X (pc, L, stk, h, c, z)
def ru_objInit (G : ev_G) (C : ev_L) (w : Nat) (M : ev_M) (K : ev_K) (X : ev_S → Prop) : Prop := ∀ {pc : Nat} {L : ev_V} {st : List Value} {h : ev_H} {c z : Nat} {i a : Nat}, (decode M.2.1 pc = .ok (.invokespecial i, 3)) → (Cond.methodLink M.1.cls i Lib.objectInit ∈ ev_ws ∧ Cond.instanceMethod Lib.objectInit ∈ ev_ws ∧ Cond.code Lib.objectInit ⟨#[0xb1]⟩ 1 none ∈ ev_ws) → (Nat.ble ((st.map (fun v => v.category)).sum) 8 = true) → (20 ≤ w) → (X ((pc + 3), L, st, h, c, z)) → X (pc, L, (.ref a :: st), h, c, z)
def ru_mmax (G : ev_G) (C : ev_L) (w : Nat) (M : ev_M) (K : ev_K) (X : ev_S → Prop) : Prop := ∀ {pc : Nat} {L : ev_V} {st : List Value} {h : ev_H} {c z : Nat} {i : Nat} {x y : Int32}, (decode M.2.1 pc = .ok (.invokestatic i, 3)) → (Cond.methodLink M.1.cls i Lib.Math.max.name ∈ ev_ws ∧ Cond.static Lib.Math.max.name ∈ ev_ws ∧ Cond.initialized "java/lang/Math" ∈ ev_ws ∧ Cond.code Lib.Math.max.name Lib.Math.max.code 2 (some .int) ∈ ev_ws) → (Nat.ble ((st.map (fun v => v.category)).sum) 8 = true) → (23 ≤ w) → (X ((pc + 3), L, (.int (if x < y then y else x) :: st), h, c, z)) → X (pc, L, (.int y :: .int x :: st), h, c, z)
def ru_mmin (G : ev_G) (C : ev_L) (w : Nat) (M : ev_M) (K : ev_K) (X : ev_S → Prop) : Prop := ∀ {pc : Nat} {L : ev_V} {st : List Value} {h : ev_H} {c z : Nat} {i : Nat} {x y : Int32}, (decode M.2.1 pc = .ok (.invokestatic i, 3)) → (Cond.methodLink M.1.cls i Lib.Math.min.name ∈ ev_ws ∧ Cond.static Lib.Math.min.name ∈ ev_ws ∧ Cond.initialized "java/lang/Math" ∈ ev_ws ∧ Cond.code Lib.Math.min.name Lib.Math.min.code 2 (some .int) ∈ ev_ws) → (Nat.ble ((st.map (fun v => v.category)).sum) 8 = true) → (23 ≤ w) → (X ((pc + 3), L, (.int (if y < x then y else x) :: st), h, c, z)) → X (pc, L, (.int y :: .int x :: st), h, c, z)
def ru_mmaxl (G : ev_G) (C : ev_L) (w : Nat) (M : ev_M) (K : ev_K) (X : ev_S → Prop) : Prop := ∀ {pc : Nat} {L : ev_V} {st : List Value} {h : ev_H} {c z : Nat} {i : Nat} {x y : Int64}, (decode M.2.1 pc = .ok (.invokestatic i, 3)) → (Cond.methodLink M.1.cls i Lib.MathLoose.max_long.x ∈ ev_ws ∧ Cond.static Lib.MathLoose.max_long.x ∈ ev_ws ∧ Cond.initialized "java/lang/Math" ∈ ev_ws ∧ Cond.code Lib.MathLoose.max_long.x Lib.MathLoose.max_long.code 4 (some .long) ∈ ev_ws) → (Nat.ble ((st.map (fun v => v.category)).sum) 8 = true) → (23 ≤ w) → (X ((pc + 3), L, (.long (if y < x then x else y) :: st), h, c, z)) → X (pc, L, (.long y :: .long x :: st), h, c, z)
def ru_mminl (G : ev_G) (C : ev_L) (w : Nat) (M : ev_M) (K : ev_K) (X : ev_S → Prop) : Prop := ∀ {pc : Nat} {L : ev_V} {st : List Value} {h : ev_H} {c z : Nat} {i : Nat} {x y : Int64}, (decode M.2.1 pc = .ok (.invokestatic i, 3)) → (Cond.methodLink M.1.cls i Lib.MathLoose.min_long.x ∈ ev_ws ∧ Cond.static Lib.MathLoose.min_long.x ∈ ev_ws ∧ Cond.initialized "java/lang/Math" ∈ ev_ws ∧ Cond.code Lib.MathLoose.min_long.x Lib.MathLoose.min_long.code 4 (some .long) ∈ ev_ws) → (Nat.ble ((st.map (fun v => v.category)).sum) 8 = true) → (23 ≤ w) → (X ((pc + 3), L, (.long (if y < x then y else x) :: st), h, c, z)) → X (pc, L, (.long y :: .long x :: st), h, c, z)
def ru_copyi (G : ev_G) (C : ev_L) (w : Nat) (M : ev_M) (K : ev_K) (X : ev_S → Prop) : Prop := ∀ {pc : Nat} {L : ev_V} {st : List Value} {h : ev_H} {c z : Nat} {i a0 a n0 n1 : Nat} {f g : Nat → Int32} {sp dp n : Int32}, (decode M.2.1 pc = .ok (.invokestatic i, 3)) → (Cond.methodLink M.1.cls i arraycopyName ∈ ev_ws ∧ Cond.native arraycopyName ∈ ev_ws ∧ Cond.static arraycopyName ∈ ev_ws ∧ Cond.initialized "java/lang/System" ∈ ev_ws) → (Nat.ble ((st.map (fun v => v.category)).sum) 8 = true) → (26 ≤ w) → (h a0 = some (.inl (.int, n0, .inl f))) → (h a = some (.inl (.int, n1, .inl g))) → (¬ sp < 0) → (¬ dp < 0) → (¬ n < 0) → (sp.toNatClampNeg + n.toNatClampNeg ≤ n0) → (dp.toNatClampNeg + n.toNatClampNeg ≤ n1) → (X ((pc + 3), L, st, (ev_up h a (.inl (.int, n1, .inl (va_cpy f g sp.toNatClampNeg dp.toNatClampNeg n.toNatClampNeg)))), c, z)) → X (pc, L, (.int n :: .int dp :: .ref a :: .int sp :: .ref a0 :: st), h, c, z)
def ru_copyl (G : ev_G) (C : ev_L) (w : Nat) (M : ev_M) (K : ev_K) (X : ev_S → Prop) : Prop := ∀ {pc : Nat} {L : ev_V} {st : List Value} {h : ev_H} {c z : Nat} {i a0 a n0 n1 : Nat} {f g : Nat → Int64} {sp dp n : Int32}, (decode M.2.1 pc = .ok (.invokestatic i, 3)) → (Cond.methodLink M.1.cls i arraycopyName ∈ ev_ws ∧ Cond.native arraycopyName ∈ ev_ws ∧ Cond.static arraycopyName ∈ ev_ws ∧ Cond.initialized "java/lang/System" ∈ ev_ws) → (Nat.ble ((st.map (fun v => v.category)).sum) 8 = true) → (26 ≤ w) → (h a0 = some (.inl (.long, n0, .inr (.inl f)))) → (h a = some (.inl (.long, n1, .inr (.inl g)))) → (¬ sp < 0) → (¬ dp < 0) → (¬ n < 0) → (sp.toNatClampNeg + n.toNatClampNeg ≤ n0) → (dp.toNatClampNeg + n.toNatClampNeg ≤ n1) → (X ((pc + 3), L, st, (ev_up h a (.inl (.long, n1, .inr (.inl (va_cpy f g sp.toNatClampNeg dp.toNatClampNeg n.toNatClampNeg))))), c, z)) → X (pc, L, (.int n :: .int dp :: .ref a :: .int sp :: .ref a0 :: st), h, c, z)
def ru_wk (G : ev_G) (C : ev_L) (w : Nat) (M : ev_M) (K : ev_K) (X : ev_S → Prop) : Prop := ∀ {pc : Nat} {L : ev_V} {st : List Value} {h : ev_H} {c z : Nat} {L2 : ev_V}, (∀ i v, L2 i = some v → L i = some v) → (X (pc, L2, st, h, c, z)) → X (pc, L, st, h, c, z)
def ru_hw (G : ev_G) (C : ev_L) (w : Nat) (M : ev_M) (K : ev_K) (X : ev_S → Prop) : Prop := ∀ {pc : Nat} {L : ev_V} {st : List Value} {h : ev_H} {c z : Nat} {h2 : ev_H}, (∀ q x, h2 q = some x → h q = some x) → (X (pc, L, st, h2, c, z)) → X (pc, L, st, h, c, z)
def ru_cw (G : ev_G) (C : ev_L) (w : Nat) (M : ev_M) (K : ev_K) (X : ev_S → Prop) : Prop := ∀ {pc : Nat} {L : ev_V} {st : List Value} {h : ev_H} {c z : Nat} {c2 z2 : Nat}, (c2 ≤ c) → (z2 ≤ z) → (X (pc, L, st, h, c2, z2)) → X (pc, L, st, h, c, z)
def ev_ru (G : ev_G) (C : ev_L) (w : Nat) (M : ev_M) (K : ev_K) (X : ev_S → Prop) : Nat → Prop
  | 0 => ru_iconst G C w M K X
  | 1 => ru_bipush G C w M K X
  | 2 => ru_sipush G C w M K X
  | 3 => ru_lconst G C w M K X
  | 4 => ru_null G C w M K X
  | 5 => ru_ldc G C w M K X
  | 6 => ru_ldc2 G C w M K X
  | 7 => ru_ldcw G C w M K X
  | 8 => ru_iload_n G C w M K X
  | 9 => ru_iload G C w M K X
  | 10 => ru_istore_n G C w M K X
  | 11 => ru_istore G C w M K X
  | 12 => ru_lload_n G C w M K X
  | 13 => ru_lload G C w M K X
  | 14 => ru_lstore_n G C w M K X
  | 15 => ru_lstore G C w M K X
  | 16 => ru_aload_n G C w M K X
  | 17 => ru_aload G C w M K X
  | 18 => ru_astore_n G C w M K X
  | 19 => ru_astore G C w M K X
  | 20 => ru_iinc G C w M K X
  | 21 => ru_iadd G C w M K X
  | 22 => ru_isub G C w M K X
  | 23 => ru_imul G C w M K X
  | 24 => ru_iand G C w M K X
  | 25 => ru_ior G C w M K X
  | 26 => ru_ixor G C w M K X
  | 27 => ru_ishl G C w M K X
  | 28 => ru_ishr G C w M K X
  | 29 => ru_iushr G C w M K X
  | 30 => ru_idiv G C w M K X
  | 31 => ru_irem G C w M K X
  | 32 => ru_ineg G C w M K X
  | 33 => ru_ladd G C w M K X
  | 34 => ru_lsub G C w M K X
  | 35 => ru_lmul G C w M K X
  | 36 => ru_land G C w M K X
  | 37 => ru_lor G C w M K X
  | 38 => ru_lxor G C w M K X
  | 39 => ru_ldiv G C w M K X
  | 40 => ru_lrem G C w M K X
  | 41 => ru_lshl G C w M K X
  | 42 => ru_lshr G C w M K X
  | 43 => ru_lushr G C w M K X
  | 44 => ru_lneg G C w M K X
  | 45 => ru_i2l G C w M K X
  | 46 => ru_l2i G C w M K X
  | 47 => ru_i2c G C w M K X
  | 48 => ru_i2b G C w M K X
  | 49 => ru_lcmp G C w M K X
  | 50 => ru_dup G C w M K X
  | 51 => ru_pop G C w M K X
  | 52 => ru_dup_x1 G C w M K X
  | 53 => ru_dup_x2 G C w M K X
  | 54 => ru_dup2_11 G C w M K X
  | 55 => ru_dup2_2 G C w M K X
  | 56 => ru_pop2_2 G C w M K X
  | 57 => ru_dup2_x1_2 G C w M K X
  | 58 => ru_dup2_x2_2 G C w M K X
  | 59 => ru_if_eq G C w M K X
  | 60 => ru_icmp_eq G C w M K X
  | 61 => ru_if_ne G C w M K X
  | 62 => ru_icmp_ne G C w M K X
  | 63 => ru_if_lt G C w M K X
  | 64 => ru_icmp_lt G C w M K X
  | 65 => ru_if_ge G C w M K X
  | 66 => ru_icmp_ge G C w M K X
  | 67 => ru_if_gt G C w M K X
  | 68 => ru_icmp_gt G C w M K X
  | 69 => ru_if_le G C w M K X
  | 70 => ru_icmp_le G C w M K X
  | 71 => ru_goto G C w M K X
  | 72 => ru_tableIn G C w M K X
  | 73 => ru_tableOut G C w M K X
  | 74 => ru_iald G C w M K X
  | 75 => ru_cald G C w M K X
  | 76 => ru_bald G C w M K X
  | 77 => ru_zald G C w M K X
  | 78 => ru_lald G C w M K X
  | 79 => ru_aald G C w M K X
  | 80 => ru_iast G C w M K X
  | 81 => ru_cast G C w M K X
  | 82 => ru_zast G C w M K X
  | 83 => ru_bast G C w M K X
  | 84 => ru_last G C w M K X
  | 85 => ru_alen G C w M K X
  | 86 => ru_riald G C w M K X
  | 87 => ru_ralen G C w M K X
  | 88 => ru_gets G C w M K X
  | 89 => ru_getf G C w M K X
  | 90 => ru_putf G C w M K X
  | 91 => ru_putF G C w M K X
  | 92 => ru_newi G C w M K X
  | 93 => ru_newc G C w M K X
  | 94 => ru_newl G C w M K X
  | 95 => ru_newz G C w M K X
  | 96 => ru_new G C w M K X
  | 97 => ru_iret G C w M K X
  | 98 => ru_lret G C w M K X
  | 99 => ru_aret G C w M K X
  | 100 => ru_vret G C w M K X
  | 101 => ru_callV G C w M K X
  | 102 => ru_callS G C w M K X
  | 103 => ru_callI G C w M K X
  | 104 => ru_callIN G C w M K X
  | 105 => ru_objInit G C w M K X
  | 106 => ru_mmax G C w M K X
  | 107 => ru_mmin G C w M K X
  | 108 => ru_mmaxl G C w M K X
  | 109 => ru_mminl G C w M K X
  | 110 => ru_copyi G C w M K X
  | 111 => ru_copyl G C w M K X
  | 112 => ru_wk G C w M K X
  | 113 => ru_hw G C w M K X
  | 114 => ru_cw G C w M K X
  | _ => True
/-- the judgement -/
def ev_J (G : ev_G) (C : ev_L) (w : Nat) (M : ev_M) (K : ev_K) (s : ev_S) : Prop := ∀ X : ev_S → Prop, (∀ n, ev_ru G C w M K X n) → X s
/-- a method, called; d: how deep calls may go; w: how many words of the stack they may take -/
def ev_Ca (G : ev_G) : Nat → Nat → ev_L
  | 0, _ => fun _ _ _ _ _ _ => False
  | d + 1, w => fun M args h c z K => plainName M.1.cls = true ∧ Nat.ble (lg_sl args).length M.2.2.1 = true ∧ ev_J G (fun N a2 h2 c2 z2 K2 => 19 + N.2.2.1 ≤ w ∧ ev_Ca G d (w - (19 + N.2.2.1)) N a2 h2 c2 z2 K2) w M K (0, ev_lf (lv_args 0 args), [], h, c, z)
theorem ev_iconst {G : ev_G} {C : ev_L} {w : Nat} {M : ev_M} {K : ev_K} {pc : Nat} {L : ev_V} {st : List Value} {h : ev_H} {c z : Nat} {n : Int} {v : Int32} (hd : decode M.2.1 pc = .ok (.iconst n, 1)) (hv : Int32.ofInt n = v) (k : ev_J G C w M K ((pc + 1), L, (.int v :: st), h, c, z)) : ev_J G C w M K (pc, L, st, h, c, z) := fun X hX => hX 0 hd hv (k X hX)
theorem ev_bipush {G : ev_G} {C : ev_L} {w : Nat} {M : ev_M} {K : ev_K} {pc : Nat} {L : ev_V} {st : List Value} {h : ev_H} {c z : Nat} {n : Int} {v : Int32} (hd : decode M.2.1 pc = .ok (.bipush n, 2)) (hv : (Int8.ofInt n).toInt32 = v) (k : ev_J G C w M K ((pc + 2), L, (.int v :: st), h, c, z)) : ev_J G C w M K (pc, L, st, h, c, z) := fun X hX => hX 1 hd hv (k X hX)
theorem ev_sipush {G : ev_G} {C : ev_L} {w : Nat} {M : ev_M} {K : ev_K} {pc : Nat} {L : ev_V} {st : List Value} {h : ev_H} {c z : Nat} {n : Int} {v : Int32} (hd : decode M.2.1 pc = .ok (.sipush n, 3)) (hv : (Int16.ofInt n).toInt32 = v) (k : ev_J G C w M K ((pc + 3), L, (.int v :: st), h, c, z)) : ev_J G C w M K (pc, L, st, h, c, z) := fun X hX => hX 2 hd hv (k X hX)
theorem ev_lconst {G : ev_G} {C : ev_L} {w : Nat} {M : ev_M} {K : ev_K} {pc : Nat} {L : ev_V} {st : List Value} {h : ev_H} {c z : Nat} {n : Fin 2} {v : Int64} (hd : decode M.2.1 pc = .ok (.lconst n, 1)) (hv : Int64.ofNat (n : Nat) = v) (k : ev_J G C w M K ((pc + 1), L, (.long v :: st), h, c, z)) : ev_J G C w M K (pc, L, st, h, c, z) := fun X hX => hX 3 hd hv (k X hX)
theorem ev_null {G : ev_G} {C : ev_L} {w : Nat} {M : ev_M} {K : ev_K} {pc : Nat} {L : ev_V} {st : List Value} {h : ev_H} {c z : Nat}  (hd : decode M.2.1 pc = .ok (.aconst_null, 1)) (k : ev_J G C w M K ((pc + 1), L, (.null :: st), h, c, z)) : ev_J G C w M K (pc, L, st, h, c, z) := fun X hX => hX 4 hd (k X hX)
theorem ev_ldc {G : ev_G} {C : ev_L} {w : Nat} {M : ev_M} {K : ev_K} {pc : Nat} {L : ev_V} {st : List Value} {h : ev_H} {c z : Nat} {i : Nat} {v : Int32} (hd : decode M.2.1 pc = .ok (.ldc i, 2)) (hw : Cond.constant M.1.cls i v ∈ ev_ws) (k : ev_J G C w M K ((pc + 2), L, (.int v :: st), h, c, z)) : ev_J G C w M K (pc, L, st, h, c, z) := fun X hX => hX 5 hd hw (k X hX)
theorem ev_ldc2 {G : ev_G} {C : ev_L} {w : Nat} {M : ev_M} {K : ev_K} {pc : Nat} {L : ev_V} {st : List Value} {h : ev_H} {c z : Nat} {i : Nat} {v : Int64} (hd : decode M.2.1 pc = .ok (.ldc2_w i, 3)) (hw : Cond.constantLong M.1.cls i v ∈ ev_ws) (k : ev_J G C w M K ((pc + 3), L, (.long v :: st), h, c, z)) : ev_J G C w M K (pc, L, st, h, c, z) := fun X hX => hX 6 hd hw (k X hX)
theorem ev_ldcw {G : ev_G} {C : ev_L} {w : Nat} {M : ev_M} {K : ev_K} {pc : Nat} {L : ev_V} {st : List Value} {h : ev_H} {c z : Nat} {i : Nat} {v : Int32} (hd : decode M.2.1 pc = .ok (.ldc_w i, 3)) (hw : Cond.constant M.1.cls i v ∈ ev_ws) (k : ev_J G C w M K ((pc + 3), L, (.int v :: st), h, c, z)) : ev_J G C w M K (pc, L, st, h, c, z) := fun X hX => hX 7 hd hw (k X hX)
theorem ev_iload_n {G : ev_G} {C : ev_L} {w : Nat} {M : ev_M} {K : ev_K} {pc : Nat} {L : ev_V} {st : List Value} {h : ev_H} {c z : Nat} {j : Fin 4} {x : Int32} (hd : decode M.2.1 pc = .ok (.iload_n j, 1)) (hx1 : L (j : Nat) = some (.int x)) (k : ev_J G C w M K ((pc + 1), L, (.int x :: st), h, c, z)) : ev_J G C w M K (pc, L, st, h, c, z) := fun X hX => hX 8 hd hx1 (k X hX)
theorem ev_iload {G : ev_G} {C : ev_L} {w : Nat} {M : ev_M} {K : ev_K} {pc : Nat} {L : ev_V} {st : List Value} {h : ev_H} {c z : Nat} {i : Nat} {x : Int32} (hd : decode M.2.1 pc = .ok (.iload i, 2)) (hx1 : L i = some (.int x)) (k : ev_J G C w M K ((pc + 2), L, (.int x :: st), h, c, z)) : ev_J G C w M K (pc, L, st, h, c, z) := fun X hX => hX 9 hd hx1 (k X hX)
theorem ev_istore_n {G : ev_G} {C : ev_L} {w : Nat} {M : ev_M} {K : ev_K} {pc : Nat} {L : ev_V} {st : List Value} {h : ev_H} {c z : Nat} {j : Fin 4} {x : Int32} (hd : decode M.2.1 pc = .ok (.istore_n j, 1)) (hn : Nat.blt ((j : Nat)) M.2.2.1 = true) (k : ev_J G C w M K ((pc + 1), (ev_s1 L (j : Nat) (.int x)), st, h, c, z)) : ev_J G C w M K (pc, L, (.int x :: st), h, c, z) := fun X hX => hX 10 hd hn (k X hX)
theorem ev_istore {G : ev_G} {C : ev_L} {w : Nat} {M : ev_M} {K : ev_K} {pc : Nat} {L : ev_V} {st : List Value} {h : ev_H} {c z : Nat} {i : Nat} {x : Int32} (hd : decode M.2.1 pc = .ok (.istore i, 2)) (hn : Nat.blt (i) M.2.2.1 = true) (k : ev_J G C w M K ((pc + 2), (ev_s1 L i (.int x)), st, h, c, z)) : ev_J G C w M K (pc, L, (.int x :: st), h, c, z) := fun X hX => hX 11 hd hn (k X hX)
theorem ev_lload_n {G : ev_G} {C : ev_L} {w : Nat} {M : ev_M} {K : ev_K} {pc : Nat} {L : ev_V} {st : List Value} {h : ev_H} {c z : Nat} {j : Fin 4} {x : Int64} (hd : decode M.2.1 pc = .ok (.lload_n j, 1)) (hx1 : L (j : Nat) = some (.long x)) (k : ev_J G C w M K ((pc + 1), L, (.long x :: st), h, c, z)) : ev_J G C w M K (pc, L, st, h, c, z) := fun X hX => hX 12 hd hx1 (k X hX)
theorem ev_lload {G : ev_G} {C : ev_L} {w : Nat} {M : ev_M} {K : ev_K} {pc : Nat} {L : ev_V} {st : List Value} {h : ev_H} {c z : Nat} {i : Nat} {x : Int64} (hd : decode M.2.1 pc = .ok (.lload i, 2)) (hx1 : L i = some (.long x)) (k : ev_J G C w M K ((pc + 2), L, (.long x :: st), h, c, z)) : ev_J G C w M K (pc, L, st, h, c, z) := fun X hX => hX 13 hd hx1 (k X hX)
theorem ev_lstore_n {G : ev_G} {C : ev_L} {w : Nat} {M : ev_M} {K : ev_K} {pc : Nat} {L : ev_V} {st : List Value} {h : ev_H} {c z : Nat} {j : Fin 4} {x : Int64} (hd : decode M.2.1 pc = .ok (.lstore_n j, 1)) (hn : Nat.blt ((j : Nat) + 1) M.2.2.1 = true) (k : ev_J G C w M K ((pc + 1), (ev_s2 L (j : Nat) (.long x)), st, h, c, z)) : ev_J G C w M K (pc, L, (.long x :: st), h, c, z) := fun X hX => hX 14 hd hn (k X hX)
theorem ev_lstore {G : ev_G} {C : ev_L} {w : Nat} {M : ev_M} {K : ev_K} {pc : Nat} {L : ev_V} {st : List Value} {h : ev_H} {c z : Nat} {i : Nat} {x : Int64} (hd : decode M.2.1 pc = .ok (.lstore i, 2)) (hn : Nat.blt (i + 1) M.2.2.1 = true) (k : ev_J G C w M K ((pc + 2), (ev_s2 L i (.long x)), st, h, c, z)) : ev_J G C w M K (pc, L, (.long x :: st), h, c, z) := fun X hX => hX 15 hd hn (k X hX)
theorem ev_aload_n {G : ev_G} {C : ev_L} {w : Nat} {M : ev_M} {K : ev_K} {pc : Nat} {L : ev_V} {st : List Value} {h : ev_H} {c z : Nat} {j : Fin 4} {x : Nat} (hd : decode M.2.1 pc = .ok (.aload_n j, 1)) (hx1 : L (j : Nat) = some (.ref x)) (k : ev_J G C w M K ((pc + 1), L, (.ref x :: st), h, c, z)) : ev_J G C w M K (pc, L, st, h, c, z) := fun X hX => hX 16 hd hx1 (k X hX)
theorem ev_aload {G : ev_G} {C : ev_L} {w : Nat} {M : ev_M} {K : ev_K} {pc : Nat} {L : ev_V} {st : List Value} {h : ev_H} {c z : Nat} {i : Nat} {x : Nat} (hd : decode M.2.1 pc = .ok (.aload i, 2)) (hx1 : L i = some (.ref x)) (k : ev_J G C w M K ((pc + 2), L, (.ref x :: st), h, c, z)) : ev_J G C w M K (pc, L, st, h, c, z) := fun X hX => hX 17 hd hx1 (k X hX)
theorem ev_astore_n {G : ev_G} {C : ev_L} {w : Nat} {M : ev_M} {K : ev_K} {pc : Nat} {L : ev_V} {st : List Value} {h : ev_H} {c z : Nat} {j : Fin 4} {x : Nat} (hd : decode M.2.1 pc = .ok (.astore_n j, 1)) (hn : Nat.blt ((j : Nat)) M.2.2.1 = true) (k : ev_J G C w M K ((pc + 1), (ev_s1 L (j : Nat) (.ref x)), st, h, c, z)) : ev_J G C w M K (pc, L, (.ref x :: st), h, c, z) := fun X hX => hX 18 hd hn (k X hX)
theorem ev_astore {G : ev_G} {C : ev_L} {w : Nat} {M : ev_M} {K : ev_K} {pc : Nat} {L : ev_V} {st : List Value} {h : ev_H} {c z : Nat} {i : Nat} {x : Nat} (hd : decode M.2.1 pc = .ok (.astore i, 2)) (hn : Nat.blt (i) M.2.2.1 = true) (k : ev_J G C w M K ((pc + 2), (ev_s1 L i (.ref x)), st, h, c, z)) : ev_J G C w M K (pc, L, (.ref x :: st), h, c, z) := fun X hX => hX 19 hd hn (k X hX)
theorem ev_iinc {G : ev_G} {C : ev_L} {w : Nat} {M : ev_M} {K : ev_K} {pc : Nat} {L : ev_V} {st : List Value} {h : ev_H} {c z : Nat} {i : Nat} {n : Int} {x : Int32} (hd : decode M.2.1 pc = .ok (.iinc i n, 3)) (hx1 : L i = some (.int x)) (hn : Nat.blt i M.2.2.1 = true) (k : ev_J G C w M K ((pc + 3), (ev_s1 L i (.int (x + Int32.ofInt n))), st, h, c, z)) : ev_J G C w M K (pc, L, st, h, c, z) := fun X hX => hX 20 hd hx1 hn (k X hX)
theorem ev_iadd {G : ev_G} {C : ev_L} {w : Nat} {M : ev_M} {K : ev_K} {pc : Nat} {L : ev_V} {st : List Value} {h : ev_H} {c z : Nat} {x y : Int32} (hd : decode M.2.1 pc = .ok (.iadd, 1)) (k : ev_J G C w M K ((pc + 1), L, (.int (x + y) :: st), h, c, z)) : ev_J G C w M K (pc, L, (.int y :: .int x :: st), h, c, z) := fun X hX => hX 21 hd (k X hX)
theorem ev_isub {G : ev_G} {C : ev_L} {w : Nat} {M : ev_M} {K : ev_K} {pc : Nat} {L : ev_V} {st : List Value} {h : ev_H} {c z : Nat} {x y : Int32} (hd : decode M.2.1 pc = .ok (.isub, 1)) (k : ev_J G C w M K ((pc + 1), L, (.int (x - y) :: st), h, c, z)) : ev_J G C w M K (pc, L, (.int y :: .int x :: st), h, c, z) := fun X hX => hX 22 hd (k X hX)
theorem ev_imul {G : ev_G} {C : ev_L} {w : Nat} {M : ev_M} {K : ev_K} {pc : Nat} {L : ev_V} {st : List Value} {h : ev_H} {c z : Nat} {x y : Int32} (hd : decode M.2.1 pc = .ok (.imul, 1)) (k : ev_J G C w M K ((pc + 1), L, (.int (x * y) :: st), h, c, z)) : ev_J G C w M K (pc, L, (.int y :: .int x :: st), h, c, z) := fun X hX => hX 23 hd (k X hX)
theorem ev_iand {G : ev_G} {C : ev_L} {w : Nat} {M : ev_M} {K : ev_K} {pc : Nat} {L : ev_V} {st : List Value} {h : ev_H} {c z : Nat} {x y : Int32} (hd : decode M.2.1 pc = .ok (.iand, 1)) (k : ev_J G C w M K ((pc + 1), L, (.int (x &&& y) :: st), h, c, z)) : ev_J G C w M K (pc, L, (.int y :: .int x :: st), h, c, z) := fun X hX => hX 24 hd (k X hX)
theorem ev_ior {G : ev_G} {C : ev_L} {w : Nat} {M : ev_M} {K : ev_K} {pc : Nat} {L : ev_V} {st : List Value} {h : ev_H} {c z : Nat} {x y : Int32} (hd : decode M.2.1 pc = .ok (.ior, 1)) (k : ev_J G C w M K ((pc + 1), L, (.int (x ||| y) :: st), h, c, z)) : ev_J G C w M K (pc, L, (.int y :: .int x :: st), h, c, z) := fun X hX => hX 25 hd (k X hX)
theorem ev_ixor {G : ev_G} {C : ev_L} {w : Nat} {M : ev_M} {K : ev_K} {pc : Nat} {L : ev_V} {st : List Value} {h : ev_H} {c z : Nat} {x y : Int32} (hd : decode M.2.1 pc = .ok (.ixor, 1)) (k : ev_J G C w M K ((pc + 1), L, (.int (x ^^^ y) :: st), h, c, z)) : ev_J G C w M K (pc, L, (.int y :: .int x :: st), h, c, z) := fun X hX => hX 26 hd (k X hX)
theorem ev_ishl {G : ev_G} {C : ev_L} {w : Nat} {M : ev_M} {K : ev_K} {pc : Nat} {L : ev_V} {st : List Value} {h : ev_H} {c z : Nat} {x y : Int32} (hd : decode M.2.1 pc = .ok (.ishl, 1)) (k : ev_J G C w M K ((pc + 1), L, (.int (x <<< (y &&& 31)) :: st), h, c, z)) : ev_J G C w M K (pc, L, (.int y :: .int x :: st), h, c, z) := fun X hX => hX 27 hd (k X hX)
theorem ev_ishr {G : ev_G} {C : ev_L} {w : Nat} {M : ev_M} {K : ev_K} {pc : Nat} {L : ev_V} {st : List Value} {h : ev_H} {c z : Nat} {x y : Int32} (hd : decode M.2.1 pc = .ok (.ishr, 1)) (k : ev_J G C w M K ((pc + 1), L, (.int (x >>> (y &&& 31)) :: st), h, c, z)) : ev_J G C w M K (pc, L, (.int y :: .int x :: st), h, c, z) := fun X hX => hX 28 hd (k X hX)
theorem ev_iushr {G : ev_G} {C : ev_L} {w : Nat} {M : ev_M} {K : ev_K} {pc : Nat} {L : ev_V} {st : List Value} {h : ev_H} {c z : Nat} {x y : Int32} (hd : decode M.2.1 pc = .ok (.iushr, 1)) (k : ev_J G C w M K ((pc + 1), L, (.int ((x.toUInt32 >>> (y.toUInt32 &&& Int32.toUInt32 31)).toInt32) :: st), h, c, z)) : ev_J G C w M K (pc, L, (.int y :: .int x :: st), h, c, z) := fun X hX => hX 29 hd (k X hX)
theorem ev_idiv {G : ev_G} {C : ev_L} {w : Nat} {M : ev_M} {K : ev_K} {pc : Nat} {L : ev_V} {st : List Value} {h : ev_H} {c z : Nat} {x y : Int32} (hd : decode M.2.1 pc = .ok (.idiv, 1)) (hne : ¬ y = 0) (k : ev_J G C w M K ((pc + 1), L, (.int (x / y) :: st), h, c, z)) : ev_J G C w M K (pc, L, (.int y :: .int x :: st), h, c, z) := fun X hX => hX 30 hd hne (k X hX)
theorem ev_irem {G : ev_G} {C : ev_L} {w : Nat} {M : ev_M} {K : ev_K} {pc : Nat} {L : ev_V} {st : List Value} {h : ev_H} {c z : Nat} {x y : Int32} (hd : decode M.2.1 pc = .ok (.irem, 1)) (hne : ¬ y = 0) (k : ev_J G C w M K ((pc + 1), L, (.int (x - x / y * y) :: st), h, c, z)) : ev_J G C w M K (pc, L, (.int y :: .int x :: st), h, c, z) := fun X hX => hX 31 hd hne (k X hX)
theorem ev_ineg {G : ev_G} {C : ev_L} {w : Nat} {M : ev_M} {K : ev_K} {pc : Nat} {L : ev_V} {st : List Value} {h : ev_H} {c z : Nat} {x : Int32} (hd : decode M.2.1 pc = .ok (.ineg, 1)) (k : ev_J G C w M K ((pc + 1), L, (.int (-x) :: st), h, c, z)) : ev_J G C w M K (pc, L, (.int x :: st), h, c, z) := fun X hX => hX 32 hd (k X hX)
theorem ev_ladd {G : ev_G} {C : ev_L} {w : Nat} {M : ev_M} {K : ev_K} {pc : Nat} {L : ev_V} {st : List Value} {h : ev_H} {c z : Nat} {x y : Int64} (hd : decode M.2.1 pc = .ok (.ladd, 1)) (k : ev_J G C w M K ((pc + 1), L, (.long (x + y) :: st), h, c, z)) : ev_J G C w M K (pc, L, (.long y :: .long x :: st), h, c, z) := fun X hX => hX 33 hd (k X hX)
theorem ev_lsub {G : ev_G} {C : ev_L} {w : Nat} {M : ev_M} {K : ev_K} {pc : Nat} {L : ev_V} {st : List Value} {h : ev_H} {c z : Nat} {x y : Int64} (hd : decode M.2.1 pc = .ok (.lsub, 1)) (k : ev_J G C w M K ((pc + 1), L, (.long (x - y) :: st), h, c, z)) : ev_J G C w M K (pc, L, (.long y :: .long x :: st), h, c, z) := fun X hX => hX 34 hd (k X hX)
theorem ev_lmul {G : ev_G} {C : ev_L} {w : Nat} {M : ev_M} {K : ev_K} {pc : Nat} {L : ev_V} {st : List Value} {h : ev_H} {c z : Nat} {x y : Int64} (hd : decode M.2.1 pc = .ok (.lmul, 1)) (k : ev_J G C w M K ((pc + 1), L, (.long (x * y) :: st), h, c, z)) : ev_J G C w M K (pc, L, (.long y :: .long x :: st), h, c, z) := fun X hX => hX 35 hd (k X hX)
theorem ev_land {G : ev_G} {C : ev_L} {w : Nat} {M : ev_M} {K : ev_K} {pc : Nat} {L : ev_V} {st : List Value} {h : ev_H} {c z : Nat} {x y : Int64} (hd : decode M.2.1 pc = .ok (.land, 1)) (k : ev_J G C w M K ((pc + 1), L, (.long (x &&& y) :: st), h, c, z)) : ev_J G C w M K (pc, L, (.long y :: .long x :: st), h, c, z) := fun X hX => hX 36 hd (k X hX)
theorem ev_lor {G : ev_G} {C : ev_L} {w : Nat} {M : ev_M} {K : ev_K} {pc : Nat} {L : ev_V} {st : List Value} {h : ev_H} {c z : Nat} {x y : Int64} (hd : decode M.2.1 pc = .ok (.lor, 1)) (k : ev_J G C w M K ((pc + 1), L, (.long (x ||| y) :: st), h, c, z)) : ev_J G C w M K (pc, L, (.long y :: .long x :: st), h, c, z) := fun X hX => hX 37 hd (k X hX)
theorem ev_lxor {G : ev_G} {C : ev_L} {w : Nat} {M : ev_M} {K : ev_K} {pc : Nat} {L : ev_V} {st : List Value} {h : ev_H} {c z : Nat} {x y : Int64} (hd : decode M.2.1 pc = .ok (.lxor, 1)) (k : ev_J G C w M K ((pc + 1), L, (.long (x ^^^ y) :: st), h, c, z)) : ev_J G C w M K (pc, L, (.long y :: .long x :: st), h, c, z) := fun X hX => hX 38 hd (k X hX)
theorem ev_ldiv {G : ev_G} {C : ev_L} {w : Nat} {M : ev_M} {K : ev_K} {pc : Nat} {L : ev_V} {st : List Value} {h : ev_H} {c z : Nat} {x y : Int64} (hd : decode M.2.1 pc = .ok (.ldiv, 1)) (hne : ¬ y = 0) (k : ev_J G C w M K ((pc + 1), L, (.long (x / y) :: st), h, c, z)) : ev_J G C w M K (pc, L, (.long y :: .long x :: st), h, c, z) := fun X hX => hX 39 hd hne (k X hX)
theorem ev_lrem {G : ev_G} {C : ev_L} {w : Nat} {M : ev_M} {K : ev_K} {pc : Nat} {L : ev_V} {st : List Value} {h : ev_H} {c z : Nat} {x y : Int64} (hd : decode M.2.1 pc = .ok (.lrem, 1)) (hne : ¬ y = 0) (k : ev_J G C w M K ((pc + 1), L, (.long (x - x / y * y) :: st), h, c, z)) : ev_J G C w M K (pc, L, (.long y :: .long x :: st), h, c, z) := fun X hX => hX 40 hd hne (k X hX)
theorem ev_lshl {G : ev_G} {C : ev_L} {w : Nat} {M : ev_M} {K : ev_K} {pc : Nat} {L : ev_V} {st : List Value} {h : ev_H} {c z : Nat} {x : Int64} {y : Int32} (hd : decode M.2.1 pc = .ok (.lshl, 1)) (k : ev_J G C w M K ((pc + 1), L, (.long (x <<< (y.toInt64 &&& 63)) :: st), h, c, z)) : ev_J G C w M K (pc, L, (.int y :: .long x :: st), h, c, z) := fun X hX => hX 41 hd (k X hX)
theorem ev_lshr {G : ev_G} {C : ev_L} {w : Nat} {M : ev_M} {K : ev_K} {pc : Nat} {L : ev_V} {st : List Value} {h : ev_H} {c z : Nat} {x : Int64} {y : Int32} (hd : decode M.2.1 pc = .ok (.lshr, 1)) (k : ev_J G C w M K ((pc + 1), L, (.long (x >>> (y.toInt64 &&& 63)) :: st), h, c, z)) : ev_J G C w M K (pc, L, (.int y :: .long x :: st), h, c, z) := fun X hX => hX 42 hd (k X hX)
theorem ev_lushr {G : ev_G} {C : ev_L} {w : Nat} {M : ev_M} {K : ev_K} {pc : Nat} {L : ev_V} {st : List Value} {h : ev_H} {c z : Nat} {x : Int64} {y : Int32} (hd : decode M.2.1 pc = .ok (.lushr, 1)) (k : ev_J G C w M K ((pc + 1), L, (.long ((x.toUInt64 >>> (y.toInt64.toUInt64 &&& Int64.toUInt64 63)).toInt64) :: st), h, c, z)) : ev_J G C w M K (pc, L, (.int y :: .long x :: st), h, c, z) := fun X hX => hX 43 hd (k X hX)
theorem ev_lneg {G : ev_G} {C : ev_L} {w : Nat} {M : ev_M} {K : ev_K} {pc : Nat} {L : ev_V} {st : List Value} {h : ev_H} {c z : Nat} {x : Int64} (hd : decode M.2.1 pc = .ok (.lneg, 1)) (k : ev_J G C w M K ((pc + 1), L, (.long (-x) :: st), h, c, z)) : ev_J G C w M K (pc, L, (.long x :: st), h, c, z) := fun X hX => hX 44 hd (k X hX)
theorem ev_i2l {G : ev_G} {C : ev_L} {w : Nat} {M : ev_M} {K : ev_K} {pc : Nat} {L : ev_V} {st : List Value} {h : ev_H} {c z : Nat} {x : Int32} (hd : decode M.2.1 pc = .ok (.i2l, 1)) (k : ev_J G C w M K ((pc + 1), L, (.long x.toInt64 :: st), h, c, z)) : ev_J G C w M K (pc, L, (.int x :: st), h, c, z) := fun X hX => hX 45 hd (k X hX)
theorem ev_l2i {G : ev_G} {C : ev_L} {w : Nat} {M : ev_M} {K : ev_K} {pc : Nat} {L : ev_V} {st : List Value} {h : ev_H} {c z : Nat} {x : Int64} (hd : decode M.2.1 pc = .ok (.l2i, 1)) (k : ev_J G C w M K ((pc + 1), L, (.int x.toInt32 :: st), h, c, z)) : ev_J G C w M K (pc, L, (.long x :: st), h, c, z) := fun X hX => hX 46 hd (k X hX)
theorem ev_i2c {G : ev_G} {C : ev_L} {w : Nat} {M : ev_M} {K : ev_K} {pc : Nat} {L : ev_V} {st : List Value} {h : ev_H} {c z : Nat} {x : Int32} (hd : decode M.2.1 pc = .ok (.i2c, 1)) (k : ev_J G C w M K ((pc + 1), L, (.int (x.toUInt32 % 65536).toInt32 :: st), h, c, z)) : ev_J G C w M K (pc, L, (.int x :: st), h, c, z) := fun X hX => hX 47 hd (k X hX)
theorem ev_i2b {G : ev_G} {C : ev_L} {w : Nat} {M : ev_M} {K : ev_K} {pc : Nat} {L : ev_V} {st : List Value} {h : ev_H} {c z : Nat} {x : Int32} (hd : decode M.2.1 pc = .ok (.i2b, 1)) (k : ev_J G C w M K ((pc + 1), L, (.int x.toInt8.toInt32 :: st), h, c, z)) : ev_J G C w M K (pc, L, (.int x :: st), h, c, z) := fun X hX => hX 48 hd (k X hX)
theorem ev_lcmp {G : ev_G} {C : ev_L} {w : Nat} {M : ev_M} {K : ev_K} {pc : Nat} {L : ev_V} {st : List Value} {h : ev_H} {c z : Nat} {x y : Int64} (hd : decode M.2.1 pc = .ok (.lcmp, 1)) (k : ev_J G C w M K ((pc + 1), L, (.int (lg_cmp x y) :: st), h, c, z)) : ev_J G C w M K (pc, L, (.long y :: .long x :: st), h, c, z) := fun X hX => hX 49 hd (k X hX)
theorem ev_dup {G : ev_G} {C : ev_L} {w : Nat} {M : ev_M} {K : ev_K} {pc : Nat} {L : ev_V} {st : List Value} {h : ev_H} {c z : Nat} {va : Value} (hd : decode M.2.1 pc = .ok (.dup, 1)) (hva : va.category = 1) (k : ev_J G C w M K ((pc + 1), L, (va :: va :: st), h, c, z)) : ev_J G C w M K (pc, L, (va :: st), h, c, z) := fun X hX => hX 50 hd hva (k X hX)
theorem ev_pop {G : ev_G} {C : ev_L} {w : Nat} {M : ev_M} {K : ev_K} {pc : Nat} {L : ev_V} {st : List Value} {h : ev_H} {c z : Nat} {va : Value} (hd : decode M.2.1 pc = .ok (.pop, 1)) (hva : va.category = 1) (k : ev_J G C w M K ((pc + 1), L, st, h, c, z)) : ev_J G C w M K (pc, L, (va :: st), h, c, z) := fun X hX => hX 51 hd hva (k X hX)
theorem ev_dup_x1 {G : ev_G} {C : ev_L} {w : Nat} {M : ev_M} {K : ev_K} {pc : Nat} {L : ev_V} {st : List Value} {h : ev_H} {c z : Nat} {va vb : Value} (hd : decode M.2.1 pc = .ok (.dup_x1, 1)) (hva : va.category = 1) (hvb : vb.category = 1) (k : ev_J G C w M K ((pc + 1), L, (va :: vb :: va :: st), h, c, z)) : ev_J G C w M K (pc, L, (va :: vb :: st), h, c, z) := fun X hX => hX 52 hd hva hvb (k X hX)
theorem ev_dup_x2 {G : ev_G} {C : ev_L} {w : Nat} {M : ev_M} {K : ev_K} {pc : Nat} {L : ev_V} {st : List Value} {h : ev_H} {c z : Nat} {va vb vd : Value} (hd : decode M.2.1 pc = .ok (.dup_x2, 1)) (hva : va.category = 1) (hvb : vb.category = 1) (hvd : vd.category = 1) (k : ev_J G C w M K ((pc + 1), L, (va :: vb :: vd :: va :: st), h, c, z)) : ev_J G C w M K (pc, L, (va :: vb :: vd :: st), h, c, z) := fun X hX => hX 53 hd hva hvb hvd (k X hX)
theorem ev_dup2_11 {G : ev_G} {C : ev_L} {w : Nat} {M : ev_M} {K : ev_K} {pc : Nat} {L : ev_V} {st : List Value} {h : ev_H} {c z : Nat} {va vb : Value} (hd : decode M.2.1 pc = .ok (.dup2, 1)) (hva : va.category = 1) (hvb : vb.category = 1) (k : ev_J G C w M K ((pc + 1), L, (va :: vb :: va :: vb :: st), h, c, z)) : ev_J G C w M K (pc, L, (va :: vb :: st), h, c, z) := fun X hX => hX 54 hd hva hvb (k X hX)
theorem ev_dup2_2 {G : ev_G} {C : ev_L} {w : Nat} {M : ev_M} {K : ev_K} {pc : Nat} {L : ev_V} {st : List Value} {h : ev_H} {c z : Nat} {va : Value} (hd : decode M.2.1 pc = .ok (.dup2, 1)) (hva : va.category = 2) (k : ev_J G C w M K ((pc + 1), L, (va :: va :: st), h, c, z)) : ev_J G C w M K (pc, L, (va :: st), h, c, z) := fun X hX => hX 55 hd hva (k X hX)
theorem ev_pop2_2 {G : ev_G} {C : ev_L} {w : Nat} {M : ev_M} {K : ev_K} {pc : Nat} {L : ev_V} {st : List Value} {h : ev_H} {c z : Nat} {va : Value} (hd : decode M.2.1 pc = .ok (.pop2, 1)) (hva : va.category = 2) (k : ev_J G C w M K ((pc + 1), L, st, h, c, z)) : ev_J G C w M K (pc, L, (va :: st), h, c, z) := fun X hX => hX 56 hd hva (k X hX)
theorem ev_dup2_x1_2 {G : ev_G} {C : ev_L} {w : Nat} {M : ev_M} {K : ev_K} {pc : Nat} {L : ev_V} {st : List Value} {h : ev_H} {c z : Nat} {va vb : Value} (hd : decode M.2.1 pc = .ok (.dup2_x1, 1)) (hva : va.category = 2) (hvb : vb.category = 1) (k : ev_J G C w M K ((pc + 1), L, (va :: vb :: va :: st), h, c, z)) : ev_J G C w M K (pc, L, (va :: vb :: st), h, c, z) := fun X hX => hX 57 hd hva hvb (k X hX)
theorem ev_dup2_x2_2 {G : ev_G} {C : ev_L} {w : Nat} {M : ev_M} {K : ev_K} {pc : Nat} {L : ev_V} {st : List Value} {h : ev_H} {c z : Nat} {va vb vd : Value} (hd : decode M.2.1 pc = .ok (.dup2_x2, 1)) (hva : va.category = 2) (hvb : vb.category = 1) (hvd : vd.category = 1) (k : ev_J G C w M K ((pc + 1), L, (va :: vb :: vd :: va :: st), h, c, z)) : ev_J G C w M K (pc, L, (va :: vb :: vd :: st), h, c, z) := fun X hX => hX 58 hd hva hvb hvd (k X hX)
theorem ev_if_eq {G : ev_G} {C : ev_L} {w : Nat} {M : ev_M} {K : ev_K} {pc : Nat} {L : ev_V} {st : List Value} {h : ev_H} {c z : Nat} {off : Int} {tgt : Nat} {x : Int32} (hd : decode M.2.1 pc = .ok (.ifCond .eq off, 3)) (ht : (pc : Int) + off = (tgt : Int)) (kt : (x = 0 → ev_J G C w M K (tgt, L, st, h, c, z))) (kf : (¬ x = 0 → ev_J G C w M K ((pc + 3), L, st, h, c, z))) : ev_J G C w M K (pc, L, (.int x :: st), h, c, z) := fun X hX => hX 59 hd ht (fun q => kt q X hX) (fun q => kf q X hX)
theorem ev_icmp_eq {G : ev_G} {C : ev_L} {w : Nat} {M : ev_M} {K : ev_K} {pc : Nat} {L : ev_V} {st : List Value} {h : ev_H} {c z : Nat} {off : Int} {tgt : Nat} {x y : Int32} (hd : decode M.2.1 pc = .ok (.if_icmp .eq off, 3)) (ht : (pc : Int) + off = (tgt : Int)) (kt : (x = y → ev_J G C w M K (tgt, L, st, h, c, z))) (kf : (¬ x = y → ev_J G C w M K ((pc + 3), L, st, h, c, z))) : ev_J G C w M K (pc, L, (.int y :: .int x :: st), h, c, z) := fun X hX => hX 60 hd ht (fun q => kt q X hX) (fun q => kf q X hX)
theorem ev_if_ne {G : ev_G} {C : ev_L} {w : Nat} {M : ev_M} {K : ev_K} {pc : Nat} {L : ev_V} {st : List Value} {h : ev_H} {c z : Nat} {off : Int} {tgt : Nat} {x : Int32} (hd : decode M.2.1 pc = .ok (.ifCond .ne off, 3)) (ht : (pc : Int) + off = (tgt : Int)) (kt : (¬ x = 0 → ev_J G C w M K (tgt, L, st, h, c, z))) (kf : (x = 0 → ev_J G C w M K ((pc + 3), L, st, h, c, z))) : ev_J G C w M K (pc, L, (.int x :: st), h, c, z) := fun X hX => hX 61 hd ht (fun q => kt q X hX) (fun q => kf q X hX)
theorem ev_icmp_ne {G : ev_G} {C : ev_L} {w : Nat} {M : ev_M} {K : ev_K} {pc : Nat} {L : ev_V} {st : List Value} {h : ev_H} {c z : Nat} {off : Int} {tgt : Nat} {x y : Int32} (hd : decode M.2.1 pc = .ok (.if_icmp .ne off, 3)) (ht : (pc : Int) + off = (tgt : Int)) (kt : (¬ x = y → ev_J G C w M K (tgt, L, st, h, c, z))) (kf : (x = y → ev_J G C w M K ((pc + 3), L, st, h, c, z))) : ev_J G C w M K (pc, L, (.int y :: .int x :: st), h, c, z) := fun X hX => hX 62 hd ht (fun q => kt q X hX) (fun q => kf q X hX)
theorem ev_if_lt {G : ev_G} {C : ev_L} {w : Nat} {M : ev_M} {K : ev_K} {pc : Nat} {L : ev_V} {st : List Value} {h : ev_H} {c z : Nat} {off : Int} {tgt : Nat} {x : Int32} (hd : decode M.2.1 pc = .ok (.ifCond .lt off, 3)) (ht : (pc : Int) + off = (tgt : Int)) (kt : (x < 0 → ev_J G C w M K (tgt, L, st, h, c, z))) (kf : (¬ x < 0 → ev_J G C w M K ((pc + 3), L, st, h, c, z))) : ev_J G C w M K (pc, L, (.int x :: st), h, c, z) := fun X hX => hX 63 hd ht (fun q => kt q X hX) (fun q => kf q X hX)
theorem ev_icmp_lt {G : ev_G} {C : ev_L} {w : Nat} {M : ev_M} {K : ev_K} {pc : Nat} {L : ev_V} {st : List Value} {h : ev_H} {c z : Nat} {off : Int} {tgt : Nat} {x y : Int32} (hd : decode M.2.1 pc = .ok (.if_icmp .lt off, 3)) (ht : (pc : Int) + off = (tgt : Int)) (kt : (x < y → ev_J G C w M K (tgt, L, st, h, c, z))) (kf : (¬ x < y → ev_J G C w M K ((pc + 3), L, st, h, c, z))) : ev_J G C w M K (pc, L, (.int y :: .int x :: st), h, c, z) := fun X hX => hX 64 hd ht (fun q => kt q X hX) (fun q => kf q X hX)
theorem ev_if_ge {G : ev_G} {C : ev_L} {w : Nat} {M : ev_M} {K : ev_K} {pc : Nat} {L : ev_V} {st : List Value} {h : ev_H} {c z : Nat} {off : Int} {tgt : Nat} {x : Int32} (hd : decode M.2.1 pc = .ok (.ifCond .ge off, 3)) (ht : (pc : Int) + off = (tgt : Int)) (kt : (0 ≤ x → ev_J G C w M K (tgt, L, st, h, c, z))) (kf : (¬ 0 ≤ x → ev_J G C w M K ((pc + 3), L, st, h, c, z))) : ev_J G C w M K (pc, L, (.int x :: st), h, c, z) := fun X hX => hX 65 hd ht (fun q => kt q X hX) (fun q => kf q X hX)
theorem ev_icmp_ge {G : ev_G} {C : ev_L} {w : Nat} {M : ev_M} {K : ev_K} {pc : Nat} {L : ev_V} {st : List Value} {h : ev_H} {c z : Nat} {off : Int} {tgt : Nat} {x y : Int32} (hd : decode M.2.1 pc = .ok (.if_icmp .ge off, 3)) (ht : (pc : Int) + off = (tgt : Int)) (kt : (y ≤ x → ev_J G C w M K (tgt, L, st, h, c, z))) (kf : (¬ y ≤ x → ev_J G C w M K ((pc + 3), L, st, h, c, z))) : ev_J G C w M K (pc, L, (.int y :: .int x :: st), h, c, z) := fun X hX => hX 66 hd ht (fun q => kt q X hX) (fun q => kf q X hX)
theorem ev_if_gt {G : ev_G} {C : ev_L} {w : Nat} {M : ev_M} {K : ev_K} {pc : Nat} {L : ev_V} {st : List Value} {h : ev_H} {c z : Nat} {off : Int} {tgt : Nat} {x : Int32} (hd : decode M.2.1 pc = .ok (.ifCond .gt off, 3)) (ht : (pc : Int) + off = (tgt : Int)) (kt : (0 < x → ev_J G C w M K (tgt, L, st, h, c, z))) (kf : (¬ 0 < x → ev_J G C w M K ((pc + 3), L, st, h, c, z))) : ev_J G C w M K (pc, L, (.int x :: st), h, c, z) := fun X hX => hX 67 hd ht (fun q => kt q X hX) (fun q => kf q X hX)
theorem ev_icmp_gt {G : ev_G} {C : ev_L} {w : Nat} {M : ev_M} {K : ev_K} {pc : Nat} {L : ev_V} {st : List Value} {h : ev_H} {c z : Nat} {off : Int} {tgt : Nat} {x y : Int32} (hd : decode M.2.1 pc = .ok (.if_icmp .gt off, 3)) (ht : (pc : Int) + off = (tgt : Int)) (kt : (y < x → ev_J G C w M K (tgt, L, st, h, c, z))) (kf : (¬ y < x → ev_J G C w M K ((pc + 3), L, st, h, c, z))) : ev_J G C w M K (pc, L, (.int y :: .int x :: st), h, c, z) := fun X hX => hX 68 hd ht (fun q => kt q X hX) (fun q => kf q X hX)
theorem ev_if_le {G : ev_G} {C : ev_L} {w : Nat} {M : ev_M} {K : ev_K} {pc : Nat} {L : ev_V} {st : List Value} {h : ev_H} {c z : Nat} {off : Int} {tgt : Nat} {x : Int32} (hd : decode M.2.1 pc = .ok (.ifCond .le off, 3)) (ht : (pc : Int) + off = (tgt : Int)) (kt : (x ≤ 0 → ev_J G C w M K (tgt, L, st, h, c, z))) (kf : (¬ x ≤ 0 → ev_J G C w M K ((pc + 3), L, st, h, c, z))) : ev_J G C w M K (pc, L, (.int x :: st), h, c, z) := fun X hX => hX 69 hd ht (fun q => kt q X hX) (fun q => kf q X hX)
theorem ev_icmp_le {G : ev_G} {C : ev_L} {w : Nat} {M : ev_M} {K : ev_K} {pc : Nat} {L : ev_V} {st : List Value} {h : ev_H} {c z : Nat} {off : Int} {tgt : Nat} {x y : Int32} (hd : decode M.2.1 pc = .ok (.if_icmp .le off, 3)) (ht : (pc : Int) + off = (tgt : Int)) (kt : (x ≤ y → ev_J G C w M K (tgt, L, st, h, c, z))) (kf : (¬ x ≤ y → ev_J G C w M K ((pc + 3), L, st, h, c, z))) : ev_J G C w M K (pc, L, (.int y :: .int x :: st), h, c, z) := fun X hX => hX 70 hd ht (fun q => kt q X hX) (fun q => kf q X hX)
theorem ev_goto {G : ev_G} {C : ev_L} {w : Nat} {M : ev_M} {K : ev_K} {pc : Nat} {L : ev_V} {st : List Value} {h : ev_H} {c z : Nat} {off : Int} {tgt : Nat} (hd : decode M.2.1 pc = .ok (.goto off, 3)) (ht : (pc : Int) + off = (tgt : Int)) (k : ev_J G C w M K (tgt, L, st, h, c, z)) : ev_J G C w M K (pc, L, st, h, c, z) := fun X hX => hX 71 hd ht (k X hX)
theorem ev_tableIn {G : ev_G} {C : ev_L} {w : Nat} {M : ev_M} {K : ev_K} {pc : Nat} {L : ev_V} {st : List Value} {h : ev_H} {c z : Nat} {dflt lo hi : Int} {offs : Array Int} {len : Nat} {x : Int32} {off : Int} {tgt : Nat} (hd : decode M.2.1 pc = .ok (.tableswitch dflt lo hi offs, len)) (h1 : ¬ x.toInt < lo) (h2 : ¬ hi < x.toInt) (ho : offs[(x.toInt - lo).toNat]? = some off) (ht : (pc : Int) + off = (tgt : Int)) (k : ev_J G C w M K (tgt, L, st, h, c, z)) : ev_J G C w M K (pc, L, (.int x :: st), h, c, z) := fun X hX => hX 72 hd h1 h2 ho ht (k X hX)
theorem ev_tableOut {G : ev_G} {C : ev_L} {w : Nat} {M : ev_M} {K : ev_K} {pc : Nat} {L : ev_V} {st : List Value} {h : ev_H} {c z : Nat} {dflt lo hi : Int} {offs : Array Int} {len : Nat} {x : Int32} {tgt : Nat} (hd : decode M.2.1 pc = .ok (.tableswitch dflt lo hi offs, len)) (h1 : x.toInt < lo ∨ hi < x.toInt) (ht : (pc : Int) + dflt = (tgt : Int)) (k : ev_J G C w M K (tgt, L, st, h, c, z)) : ev_J G C w M K (pc, L, (.int x :: st), h, c, z) := fun X hX => hX 73 hd h1 ht (k X hX)
theorem ev_iald {G : ev_G} {C : ev_L} {w : Nat} {M : ev_M} {K : ev_K} {pc : Nat} {L : ev_V} {st : List Value} {h : ev_H} {c z : Nat} {a n : Nat} {f : Nat → Int32} {i : Int32} (hd : decode M.2.1 pc = .ok (.iaload, 1)) (ha : h a = some (.inl (.int, n, .inl f))) (hi : vp_in i n) (k : ev_J G C w M K ((pc + 1), L, (.int (f i.toNatClampNeg) :: st), h, c, z)) : ev_J G C w M K (pc, L, (.int i :: .ref a :: st), h, c, z) := fun X hX => hX 74 hd ha hi (k X hX)
theorem ev_cald {G : ev_G} {C : ev_L} {w : Nat} {M : ev_M} {K : ev_K} {pc : Nat} {L : ev_V} {st : List Value} {h : ev_H} {c z : Nat} {a n : Nat} {f : Nat → Int32} {i : Int32} (hd : decode M.2.1 pc = .ok (.caload, 1)) (ha : h a = some (.inl (.char, n, .inl f))) (hi : vp_in i n) (k : ev_J G C w M K ((pc + 1), L, (.int (f i.toNatClampNeg) :: st), h, c, z)) : ev_J G C w M K (pc, L, (.int i :: .ref a :: st), h, c, z) := fun X hX => hX 75 hd ha hi (k X hX)
theorem ev_bald {G : ev_G} {C : ev_L} {w : Nat} {M : ev_M} {K : ev_K} {pc : Nat} {L : ev_V} {st : List Value} {h : ev_H} {c z : Nat} {a n : Nat} {f : Nat → Int32} {i : Int32} (hd : decode M.2.1 pc = .ok (.baload, 1)) (ha : h a = some (.inl (.byte, n, .inl f))) (hi : vp_in i n) (k : ev_J G C w M K ((pc + 1), L, (.int (f i.toNatClampNeg) :: st), h, c, z)) : ev_J G C w M K (pc, L, (.int i :: .ref a :: st), h, c, z) := fun X hX => hX 76 hd ha hi (k X hX)
theorem ev_zald {G : ev_G} {C : ev_L} {w : Nat} {M : ev_M} {K : ev_K} {pc : Nat} {L : ev_V} {st : List Value} {h : ev_H} {c z : Nat} {a n : Nat} {f : Nat → Int32} {i : Int32} (hd : decode M.2.1 pc = .ok (.baload, 1)) (ha : h a = some (.inl (.boolean, n, .inl f))) (hi : vp_in i n) (k : ev_J G C w M K ((pc + 1), L, (.int (f i.toNatClampNeg) :: st), h, c, z)) : ev_J G C w M K (pc, L, (.int i :: .ref a :: st), h, c, z) := fun X hX => hX 77 hd ha hi (k X hX)
theorem ev_lald {G : ev_G} {C : ev_L} {w : Nat} {M : ev_M} {K : ev_K} {pc : Nat} {L : ev_V} {st : List Value} {h : ev_H} {c z : Nat} {a n : Nat} {f : Nat → Int64} {i : Int32} (hd : decode M.2.1 pc = .ok (.laload, 1)) (ha : h a = some (.inl (.long, n, .inr (.inl f)))) (hi : vp_in i n) (k : ev_J G C w M K ((pc + 1), L, (.long (f i.toNatClampNeg) :: st), h, c, z)) : ev_J G C w M K (pc, L, (.int i :: .ref a :: st), h, c, z) := fun X hX => hX 78 hd ha hi (k X hX)
theorem ev_aald {G : ev_G} {C : ev_L} {w : Nat} {M : ev_M} {K : ev_K} {pc : Nat} {L : ev_V} {st : List Value} {h : ev_H} {c z : Nat} {a n q : Nat} {f : Nat → Option Nat} {i : Int32} (hd : decode M.2.1 pc = .ok (.aaload, 1)) (ha : h a = some (.inl (.array .int, n, .inr (.inr (.inr (.inr f)))))) (hi : vp_in i n) (hf : f i.toNatClampNeg = some q) (k : ev_J G C w M K ((pc + 1), L, (.ref q :: st), h, c, z)) : ev_J G C w M K (pc, L, (.int i :: .ref a :: st), h, c, z) := fun X hX => hX 79 hd ha hi hf (k X hX)
theorem ev_iast {G : ev_G} {C : ev_L} {w : Nat} {M : ev_M} {K : ev_K} {pc : Nat} {L : ev_V} {st : List Value} {h : ev_H} {c z : Nat} {a n : Nat} {f : Nat → Int32} {i x : Int32} (hd : decode M.2.1 pc = .ok (.iastore, 1)) (ha : h a = some (.inl (.int, n, .inl f))) (hi : vp_in i n) (k : ev_J G C w M K ((pc + 1), L, st, (ev_up h a (.inl (.int, n, .inl (upd f i.toNatClampNeg x)))), c, z)) : ev_J G C w M K (pc, L, (.int x :: .int i :: .ref a :: st), h, c, z) := fun X hX => hX 80 hd ha hi (k X hX)
theorem ev_cast {G : ev_G} {C : ev_L} {w : Nat} {M : ev_M} {K : ev_K} {pc : Nat} {L : ev_V} {st : List Value} {h : ev_H} {c z : Nat} {a n : Nat} {f : Nat → Int32} {i x : Int32} (hd : decode M.2.1 pc = .ok (.castore, 1)) (ha : h a = some (.inl (.char, n, .inl f))) (hi : vp_in i n) (k : ev_J G C w M K ((pc + 1), L, st, (ev_up h a (.inl (.char, n, .inl (upd f i.toNatClampNeg (vp_nar .char x))))), c, z)) : ev_J G C w M K (pc, L, (.int x :: .int i :: .ref a :: st), h, c, z) := fun X hX => hX 81 hd ha hi (k X hX)
theorem ev_zast {G : ev_G} {C : ev_L} {w : Nat} {M : ev_M} {K : ev_K} {pc : Nat} {L : ev_V} {st : List Value} {h : ev_H} {c z : Nat} {a n : Nat} {f : Nat → Int32} {i x : Int32} (hd : decode M.2.1 pc = .ok (.bastore, 1)) (ha : h a = some (.inl (.boolean, n, .inl f))) (hi : vp_in i n) (k : ev_J G C w M K ((pc + 1), L, st, (ev_up h a (.inl (.boolean, n, .inl (upd f i.toNatClampNeg (vp_nar .boolean x))))), c, z)) : ev_J G C w M K (pc, L, (.int x :: .int i :: .ref a :: st), h, c, z) := fun X hX => hX 82 hd ha hi (k X hX)
theorem ev_bast {G : ev_G} {C : ev_L} {w : Nat} {M : ev_M} {K : ev_K} {pc : Nat} {L : ev_V} {st : List Value} {h : ev_H} {c z : Nat} {a n : Nat} {f : Nat → Int32} {i x : Int32} (hd : decode M.2.1 pc = .ok (.bastore, 1)) (ha : h a = some (.inl (.byte, n, .inl f))) (hi : vp_in i n) (k : ev_J G C w M K ((pc + 1), L, st, (ev_up h a (.inl (.byte, n, .inl (upd f i.toNatClampNeg (vp_nar .byte x))))), c, z)) : ev_J G C w M K (pc, L, (.int x :: .int i :: .ref a :: st), h, c, z) := fun X hX => hX 83 hd ha hi (k X hX)
theorem ev_last {G : ev_G} {C : ev_L} {w : Nat} {M : ev_M} {K : ev_K} {pc : Nat} {L : ev_V} {st : List Value} {h : ev_H} {c z : Nat} {a n : Nat} {f : Nat → Int64} {i : Int32} {x : Int64} (hd : decode M.2.1 pc = .ok (.lastore, 1)) (ha : h a = some (.inl (.long, n, .inr (.inl f)))) (hi : vp_in i n) (k : ev_J G C w M K ((pc + 1), L, st, (ev_up h a (.inl (.long, n, .inr (.inl (vp_updL f i.toNatClampNeg x))))), c, z)) : ev_J G C w M K (pc, L, (.long x :: .int i :: .ref a :: st), h, c, z) := fun X hX => hX 84 hd ha hi (k X hX)
theorem ev_alen {G : ev_G} {C : ev_L} {w : Nat} {M : ev_M} {K : ev_K} {pc : Nat} {L : ev_V} {st : List Value} {h : ev_H} {c z : Nat} {a : Nat} {ft : FieldType} {x : vp_A} (hd : decode M.2.1 pc = .ok (.arraylength, 1)) (ha : h a = some (.inl (ft, x))) (k : ev_J G C w M K ((pc + 1), L, (.int (nI x.1) :: st), h, c, z)) : ev_J G C w M K (pc, L, (.ref a :: st), h, c, z) := fun X hX => hX 85 hd ha (k X hX)
theorem ev_riald {G : ev_G} {C : ev_L} {w : Nat} {M : ev_M} {K : ev_K} {pc : Nat} {L : ev_V} {st : List Value} {h : ev_H} {c z : Nat} {a n : Nat} {f : Nat → Int32} {i : Int32} (hd : decode M.2.1 pc = .ok (.iaload, 1)) (ha : G.1 a = some (n, f)) (hi : vp_in i n) (k : ev_J G C w M K ((pc + 1), L, (.int (f i.toNatClampNeg) :: st), h, c, z)) : ev_J G C w M K (pc, L, (.int i :: .ref a :: st), h, c, z) := fun X hX => hX 86 hd ha hi (k X hX)
theorem ev_ralen {G : ev_G} {C : ev_L} {w : Nat} {M : ev_M} {K : ev_K} {pc : Nat} {L : ev_V} {st : List Value} {h : ev_H} {c z : Nat} {a n : Nat} {f : Nat → Int32} (hd : decode M.2.1 pc = .ok (.arraylength, 1)) (ha : G.1 a = some (n, f)) (k : ev_J G C w M K ((pc + 1), L, (.int (nI n) :: st), h, c, z)) : ev_J G C w M K (pc, L, (.ref a :: st), h, c, z) := fun X hX => hX 87 hd ha (k X hX)
theorem ev_gets {G : ev_G} {C : ev_L} {w : Nat} {M : ev_M} {K : ev_K} {pc : Nat} {L : ev_V} {st : List Value} {h : ev_H} {c z : Nat} {i : Nat} {Cn n d : String} {a : Nat} (hd : decode M.2.1 pc = .ok (.getstatic i, 3)) (hw : Cond.fieldLink M.1.cls i Cn n d ∈ ev_ws) (ha : G.2 Cn n d = some a) (k : ev_J G C w M K ((pc + 3), L, (.ref a :: st), h, c, z)) : ev_J G C w M K (pc, L, st, h, c, z) := fun X hX => hX 88 hd hw ha (k X hX)
theorem ev_getf {G : ev_G} {C : ev_L} {w : Nat} {M : ev_M} {K : ev_K} {pc : Nat} {L : ev_V} {st : List Value} {h : ev_H} {c z : Nat} {i a ci kf : Nat} {fs : List Value} {v : Value} (hd : decode M.2.1 pc = .ok (.getfield i, 3)) (hw : ev_fl M.1.cls i ci kf) (ha : h a = some (.inr (ci, fs))) (hv : fs[kf]? = some v) (k : ev_J G C w M K ((pc + 3), L, (v :: st), h, c, z)) : ev_J G C w M K (pc, L, (.ref a :: st), h, c, z) := fun X hX => hX 89 hd hw ha hv (k X hX)
theorem ev_putf {G : ev_G} {C : ev_L} {w : Nat} {M : ev_M} {K : ev_K} {pc : Nat} {L : ev_V} {st : List Value} {h : ev_H} {c z : Nat} {i a ci kf : Nat} {ty : FieldType} {fs : List Value} {v : Value} (hd : decode M.2.1 pc = .ok (.putfield i, 3)) (hw : ev_fp M.1.cls i ci kf ty) (ha : h a = some (.inr (ci, fs))) (hl1 : Nat.blt kf fs.length = true) (hn : narrow ty v = v) (hf : fits ty v = true) (k : ev_J G C w M K ((pc + 3), L, st, (ev_up h a (.inr (ci, fs.set kf v))), c, z)) : ev_J G C w M K (pc, L, (v :: .ref a :: st), h, c, z) := fun X hX => hX 90 hd hw ha hl1 hn hf (k X hX)
theorem ev_putF {G : ev_G} {C : ev_L} {w : Nat} {M : ev_M} {K : ev_K} {pc : Nat} {L : ev_V} {st : List Value} {h : ev_H} {c z : Nat} {i a ci kf : Nat} {ty : FieldType} {fs : List Value} {v : Value} (hd : decode M.2.1 pc = .ok (.putfield i, 3)) (hw : ev_fF M.1.cls i ci kf ty) (hi : M.1.name = "<init>") (ha : h a = some (.inr (ci, fs))) (hl1 : Nat.blt kf fs.length = true) (hn : narrow ty v = v) (hf : fits ty v = true) (k : ev_J G C w M K ((pc + 3), L, st, (ev_up h a (.inr (ci, fs.set kf v))), c, z)) : ev_J G C w M K (pc, L, (v :: .ref a :: st), h, c, z) := fun X hX => hX 91 hd hw hi ha hl1 hn hf (k X hX)
theorem ev_newi {G : ev_G} {C : ev_L} {w : Nat} {M : ev_M} {K : ev_K} {pc : Nat} {L : ev_V} {st : List Value} {h : ev_H} {c z : Nat} {n : Int32} {N : Nat} (hd : decode M.2.1 pc = .ok (.newarray .int, 2)) (hw : Cond.arrayClass .int ∈ ev_ws) (hn : ¬ n < 0) (hN : n.toNatClampNeg = N) (hB : N ≤ 60000000) (k : (∀ q, h q = none → ev_J G C w M K ((pc + 2), L, (.ref q :: st), (ev_up h q (.inl (.int, N, .inl (fun _ => 0)))), c, z))) : ev_J G C w M K (pc, L, (.int n :: st), h, (c + 1), (z + N)) := fun X hX => hX 92 hd hw hn hN hB (fun q hq => k q hq X hX)
theorem ev_newc {G : ev_G} {C : ev_L} {w : Nat} {M : ev_M} {K : ev_K} {pc : Nat} {L : ev_V} {st : List Value} {h : ev_H} {c z : Nat} {n : Int32} {N : Nat} (hd : decode M.2.1 pc = .ok (.newarray .char, 2)) (hw : Cond.arrayClass .char ∈ ev_ws) (hn : ¬ n < 0) (hN : n.toNatClampNeg = N) (hB : N ≤ 60000000) (k : (∀ q, h q = none → ev_J G C w M K ((pc + 2), L, (.ref q :: st), (ev_up h q (.inl (.char, N, .inl (fun _ => 0)))), c, z))) : ev_J G C w M K (pc, L, (.int n :: st), h, (c + 1), (z + N)) := fun X hX => hX 93 hd hw hn hN hB (fun q hq => k q hq X hX)
theorem ev_newl {G : ev_G} {C : ev_L} {w : Nat} {M : ev_M} {K : ev_K} {pc : Nat} {L : ev_V} {st : List Value} {h : ev_H} {c z : Nat} {n : Int32} {N : Nat} (hd : decode M.2.1 pc = .ok (.newarray .long, 2)) (hw : Cond.arrayClass .long ∈ ev_ws) (hn : ¬ n < 0) (hN : n.toNatClampNeg = N) (hB : N ≤ 60000000) (k : (∀ q, h q = none → ev_J G C w M K ((pc + 2), L, (.ref q :: st), (ev_up h q (.inl (.long, N, .inr (.inl (fun _ => 0))))), c, z))) : ev_J G C w M K (pc, L, (.int n :: st), h, (c + 1), (z + N)) := fun X hX => hX 94 hd hw hn hN hB (fun q hq => k q hq X hX)
theorem ev_newz {G : ev_G} {C : ev_L} {w : Nat} {M : ev_M} {K : ev_K} {pc : Nat} {L : ev_V} {st : List Value} {h : ev_H} {c z : Nat} {n : Int32} {N : Nat} (hd : decode M.2.1 pc = .ok (.newarray .boolean, 2)) (hw : Cond.arrayClass .boolean ∈ ev_ws) (hn : ¬ n < 0) (hN : n.toNatClampNeg = N) (hB : N ≤ 60000000) (k : (∀ q, h q = none → ev_J G C w M K ((pc + 2), L, (.ref q :: st), (ev_up h q (.inl (.boolean, N, .inl (fun _ => 0)))), c, z))) : ev_J G C w M K (pc, L, (.int n :: st), h, (c + 1), (z + N)) := fun X hX => hX 95 hd hw hn hN hB (fun q hq => k q hq X hX)
theorem ev_new {G : ev_G} {C : ev_L} {w : Nat} {M : ev_M} {K : ev_K} {pc : Nat} {L : ev_V} {st : List Value} {h : ev_H} {c z : Nat} {i ci N : Nat} {fs : List Value} (hd : decode M.2.1 pc = .ok (.new i, 3)) (hw : ev_nw M.1.cls i ci N fs) (k : (∀ q, h q = none → ev_J G C w M K ((pc + 3), L, (.ref q :: st), (ev_up h q (.inr (ci, fs))), c, z))) : ev_J G C w M K (pc, L, st, h, (c + 1), (z + N)) := fun X hX => hX 96 hd hw (fun q hq => k q hq X hX)
theorem ev_iret {G : ev_G} {C : ev_L} {w : Nat} {M : ev_M} {K : ev_K} {pc : Nat} {L : ev_V} {h : ev_H} {c z : Nat} {x : Int32} {ty : FieldType} (hd : decode M.2.1 pc = .ok (.ireturn, 1)) (hr1 : M.2.2.2 = some ty) (hn : narrow ty (.int x) = .int x) (hk : K (.inl (some (.int x))) h)  : ev_J G C w M K (pc, L, [.int x], h, c, z) := fun X hX => hX 97 hd hr1 hn hk 
theorem ev_lret {G : ev_G} {C : ev_L} {w : Nat} {M : ev_M} {K : ev_K} {pc : Nat} {L : ev_V} {h : ev_H} {c z : Nat} {x : Int64} (hd : decode M.2.1 pc = .ok (.lreturn, 1)) (hr1 : M.2.2.2 = some .long) (hk : K (.inl (some (.long x))) h)  : ev_J G C w M K (pc, L, [.long x], h, c, z) := fun X hX => hX 98 hd hr1 hk 
theorem ev_aret {G : ev_G} {C : ev_L} {w : Nat} {M : ev_M} {K : ev_K} {pc : Nat} {L : ev_V} {h : ev_H} {c z : Nat} {x : Nat} {ty : FieldType} (hd : decode M.2.1 pc = .ok (.areturn, 1)) (hr1 : M.2.2.2 = some ty) (hrt : (∃ n, ty = .object n) ∨ ∃ t, ty = .array t) (hk : K (.inl (some (.ref x))) h)  : ev_J G C w M K (pc, L, [.ref x], h, c, z) := fun X hX => hX 99 hd hr1 hrt hk 
theorem ev_vret {G : ev_G} {C : ev_L} {w : Nat} {M : ev_M} {K : ev_K} {pc : Nat} {L : ev_V} {h : ev_H} {c z : Nat} (hd : decode M.2.1 pc = .ok (.return_, 1)) (hr1 : M.2.2.2 = none) (hk : K (.inl none) h)  : ev_J G C w M K (pc, L, [], h, c, z) := fun X hX => hX 100 hd hr1 hk 
theorem ev_callV {G : ev_G} {C : ev_L} {w : Nat} {M : ev_M} {K : ev_K} {pc : Nat} {L : ev_V} {st : List Value} {h : ev_H} {c z : Nat} {i c1 z1 : Nat} {b : Nat} {ci : Nat} {fs : List Value} {N : ev_M} {As stk : List Value} {post : Option Value → ev_H → Prop} (hd : decode M.2.1 pc = .ok (.invokevirtual i, 3)) (hw : ev_cv M.1.cls i N As.length) (hs : stk = As.reverse ++ .ref b :: st) (hq : Nat.ble ((st.map (fun v => v.category)).sum) 8 = true) (hb1 : h b = some (.inr (ci, fs))) (hci : (classes[ci]?).map (fun q => q.1) = some N.1.cls) (hC : C N (.ref b :: As) h c1 z1 (ev_ok post)) (hc1 : Nat.ble c1 c = true) (hz1 : Nat.ble z1 z = true) (k : (∀ r h1, post r h1 → ev_J G C w M K (pc + 3, L, r.toList ++ st, h1, c - c1, z - z1))) : ev_J G C w M K (pc, L, stk, h, c, z) := fun X hX => hX 101 hd hw hs hq hb1 hci hC hc1 hz1 (fun r h1 hp => k r h1 hp X hX)
theorem ev_callS {G : ev_G} {C : ev_L} {w : Nat} {M : ev_M} {K : ev_K} {pc : Nat} {L : ev_V} {st : List Value} {h : ev_H} {c z : Nat} {i c1 z1 : Nat} {N : ev_M} {As stk : List Value} {post : Option Value → ev_H → Prop} (hd : decode M.2.1 pc = .ok (.invokestatic i, 3)) (hw : ev_cs M.1.cls i N As.length) (hs : stk = As.reverse ++ st) (hq : Nat.ble ((st.map (fun v => v.category)).sum) 8 = true) (hC : C N As h c1 z1 (ev_ok post)) (hc1 : Nat.ble c1 c = true) (hz1 : Nat.ble z1 z = true) (k : (∀ r h1, post r h1 → ev_J G C w M K (pc + 3, L, r.toList ++ st, h1, c - c1, z - z1))) : ev_J G C w M K (pc, L, stk, h, c, z) := fun X hX => hX 102 hd hw hs hq hC hc1 hz1 (fun r h1 hp => k r h1 hp X hX)
theorem ev_callI {G : ev_G} {C : ev_L} {w : Nat} {M : ev_M} {K : ev_K} {pc : Nat} {L : ev_V} {st : List Value} {h : ev_H} {c z : Nat} {i c1 z1 : Nat} {b : Nat} {N : ev_M} {As stk : List Value} {post : Option Value → ev_H → Prop} (hd : decode M.2.1 pc = .ok (.invokespecial i, 3)) (hw : ev_ci M.1.cls i N As.length) (hs : stk = As.reverse ++ .ref b :: st) (hq : Nat.ble ((st.map (fun v => v.category)).sum) 8 = true) (hC : C N (.ref b :: As) h c1 z1 (ev_ok post)) (hc1 : Nat.ble c1 c = true) (hz1 : Nat.ble z1 z = true) (k : (∀ r h1, post r h1 → ev_J G C w M K (pc + 3, L, r.toList ++ st, h1, c - c1, z - z1))) : ev_J G C w M K (pc, L, stk, h, c, z) := fun X hX => hX 103 hd hw hs hq hC hc1 hz1 (fun r h1 hp => k r h1 hp X hX)
theorem ev_callIN {G : ev_G} {C : ev_L} {w : Nat} {M : ev_M} {K : ev_K} {pc : Nat} {L : ev_V} {st : List Value} {h : ev_H} {c z : Nat} {i c1 z1 : Nat} {b : Nat} {N : ev_M} {As stk : List Value} {post : Option Value → ev_H → Prop} (hd : decode M.2.1 pc = .ok (.invokespecial i, 3)) (hw : ev_cin M.1.cls i N As.length) (hs : stk = As.reverse ++ .ref b :: st) (hq : Nat.ble ((st.map (fun v => v.category)).sum) 8 = true) (hC : C N (.ref b :: As) h c1 z1 (ev_ok post)) (hc1 : Nat.ble c1 c = true) (hz1 : Nat.ble z1 z = true) (k : (∀ r h1, post r h1 → ev_J G C w M K (pc + 3, L, r.toList ++ st, h1, c - c1, z - z1))) : ev_J G C w M K (pc, L, stk, h, c, z) := fun X hX => hX 104 hd hw hs hq hC hc1 hz1 (fun r h1 hp => k r h1 hp X hX)
theorem ev_objInit {G : ev_G} {C : ev_L} {w : Nat} {M : ev_M} {K : ev_K} {pc : Nat} {L : ev_V} {st : List Value} {h : ev_H} {c z : Nat} {i a : Nat} (hd : decode M.2.1 pc = .ok (.invokespecial i, 3)) (hw : Cond.methodLink M.1.cls i Lib.objectInit ∈ ev_ws ∧ Cond.instanceMethod Lib.objectInit ∈ ev_ws ∧ Cond.code Lib.objectInit ⟨#[0xb1]⟩ 1 none ∈ ev_ws) (hq : Nat.ble ((st.map (fun v => v.category)).sum) 8 = true) (hw9 : 20 ≤ w) (k : ev_J G C w M K ((pc + 3), L, st, h, c, z)) : ev_J G C w M K (pc, L, (.ref a :: st), h, c, z) := fun X hX => hX 105 hd hw hq hw9 (k X hX)
theorem ev_mmax {G : ev_G} {C : ev_L} {w : Nat} {M : ev_M} {K : ev_K} {pc : Nat} {L : ev_V} {st : List Value} {h : ev_H} {c z : Nat} {i : Nat} {x y : Int32} (hd : decode M.2.1 pc = .ok (.invokestatic i, 3)) (hw : Cond.methodLink M.1.cls i Lib.Math.max.name ∈ ev_ws ∧ Cond.static Lib.Math.max.name ∈ ev_ws ∧ Cond.initialized "java/lang/Math" ∈ ev_ws ∧ Cond.code Lib.Math.max.name Lib.Math.max.code 2 (some .int) ∈ ev_ws) (hq : Nat.ble ((st.map (fun v => v.category)).sum) 8 = true) (hw9 : 23 ≤ w) (k : ev_J G C w M K ((pc + 3), L, (.int (if x < y then y else x) :: st), h, c, z)) : ev_J G C w M K (pc, L, (.int y :: .int x :: st), h, c, z) := fun X hX => hX 106 hd hw hq hw9 (k X hX)
theorem ev_mmin {G : ev_G} {C : ev_L} {w : Nat} {M : ev_M} {K : ev_K} {pc : Nat} {L : ev_V} {st : List Value} {h : ev_H} {c z : Nat} {i : Nat} {x y : Int32} (hd : decode M.2.1 pc = .ok (.invokestatic i, 3)) (hw : Cond.methodLink M.1.cls i Lib.Math.min.name ∈ ev_ws ∧ Cond.static Lib.Math.min.name ∈ ev_ws ∧ Cond.initialized "java/lang/Math" ∈ ev_ws ∧ Cond.code Lib.Math.min.name Lib.Math.min.code 2 (some .int) ∈ ev_ws) (hq : Nat.ble ((st.map (fun v => v.category)).sum) 8 = true) (hw9 : 23 ≤ w) (k : ev_J G C w M K ((pc + 3), L, (.int (if y < x then y else x) :: st), h, c, z)) : ev_J G C w M K (pc, L, (.int y :: .int x :: st), h, c, z) := fun X hX => hX 107 hd hw hq hw9 (k X hX)
theorem ev_mmaxl {G : ev_G} {C : ev_L} {w : Nat} {M : ev_M} {K : ev_K} {pc : Nat} {L : ev_V} {st : List Value} {h : ev_H} {c z : Nat} {i : Nat} {x y : Int64} (hd : decode M.2.1 pc = .ok (.invokestatic i, 3)) (hw : Cond.methodLink M.1.cls i Lib.MathLoose.max_long.x ∈ ev_ws ∧ Cond.static Lib.MathLoose.max_long.x ∈ ev_ws ∧ Cond.initialized "java/lang/Math" ∈ ev_ws ∧ Cond.code Lib.MathLoose.max_long.x Lib.MathLoose.max_long.code 4 (some .long) ∈ ev_ws) (hq : Nat.ble ((st.map (fun v => v.category)).sum) 8 = true) (hw9 : 23 ≤ w) (k : ev_J G C w M K ((pc + 3), L, (.long (if y < x then x else y) :: st), h, c, z)) : ev_J G C w M K (pc, L, (.long y :: .long x :: st), h, c, z) := fun X hX => hX 108 hd hw hq hw9 (k X hX)
theorem ev_mminl {G : ev_G} {C : ev_L} {w : Nat} {M : ev_M} {K : ev_K} {pc : Nat} {L : ev_V} {st : List Value} {h : ev_H} {c z : Nat} {i : Nat} {x y : Int64} (hd : decode M.2.1 pc = .ok (.invokestatic i, 3)) (hw : Cond.methodLink M.1.cls i Lib.MathLoose.min_long.x ∈ ev_ws ∧ Cond.static Lib.MathLoose.min_long.x ∈ ev_ws ∧ Cond.initialized "java/lang/Math" ∈ ev_ws ∧ Cond.code Lib.MathLoose.min_long.x Lib.MathLoose.min_long.code 4 (some .long) ∈ ev_ws) (hq : Nat.ble ((st.map (fun v => v.category)).sum) 8 = true) (hw9 : 23 ≤ w) (k : ev_J G C w M K ((pc + 3), L, (.long (if y < x then y else x) :: st), h, c, z)) : ev_J G C w M K (pc, L, (.long y :: .long x :: st), h, c, z) := fun X hX => hX 109 hd hw hq hw9 (k X hX)
theorem ev_copyi {G : ev_G} {C : ev_L} {w : Nat} {M : ev_M} {K : ev_K} {pc : Nat} {L : ev_V} {st : List Value} {h : ev_H} {c z : Nat} {i a0 a n0 n1 : Nat} {f g : Nat → Int32} {sp dp n : Int32} (hd : decode M.2.1 pc = .ok (.invokestatic i, 3)) (hw : Cond.methodLink M.1.cls i arraycopyName ∈ ev_ws ∧ Cond.native arraycopyName ∈ ev_ws ∧ Cond.static arraycopyName ∈ ev_ws ∧ Cond.initialized "java/lang/System" ∈ ev_ws) (hq : Nat.ble ((st.map (fun v => v.category)).sum) 8 = true) (hw9 : 26 ≤ w) (ha0 : h a0 = some (.inl (.int, n0, .inl f))) (ha : h a = some (.inl (.int, n1, .inl g))) (h1 : ¬ sp < 0) (h2 : ¬ dp < 0) (h3 : ¬ n < 0) (h4 : sp.toNatClampNeg + n.toNatClampNeg ≤ n0) (h5 : dp.toNatClampNeg + n.toNatClampNeg ≤ n1) (k : ev_J G C w M K ((pc + 3), L, st, (ev_up h a (.inl (.int, n1, .inl (va_cpy f g sp.toNatClampNeg dp.toNatClampNeg n.toNatClampNeg)))), c, z)) : ev_J G C w M K (pc, L, (.int n :: .int dp :: .ref a :: .int sp :: .ref a0 :: st), h, c, z) := fun X hX => hX 110 hd hw hq hw9 ha0 ha h1 h2 h3 h4 h5 (k X hX)
theorem ev_copyl {G : ev_G} {C : ev_L} {w : Nat} {M : ev_M} {K : ev_K} {pc : Nat} {L : ev_V} {st : List Value} {h : ev_H} {c z : Nat} {i a0 a n0 n1 : Nat} {f g : Nat → Int64} {sp dp n : Int32} (hd : decode M.2.1 pc = .ok (.invokestatic i, 3)) (hw : Cond.methodLink M.1.cls i arraycopyName ∈ ev_ws ∧ Cond.native arraycopyName ∈ ev_ws ∧ Cond.static arraycopyName ∈ ev_ws ∧ Cond.initialized "java/lang/System" ∈ ev_ws) (hq : Nat.ble ((st.map (fun v => v.category)).sum) 8 = true) (hw9 : 26 ≤ w) (ha0 : h a0 = some (.inl (.long, n0, .inr (.inl f)))) (ha : h a = some (.inl (.long, n1, .inr (.inl g)))) (h1 : ¬ sp < 0) (h2 : ¬ dp < 0) (h3 : ¬ n < 0) (h4 : sp.toNatClampNeg + n.toNatClampNeg ≤ n0) (h5 : dp.toNatClampNeg + n.toNatClampNeg ≤ n1) (k : ev_J G C w M K ((pc + 3), L, st, (ev_up h a (.inl (.long, n1, .inr (.inl (va_cpy f g sp.toNatClampNeg dp.toNatClampNeg n.toNatClampNeg))))), c, z)) : ev_J G C w M K (pc, L, (.int n :: .int dp :: .ref a :: .int sp :: .ref a0 :: st), h, c, z) := fun X hX => hX 111 hd hw hq hw9 ha0 ha h1 h2 h3 h4 h5 (k X hX)
theorem ev_wk {G : ev_G} {C : ev_L} {w : Nat} {M : ev_M} {K : ev_K} {pc : Nat} {L : ev_V} {st : List Value} {h : ev_H} {c z : Nat} {L2 : ev_V} (hw : ∀ i v, L2 i = some v → L i = some v) (k : ev_J G C w M K (pc, L2, st, h, c, z)) : ev_J G C w M K (pc, L, st, h, c, z) := fun X hX => hX 112 hw (k X hX)
theorem ev_hw {G : ev_G} {C : ev_L} {w : Nat} {M : ev_M} {K : ev_K} {pc : Nat} {L : ev_V} {st : List Value} {h : ev_H} {c z : Nat} {h2 : ev_H} (hw : ∀ q x, h2 q = some x → h q = some x) (k : ev_J G C w M K (pc, L, st, h2, c, z)) : ev_J G C w M K (pc, L, st, h, c, z) := fun X hX => hX 113 hw (k X hX)
theorem ev_cw {G : ev_G} {C : ev_L} {w : Nat} {M : ev_M} {K : ev_K} {pc : Nat} {L : ev_V} {st : List Value} {h : ev_H} {c z : Nat} {c2 z2 : Nat} (h1 : c2 ≤ c) (h2 : z2 ≤ z) (k : ev_J G C w M K (pc, L, st, h, c2, z2)) : ev_J G C w M K (pc, L, st, h, c, z) := fun X hX => hX 114 h1 h2 (k X hX)
end
section
/-! THE MACHINE KEEPS THE RULES (written by wip/whole/gen/ev.py) -/
/-- a cell of the light heap and a cell of the kit's world -/
def ev_m (tys : List (ClassId × FieldType)) (c : ev_C) (e : va_E) : Prop := match c, e with
  | .inl (ty, a), .inl (cA, b) => a = b ∧ ∃ t : Nat, tys[t]? = some (cA, ty)
  | .inr x, .inr y => x = y
  | _, _ => False
def ev_hr (tys : List (ClassId × FieldType)) (h : ev_H) (ws : va_W) : Prop := ∀ q c, h q = some c → ∃ (k : Nat) (e : va_E), ws[k]? = some (q, e) ∧ ev_m tys c e
def ev_rel (D : va_G) (A : Nat → Prop) (s : State) (h : ev_H) (H : Heap) : Prop := ∃ (ws : va_W) (tys : List (ClassId × FieldType)), va_P D classes ws H ∧ va_K D classes tys s ∧ va_D A ws ∧ ev_hr tys h ws
theorem ev_arr {tys : List (ClassId × FieldType)} {h : ev_H} {ws : va_W} (hR : ev_hr tys h ws) {a : Nat} {ty : FieldType} {x : vp_A} (ha : h a = some (.inl (ty, x))) : ∃ (q0 : Nat) (cA : ClassId) (t0 : Nat), ws[q0]? = some (a, .inl (cA, x)) ∧ tys[t0]? = some (cA, ty) := by
  obtain ⟨k, e, h1, h2⟩ := hR a _ ha
  cases e with
  | inl y => obtain ⟨cA, b⟩ := y; obtain ⟨h3, t, h4⟩ := h2; subst h3; exact ⟨k, cA, t, h1, h4⟩
  | inr y => exact h2.elim
theorem ev_obj {tys : List (ClassId × FieldType)} {h : ev_H} {ws : va_W} (hR : ev_hr tys h ws) {a : Nat} {x : Nat × List Value} (ha : h a = some (.inr x)) : ∃ q0 : Nat, ws[q0]? = some (a, .inr x) := by
  obtain ⟨k, e, h1, h2⟩ := hR a _ ha
  cases e with
  | inl y => exact h2.elim
  | inr y => cases (show x = y from h2); exact ⟨k, h1⟩
theorem ev_set {A : Nat → Prop} {tys : List (ClassId × FieldType)} {h : ev_H} {ws : va_W} (hD : va_D A ws) (hR : ev_hr tys h ws) {q0 a : Nat} {e0 e : va_E} (h1 : ws[q0]? = some (a, e0)) {c : ev_C} (hm : ev_m tys c e) : ev_hr tys (ev_up h a c) (ws.set q0 (a, e)) := by
  have hlt : q0 < ws.length := (List.getElem?_eq_some_iff.mp h1).1
  intro q x hq
  unfold ev_up at hq
  by_cases hqa : q = a
  · subst hqa
    rw [if_pos rfl] at hq
    cases hq
    exact ⟨q0, e, by simp [hlt], hm⟩
  · rw [if_neg hqa] at hq
    obtain ⟨k, e2, h3, h4⟩ := hR q x hq
    refine ⟨k, e2, ?_, h4⟩
    have hk : q0 ≠ k := by
      intro hk
      subst hk
      rw [h1] at h3
      exact hqa (by cases h3; rfl)
    rw [List.getElem?_set_ne hk]
    exact h3
theorem ev_mono {tys t2 : List (ClassId × FieldType)} {c : ev_C} {e : va_E} (h : ev_m tys c e) : ev_m (tys ++ t2) c e := by
  cases c with
  | inl x =>
    cases e with
    | inl y =>
      obtain ⟨h1, t, h2⟩ := h
      exact ⟨h1, t, by rw [List.getElem?_append_left (List.getElem?_eq_some_iff.mp h2).1]; exact h2⟩
    | inr y => exact h.elim
  | inr x =>
    cases e with
    | inl y => exact h.elim
    | inr y => exact h
theorem ev_lastty {tys : List (ClassId × FieldType)} {q : ClassId × FieldType} : ∃ t : Nat, (tys ++ [q])[t]? = some q := ⟨tys.length, by simp⟩
theorem ev_push {D : va_G} {A : Nat → Prop} {tys tys2 : List (ClassId × FieldType)} {h : ev_H} {ws : va_W} {H : Heap} {q : Nat} {e : va_E} (_hP : va_P D classes ws H) (hD : va_D A ws) (hD1 : va_D A (ws ++ [(q, e)])) (hR : ev_hr tys h ws) {c : ev_C} (hm : ev_m (tys ++ tys2) c e) : h q = none ∧ ev_hr (tys ++ tys2) (ev_up h q c) (ws ++ [(q, e)]) := by
  have hn : h q = none := by
    cases hh : h q with
    | none => rfl
    | some x =>
      obtain ⟨k, e2, h1, -⟩ := hR q x hh
      have hk : k < ws.length := (List.getElem?_eq_some_iff.mp h1).1
      have h2 : (ws ++ [(q, e)])[k]? = some (q, e2) := by rw [List.getElem?_append_left hk]; exact h1
      have h3 : (ws ++ [(q, e)])[ws.length]? = some (q, e) := by simp
      have := hD1.1 k ws.length _ _ h2 h3 rfl
      omega
  refine ⟨hn, ?_⟩
  intro a x ha
  unfold ev_up at ha
  by_cases hqa : a = q
  · subst hqa
    rw [if_pos rfl] at ha
    cases ha
    exact ⟨ws.length, e, by simp, hm⟩
  · rw [if_neg hqa] at ha
    obtain ⟨k, e2, h1, h2⟩ := hR a x ha
    exact ⟨k, e2, by rw [List.getElem?_append_left (List.getElem?_eq_some_iff.mp h1).1]; exact h1, ev_mono h2⟩
/-- locals -/
def ev_lr (ls : Array Slot) (nL : Nat) (L : ev_V) : Prop := ∃ lv : List (Nat × Value), lv_has ls nL lv ∧ ∀ i v, L i = some v → (i, v) ∈ lv
theorem ev_lr.at {ls : Array Slot} {nL : Nat} {L : ev_V} (h : ev_lr ls nL L) {i : Nat} {v : Value} (hv : L i = some v) : ls[i]? = some (.val v) := by
  obtain ⟨lv, h1, h2⟩ := h
  exact h1.2.2 _ (h2 i v hv)
theorem ev_lr.size {ls : Array Slot} {nL : Nat} {L : ev_V} (h : ev_lr ls nL L) : ls.size = nL := by
  obtain ⟨lv, h1, -⟩ := h
  exact h1.1
theorem ev_lt1 {L : ev_V} {lv : List (Nat × Value)} (h : ∀ i v, L i = some v → (i, v) ∈ lv) {ls : Array Slot} {nL i : Nat} {v : Value} (hl : lv_has ls nL ((i, v) :: lv.filter (fun q => !(q.1 == i) && !(q.1 + 1 == i && q.2.category == 2)))) : ev_lr ls nL (ev_s1 L i v) := by
  refine ⟨_, hl, fun j w hw => ?_⟩
  unfold ev_s1 at hw
  by_cases h1 : j = i
  · rw [if_pos h1] at hw; cases hw; rw [h1]; exact List.mem_cons_self
  · rw [if_neg h1] at hw
    refine List.mem_cons_of_mem _ (List.mem_filter.mpr ?_)
    by_cases h2 : j + 1 = i
    · rw [if_pos h2] at hw
      cases hL : L j with
      | none => rw [hL] at hw; cases hw
      | some w2 =>
        rw [hL] at hw
        dsimp only at hw
        by_cases h3 : w2.category = 2
        · rw [if_pos h3] at hw; cases hw
        · rw [if_neg h3] at hw; cases hw; exact ⟨h j w hL, by simp [h1, h3]⟩
    · rw [if_neg h2] at hw
      exact ⟨h j w hw, by simp [h1, h2]⟩
theorem ev_lt2 {L : ev_V} {lv : List (Nat × Value)} (h : ∀ i v, L i = some v → (i, v) ∈ lv) {ls : Array Slot} {nL i : Nat} {v : Value} (hl : lv_has ls nL ((i, v) :: lv.filter (fun q => !(q.1 == i) && (!(q.1 == i + 1) && !(q.1 + 1 == i && q.2.category == 2))))) : ev_lr ls nL (ev_s2 L i v) := by
  refine ⟨_, hl, fun j w hw => ?_⟩
  unfold ev_s2 at hw
  by_cases h1 : j = i
  · rw [if_pos h1] at hw; cases hw; rw [h1]; exact List.mem_cons_self
  · rw [if_neg h1] at hw
    refine List.mem_cons_of_mem _ (List.mem_filter.mpr ?_)
    by_cases h4 : j = i + 1
    · rw [if_pos h4] at hw; cases hw
    · rw [if_neg h4] at hw
      by_cases h2 : j + 1 = i
      · rw [if_pos h2] at hw
        cases hL : L j with
        | none => rw [hL] at hw; cases hw
        | some w2 =>
          rw [hL] at hw
          dsimp only at hw
          by_cases h3 : w2.category = 2
          · rw [if_pos h3] at hw; cases hw
          · rw [if_neg h3] at hw; cases hw; exact ⟨h j w hL, by simp [h1, h3, h4]⟩
      · rw [if_neg h2] at hw
        exact ⟨h j w hw, by simp [h1, h2, h4]⟩
theorem ev_lfm {l : List (Nat × Value)} {i : Nat} {v : Value} (h : ev_lf l i = some v) : (i, v) ∈ l := by
  unfold ev_lf at h
  obtain ⟨q, h1, h2⟩ := Option.map_eq_some_iff.mp h
  have h3 := List.find?_some h1
  have h4 := List.mem_of_find?_eq_some h1
  simp at h3
  rw [← h2, ← h3]
  exact h4
/-- what nobody writes -/
def ev_GG (G : ev_G) (A : Nat → Prop) (U : State) (H : Heap) : Prop := (∀ a n f, G.1 a = some (n, f) → va_T .int a n (fun j => .int (f j)) A U H) ∧ ∀ C n d a, G.2 C n d = some a → va_Z C n d (.ref a) A U H
def ev_NN (U : State) : Prop := ∀ w ∈ ev_ns, va_Nw w U
theorem ev_NN.warm {s U : State} (hW : s.WarmedH U.vm) (h : ev_NN s) : ev_NN U := by
  intro w hw
  have h1 := h w hw
  unfold ev_ns at hw
  have h2 := (List.mem_filter.mp hw).2
  cases w <;> first | exact va_Nw.warmM hW h1 | (simp [ev_isN] at h2)
theorem ev_NN.same {s U : State} (hv : s.vm = U.vm) (h : ev_NN s) : ev_NN U := by
  intro w hw
  have h1 := h w hw
  unfold ev_ns at hw
  have h2 := (List.mem_filter.mp hw).2
  cases w <;> first | exact va_Nw.same rfl hv h1 | (simp [ev_isN] at h2)
/-- the start and the end of a method's contract -/
def ev_Pc (D : va_G) (G : ev_G) (ws : va_W) (tys : List (ClassId × FieldType)) (sz : Nat) (args : List Value) : Array Value → State → Prop := va_Pc args (fun U => U.heap.size = sz ∧ va_P D classes ws U.heap ∧ va_K D classes tys U ∧ va_D (fun _ => True) ws ∧ ev_GG G (va_A ws sz) U U.heap ∧ ev_NN U)
def ev_Qc (D : va_G) (A : Nat → Prop) (K : ev_K) : Array Value → State → Outcome → State → Prop := fun _ st o t => (∃ (r : Option Value) (h1 : ev_H), o = .returned r ∧ K (.inl r) h1 ∧ ev_rel D A t h1 t.heap) ∧ va_F A st t
def ev_rm (d w c z : Nat) : Room := { frames := d, cells := c, slots := z, locals := w }
def ev_met (l : Launch) (G : ev_G) (d w : Nat) (C : ev_L) : Prop := ∀ N args h c z K, C N args h c z K → ∃ w2, 8 + (N.2.2.1 + 11) + w2 ≤ w ∧ ∀ (D : va_G) (ws : va_W) (tys : List (ClassId × FieldType)) (sz : Nat), ev_hr tys h ws → Met l N.1 (ev_code N :: ev_ws) (ev_rm d w2 c z) (ev_Pc D G ws tys sz args) (ev_Qc D (va_A ws sz) K) c z (va_A ws sz)
theorem ev_good {N : ev_M} (h : ev_code N ∈ ev_ws) : GoodIn ev_ws (ev_code N :: ev_ws) := by
  have g : ∀ w ∈ ev_ws, w ∈ ev_ws ∧ ((w.onTables && w.keeps) = true ∨ ∃ ty, w = .arrayClass ty) := fun w hw => ⟨hw, good_of_word (List.mem_filter.mp hw).2⟩
  intro w hw
  rcases List.mem_cons.mp hw with h1 | h1
  · subst h1; exact g _ h
  · exact g _ h1
theorem ev_g1 {w : Cond} (h : w ∈ ev_ws) : w ∈ ev_ws ∧ ((w.onTables && w.keeps) = true ∨ ∃ ty, w = .arrayClass ty) := ⟨h, good_of_word (List.mem_filter.mp h).2⟩
theorem ev_gI {N : ev_M} (h : ev_code N ∈ ev_ws) : GoodIn ev_ws (ev_code N :: ev_ws) := ev_good h
theorem ev_gV {own : String} {i : Nat} {N : ev_M} (w1 : Cond.methodLink own i N.1 ∈ ev_ws) (w2 : Cond.instanceMethod N.1 ∈ ev_ws) (w3 : Cond.selects N.1.cls N.1 N.1 ∈ ev_ws) (w4 : Cond.initialized N.1.cls ∈ ev_ws) (w5 : ev_code N ∈ ev_ws) : GoodIn ev_ws (wsV own i N.1.cls N.1 (ev_code N :: ev_ws)) := by
  intro w hw
  unfold wsV at hw
  rcases List.mem_append.mp hw with h | h
  · simp only [List.mem_cons, List.not_mem_nil, or_false] at h
    rcases h with rfl | rfl | rfl | rfl
    · exact ev_g1 w1
    · exact ev_g1 w2
    · exact ev_g1 w3
    · exact ev_g1 w4
  · exact ev_good w5 w h
theorem ev_gS {own : String} {i : Nat} {N : ev_M} (w1 : Cond.methodLink own i N.1 ∈ ev_ws) (w2 : Cond.static N.1 ∈ ev_ws) (w4 : Cond.initialized N.1.cls ∈ ev_ws) (w5 : ev_code N ∈ ev_ws) : GoodIn ev_ws (va_wsS own i N.1 (ev_code N :: ev_ws)) := by
  intro w hw
  unfold va_wsS at hw
  rcases List.mem_append.mp hw with h | h
  · simp only [List.mem_cons, List.not_mem_nil, or_false] at h
    rcases h with rfl | rfl | rfl
    · exact ev_g1 w1
    · exact ev_g1 w2
    · exact ev_g1 w4
  · exact ev_good w5 w h
theorem ev_rmok {R : Room} {d w w2 c z n : Nat} (hRf : d + 1 ≤ R.frames) (hRl : w ≤ R.locals) (h : 8 + (n + 11) + w2 ≤ w) : (ev_rm d w2 c z).frames + 1 ≤ R.frames ∧ 8 + (n + 11) + (ev_rm d w2 c z).locals ≤ R.locals := ⟨hRf, Nat.le_trans h hRl⟩
theorem ev_GG.moved {G : ev_G} {A : Nat → Prop} {u U : State} {H : Heap} (hvm : u.vm.Alike U.vm) (h : ev_GG G A u H) : ev_GG G A U H := ⟨fun a n f q => (h.1 a n f q).moved hvm, fun C n d a q => (h.2 C n d a q).moved hvm⟩
theorem ev_blind {D : va_G} {G : ev_G} {ws : va_W} {tys : List (ClassId × FieldType)} {sz : Nat} {args : List Value} : FrameBlind (ev_Pc D G ws tys sz args) := by
  intro a U g mk q
  obtain ⟨q0, q1, qP, qK, qD, qG, qN⟩ := q
  exact ⟨q0, q1, qP, va_K.moved (u := U) (U := U.calling g mk a) (Vm.Alike.refl U.vm) qK, qD, ev_GG.moved (u := U) (U := U.calling g mk a) (Vm.Alike.refl U.vm) qG, ev_NN.same (s := U) (U := U.calling g mk a) rfl qN⟩
theorem ev_sub {A : Nat → Prop} {H0 H : Heap} {locs : List Loc} {ws : va_W} (hD : va_D A ws) (hS : va_S A H0 H locs) (hA : ∀ q, H0.size ≤ q → A q) : ∀ q, va_A ws H.size q → A q := by
  intro q h
  rcases h with ⟨k, e, h⟩ | h
  · exact hD.2 k _ h
  · exact hA q (Nat.le_trans hS.1 h)
theorem ev_pre {D : va_G} {G : ev_G} {A : Nat → Prop} {ws : va_W} {tys : List (ClassId × FieldType)} {s : State} {H : Heap} {locs : List Loc} {h : ev_H} {args : List Value} (hP : va_P D classes ws H) (hK : va_K D classes tys s) (hD : va_D A ws) (_hR : ev_hr tys h ws) (hS : va_S A s.heap H locs) (hA : ∀ q, s.heap.size ≤ q → A q) (hG : ev_GG G A s s.heap) (hnw : ev_NN s) : ∀ U : State, U.heap = H → s.WarmedH U.vm → ev_Pc D G ws tys H.size args args.toArray U := by
  intro U hU hW
  have hs := ev_sub hD hS hA
  refine ⟨rfl, by rw [hU], by rw [hU]; exact hP, va_K.moved hW.alike hK, hD.weaken (fun _ _ _ _ => trivial), ?_, hnw.warm hW⟩
  rw [hU]
  exact ⟨fun a n f q => (((hG.1 a n f q).kept (fun b hb1 hb2 => hS.2.1 b hb1 hb2)).narrow hs).moved hW.alike, fun C n d a q => (((hG.2 C n d a q).kept (fun b hb1 hb2 => hS.2.1 b hb1 hb2)).narrow hs).moved hW.alike⟩
theorem ev_back {p : Program} {l : Launch} {e : Env} {R : Room} {s : State} {m : MethodId} {args : Array Value} {below : List Frame} {meth : Method} {c : Code} {H : Heap} {locs : List Loc} {cells slots : Nat} {Q : State → Prop} {pc : Nat} {ls : Array Slot} {rest st0 : List Value} {D : va_G} {G : ev_G} {A : Nat → Prop} {ws : va_W} {tys : List (ClassId × FieldType)} {h : ev_H} {mc ms : Nat} {post : Option Value → ev_H → Prop} {av : Array Value}
    (_hG : ev_GG G A s s.heap) (_hnw : ev_NN s) (_hP : va_P D classes ws H) (_hK : va_K D classes tys s) (hD : va_D A ws) (_hR : ev_hr tys h ws) (hS : va_S A s.heap H locs) (hA : ∀ q, s.heap.size ≤ q → A q)
    (hrun : va_Run p l e R s m args below meth c H locs cells slots mc ms (F0 m pc ls st0) rest (ev_Qc D (va_A ws H.size) (ev_ok post) av) (va_A ws H.size))
    (kk : ∀ (r : Option Value) (h1 : ev_H) (H1 : Heap) (locs1 : List Loc), post r h1 → ev_rel D A s h1 H1 → va_S A s.heap H1 locs1 → W p l e R s m args below meth c H1 locs1 (cells + mc) (slots + ms) Q (F0 m (pc + 3) ls (r.toList ++ rest))) : W p l e R s m args below meth c H locs cells slots Q (F0 m pc ls st0) := by
  have hs := ev_sub hD hS hA
  intro T hT X
  obtain ⟨v, st₀, t, T', L, h0, X', hL, e1, e2, ⟨⟨r, h1, hv, hp, ws1, tys1, hP1, hK1, hD1, hR1⟩, hz, hk⟩, st⟩ := hrun T hT X
  cases hv
  rw [h0] at hz hk
  have hal : s.vm.Alike t.vm := by rw [← e2]; exact X'.warmed.alike
  obtain ⟨t2, a1, b1⟩ := kk v h1 T'.heap (locs ++ L) hp ⟨ws1, tys1, by rw [e1]; exact hP1, va_K.moved hal.symm hK1, hD1.weaken (fun _ q _ z => hs q.1 z), hR1⟩
    ⟨Nat.le_trans hS.1 (by rw [e1]; exact hz), fun q g1 g2 => by rw [e1, hk q (Nat.lt_of_lt_of_le g1 hS.1) (fun z => g2 (hs q z))]; exact hS.2.1 q g1 g2, fun q hq => by
      rcases List.mem_append.mp hq with g | g
      · exact hS.2.2 q g
      · exact hs _ (hL q g)⟩ T' rfl X'
  exact ⟨t2, st t2 a1, b1⟩
theorem ev_kend {D : va_G} {A : Nat → Prop} {s t : State} {h : ev_H} {H : Heap} (hr : ev_rel D A s h H) (hW : s.WarmedH t.vm) (ht : t.heap = H) : ev_rel D A t h t.heap := by
  obtain ⟨ws, tys, hP, hK, hD, hR⟩ := hr
  rw [ht]
  exact ⟨ws, tys, hP, va_K.moved hW.alike hK, hD, hR⟩
theorem ev_end {D : va_G} {A : Nat → Prop} {s t : State} {h : ev_H} {H : Heap} {locs : List Loc} {K : ev_K} {r : Option Value} {av : Array Value} (hS : va_S A s.heap H locs) (ht : t.heap = H) (hr : ev_rel D A t h t.heap) (hk : K (.inl r) h) : ev_Qc D A K av s (.returned r) t := ⟨⟨r, h, rfl, hk, hr⟩, hS.F ht⟩
section EVW
variable {p : Program} {l : Launch} {e : Env} {R : Room} {s : State} {m : MethodId} {args : Array Value} {below : List Frame} {meth : Method} {c0 : Code} {Q : State → Prop} {D : va_G} {A : Nat → Prop} {G : ev_G} {C : ev_L} {M : ev_M} {K : ev_K} {d w : Nat}
/-- a configuration, at the machine -/
def ev_W (p : Program) (l : Launch) (e : Env) (R : Room) (s : State) (m : MethodId) (args : Array Value) (below : List Frame) (meth : Method) (c0 : Code) (Q : State → Prop) (D : va_G) (A : Nat → Prop) (M : ev_M) : ev_S → Prop := fun S => ∀ (H : Heap) (locs : List Loc) (cells slots : Nat) (ls : Array Slot), ev_rel D A s S.2.2.2.1 H → va_S A s.heap H locs → ev_lr ls M.2.2.1 S.2.1 → cells + S.2.2.2.2.1 ≤ R.cells → slots + S.2.2.2.2.2 ≤ R.slots → W p l e R s m args below meth c0 H locs cells slots Q (F0 m S.1 ls S.2.2.1)
/-- what holds of a frame while it runs -/
def ev_fr (p : Program) (R : Room) (s : State) (m : MethodId) (args : Array Value) (meth : Method) (c0 : Code) (A : Nat → Prop) (G : ev_G) (M : ev_M) (d w : Nat) : Prop := p.tables.exec = Jvm.exec ∧ c0.code = M.2.1 ∧ c0.maxLocals = M.2.2.1 ∧ s.vm.findClass M.1.cls = some m.cls ∧ (∀ w ∈ ev_ws, w.before args s = true) ∧ ev_GG G A s s.heap ∧ ev_NN s ∧ (∀ q, s.heap.size ≤ q → A q) ∧ d + 1 ≤ R.frames ∧ w ≤ R.locals ∧ meth.sig.returnType = M.2.2.2 ∧ meth.name = M.1.name ∧ meth.locks = false

set_option maxHeartbeats 1000000 in
theorem ew_iconst (F : ev_fr p R s m args meth c0 A G M d w) (hmet : ev_met l G d w C) : ru_iconst G C w M K (ev_W p l e R s m args below meth c0 Q D A M) := by
  obtain ⟨hx, hb, hml, hown, hts, hG, hnw, hA, hRf, hRl, hret, hnm, hlk⟩ := F
  intro pc L st h c z n v hd hv k H locs cells slots ls hr hS hl hc hz
  dsimp only at hr hl hc hz ⊢
  exact lv_iconst hx hb hd hv (k H locs cells slots ls hr hS hl hc hz)
set_option maxHeartbeats 1000000 in
theorem ew_bipush (F : ev_fr p R s m args meth c0 A G M d w) (hmet : ev_met l G d w C) : ru_bipush G C w M K (ev_W p l e R s m args below meth c0 Q D A M) := by
  obtain ⟨hx, hb, hml, hown, hts, hG, hnw, hA, hRf, hRl, hret, hnm, hlk⟩ := F
  intro pc L st h c z n v hd hv k H locs cells slots ls hr hS hl hc hz
  dsimp only at hr hl hc hz ⊢
  exact lv_bipush hx hb hd hv (k H locs cells slots ls hr hS hl hc hz)
set_option maxHeartbeats 1000000 in
theorem ew_sipush (F : ev_fr p R s m args meth c0 A G M d w) (hmet : ev_met l G d w C) : ru_sipush G C w M K (ev_W p l e R s m args below meth c0 Q D A M) := by
  obtain ⟨hx, hb, hml, hown, hts, hG, hnw, hA, hRf, hRl, hret, hnm, hlk⟩ := F
  intro pc L st h c z n v hd hv k H locs cells slots ls hr hS hl hc hz
  dsimp only at hr hl hc hz ⊢
  exact lv_sipush hx hb hd hv (k H locs cells slots ls hr hS hl hc hz)
set_option maxHeartbeats 1000000 in
theorem ew_lconst (F : ev_fr p R s m args meth c0 A G M d w) (hmet : ev_met l G d w C) : ru_lconst G C w M K (ev_W p l e R s m args below meth c0 Q D A M) := by
  obtain ⟨hx, hb, hml, hown, hts, hG, hnw, hA, hRf, hRl, hret, hnm, hlk⟩ := F
  intro pc L st h c z n v hd hv k H locs cells slots ls hr hS hl hc hz
  dsimp only at hr hl hc hz ⊢
  exact lv_lconst hx hb hd hv (k H locs cells slots ls hr hS hl hc hz)
set_option maxHeartbeats 1000000 in
theorem ew_null (F : ev_fr p R s m args meth c0 A G M d w) (hmet : ev_met l G d w C) : ru_null G C w M K (ev_W p l e R s m args below meth c0 Q D A M) := by
  obtain ⟨hx, hb, hml, hown, hts, hG, hnw, hA, hRf, hRl, hret, hnm, hlk⟩ := F
  intro pc L st h c z hd k H locs cells slots ls hr hS hl hc hz
  dsimp only at hr hl hc hz ⊢
  exact lv_null hx hb hd  (k H locs cells slots ls hr hS hl hc hz)
set_option maxHeartbeats 1000000 in
theorem ew_ldc (F : ev_fr p R s m args meth c0 A G M d w) (hmet : ev_met l G d w C) : ru_ldc G C w M K (ev_W p l e R s m args below meth c0 Q D A M) := by
  obtain ⟨hx, hb, hml, hown, hts, hG, hnw, hA, hRf, hRl, hret, hnm, hlk⟩ := F
  intro pc L st h c z i v hd hw k H locs cells slots ls hr hS hl hc hz
  dsimp only at hr hl hc hz ⊢
  exact lv_ldc hx hb hown (hts _ hw) hd (k H locs cells slots ls hr hS hl hc hz)
set_option maxHeartbeats 1000000 in
theorem ew_ldc2 (F : ev_fr p R s m args meth c0 A G M d w) (hmet : ev_met l G d w C) : ru_ldc2 G C w M K (ev_W p l e R s m args below meth c0 Q D A M) := by
  obtain ⟨hx, hb, hml, hown, hts, hG, hnw, hA, hRf, hRl, hret, hnm, hlk⟩ := F
  intro pc L st h c z i v hd hw k H locs cells slots ls hr hS hl hc hz
  dsimp only at hr hl hc hz ⊢
  exact lv_ldc2 hx hb hown (hts _ hw) hd (k H locs cells slots ls hr hS hl hc hz)
set_option maxHeartbeats 1000000 in
theorem ew_ldcw (F : ev_fr p R s m args meth c0 A G M d w) (hmet : ev_met l G d w C) : ru_ldcw G C w M K (ev_W p l e R s m args below meth c0 Q D A M) := by
  obtain ⟨hx, hb, hml, hown, hts, hG, hnw, hA, hRf, hRl, hret, hnm, hlk⟩ := F
  intro pc L st h c z i v hd hw k H locs cells slots ls hr hS hl hc hz
  dsimp only at hr hl hc hz ⊢
  exact lv_ldcw hx hb hown (hts _ hw) hd (k H locs cells slots ls hr hS hl hc hz)
set_option maxHeartbeats 1000000 in
theorem ew_iload_n (F : ev_fr p R s m args meth c0 A G M d w) (hmet : ev_met l G d w C) : ru_iload_n G C w M K (ev_W p l e R s m args below meth c0 Q D A M) := by
  obtain ⟨hx, hb, hml, hown, hts, hG, hnw, hA, hRf, hRl, hret, hnm, hlk⟩ := F
  intro pc L st h c z j x hd hx1 k H locs cells slots ls hr hS hl hc hz
  dsimp only at hr hl hc hz ⊢
  exact lv_iload_n hx hb hd rfl (hl.at hx1) (k H locs cells slots ls hr hS hl hc hz)
set_option maxHeartbeats 1000000 in
theorem ew_iload (F : ev_fr p R s m args meth c0 A G M d w) (hmet : ev_met l G d w C) : ru_iload G C w M K (ev_W p l e R s m args below meth c0 Q D A M) := by
  obtain ⟨hx, hb, hml, hown, hts, hG, hnw, hA, hRf, hRl, hret, hnm, hlk⟩ := F
  intro pc L st h c z i x hd hx1 k H locs cells slots ls hr hS hl hc hz
  dsimp only at hr hl hc hz ⊢
  exact lv_iload hx hb hd (hl.at hx1) (k H locs cells slots ls hr hS hl hc hz)
set_option maxHeartbeats 1000000 in
theorem ew_istore_n (F : ev_fr p R s m args meth c0 A G M d w) (hmet : ev_met l G d w C) : ru_istore_n G C w M K (ev_W p l e R s m args below meth c0 Q D A M) := by
  obtain ⟨hx, hb, hml, hown, hts, hG, hnw, hA, hRf, hRl, hret, hnm, hlk⟩ := F
  intro pc L st h c z j x hd hn k H locs cells slots ls hr hS hl hc hz
  dsimp only at hr hl hc hz ⊢
  obtain ⟨lv, hv1, hv2⟩ := hl
  exact lv_istore_n hx hb hd rfl hv1 (Nat.le_of_ble_eq_true hn) rfl (fun ls2 hl2 => k H locs cells slots ls2 hr hS (ev_lt1 hv2 hl2) hc hz)
set_option maxHeartbeats 1000000 in
theorem ew_istore (F : ev_fr p R s m args meth c0 A G M d w) (hmet : ev_met l G d w C) : ru_istore G C w M K (ev_W p l e R s m args below meth c0 Q D A M) := by
  obtain ⟨hx, hb, hml, hown, hts, hG, hnw, hA, hRf, hRl, hret, hnm, hlk⟩ := F
  intro pc L st h c z i x hd hn k H locs cells slots ls hr hS hl hc hz
  dsimp only at hr hl hc hz ⊢
  obtain ⟨lv, hv1, hv2⟩ := hl
  exact lv_istore hx hb hd hv1 (Nat.le_of_ble_eq_true hn) rfl (fun ls2 hl2 => k H locs cells slots ls2 hr hS (ev_lt1 hv2 hl2) hc hz)
set_option maxHeartbeats 1000000 in
theorem ew_lload_n (F : ev_fr p R s m args meth c0 A G M d w) (hmet : ev_met l G d w C) : ru_lload_n G C w M K (ev_W p l e R s m args below meth c0 Q D A M) := by
  obtain ⟨hx, hb, hml, hown, hts, hG, hnw, hA, hRf, hRl, hret, hnm, hlk⟩ := F
  intro pc L st h c z j x hd hx1 k H locs cells slots ls hr hS hl hc hz
  dsimp only at hr hl hc hz ⊢
  exact lv_lload_n hx hb hd rfl (hl.at hx1) (k H locs cells slots ls hr hS hl hc hz)
set_option maxHeartbeats 1000000 in
theorem ew_lload (F : ev_fr p R s m args meth c0 A G M d w) (hmet : ev_met l G d w C) : ru_lload G C w M K (ev_W p l e R s m args below meth c0 Q D A M) := by
  obtain ⟨hx, hb, hml, hown, hts, hG, hnw, hA, hRf, hRl, hret, hnm, hlk⟩ := F
  intro pc L st h c z i x hd hx1 k H locs cells slots ls hr hS hl hc hz
  dsimp only at hr hl hc hz ⊢
  exact lv_lload hx hb hd (hl.at hx1) (k H locs cells slots ls hr hS hl hc hz)
set_option maxHeartbeats 1000000 in
theorem ew_lstore_n (F : ev_fr p R s m args meth c0 A G M d w) (hmet : ev_met l G d w C) : ru_lstore_n G C w M K (ev_W p l e R s m args below meth c0 Q D A M) := by
  obtain ⟨hx, hb, hml, hown, hts, hG, hnw, hA, hRf, hRl, hret, hnm, hlk⟩ := F
  intro pc L st h c z j x hd hn k H locs cells slots ls hr hS hl hc hz
  dsimp only at hr hl hc hz ⊢
  obtain ⟨lv, hv1, hv2⟩ := hl
  exact lv_lstore_n hx hb hd rfl hv1 (Nat.le_of_ble_eq_true hn) rfl (fun ls2 hl2 => k H locs cells slots ls2 hr hS (ev_lt2 hv2 hl2) hc hz)
set_option maxHeartbeats 1000000 in
theorem ew_lstore (F : ev_fr p R s m args meth c0 A G M d w) (hmet : ev_met l G d w C) : ru_lstore G C w M K (ev_W p l e R s m args below meth c0 Q D A M) := by
  obtain ⟨hx, hb, hml, hown, hts, hG, hnw, hA, hRf, hRl, hret, hnm, hlk⟩ := F
  intro pc L st h c z i x hd hn k H locs cells slots ls hr hS hl hc hz
  dsimp only at hr hl hc hz ⊢
  obtain ⟨lv, hv1, hv2⟩ := hl
  exact lv_lstore hx hb hd hv1 (Nat.le_of_ble_eq_true hn) rfl (fun ls2 hl2 => k H locs cells slots ls2 hr hS (ev_lt2 hv2 hl2) hc hz)
set_option maxHeartbeats 1000000 in
theorem ew_aload_n (F : ev_fr p R s m args meth c0 A G M d w) (hmet : ev_met l G d w C) : ru_aload_n G C w M K (ev_W p l e R s m args below meth c0 Q D A M) := by
  obtain ⟨hx, hb, hml, hown, hts, hG, hnw, hA, hRf, hRl, hret, hnm, hlk⟩ := F
  intro pc L st h c z j x hd hx1 k H locs cells slots ls hr hS hl hc hz
  dsimp only at hr hl hc hz ⊢
  exact lv_aload_n hx hb hd rfl (hl.at hx1) (k H locs cells slots ls hr hS hl hc hz)
set_option maxHeartbeats 1000000 in
theorem ew_aload (F : ev_fr p R s m args meth c0 A G M d w) (hmet : ev_met l G d w C) : ru_aload G C w M K (ev_W p l e R s m args below meth c0 Q D A M) := by
  obtain ⟨hx, hb, hml, hown, hts, hG, hnw, hA, hRf, hRl, hret, hnm, hlk⟩ := F
  intro pc L st h c z i x hd hx1 k H locs cells slots ls hr hS hl hc hz
  dsimp only at hr hl hc hz ⊢
  exact lv_aload hx hb hd (hl.at hx1) (k H locs cells slots ls hr hS hl hc hz)
set_option maxHeartbeats 1000000 in
theorem ew_astore_n (F : ev_fr p R s m args meth c0 A G M d w) (hmet : ev_met l G d w C) : ru_astore_n G C w M K (ev_W p l e R s m args below meth c0 Q D A M) := by
  obtain ⟨hx, hb, hml, hown, hts, hG, hnw, hA, hRf, hRl, hret, hnm, hlk⟩ := F
  intro pc L st h c z j x hd hn k H locs cells slots ls hr hS hl hc hz
  dsimp only at hr hl hc hz ⊢
  obtain ⟨lv, hv1, hv2⟩ := hl
  exact lv_astore_n hx hb hd rfl hv1 (Nat.le_of_ble_eq_true hn) rfl (fun ls2 hl2 => k H locs cells slots ls2 hr hS (ev_lt1 hv2 hl2) hc hz)
set_option maxHeartbeats 1000000 in
theorem ew_astore (F : ev_fr p R s m args meth c0 A G M d w) (hmet : ev_met l G d w C) : ru_astore G C w M K (ev_W p l e R s m args below meth c0 Q D A M) := by
  obtain ⟨hx, hb, hml, hown, hts, hG, hnw, hA, hRf, hRl, hret, hnm, hlk⟩ := F
  intro pc L st h c z i x hd hn k H locs cells slots ls hr hS hl hc hz
  dsimp only at hr hl hc hz ⊢
  obtain ⟨lv, hv1, hv2⟩ := hl
  exact lv_astore hx hb hd hv1 (Nat.le_of_ble_eq_true hn) rfl (fun ls2 hl2 => k H locs cells slots ls2 hr hS (ev_lt1 hv2 hl2) hc hz)
set_option maxHeartbeats 1000000 in
theorem ew_iinc (F : ev_fr p R s m args meth c0 A G M d w) (hmet : ev_met l G d w C) : ru_iinc G C w M K (ev_W p l e R s m args below meth c0 Q D A M) := by
  obtain ⟨hx, hb, hml, hown, hts, hG, hnw, hA, hRf, hRl, hret, hnm, hlk⟩ := F
  intro pc L st h c z i n x hd hx1 hn k H locs cells slots ls hr hS hl hc hz
  dsimp only at hr hl hc hz ⊢
  obtain ⟨lv, hv1, hv2⟩ := hl
  obtain ⟨q, hq⟩ := List.getElem?_of_mem (hv2 _ _ hx1)
  exact lv_iinc hx hb hd hv1 hq rfl (Nat.le_of_ble_eq_true hn) rfl (fun ls2 hl2 => k H locs cells slots ls2 hr hS (ev_lt1 hv2 hl2) hc hz)
set_option maxHeartbeats 1000000 in
theorem ew_iadd (F : ev_fr p R s m args meth c0 A G M d w) (hmet : ev_met l G d w C) : ru_iadd G C w M K (ev_W p l e R s m args below meth c0 Q D A M) := by
  obtain ⟨hx, hb, hml, hown, hts, hG, hnw, hA, hRf, hRl, hret, hnm, hlk⟩ := F
  intro pc L st h c z x y hd k H locs cells slots ls hr hS hl hc hz
  dsimp only at hr hl hc hz ⊢
  exact lv_iadd hx hb hd  (k H locs cells slots ls hr hS hl hc hz)
set_option maxHeartbeats 1000000 in
theorem ew_isub (F : ev_fr p R s m args meth c0 A G M d w) (hmet : ev_met l G d w C) : ru_isub G C w M K (ev_W p l e R s m args below meth c0 Q D A M) := by
  obtain ⟨hx, hb, hml, hown, hts, hG, hnw, hA, hRf, hRl, hret, hnm, hlk⟩ := F
  intro pc L st h c z x y hd k H locs cells slots ls hr hS hl hc hz
  dsimp only at hr hl hc hz ⊢
  exact lv_isub hx hb hd  (k H locs cells slots ls hr hS hl hc hz)
set_option maxHeartbeats 1000000 in
theorem ew_imul (F : ev_fr p R s m args meth c0 A G M d w) (hmet : ev_met l G d w C) : ru_imul G C w M K (ev_W p l e R s m args below meth c0 Q D A M) := by
  obtain ⟨hx, hb, hml, hown, hts, hG, hnw, hA, hRf, hRl, hret, hnm, hlk⟩ := F
  intro pc L st h c z x y hd k H locs cells slots ls hr hS hl hc hz
  dsimp only at hr hl hc hz ⊢
  exact lv_imul hx hb hd  (k H locs cells slots ls hr hS hl hc hz)
set_option maxHeartbeats 1000000 in
theorem ew_iand (F : ev_fr p R s m args meth c0 A G M d w) (hmet : ev_met l G d w C) : ru_iand G C w M K (ev_W p l e R s m args below meth c0 Q D A M) := by
  obtain ⟨hx, hb, hml, hown, hts, hG, hnw, hA, hRf, hRl, hret, hnm, hlk⟩ := F
  intro pc L st h c z x y hd k H locs cells slots ls hr hS hl hc hz
  dsimp only at hr hl hc hz ⊢
  exact lv_iand hx hb hd  (k H locs cells slots ls hr hS hl hc hz)
set_option maxHeartbeats 1000000 in
theorem ew_ior (F : ev_fr p R s m args meth c0 A G M d w) (hmet : ev_met l G d w C) : ru_ior G C w M K (ev_W p l e R s m args below meth c0 Q D A M) := by
  obtain ⟨hx, hb, hml, hown, hts, hG, hnw, hA, hRf, hRl, hret, hnm, hlk⟩ := F
  intro pc L st h c z x y hd k H locs cells slots ls hr hS hl hc hz
  dsimp only at hr hl hc hz ⊢
  exact lv_ior hx hb hd  (k H locs cells slots ls hr hS hl hc hz)
set_option maxHeartbeats 1000000 in
theorem ew_ixor (F : ev_fr p R s m args meth c0 A G M d w) (hmet : ev_met l G d w C) : ru_ixor G C w M K (ev_W p l e R s m args below meth c0 Q D A M) := by
  obtain ⟨hx, hb, hml, hown, hts, hG, hnw, hA, hRf, hRl, hret, hnm, hlk⟩ := F
  intro pc L st h c z x y hd k H locs cells slots ls hr hS hl hc hz
  dsimp only at hr hl hc hz ⊢
  exact lv_ixor hx hb hd  (k H locs cells slots ls hr hS hl hc hz)
set_option maxHeartbeats 1000000 in
theorem ew_ishl (F : ev_fr p R s m args meth c0 A G M d w) (hmet : ev_met l G d w C) : ru_ishl G C w M K (ev_W p l e R s m args below meth c0 Q D A M) := by
  obtain ⟨hx, hb, hml, hown, hts, hG, hnw, hA, hRf, hRl, hret, hnm, hlk⟩ := F
  intro pc L st h c z x y hd k H locs cells slots ls hr hS hl hc hz
  dsimp only at hr hl hc hz ⊢
  exact lv_ishl hx hb hd  (k H locs cells slots ls hr hS hl hc hz)
set_option maxHeartbeats 1000000 in
theorem ew_ishr (F : ev_fr p R s m args meth c0 A G M d w) (hmet : ev_met l G d w C) : ru_ishr G C w M K (ev_W p l e R s m args below meth c0 Q D A M) := by
  obtain ⟨hx, hb, hml, hown, hts, hG, hnw, hA, hRf, hRl, hret, hnm, hlk⟩ := F
  intro pc L st h c z x y hd k H locs cells slots ls hr hS hl hc hz
  dsimp only at hr hl hc hz ⊢
  exact lv_ishr hx hb hd  (k H locs cells slots ls hr hS hl hc hz)
set_option maxHeartbeats 1000000 in
theorem ew_iushr (F : ev_fr p R s m args meth c0 A G M d w) (hmet : ev_met l G d w C) : ru_iushr G C w M K (ev_W p l e R s m args below meth c0 Q D A M) := by
  obtain ⟨hx, hb, hml, hown, hts, hG, hnw, hA, hRf, hRl, hret, hnm, hlk⟩ := F
  intro pc L st h c z x y hd k H locs cells slots ls hr hS hl hc hz
  dsimp only at hr hl hc hz ⊢
  exact lv_iushr hx hb hd rfl (k H locs cells slots ls hr hS hl hc hz)
set_option maxHeartbeats 1000000 in
theorem ew_idiv (F : ev_fr p R s m args meth c0 A G M d w) (hmet : ev_met l G d w C) : ru_idiv G C w M K (ev_W p l e R s m args below meth c0 Q D A M) := by
  obtain ⟨hx, hb, hml, hown, hts, hG, hnw, hA, hRf, hRl, hret, hnm, hlk⟩ := F
  intro pc L st h c z x y hd hne k H locs cells slots ls hr hS hl hc hz
  dsimp only at hr hl hc hz ⊢
  exact lv_idiv hx hb hd hne (k H locs cells slots ls hr hS hl hc hz)
set_option maxHeartbeats 1000000 in
theorem ew_irem (F : ev_fr p R s m args meth c0 A G M d w) (hmet : ev_met l G d w C) : ru_irem G C w M K (ev_W p l e R s m args below meth c0 Q D A M) := by
  obtain ⟨hx, hb, hml, hown, hts, hG, hnw, hA, hRf, hRl, hret, hnm, hlk⟩ := F
  intro pc L st h c z x y hd hne k H locs cells slots ls hr hS hl hc hz
  dsimp only at hr hl hc hz ⊢
  exact lv_irem hx hb hd hne (k H locs cells slots ls hr hS hl hc hz)
set_option maxHeartbeats 1000000 in
theorem ew_ineg (F : ev_fr p R s m args meth c0 A G M d w) (hmet : ev_met l G d w C) : ru_ineg G C w M K (ev_W p l e R s m args below meth c0 Q D A M) := by
  obtain ⟨hx, hb, hml, hown, hts, hG, hnw, hA, hRf, hRl, hret, hnm, hlk⟩ := F
  intro pc L st h c z x hd k H locs cells slots ls hr hS hl hc hz
  dsimp only at hr hl hc hz ⊢
  exact lv_ineg hx hb hd  (k H locs cells slots ls hr hS hl hc hz)
set_option maxHeartbeats 1000000 in
theorem ew_ladd (F : ev_fr p R s m args meth c0 A G M d w) (hmet : ev_met l G d w C) : ru_ladd G C w M K (ev_W p l e R s m args below meth c0 Q D A M) := by
  obtain ⟨hx, hb, hml, hown, hts, hG, hnw, hA, hRf, hRl, hret, hnm, hlk⟩ := F
  intro pc L st h c z x y hd k H locs cells slots ls hr hS hl hc hz
  dsimp only at hr hl hc hz ⊢
  exact lv_ladd hx hb hd  (k H locs cells slots ls hr hS hl hc hz)
set_option maxHeartbeats 1000000 in
theorem ew_lsub (F : ev_fr p R s m args meth c0 A G M d w) (hmet : ev_met l G d w C) : ru_lsub G C w M K (ev_W p l e R s m args below meth c0 Q D A M) := by
  obtain ⟨hx, hb, hml, hown, hts, hG, hnw, hA, hRf, hRl, hret, hnm, hlk⟩ := F
  intro pc L st h c z x y hd k H locs cells slots ls hr hS hl hc hz
  dsimp only at hr hl hc hz ⊢
  exact lv_lsub hx hb hd  (k H locs cells slots ls hr hS hl hc hz)
set_option maxHeartbeats 1000000 in
theorem ew_lmul (F : ev_fr p R s m args meth c0 A G M d w) (hmet : ev_met l G d w C) : ru_lmul G C w M K (ev_W p l e R s m args below meth c0 Q D A M) := by
  obtain ⟨hx, hb, hml, hown, hts, hG, hnw, hA, hRf, hRl, hret, hnm, hlk⟩ := F
  intro pc L st h c z x y hd k H locs cells slots ls hr hS hl hc hz
  dsimp only at hr hl hc hz ⊢
  exact lv_lmul hx hb hd  (k H locs cells slots ls hr hS hl hc hz)
set_option maxHeartbeats 1000000 in
theorem ew_land (F : ev_fr p R s m args meth c0 A G M d w) (hmet : ev_met l G d w C) : ru_land G C w M K (ev_W p l e R s m args below meth c0 Q D A M) := by
  obtain ⟨hx, hb, hml, hown, hts, hG, hnw, hA, hRf, hRl, hret, hnm, hlk⟩ := F
  intro pc L st h c z x y hd k H locs cells slots ls hr hS hl hc hz
  dsimp only at hr hl hc hz ⊢
  exact lv_land hx hb hd  (k H locs cells slots ls hr hS hl hc hz)
set_option maxHeartbeats 1000000 in
theorem ew_lor (F : ev_fr p R s m args meth c0 A G M d w) (hmet : ev_met l G d w C) : ru_lor G C w M K (ev_W p l e R s m args below meth c0 Q D A M) := by
  obtain ⟨hx, hb, hml, hown, hts, hG, hnw, hA, hRf, hRl, hret, hnm, hlk⟩ := F
  intro pc L st h c z x y hd k H locs cells slots ls hr hS hl hc hz
  dsimp only at hr hl hc hz ⊢
  exact lv_lor hx hb hd  (k H locs cells slots ls hr hS hl hc hz)
set_option maxHeartbeats 1000000 in
theorem ew_lxor (F : ev_fr p R s m args meth c0 A G M d w) (hmet : ev_met l G d w C) : ru_lxor G C w M K (ev_W p l e R s m args below meth c0 Q D A M) := by
  obtain ⟨hx, hb, hml, hown, hts, hG, hnw, hA, hRf, hRl, hret, hnm, hlk⟩ := F
  intro pc L st h c z x y hd k H locs cells slots ls hr hS hl hc hz
  dsimp only at hr hl hc hz ⊢
  exact lv_lxor hx hb hd  (k H locs cells slots ls hr hS hl hc hz)
set_option maxHeartbeats 1000000 in
theorem ew_ldiv (F : ev_fr p R s m args meth c0 A G M d w) (hmet : ev_met l G d w C) : ru_ldiv G C w M K (ev_W p l e R s m args below meth c0 Q D A M) := by
  obtain ⟨hx, hb, hml, hown, hts, hG, hnw, hA, hRf, hRl, hret, hnm, hlk⟩ := F
  intro pc L st h c z x y hd hne k H locs cells slots ls hr hS hl hc hz
  dsimp only at hr hl hc hz ⊢
  exact lv_ldiv hx hb hd hne (k H locs cells slots ls hr hS hl hc hz)
set_option maxHeartbeats 1000000 in
theorem ew_lrem (F : ev_fr p R s m args meth c0 A G M d w) (hmet : ev_met l G d w C) : ru_lrem G C w M K (ev_W p l e R s m args below meth c0 Q D A M) := by
  obtain ⟨hx, hb, hml, hown, hts, hG, hnw, hA, hRf, hRl, hret, hnm, hlk⟩ := F
  intro pc L st h c z x y hd hne k H locs cells slots ls hr hS hl hc hz
  dsimp only at hr hl hc hz ⊢
  exact lv_lrem hx hb hd hne (k H locs cells slots ls hr hS hl hc hz)
set_option maxHeartbeats 1000000 in
theorem ew_lshl (F : ev_fr p R s m args meth c0 A G M d w) (hmet : ev_met l G d w C) : ru_lshl G C w M K (ev_W p l e R s m args below meth c0 Q D A M) := by
  obtain ⟨hx, hb, hml, hown, hts, hG, hnw, hA, hRf, hRl, hret, hnm, hlk⟩ := F
  intro pc L st h c z x y hd k H locs cells slots ls hr hS hl hc hz
  dsimp only at hr hl hc hz ⊢
  exact lv_lshl hx hb hd rfl (k H locs cells slots ls hr hS hl hc hz)
set_option maxHeartbeats 1000000 in
theorem ew_lshr (F : ev_fr p R s m args meth c0 A G M d w) (hmet : ev_met l G d w C) : ru_lshr G C w M K (ev_W p l e R s m args below meth c0 Q D A M) := by
  obtain ⟨hx, hb, hml, hown, hts, hG, hnw, hA, hRf, hRl, hret, hnm, hlk⟩ := F
  intro pc L st h c z x y hd k H locs cells slots ls hr hS hl hc hz
  dsimp only at hr hl hc hz ⊢
  exact lv_lshr hx hb hd rfl (k H locs cells slots ls hr hS hl hc hz)
set_option maxHeartbeats 1000000 in
theorem ew_lushr (F : ev_fr p R s m args meth c0 A G M d w) (hmet : ev_met l G d w C) : ru_lushr G C w M K (ev_W p l e R s m args below meth c0 Q D A M) := by
  obtain ⟨hx, hb, hml, hown, hts, hG, hnw, hA, hRf, hRl, hret, hnm, hlk⟩ := F
  intro pc L st h c z x y hd k H locs cells slots ls hr hS hl hc hz
  dsimp only at hr hl hc hz ⊢
  exact lv_lushr hx hb hd rfl (k H locs cells slots ls hr hS hl hc hz)
set_option maxHeartbeats 1000000 in
theorem ew_lneg (F : ev_fr p R s m args meth c0 A G M d w) (hmet : ev_met l G d w C) : ru_lneg G C w M K (ev_W p l e R s m args below meth c0 Q D A M) := by
  obtain ⟨hx, hb, hml, hown, hts, hG, hnw, hA, hRf, hRl, hret, hnm, hlk⟩ := F
  intro pc L st h c z x hd k H locs cells slots ls hr hS hl hc hz
  dsimp only at hr hl hc hz ⊢
  exact lv_lneg hx hb hd  (k H locs cells slots ls hr hS hl hc hz)
set_option maxHeartbeats 1000000 in
theorem ew_i2l (F : ev_fr p R s m args meth c0 A G M d w) (hmet : ev_met l G d w C) : ru_i2l G C w M K (ev_W p l e R s m args below meth c0 Q D A M) := by
  obtain ⟨hx, hb, hml, hown, hts, hG, hnw, hA, hRf, hRl, hret, hnm, hlk⟩ := F
  intro pc L st h c z x hd k H locs cells slots ls hr hS hl hc hz
  dsimp only at hr hl hc hz ⊢
  exact lv_i2l hx hb hd rfl (k H locs cells slots ls hr hS hl hc hz)
set_option maxHeartbeats 1000000 in
theorem ew_l2i (F : ev_fr p R s m args meth c0 A G M d w) (hmet : ev_met l G d w C) : ru_l2i G C w M K (ev_W p l e R s m args below meth c0 Q D A M) := by
  obtain ⟨hx, hb, hml, hown, hts, hG, hnw, hA, hRf, hRl, hret, hnm, hlk⟩ := F
  intro pc L st h c z x hd k H locs cells slots ls hr hS hl hc hz
  dsimp only at hr hl hc hz ⊢
  exact lv_l2i hx hb hd rfl (k H locs cells slots ls hr hS hl hc hz)
set_option maxHeartbeats 1000000 in
theorem ew_i2c (F : ev_fr p R s m args meth c0 A G M d w) (hmet : ev_met l G d w C) : ru_i2c G C w M K (ev_W p l e R s m args below meth c0 Q D A M) := by
  obtain ⟨hx, hb, hml, hown, hts, hG, hnw, hA, hRf, hRl, hret, hnm, hlk⟩ := F
  intro pc L st h c z x hd k H locs cells slots ls hr hS hl hc hz
  dsimp only at hr hl hc hz ⊢
  exact lv_i2c hx hb hd rfl (k H locs cells slots ls hr hS hl hc hz)
set_option maxHeartbeats 1000000 in
theorem ew_i2b (F : ev_fr p R s m args meth c0 A G M d w) (hmet : ev_met l G d w C) : ru_i2b G C w M K (ev_W p l e R s m args below meth c0 Q D A M) := by
  obtain ⟨hx, hb, hml, hown, hts, hG, hnw, hA, hRf, hRl, hret, hnm, hlk⟩ := F
  intro pc L st h c z x hd k H locs cells slots ls hr hS hl hc hz
  dsimp only at hr hl hc hz ⊢
  exact lv_i2b hx hb hd rfl (k H locs cells slots ls hr hS hl hc hz)
set_option maxHeartbeats 1000000 in
theorem ew_lcmp (F : ev_fr p R s m args meth c0 A G M d w) (hmet : ev_met l G d w C) : ru_lcmp G C w M K (ev_W p l e R s m args below meth c0 Q D A M) := by
  obtain ⟨hx, hb, hml, hown, hts, hG, hnw, hA, hRf, hRl, hret, hnm, hlk⟩ := F
  intro pc L st h c z x y hd k H locs cells slots ls hr hS hl hc hz
  dsimp only at hr hl hc hz ⊢
  exact W.lcmp hx hb hd  (k H locs cells slots ls hr hS hl hc hz)
set_option maxHeartbeats 1000000 in
theorem ew_dup (F : ev_fr p R s m args meth c0 A G M d w) (hmet : ev_met l G d w C) : ru_dup G C w M K (ev_W p l e R s m args below meth c0 Q D A M) := by
  obtain ⟨hx, hb, hml, hown, hts, hG, hnw, hA, hRf, hRl, hret, hnm, hlk⟩ := F
  intro pc L st h c z va hd hva k H locs cells slots ls hr hS hl hc hz
  dsimp only at hr hl hc hz ⊢
  exact lv_dup hx hb hd hva (k H locs cells slots ls hr hS hl hc hz)
set_option maxHeartbeats 1000000 in
theorem ew_pop (F : ev_fr p R s m args meth c0 A G M d w) (hmet : ev_met l G d w C) : ru_pop G C w M K (ev_W p l e R s m args below meth c0 Q D A M) := by
  obtain ⟨hx, hb, hml, hown, hts, hG, hnw, hA, hRf, hRl, hret, hnm, hlk⟩ := F
  intro pc L st h c z va hd hva k H locs cells slots ls hr hS hl hc hz
  dsimp only at hr hl hc hz ⊢
  exact lv_pop hx hb hd hva (k H locs cells slots ls hr hS hl hc hz)
set_option maxHeartbeats 1000000 in
theorem ew_dup_x1 (F : ev_fr p R s m args meth c0 A G M d w) (hmet : ev_met l G d w C) : ru_dup_x1 G C w M K (ev_W p l e R s m args below meth c0 Q D A M) := by
  obtain ⟨hx, hb, hml, hown, hts, hG, hnw, hA, hRf, hRl, hret, hnm, hlk⟩ := F
  intro pc L st h c z va vb hd hva hvb k H locs cells slots ls hr hS hl hc hz
  dsimp only at hr hl hc hz ⊢
  exact lv_dup_x1 hx hb hd hva hvb (k H locs cells slots ls hr hS hl hc hz)
set_option maxHeartbeats 1000000 in
theorem ew_dup_x2 (F : ev_fr p R s m args meth c0 A G M d w) (hmet : ev_met l G d w C) : ru_dup_x2 G C w M K (ev_W p l e R s m args below meth c0 Q D A M) := by
  obtain ⟨hx, hb, hml, hown, hts, hG, hnw, hA, hRf, hRl, hret, hnm, hlk⟩ := F
  intro pc L st h c z va vb vd hd hva hvb hvd k H locs cells slots ls hr hS hl hc hz
  dsimp only at hr hl hc hz ⊢
  exact lv_dup_x2 hx hb hd hva hvb hvd (k H locs cells slots ls hr hS hl hc hz)
set_option maxHeartbeats 1000000 in
theorem ew_dup2_11 (F : ev_fr p R s m args meth c0 A G M d w) (hmet : ev_met l G d w C) : ru_dup2_11 G C w M K (ev_W p l e R s m args below meth c0 Q D A M) := by
  obtain ⟨hx, hb, hml, hown, hts, hG, hnw, hA, hRf, hRl, hret, hnm, hlk⟩ := F
  intro pc L st h c z va vb hd hva hvb k H locs cells slots ls hr hS hl hc hz
  dsimp only at hr hl hc hz ⊢
  exact lv_dup2_11 hx hb hd hva hvb (k H locs cells slots ls hr hS hl hc hz)
set_option maxHeartbeats 1000000 in
theorem ew_dup2_2 (F : ev_fr p R s m args meth c0 A G M d w) (hmet : ev_met l G d w C) : ru_dup2_2 G C w M K (ev_W p l e R s m args below meth c0 Q D A M) := by
  obtain ⟨hx, hb, hml, hown, hts, hG, hnw, hA, hRf, hRl, hret, hnm, hlk⟩ := F
  intro pc L st h c z va hd hva k H locs cells slots ls hr hS hl hc hz
  dsimp only at hr hl hc hz ⊢
  exact lv_dup2_2 hx hb hd hva (k H locs cells slots ls hr hS hl hc hz)
set_option maxHeartbeats 1000000 in
theorem ew_pop2_2 (F : ev_fr p R s m args meth c0 A G M d w) (hmet : ev_met l G d w C) : ru_pop2_2 G C w M K (ev_W p l e R s m args below meth c0 Q D A M) := by
  obtain ⟨hx, hb, hml, hown, hts, hG, hnw, hA, hRf, hRl, hret, hnm, hlk⟩ := F
  intro pc L st h c z va hd hva k H locs cells slots ls hr hS hl hc hz
  dsimp only at hr hl hc hz ⊢
  exact lv_pop2_2 hx hb hd hva (k H locs cells slots ls hr hS hl hc hz)
set_option maxHeartbeats 1000000 in
theorem ew_dup2_x1_2 (F : ev_fr p R s m args meth c0 A G M d w) (hmet : ev_met l G d w C) : ru_dup2_x1_2 G C w M K (ev_W p l e R s m args below meth c0 Q D A M) := by
  obtain ⟨hx, hb, hml, hown, hts, hG, hnw, hA, hRf, hRl, hret, hnm, hlk⟩ := F
  intro pc L st h c z va vb hd hva hvb k H locs cells slots ls hr hS hl hc hz
  dsimp only at hr hl hc hz ⊢
  exact lv_dup2_x1_2 hx hb hd hva hvb (k H locs cells slots ls hr hS hl hc hz)
set_option maxHeartbeats 1000000 in
theorem ew_dup2_x2_2 (F : ev_fr p R s m args meth c0 A G M d w) (hmet : ev_met l G d w C) : ru_dup2_x2_2 G C w M K (ev_W p l e R s m args below meth c0 Q D A M) := by
  obtain ⟨hx, hb, hml, hown, hts, hG, hnw, hA, hRf, hRl, hret, hnm, hlk⟩ := F
  intro pc L st h c z va vb vd hd hva hvb hvd k H locs cells slots ls hr hS hl hc hz
  dsimp only at hr hl hc hz ⊢
  exact lv_dup2_x2_2 hx hb hd hva hvb hvd (k H locs cells slots ls hr hS hl hc hz)
set_option maxHeartbeats 1000000 in
theorem ew_if_eq (F : ev_fr p R s m args meth c0 A G M d w) (hmet : ev_met l G d w C) : ru_if_eq G C w M K (ev_W p l e R s m args below meth c0 Q D A M) := by
  obtain ⟨hx, hb, hml, hown, hts, hG, hnw, hA, hRf, hRl, hret, hnm, hlk⟩ := F
  intro pc L st h c z off tgt x hd ht kt kf H locs cells slots ls hr hS hl hc hz
  dsimp only at hr hl hc hz ⊢
  exact lv_if_eq hx hb hd ht (fun q => kt q H locs cells slots ls hr hS hl hc hz) (fun q => kf q H locs cells slots ls hr hS hl hc hz)
set_option maxHeartbeats 1000000 in
theorem ew_icmp_eq (F : ev_fr p R s m args meth c0 A G M d w) (hmet : ev_met l G d w C) : ru_icmp_eq G C w M K (ev_W p l e R s m args below meth c0 Q D A M) := by
  obtain ⟨hx, hb, hml, hown, hts, hG, hnw, hA, hRf, hRl, hret, hnm, hlk⟩ := F
  intro pc L st h c z off tgt x y hd ht kt kf H locs cells slots ls hr hS hl hc hz
  dsimp only at hr hl hc hz ⊢
  exact lv_icmp_eq hx hb hd ht (fun q => kt q H locs cells slots ls hr hS hl hc hz) (fun q => kf q H locs cells slots ls hr hS hl hc hz)
set_option maxHeartbeats 1000000 in
theorem ew_if_ne (F : ev_fr p R s m args meth c0 A G M d w) (hmet : ev_met l G d w C) : ru_if_ne G C w M K (ev_W p l e R s m args below meth c0 Q D A M) := by
  obtain ⟨hx, hb, hml, hown, hts, hG, hnw, hA, hRf, hRl, hret, hnm, hlk⟩ := F
  intro pc L st h c z off tgt x hd ht kt kf H locs cells slots ls hr hS hl hc hz
  dsimp only at hr hl hc hz ⊢
  exact lv_if_ne hx hb hd ht (fun q => kt q H locs cells slots ls hr hS hl hc hz) (fun q => kf q H locs cells slots ls hr hS hl hc hz)
set_option maxHeartbeats 1000000 in
theorem ew_icmp_ne (F : ev_fr p R s m args meth c0 A G M d w) (hmet : ev_met l G d w C) : ru_icmp_ne G C w M K (ev_W p l e R s m args below meth c0 Q D A M) := by
  obtain ⟨hx, hb, hml, hown, hts, hG, hnw, hA, hRf, hRl, hret, hnm, hlk⟩ := F
  intro pc L st h c z off tgt x y hd ht kt kf H locs cells slots ls hr hS hl hc hz
  dsimp only at hr hl hc hz ⊢
  exact lv_icmp_ne hx hb hd ht (fun q => kt q H locs cells slots ls hr hS hl hc hz) (fun q => kf q H locs cells slots ls hr hS hl hc hz)
set_option maxHeartbeats 1000000 in
theorem ew_if_lt (F : ev_fr p R s m args meth c0 A G M d w) (hmet : ev_met l G d w C) : ru_if_lt G C w M K (ev_W p l e R s m args below meth c0 Q D A M) := by
  obtain ⟨hx, hb, hml, hown, hts, hG, hnw, hA, hRf, hRl, hret, hnm, hlk⟩ := F
  intro pc L st h c z off tgt x hd ht kt kf H locs cells slots ls hr hS hl hc hz
  dsimp only at hr hl hc hz ⊢
  exact lv_if_lt hx hb hd ht (fun q => kt q H locs cells slots ls hr hS hl hc hz) (fun q => kf q H locs cells slots ls hr hS hl hc hz)
set_option maxHeartbeats 1000000 in
theorem ew_icmp_lt (F : ev_fr p R s m args meth c0 A G M d w) (hmet : ev_met l G d w C) : ru_icmp_lt G C w M K (ev_W p l e R s m args below meth c0 Q D A M) := by
  obtain ⟨hx, hb, hml, hown, hts, hG, hnw, hA, hRf, hRl, hret, hnm, hlk⟩ := F
  intro pc L st h c z off tgt x y hd ht kt kf H locs cells slots ls hr hS hl hc hz
  dsimp only at hr hl hc hz ⊢
  exact lv_icmp_lt hx hb hd ht (fun q => kt q H locs cells slots ls hr hS hl hc hz) (fun q => kf q H locs cells slots ls hr hS hl hc hz)
set_option maxHeartbeats 1000000 in
theorem ew_if_ge (F : ev_fr p R s m args meth c0 A G M d w) (hmet : ev_met l G d w C) : ru_if_ge G C w M K (ev_W p l e R s m args below meth c0 Q D A M) := by
  obtain ⟨hx, hb, hml, hown, hts, hG, hnw, hA, hRf, hRl, hret, hnm, hlk⟩ := F
  intro pc L st h c z off tgt x hd ht kt kf H locs cells slots ls hr hS hl hc hz
  dsimp only at hr hl hc hz ⊢
  exact lv_if_ge hx hb hd ht (fun q => kt q H locs cells slots ls hr hS hl hc hz) (fun q => kf q H locs cells slots ls hr hS hl hc hz)
set_option maxHeartbeats 1000000 in
theorem ew_icmp_ge (F : ev_fr p R s m args meth c0 A G M d w) (hmet : ev_met l G d w C) : ru_icmp_ge G C w M K (ev_W p l e R s m args below meth c0 Q D A M) := by
  obtain ⟨hx, hb, hml, hown, hts, hG, hnw, hA, hRf, hRl, hret, hnm, hlk⟩ := F
  intro pc L st h c z off tgt x y hd ht kt kf H locs cells slots ls hr hS hl hc hz
  dsimp only at hr hl hc hz ⊢
  exact lv_icmp_ge hx hb hd ht (fun q => kt q H locs cells slots ls hr hS hl hc hz) (fun q => kf q H locs cells slots ls hr hS hl hc hz)
set_option maxHeartbeats 1000000 in
theorem ew_if_gt (F : ev_fr p R s m args meth c0 A G M d w) (hmet : ev_met l G d w C) : ru_if_gt G C w M K (ev_W p l e R s m args below meth c0 Q D A M) := by
  obtain ⟨hx, hb, hml, hown, hts, hG, hnw, hA, hRf, hRl, hret, hnm, hlk⟩ := F
  intro pc L st h c z off tgt x hd ht kt kf H locs cells slots ls hr hS hl hc hz
  dsimp only at hr hl hc hz ⊢
  exact lv_if_gt hx hb hd ht (fun q => kt q H locs cells slots ls hr hS hl hc hz) (fun q => kf q H locs cells slots ls hr hS hl hc hz)
set_option maxHeartbeats 1000000 in
theorem ew_icmp_gt (F : ev_fr p R s m args meth c0 A G M d w) (hmet : ev_met l G d w C) : ru_icmp_gt G C w M K (ev_W p l e R s m args below meth c0 Q D A M) := by
  obtain ⟨hx, hb, hml, hown, hts, hG, hnw, hA, hRf, hRl, hret, hnm, hlk⟩ := F
  intro pc L st h c z off tgt x y hd ht kt kf H locs cells slots ls hr hS hl hc hz
  dsimp only at hr hl hc hz ⊢
  exact lv_icmp_gt hx hb hd ht (fun q => kt q H locs cells slots ls hr hS hl hc hz) (fun q => kf q H locs cells slots ls hr hS hl hc hz)
set_option maxHeartbeats 1000000 in
theorem ew_if_le (F : ev_fr p R s m args meth c0 A G M d w) (hmet : ev_met l G d w C) : ru_if_le G C w M K (ev_W p l e R s m args below meth c0 Q D A M) := by
  obtain ⟨hx, hb, hml, hown, hts, hG, hnw, hA, hRf, hRl, hret, hnm, hlk⟩ := F
  intro pc L st h c z off tgt x hd ht kt kf H locs cells slots ls hr hS hl hc hz
  dsimp only at hr hl hc hz ⊢
  exact lv_if_le hx hb hd ht (fun q => kt q H locs cells slots ls hr hS hl hc hz) (fun q => kf q H locs cells slots ls hr hS hl hc hz)
set_option maxHeartbeats 1000000 in
theorem ew_icmp_le (F : ev_fr p R s m args meth c0 A G M d w) (hmet : ev_met l G d w C) : ru_icmp_le G C w M K (ev_W p l e R s m args below meth c0 Q D A M) := by
  obtain ⟨hx, hb, hml, hown, hts, hG, hnw, hA, hRf, hRl, hret, hnm, hlk⟩ := F
  intro pc L st h c z off tgt x y hd ht kt kf H locs cells slots ls hr hS hl hc hz
  dsimp only at hr hl hc hz ⊢
  exact lv_icmp_le hx hb hd ht (fun q => kt q H locs cells slots ls hr hS hl hc hz) (fun q => kf q H locs cells slots ls hr hS hl hc hz)
set_option maxHeartbeats 1000000 in
theorem ew_goto (F : ev_fr p R s m args meth c0 A G M d w) (hmet : ev_met l G d w C) : ru_goto G C w M K (ev_W p l e R s m args below meth c0 Q D A M) := by
  obtain ⟨hx, hb, hml, hown, hts, hG, hnw, hA, hRf, hRl, hret, hnm, hlk⟩ := F
  intro pc L st h c z off tgt hd ht k H locs cells slots ls hr hS hl hc hz
  dsimp only at hr hl hc hz ⊢
  exact lv_goto hx hb hd ht (k H locs cells slots ls hr hS hl hc hz)
set_option maxHeartbeats 1000000 in
theorem ew_tableIn (F : ev_fr p R s m args meth c0 A G M d w) (hmet : ev_met l G d w C) : ru_tableIn G C w M K (ev_W p l e R s m args below meth c0 Q D A M) := by
  obtain ⟨hx, hb, hml, hown, hts, hG, hnw, hA, hRf, hRl, hret, hnm, hlk⟩ := F
  intro pc L st h c z dflt lo hi offs len x off tgt hd h1 h2 ho ht k H locs cells slots ls hr hS hl hc hz
  dsimp only at hr hl hc hz ⊢
  exact lv_tableIn hx hb hd h1 h2 ho ht (k H locs cells slots ls hr hS hl hc hz)
set_option maxHeartbeats 1000000 in
theorem ew_tableOut (F : ev_fr p R s m args meth c0 A G M d w) (hmet : ev_met l G d w C) : ru_tableOut G C w M K (ev_W p l e R s m args below meth c0 Q D A M) := by
  obtain ⟨hx, hb, hml, hown, hts, hG, hnw, hA, hRf, hRl, hret, hnm, hlk⟩ := F
  intro pc L st h c z dflt lo hi offs len x tgt hd h1 ht k H locs cells slots ls hr hS hl hc hz
  dsimp only at hr hl hc hz ⊢
  exact lv_tableOut hx hb hd h1 ht (k H locs cells slots ls hr hS hl hc hz)
set_option maxHeartbeats 1000000 in
theorem ew_iald (F : ev_fr p R s m args meth c0 A G M d w) (hmet : ev_met l G d w C) : ru_iald G C w M K (ev_W p l e R s m args below meth c0 Q D A M) := by
  obtain ⟨hx, hb, hml, hown, hts, hG, hnw, hA, hRf, hRl, hret, hnm, hlk⟩ := F
  intro pc L st h c z a n f i hd ha hi k H locs cells slots ls hr hS hl hc hz
  dsimp only at hr hl hc hz ⊢
  obtain ⟨ws, tys, hP, hK, hD, hR⟩ := id hr
  obtain ⟨q0, cA, t0, h1, h2⟩ := ev_arr hR ha
  exact va_iald hx hb hK hP q0 t0 h1 h2 hi hd (k H locs cells slots ls hr hS hl hc hz)
set_option maxHeartbeats 1000000 in
theorem ew_cald (F : ev_fr p R s m args meth c0 A G M d w) (hmet : ev_met l G d w C) : ru_cald G C w M K (ev_W p l e R s m args below meth c0 Q D A M) := by
  obtain ⟨hx, hb, hml, hown, hts, hG, hnw, hA, hRf, hRl, hret, hnm, hlk⟩ := F
  intro pc L st h c z a n f i hd ha hi k H locs cells slots ls hr hS hl hc hz
  dsimp only at hr hl hc hz ⊢
  obtain ⟨ws, tys, hP, hK, hD, hR⟩ := id hr
  obtain ⟨q0, cA, t0, h1, h2⟩ := ev_arr hR ha
  exact va_cald hx hb hK hP q0 t0 h1 h2 hi hd (k H locs cells slots ls hr hS hl hc hz)
set_option maxHeartbeats 1000000 in
theorem ew_bald (F : ev_fr p R s m args meth c0 A G M d w) (hmet : ev_met l G d w C) : ru_bald G C w M K (ev_W p l e R s m args below meth c0 Q D A M) := by
  obtain ⟨hx, hb, hml, hown, hts, hG, hnw, hA, hRf, hRl, hret, hnm, hlk⟩ := F
  intro pc L st h c z a n f i hd ha hi k H locs cells slots ls hr hS hl hc hz
  dsimp only at hr hl hc hz ⊢
  obtain ⟨ws, tys, hP, hK, hD, hR⟩ := id hr
  obtain ⟨q0, cA, t0, h1, h2⟩ := ev_arr hR ha
  exact va_bald hx hb hK hP q0 t0 h1 h2 hi hd (k H locs cells slots ls hr hS hl hc hz)
set_option maxHeartbeats 1000000 in
theorem ew_zald (F : ev_fr p R s m args meth c0 A G M d w) (hmet : ev_met l G d w C) : ru_zald G C w M K (ev_W p l e R s m args below meth c0 Q D A M) := by
  obtain ⟨hx, hb, hml, hown, hts, hG, hnw, hA, hRf, hRl, hret, hnm, hlk⟩ := F
  intro pc L st h c z a n f i hd ha hi k H locs cells slots ls hr hS hl hc hz
  dsimp only at hr hl hc hz ⊢
  obtain ⟨ws, tys, hP, hK, hD, hR⟩ := id hr
  obtain ⟨q0, cA, t0, h1, h2⟩ := ev_arr hR ha
  exact va_zald hx hb hK hP q0 t0 h1 h2 hi hd (k H locs cells slots ls hr hS hl hc hz)
set_option maxHeartbeats 1000000 in
theorem ew_lald (F : ev_fr p R s m args meth c0 A G M d w) (hmet : ev_met l G d w C) : ru_lald G C w M K (ev_W p l e R s m args below meth c0 Q D A M) := by
  obtain ⟨hx, hb, hml, hown, hts, hG, hnw, hA, hRf, hRl, hret, hnm, hlk⟩ := F
  intro pc L st h c z a n f i hd ha hi k H locs cells slots ls hr hS hl hc hz
  dsimp only at hr hl hc hz ⊢
  obtain ⟨ws, tys, hP, hK, hD, hR⟩ := id hr
  obtain ⟨q0, cA, t0, h1, h2⟩ := ev_arr hR ha
  exact va_lald hx hb hK hP q0 t0 h1 h2 hi hd (k H locs cells slots ls hr hS hl hc hz)
set_option maxHeartbeats 1000000 in
theorem ew_aald (F : ev_fr p R s m args meth c0 A G M d w) (hmet : ev_met l G d w C) : ru_aald G C w M K (ev_W p l e R s m args below meth c0 Q D A M) := by
  obtain ⟨hx, hb, hml, hown, hts, hG, hnw, hA, hRf, hRl, hret, hnm, hlk⟩ := F
  intro pc L st h c z a n q f i hd ha hi hf k H locs cells slots ls hr hS hl hc hz
  dsimp only at hr hl hc hz ⊢
  obtain ⟨ws, tys, hP, hK, hD, hR⟩ := id hr
  obtain ⟨q0, cA, t0, h1, h2⟩ := ev_arr hR ha
  have hlt : i.toNatClampNeg < n := Nat.not_le.mp (fun z => hi (Or.inr z))
  exact W.aald hx hb (hP q0 _ h1) ((hK.2 t0 _ h2).1 n (fun j => va_rf (f j))) rfl (fun z => by cases z) (by show ¬ (i < 0 ∨ (arrV _ _ _).slots.size ≤ _); rw [arrV_size]; exact hi) (by show (arrV _ _ _).slots[_]? = _; rw [arrV_read _ _ hlt, hf]; rfl) rfl rfl hd (k H locs cells slots ls hr hS hl hc hz)
set_option maxHeartbeats 1000000 in
theorem ew_iast (F : ev_fr p R s m args meth c0 A G M d w) (hmet : ev_met l G d w C) : ru_iast G C w M K (ev_W p l e R s m args below meth c0 Q D A M) := by
  obtain ⟨hx, hb, hml, hown, hts, hG, hnw, hA, hRf, hRl, hret, hnm, hlk⟩ := F
  intro pc L st h c z a n f i x hd ha hi k H locs cells slots ls hr hS hl hc hz
  dsimp only at hr hl hc hz ⊢
  obtain ⟨ws, tys, hP, hK, hD, hR⟩ := id hr
  obtain ⟨q0, cA, t0, h1, h2⟩ := ev_arr hR ha
  exact va_iast hx hb hK hP hD hS q0 t0 h1 h2 hi hd (fun H1 locs1 hP1 hD1 hS1 => k H1 locs1 cells slots ls ⟨_, tys, hP1, hK, hD1, ev_set hD hR h1 ⟨rfl, t0, h2⟩⟩ hS1 hl hc hz)
set_option maxHeartbeats 1000000 in
theorem ew_cast (F : ev_fr p R s m args meth c0 A G M d w) (hmet : ev_met l G d w C) : ru_cast G C w M K (ev_W p l e R s m args below meth c0 Q D A M) := by
  obtain ⟨hx, hb, hml, hown, hts, hG, hnw, hA, hRf, hRl, hret, hnm, hlk⟩ := F
  intro pc L st h c z a n f i x hd ha hi k H locs cells slots ls hr hS hl hc hz
  dsimp only at hr hl hc hz ⊢
  obtain ⟨ws, tys, hP, hK, hD, hR⟩ := id hr
  obtain ⟨q0, cA, t0, h1, h2⟩ := ev_arr hR ha
  exact va_cast hx hb hK hP hD hS q0 t0 h1 h2 hi hd (fun H1 locs1 hP1 hD1 hS1 => k H1 locs1 cells slots ls ⟨_, tys, hP1, hK, hD1, ev_set hD hR h1 ⟨rfl, t0, h2⟩⟩ hS1 hl hc hz)
set_option maxHeartbeats 1000000 in
theorem ew_zast (F : ev_fr p R s m args meth c0 A G M d w) (hmet : ev_met l G d w C) : ru_zast G C w M K (ev_W p l e R s m args below meth c0 Q D A M) := by
  obtain ⟨hx, hb, hml, hown, hts, hG, hnw, hA, hRf, hRl, hret, hnm, hlk⟩ := F
  intro pc L st h c z a n f i x hd ha hi k H locs cells slots ls hr hS hl hc hz
  dsimp only at hr hl hc hz ⊢
  obtain ⟨ws, tys, hP, hK, hD, hR⟩ := id hr
  obtain ⟨q0, cA, t0, h1, h2⟩ := ev_arr hR ha
  exact va_zast hx hb hK hP hD hS q0 t0 h1 h2 hi hd (fun H1 locs1 hP1 hD1 hS1 => k H1 locs1 cells slots ls ⟨_, tys, hP1, hK, hD1, ev_set hD hR h1 ⟨rfl, t0, h2⟩⟩ hS1 hl hc hz)
set_option maxHeartbeats 1000000 in
theorem ew_bast (F : ev_fr p R s m args meth c0 A G M d w) (hmet : ev_met l G d w C) : ru_bast G C w M K (ev_W p l e R s m args below meth c0 Q D A M) := by
  obtain ⟨hx, hb, hml, hown, hts, hG, hnw, hA, hRf, hRl, hret, hnm, hlk⟩ := F
  intro pc L st h c z a n f i x hd ha hi k H locs cells slots ls hr hS hl hc hz
  dsimp only at hr hl hc hz ⊢
  obtain ⟨ws, tys, hP, hK, hD, hR⟩ := id hr
  obtain ⟨q0, cA, t0, h1, h2⟩ := ev_arr hR ha
  exact va_bast hx hb hK hP hD hS q0 t0 h1 h2 hi hd (fun H1 locs1 hP1 hD1 hS1 => k H1 locs1 cells slots ls ⟨_, tys, hP1, hK, hD1, ev_set hD hR h1 ⟨rfl, t0, h2⟩⟩ hS1 hl hc hz)
set_option maxHeartbeats 1000000 in
theorem ew_last (F : ev_fr p R s m args meth c0 A G M d w) (hmet : ev_met l G d w C) : ru_last G C w M K (ev_W p l e R s m args below meth c0 Q D A M) := by
  obtain ⟨hx, hb, hml, hown, hts, hG, hnw, hA, hRf, hRl, hret, hnm, hlk⟩ := F
  intro pc L st h c z a n f i x hd ha hi k H locs cells slots ls hr hS hl hc hz
  dsimp only at hr hl hc hz ⊢
  obtain ⟨ws, tys, hP, hK, hD, hR⟩ := id hr
  obtain ⟨q0, cA, t0, h1, h2⟩ := ev_arr hR ha
  exact va_last hx hb hK hP hD hS q0 t0 h1 h2 hi hd (fun H1 locs1 hP1 hD1 hS1 => k H1 locs1 cells slots ls ⟨_, tys, hP1, hK, hD1, ev_set hD hR h1 ⟨rfl, t0, h2⟩⟩ hS1 hl hc hz)
set_option maxHeartbeats 1000000 in
theorem ew_alen (F : ev_fr p R s m args meth c0 A G M d w) (hmet : ev_met l G d w C) : ru_alen G C w M K (ev_W p l e R s m args below meth c0 Q D A M) := by
  obtain ⟨hx, hb, hml, hown, hts, hG, hnw, hA, hRf, hRl, hret, hnm, hlk⟩ := F
  intro pc L st h c z a ft x hd ha k H locs cells slots ls hr hS hl hc hz
  dsimp only at hr hl hc hz ⊢
  obtain ⟨ws, tys, hP, hK, hD, hR⟩ := id hr
  obtain ⟨q0, cA, t0, h1, h2⟩ := ev_arr hR ha
  exact va_alen hx hb hK hP q0 t0 h1 h2 rfl hd (k H locs cells slots ls hr hS hl hc hz)
set_option maxHeartbeats 1000000 in
theorem ew_riald (F : ev_fr p R s m args meth c0 A G M d w) (hmet : ev_met l G d w C) : ru_riald G C w M K (ev_W p l e R s m args below meth c0 Q D A M) := by
  obtain ⟨hx, hb, hml, hown, hts, hG, hnw, hA, hRf, hRl, hret, hnm, hlk⟩ := F
  intro pc L st h c z a n f i hd ha hi k H locs cells slots ls hr hS hl hc hz
  dsimp only at hr hl hc hz ⊢
  exact va_ti hx hb (hG.1 _ _ _ ha) hS hi rfl hd (k H locs cells slots ls hr hS hl hc hz)
set_option maxHeartbeats 1000000 in
theorem ew_ralen (F : ev_fr p R s m args meth c0 A G M d w) (hmet : ev_met l G d w C) : ru_ralen G C w M K (ev_W p l e R s m args below meth c0 Q D A M) := by
  obtain ⟨hx, hb, hml, hown, hts, hG, hnw, hA, hRf, hRl, hret, hnm, hlk⟩ := F
  intro pc L st h c z a n f hd ha k H locs cells slots ls hr hS hl hc hz
  dsimp only at hr hl hc hz ⊢
  exact va_tlen hx hb (hG.1 _ _ _ ha) hS rfl hd (k H locs cells slots ls hr hS hl hc hz)
set_option maxHeartbeats 1000000 in
theorem ew_gets (F : ev_fr p R s m args meth c0 A G M d w) (hmet : ev_met l G d w C) : ru_gets G C w M K (ev_W p l e R s m args below meth c0 Q D A M) := by
  obtain ⟨hx, hb, hml, hown, hts, hG, hnw, hA, hRf, hRl, hret, hnm, hlk⟩ := F
  intro pc L st h c z i Cn n d a hd hw ha k H locs cells slots ls hr hS hl hc hz
  dsimp only at hr hl hc hz ⊢
  exact va_gets hx hb (hG.2 _ _ _ _ ha) hS hown (hts _ hw) (fun _ q => q) hd (k H locs cells slots ls hr hS hl hc hz)
set_option maxHeartbeats 1000000 in
theorem ew_getf (F : ev_fr p R s m args meth c0 A G M d w) (hmet : ev_met l G d w C) : ru_getf G C w M K (ev_W p l e R s m args below meth c0 Q D A M) := by
  obtain ⟨hx, hb, hml, hown, hts, hG, hnw, hA, hRf, hRl, hret, hnm, hlk⟩ := F
  intro pc L st h c z i a ci kf fs v hd hw ha hv k H locs cells slots ls hr hS hl hc hz
  dsimp only at hr hl hc hz ⊢
  obtain ⟨C, T, N, w1, w2, w3⟩ := hw
  obtain ⟨ws, tys, hP, hK, hD, hR⟩ := id hr
  obtain ⟨q0, h1⟩ := ev_obj hR ha
  exact va_get hx hb hts (ev_cl w1).1 hown hK hP q0 h1 w1 kf w2 (hts _ w3) (fun _ q => q) hv hd (k H locs cells slots ls hr hS hl hc hz)
set_option maxHeartbeats 1000000 in
theorem ew_putf (F : ev_fr p R s m args meth c0 A G M d w) (hmet : ev_met l G d w C) : ru_putf G C w M K (ev_W p l e R s m args below meth c0 Q D A M) := by
  obtain ⟨hx, hb, hml, hown, hts, hG, hnw, hA, hRf, hRl, hret, hnm, hlk⟩ := F
  intro pc L st h c z i a ci kf ty fs v hd hw ha hl1 hn hf k H locs cells slots ls hr hS hl hc hz
  dsimp only at hr hl hc hz ⊢
  obtain ⟨C, T, N, w1, w2, w3, w4, w5⟩ := hw
  obtain ⟨ws, tys, hP, hK, hD, hR⟩ := id hr
  obtain ⟨q0, h1⟩ := ev_obj hR ha
  obtain ⟨g1, g2, tt, g3⟩ := ev_cl w1
  exact va_put hx hb hts g1 tt g3 g2 hown hK hP hD hS q0 h1 w1 kf w2 (hts _ w3) (fun _ q => q) w4 w5 hn hf (Nat.le_of_ble_eq_true hl1) hd (fun H1 locs1 hP1 hD1 hS1 => k H1 locs1 cells slots ls ⟨_, tys, hP1, hK, hD1, ev_set hD hR h1 rfl⟩ hS1 hl hc hz)
set_option maxHeartbeats 1000000 in
theorem ew_putF (F : ev_fr p R s m args meth c0 A G M d w) (hmet : ev_met l G d w C) : ru_putF G C w M K (ev_W p l e R s m args below meth c0 Q D A M) := by
  obtain ⟨hx, hb, hml, hown, hts, hG, hnw, hA, hRf, hRl, hret, hnm, hlk⟩ := F
  intro pc L st h c z i a ci kf ty fs v hd hw hi ha hl1 hn hf k H locs cells slots ls hr hS hl hc hz
  dsimp only at hr hl hc hz ⊢
  obtain ⟨C, T, N, w1, w2, w3, w4, w5, w6⟩ := hw
  obtain ⟨ws, tys, hP, hK, hD, hR⟩ := id hr
  obtain ⟨q0, h1⟩ := ev_obj hR ha
  obtain ⟨g1, g2, tt, g3⟩ := ev_cl w1
  exact va_putF hx hb hts g1 tt g3 g2 hown hK hP hD hS q0 h1 w1 kf w2 (hts _ w3) (fun _ q => q) w4 (hnm.trans hi) w6 w5 hn hf (Nat.le_of_ble_eq_true hl1) hd (fun H1 locs1 hP1 hD1 hS1 => k H1 locs1 cells slots ls ⟨_, tys, hP1, hK, hD1, ev_set hD hR h1 rfl⟩ hS1 hl hc hz)
set_option maxHeartbeats 1000000 in
theorem ew_newi (F : ev_fr p R s m args meth c0 A G M d w) (hmet : ev_met l G d w C) : ru_newi G C w M K (ev_W p l e R s m args below meth c0 Q D A M) := by
  obtain ⟨hx, hb, hml, hown, hts, hG, hnw, hA, hRf, hRl, hret, hnm, hlk⟩ := F
  intro pc L st h c z n N hd hw hn hN hB k H locs cells slots ls hr hS hl hc hz
  dsimp only at hr hl hc hz ⊢
  obtain ⟨ws, tys, hP, hK, hD, hR⟩ := id hr
  refine va_newa (atype := .int) (a0 := (N, .inl (fun _ => 0))) hx hb (hts _ hw) rfl hK hP hD hS hA (fun cA => rfl) hn hN (by show N * componentBytes .int ≤ 536870912; have := Nat.mul_le_mul_left N (show componentBytes .int ≤ 8 by decide); omega) (by omega) (by omega) hd (fun q cA H1 hK1 hP1 hD1 hS1 => ?_)
  obtain ⟨f1, f2⟩ := ev_push hP hD hD1 hR (c := .inl (.int, N, .inl (fun _ => 0))) (tys2 := [(cA, .int)]) ⟨rfl, ev_lastty⟩
  exact k q f1 H1 locs _ _ ls ⟨_, _, hP1, hK1, hD1, f2⟩ hS1 hl (by dsimp only; omega) (by dsimp only; omega)
set_option maxHeartbeats 1000000 in
theorem ew_newc (F : ev_fr p R s m args meth c0 A G M d w) (hmet : ev_met l G d w C) : ru_newc G C w M K (ev_W p l e R s m args below meth c0 Q D A M) := by
  obtain ⟨hx, hb, hml, hown, hts, hG, hnw, hA, hRf, hRl, hret, hnm, hlk⟩ := F
  intro pc L st h c z n N hd hw hn hN hB k H locs cells slots ls hr hS hl hc hz
  dsimp only at hr hl hc hz ⊢
  obtain ⟨ws, tys, hP, hK, hD, hR⟩ := id hr
  refine va_newa (atype := .char) (a0 := (N, .inl (fun _ => 0))) hx hb (hts _ hw) rfl hK hP hD hS hA (fun cA => rfl) hn hN (by show N * componentBytes .char ≤ 536870912; have := Nat.mul_le_mul_left N (show componentBytes .char ≤ 8 by decide); omega) (by omega) (by omega) hd (fun q cA H1 hK1 hP1 hD1 hS1 => ?_)
  obtain ⟨f1, f2⟩ := ev_push hP hD hD1 hR (c := .inl (.char, N, .inl (fun _ => 0))) (tys2 := [(cA, .char)]) ⟨rfl, ev_lastty⟩
  exact k q f1 H1 locs _ _ ls ⟨_, _, hP1, hK1, hD1, f2⟩ hS1 hl (by dsimp only; omega) (by dsimp only; omega)
set_option maxHeartbeats 1000000 in
theorem ew_newl (F : ev_fr p R s m args meth c0 A G M d w) (hmet : ev_met l G d w C) : ru_newl G C w M K (ev_W p l e R s m args below meth c0 Q D A M) := by
  obtain ⟨hx, hb, hml, hown, hts, hG, hnw, hA, hRf, hRl, hret, hnm, hlk⟩ := F
  intro pc L st h c z n N hd hw hn hN hB k H locs cells slots ls hr hS hl hc hz
  dsimp only at hr hl hc hz ⊢
  obtain ⟨ws, tys, hP, hK, hD, hR⟩ := id hr
  refine va_newa (atype := .long) (a0 := (N, .inr (.inl (fun _ => 0)))) hx hb (hts _ hw) rfl hK hP hD hS hA (fun cA => rfl) hn hN (by show N * componentBytes .long ≤ 536870912; have := Nat.mul_le_mul_left N (show componentBytes .long ≤ 8 by decide); omega) (by omega) (by omega) hd (fun q cA H1 hK1 hP1 hD1 hS1 => ?_)
  obtain ⟨f1, f2⟩ := ev_push hP hD hD1 hR (c := .inl (.long, N, .inr (.inl (fun _ => 0)))) (tys2 := [(cA, .long)]) ⟨rfl, ev_lastty⟩
  exact k q f1 H1 locs _ _ ls ⟨_, _, hP1, hK1, hD1, f2⟩ hS1 hl (by dsimp only; omega) (by dsimp only; omega)
set_option maxHeartbeats 1000000 in
theorem ew_newz (F : ev_fr p R s m args meth c0 A G M d w) (hmet : ev_met l G d w C) : ru_newz G C w M K (ev_W p l e R s m args below meth c0 Q D A M) := by
  obtain ⟨hx, hb, hml, hown, hts, hG, hnw, hA, hRf, hRl, hret, hnm, hlk⟩ := F
  intro pc L st h c z n N hd hw hn hN hB k H locs cells slots ls hr hS hl hc hz
  dsimp only at hr hl hc hz ⊢
  obtain ⟨ws, tys, hP, hK, hD, hR⟩ := id hr
  refine va_newa (atype := .boolean) (a0 := (N, .inl (fun _ => 0))) hx hb (hts _ hw) rfl hK hP hD hS hA (fun cA => rfl) hn hN (by show N * componentBytes .boolean ≤ 536870912; have := Nat.mul_le_mul_left N (show componentBytes .boolean ≤ 8 by decide); omega) (by omega) (by omega) hd (fun q cA H1 hK1 hP1 hD1 hS1 => ?_)
  obtain ⟨f1, f2⟩ := ev_push hP hD hD1 hR (c := .inl (.boolean, N, .inl (fun _ => 0))) (tys2 := [(cA, .boolean)]) ⟨rfl, ev_lastty⟩
  exact k q f1 H1 locs _ _ ls ⟨_, _, hP1, hK1, hD1, f2⟩ hS1 hl (by dsimp only; omega) (by dsimp only; omega)
set_option maxHeartbeats 1000000 in
theorem ew_new (F : ev_fr p R s m args meth c0 A G M d w) (hmet : ev_met l G d w C) : ru_new G C w M K (ev_W p l e R s m args below meth c0 Q D A M) := by
  obtain ⟨hx, hb, hml, hown, hts, hG, hnw, hA, hRf, hRl, hret, hnm, hlk⟩ := F
  intro pc L st h c z i ci N fs hd hw k H locs cells slots ls hr hS hl hc hz
  dsimp only at hr hl hc hz ⊢
  obtain ⟨C, T, w1, w2, w3, w4, tt, w5, w6⟩ := hw
  obtain ⟨ws, tys, hP, hK, hD, hR⟩ := id hr
  obtain ⟨g1, g2, -, -⟩ := ev_cl w1
  refine va_new hx hb hts g1 tt w5 hown (hts _ w2) (hts _ w3) (hts _ w4) hK hP hD hS hA w1 w6 (by omega) (by omega) hd (fun q H1 hP1 hD1 hS1 => ?_)
  obtain ⟨f1, f2⟩ := ev_push hP hD hD1 hR (c := .inr (ci, fs)) (tys2 := []) rfl
  rw [List.append_nil] at f2
  exact k q f1 H1 locs _ _ ls ⟨_, _, hP1, hK, hD1, f2⟩ hS1 hl (by dsimp only; omega) (by dsimp only; omega)
set_option maxHeartbeats 1000000 in
theorem ew_iret (F : ev_fr p R s m args meth c0 A G M d w) (hmet : ev_met l G d w C) : ru_iret G C w M K (ev_W p l e R s m args below meth c0 (MQ below (ev_Qc D A K) args s R.cells R.slots A) D A M) := by
  obtain ⟨hx, hb, hml, hown, hts, hG, hnw, hA, hRf, hRl, hret, hnm, hlk⟩ := F
  intro pc L h c z x ty hd hr1 hn hk  H locs cells slots ls hr hS hl hc hz
  dsimp only at hr hl hc hz ⊢
  exact W.widen (k := R.cells) (n := R.slots) (by omega) (by omega) (W.zret hx hb (hret.trans hr1) hn (fun t ht hW => ev_end hS ht (ev_kend hr hW ht) hk) (fun q hq => hS.2.2 q hq) hd hlk)
set_option maxHeartbeats 1000000 in
theorem ew_lret (F : ev_fr p R s m args meth c0 A G M d w) (hmet : ev_met l G d w C) : ru_lret G C w M K (ev_W p l e R s m args below meth c0 (MQ below (ev_Qc D A K) args s R.cells R.slots A) D A M) := by
  obtain ⟨hx, hb, hml, hown, hts, hG, hnw, hA, hRf, hRl, hret, hnm, hlk⟩ := F
  intro pc L h c z x hd hr1 hk  H locs cells slots ls hr hS hl hc hz
  dsimp only at hr hl hc hz ⊢
  exact W.widen (k := R.cells) (n := R.slots) (by omega) (by omega) (W.lret hx hb (hret.trans hr1) (fun t ht hW => ev_end hS ht (ev_kend hr hW ht) hk) (fun q hq => hS.2.2 q hq) hd hlk)
set_option maxHeartbeats 1000000 in
theorem ew_aret (F : ev_fr p R s m args meth c0 A G M d w) (hmet : ev_met l G d w C) : ru_aret G C w M K (ev_W p l e R s m args below meth c0 (MQ below (ev_Qc D A K) args s R.cells R.slots A) D A M) := by
  obtain ⟨hx, hb, hml, hown, hts, hG, hnw, hA, hRf, hRl, hret, hnm, hlk⟩ := F
  intro pc L h c z x ty hd hr1 hrt hk  H locs cells slots ls hr hS hl hc hz
  dsimp only at hr hl hc hz ⊢
  exact W.widen (k := R.cells) (n := R.slots) (by omega) (by omega) (W.aret hx hb (hret.trans hr1) hrt (Or.inr ⟨x, rfl⟩) (fun t ht hW => ev_end hS ht (ev_kend hr hW ht) hk) (fun q hq => hS.2.2 q hq) hd hlk)
set_option maxHeartbeats 1000000 in
theorem ew_vret (F : ev_fr p R s m args meth c0 A G M d w) (hmet : ev_met l G d w C) : ru_vret G C w M K (ev_W p l e R s m args below meth c0 (MQ below (ev_Qc D A K) args s R.cells R.slots A) D A M) := by
  obtain ⟨hx, hb, hml, hown, hts, hG, hnw, hA, hRf, hRl, hret, hnm, hlk⟩ := F
  intro pc L h c z hd hr1 hk  H locs cells slots ls hr hS hl hc hz
  dsimp only at hr hl hc hz ⊢
  exact W.widen (k := R.cells) (n := R.slots) (by omega) (by omega) (W.vret hx hb (hret.trans hr1) (fun t ht hW => ev_end hS ht (ev_kend hr hW ht) hk) (fun q hq => hS.2.2 q hq) hd hlk)
set_option maxHeartbeats 1000000 in
theorem ew_callV (F : ev_fr p R s m args meth c0 A G M d w) (hmet : ev_met l G d w C) : ru_callV G C w M K (ev_W p l e R s m args below meth c0 Q D A M) := by
  obtain ⟨hx, hb, hml, hown, hts, hG, hnw, hA, hRf, hRl, hret, hnm, hlk⟩ := F
  intro pc L st h c z i c1 z1 b ci fs N As stk post hd hw hs hq hb1 hci hC hc1 hz1 k H locs cells slots ls hr hS hl hc hz
  dsimp only at hr hl hc hz ⊢
  obtain ⟨w2, hw2, hM⟩ := hmet _ _ _ _ _ _ hC
  obtain ⟨ws, tys, hP, hK, hD, hR⟩ := id hr
  subst hs
  replace hc1 := Nat.le_of_ble_eq_true hc1
  replace hz1 := Nat.le_of_ble_eq_true hz1
  obtain ⟨q0, h1⟩ := ev_obj hR hb1
  obtain ⟨w1, w2, w3, w4, w5, w6⟩ := hw
  obtain ⟨qc, hq1, hq2⟩ := Option.map_eq_some_iff.mp hci
  exact ev_back hG hnw hP hK hD hR hS hA (va_runV (As := As) (rest := st) ⟨hx, hb, hml, hown, hts⟩ (hM D ws tys H.size hR) (cwV As.length hts (ev_gV w1 w2 w3 w4 w5) rfl rfl rfl ⟨rfl, w6.1, w6.2.1, w6.2.2⟩ (ev_rmok hRf hRl hw2)) ⟨ev_blind, by have q := va_recv hK hP hq1 h1; rw [hq2] at q; exact q, ev_pre hP hK hD hR hS hA hG hnw⟩ rfl rfl hl.size rfl (lv_room (Nat.le_of_ble_eq_true hq)) hd ⟨by omega, by omega⟩) (fun r h1 H1 locs1 hp hr1 hS1 => k r h1 hp H1 locs1 _ _ ls hr1 hS1 hl (by dsimp only; omega) (by dsimp only; omega))
set_option maxHeartbeats 1000000 in
theorem ew_callS (F : ev_fr p R s m args meth c0 A G M d w) (hmet : ev_met l G d w C) : ru_callS G C w M K (ev_W p l e R s m args below meth c0 Q D A M) := by
  obtain ⟨hx, hb, hml, hown, hts, hG, hnw, hA, hRf, hRl, hret, hnm, hlk⟩ := F
  intro pc L st h c z i c1 z1 N As stk post hd hw hs hq hC hc1 hz1 k H locs cells slots ls hr hS hl hc hz
  dsimp only at hr hl hc hz ⊢
  obtain ⟨w2, hw2, hM⟩ := hmet _ _ _ _ _ _ hC
  obtain ⟨ws, tys, hP, hK, hD, hR⟩ := id hr
  subst hs
  replace hc1 := Nat.le_of_ble_eq_true hc1
  replace hz1 := Nat.le_of_ble_eq_true hz1
  obtain ⟨w1, w2, w4, w5, w6⟩ := hw
  exact ev_back hG hnw hP hK hD hR hS hA (va_runS (As := As) (rest := st) ⟨hx, hb, hml, hown, hts⟩ (hM D ws tys H.size hR) (va_cwS As.length hts (ev_gS w1 w2 w4 w5) rfl rfl rfl ⟨w6.1, w6.2.1, w6.2.2⟩ (ev_rmok hRf hRl hw2)) ⟨ev_blind, ev_pre hP hK hD hR hS hA hG hnw⟩ rfl rfl hl.size rfl (lv_room (Nat.le_of_ble_eq_true hq)) hd ⟨by omega, by omega⟩) (fun r h1 H1 locs1 hp hr1 hS1 => k r h1 hp H1 locs1 _ _ ls hr1 hS1 hl (by dsimp only; omega) (by dsimp only; omega))
set_option maxHeartbeats 1000000 in
theorem ew_callI (F : ev_fr p R s m args meth c0 A G M d w) (hmet : ev_met l G d w C) : ru_callI G C w M K (ev_W p l e R s m args below meth c0 Q D A M) := by
  obtain ⟨hx, hb, hml, hown, hts, hG, hnw, hA, hRf, hRl, hret, hnm, hlk⟩ := F
  intro pc L st h c z i c1 z1 b N As stk post hd hw hs hq hC hc1 hz1 k H locs cells slots ls hr hS hl hc hz
  dsimp only at hr hl hc hz ⊢
  obtain ⟨w2, hw2, hM⟩ := hmet _ _ _ _ _ _ hC
  obtain ⟨ws, tys, hP, hK, hD, hR⟩ := id hr
  subst hs
  replace hc1 := Nat.le_of_ble_eq_true hc1
  replace hz1 := Nat.le_of_ble_eq_true hz1
  obtain ⟨w1, w2, w4, w5, w7, w8, w6⟩ := hw
  obtain ⟨Ny, Nb, Nl, Nr⟩ := N
  cases (show Nr = none from w8)
  exact ev_back hG hnw hP hK hD hR hS hA (va_runI (As := As) (rest := st) ⟨hx, hb, hml, hown, hts⟩ (hM D ws tys H.size hR) (cwI As.length hts (ev_gI w5) rfl rfl rfl (hts _ w4) (hts _ w1) (hts _ w2) w7 ⟨w6.1, w6.2.1, w6.2.2⟩ (ev_rmok hRf hRl hw2)) ⟨ev_blind, ev_pre hP hK hD hR hS hA hG hnw⟩ rfl rfl hl.size rfl (lv_room (Nat.le_of_ble_eq_true hq)) hd ⟨by omega, by omega⟩) (fun r h1 H1 locs1 hp hr1 hS1 => k r h1 hp H1 locs1 _ _ ls hr1 hS1 hl (by dsimp only; omega) (by dsimp only; omega))
set_option maxHeartbeats 1000000 in
theorem ew_callIN (F : ev_fr p R s m args meth c0 A G M d w) (hmet : ev_met l G d w C) : ru_callIN G C w M K (ev_W p l e R s m args below meth c0 Q D A M) := by
  obtain ⟨hx, hb, hml, hown, hts, hG, hnw, hA, hRf, hRl, hret, hnm, hlk⟩ := F
  intro pc L st h c z i c1 z1 b N As stk post hd hw hs hq hC hc1 hz1 k H locs cells slots ls hr hS hl hc hz
  dsimp only at hr hl hc hz ⊢
  obtain ⟨w2, hw2, hM⟩ := hmet _ _ _ _ _ _ hC
  obtain ⟨ws, tys, hP, hK, hD, hR⟩ := id hr
  subst hs
  replace hc1 := Nat.le_of_ble_eq_true hc1
  replace hz1 := Nat.le_of_ble_eq_true hz1
  obtain ⟨host, w1, w2, w4, w5, w7, w8, w6⟩ := hw
  obtain ⟨Ny, Nb, Nl, Nr⟩ := N
  cases (show Nr = none from w8)
  exact ev_back hG hnw hP hK hD hR hS hA (va_runIN (As := As) (rest := st) ⟨hx, hb, hml, hown, hts⟩ (hM D ws tys H.size hR) ⟨va_cnB As.length hts (ev_gI w5) rfl rfl rfl (hnw _ w1) (hts _ w4) ⟨w6.1, w6.2.1, w6.2.2⟩ (ev_rmok hRf hRl hw2), w7, hts _ w2⟩ ⟨ev_blind, ev_pre hP hK hD hR hS hA hG hnw⟩ rfl rfl hl.size rfl (lv_room (Nat.le_of_ble_eq_true hq)) hd ⟨by omega, by omega⟩) (fun r h1 H1 locs1 hp hr1 hS1 => k r h1 hp H1 locs1 _ _ ls hr1 hS1 hl (by dsimp only; omega) (by dsimp only; omega))
set_option maxHeartbeats 1000000 in
theorem ew_objInit (F : ev_fr p R s m args meth c0 A G M d w) (hmet : ev_met l G d w C) : ru_objInit G C w M K (ev_W p l e R s m args below meth c0 Q D A M) := by
  obtain ⟨hx, hb, hml, hown, hts, hG, hnw, hA, hRf, hRl, hret, hnm, hlk⟩ := F
  intro pc L st h c z i a hd hw hq hw9 k H locs cells slots ls hr hS hl hc hz
  dsimp only at hr hl hc hz ⊢
  exact W.objInit hx hb hown (hts _ hw.1) (hts _ hw.2.1) (hts _ hw.2.2) rfl (hl.size.trans hml.symm) rfl hd (by omega) (by have := Nat.le_of_ble_eq_true hq; show 2 * 0 + _ + 12 ≤ _; omega) (k H locs cells slots ls hr hS hl hc hz)
set_option maxHeartbeats 1000000 in
theorem ew_mmax (F : ev_fr p R s m args meth c0 A G M d w) (hmet : ev_met l G d w C) : ru_mmax G C w M K (ev_W p l e R s m args below meth c0 Q D A M) := by
  obtain ⟨hx, hb, hml, hown, hts, hG, hnw, hA, hRf, hRl, hret, hnm, hlk⟩ := F
  intro pc L st h c z i x y hd hw hq hw9 k H locs cells slots ls hr hS hl hc hz
  dsimp only at hr hl hc hz ⊢
  exact va_mmax hx hb (hml.trans hl.size.symm) hown (hts _ hw.1) (hts _ hw.2.1) (hts _ hw.2.2.1) (hts _ hw.2.2.2) (by omega) (by have := Nat.le_of_ble_eq_true hq; omega) (by omega) (by omega) hd (k H locs cells slots ls hr hS hl hc hz)
set_option maxHeartbeats 1000000 in
theorem ew_mmin (F : ev_fr p R s m args meth c0 A G M d w) (hmet : ev_met l G d w C) : ru_mmin G C w M K (ev_W p l e R s m args below meth c0 Q D A M) := by
  obtain ⟨hx, hb, hml, hown, hts, hG, hnw, hA, hRf, hRl, hret, hnm, hlk⟩ := F
  intro pc L st h c z i x y hd hw hq hw9 k H locs cells slots ls hr hS hl hc hz
  dsimp only at hr hl hc hz ⊢
  exact va_mmin hx hb (hml.trans hl.size.symm) hown (hts _ hw.1) (hts _ hw.2.1) (hts _ hw.2.2.1) (hts _ hw.2.2.2) (by omega) (by have := Nat.le_of_ble_eq_true hq; omega) (by omega) (by omega) hd (k H locs cells slots ls hr hS hl hc hz)
set_option maxHeartbeats 1000000 in
theorem ew_mmaxl (F : ev_fr p R s m args meth c0 A G M d w) (hmet : ev_met l G d w C) : ru_mmaxl G C w M K (ev_W p l e R s m args below meth c0 Q D A M) := by
  obtain ⟨hx, hb, hml, hown, hts, hG, hnw, hA, hRf, hRl, hret, hnm, hlk⟩ := F
  intro pc L st h c z i x y hd hw hq hw9 k H locs cells slots ls hr hS hl hc hz
  dsimp only at hr hl hc hz ⊢
  exact va_mmax_long hx hb (hml.trans hl.size.symm) hown (hts _ hw.1) (hts _ hw.2.1) (hts _ hw.2.2.1) (hts _ hw.2.2.2) (by omega) (by have := Nat.le_of_ble_eq_true hq; omega) (by omega) (by omega) hd (k H locs cells slots ls hr hS hl hc hz)
set_option maxHeartbeats 1000000 in
theorem ew_mminl (F : ev_fr p R s m args meth c0 A G M d w) (hmet : ev_met l G d w C) : ru_mminl G C w M K (ev_W p l e R s m args below meth c0 Q D A M) := by
  obtain ⟨hx, hb, hml, hown, hts, hG, hnw, hA, hRf, hRl, hret, hnm, hlk⟩ := F
  intro pc L st h c z i x y hd hw hq hw9 k H locs cells slots ls hr hS hl hc hz
  dsimp only at hr hl hc hz ⊢
  exact va_mmin_long hx hb (hml.trans hl.size.symm) hown (hts _ hw.1) (hts _ hw.2.1) (hts _ hw.2.2.1) (hts _ hw.2.2.2) (by omega) (by have := Nat.le_of_ble_eq_true hq; omega) (by omega) (by omega) hd (k H locs cells slots ls hr hS hl hc hz)
set_option maxHeartbeats 1000000 in
theorem ew_copyi (F : ev_fr p R s m args meth c0 A G M d w) (hmet : ev_met l G d w C) : ru_copyi G C w M K (ev_W p l e R s m args below meth c0 Q D A M) := by
  obtain ⟨hx, hb, hml, hown, hts, hG, hnw, hA, hRf, hRl, hret, hnm, hlk⟩ := F
  intro pc L st h c z i a0 a n0 n1 f g sp dp n hd hw hq hw9 ha0 ha h1 h2 h3 h4 h5 k H locs cells slots ls hr hS hl hc hz
  dsimp only at hr hl hc hz ⊢
  obtain ⟨ws, tys, hP, hK, hD, hR⟩ := id hr
  obtain ⟨q0, cA0, t0, g1, g2⟩ := ev_arr hR ha0
  obtain ⟨q1, cA1, t1, g3, g4⟩ := ev_arr hR ha
  exact va_copyi hx hb (hml.trans hl.size.symm) hown (hts _ hw.1) (hts _ hw.2.1) (hts _ hw.2.2.1) (hts _ hw.2.2.2) hK hP hD hS q0 q1 t0 t1 g1 g3 g2 g4 rfl h1 h2 h3 h4 h5 (fun _ _ => rfl) (by omega) (by have := Nat.le_of_ble_eq_true hq; have e5 : nativeFrameWords "java/lang/System" "arraycopy" 5 + 11 = 18 := (by decide +kernel); omega) hd (fun H1 locs1 hP1 hD1 hS1 => k H1 locs1 cells slots ls ⟨_, tys, hP1, hK, hD1, ev_set hD hR g3 ⟨rfl, t1, g4⟩⟩ hS1 hl hc hz)
set_option maxHeartbeats 1000000 in
theorem ew_copyl (F : ev_fr p R s m args meth c0 A G M d w) (hmet : ev_met l G d w C) : ru_copyl G C w M K (ev_W p l e R s m args below meth c0 Q D A M) := by
  obtain ⟨hx, hb, hml, hown, hts, hG, hnw, hA, hRf, hRl, hret, hnm, hlk⟩ := F
  intro pc L st h c z i a0 a n0 n1 f g sp dp n hd hw hq hw9 ha0 ha h1 h2 h3 h4 h5 k H locs cells slots ls hr hS hl hc hz
  dsimp only at hr hl hc hz ⊢
  obtain ⟨ws, tys, hP, hK, hD, hR⟩ := id hr
  obtain ⟨q0, cA0, t0, g1, g2⟩ := ev_arr hR ha0
  obtain ⟨q1, cA1, t1, g3, g4⟩ := ev_arr hR ha
  exact va_copyl hx hb (hml.trans hl.size.symm) hown (hts _ hw.1) (hts _ hw.2.1) (hts _ hw.2.2.1) (hts _ hw.2.2.2) hK hP hD hS q0 q1 t0 t1 g1 g3 g2 g4 rfl h1 h2 h3 h4 h5 (fun _ _ => rfl) (by omega) (by have := Nat.le_of_ble_eq_true hq; have e5 : nativeFrameWords "java/lang/System" "arraycopy" 5 + 11 = 18 := (by decide +kernel); omega) hd (fun H1 locs1 hP1 hD1 hS1 => k H1 locs1 cells slots ls ⟨_, tys, hP1, hK, hD1, ev_set hD hR g3 ⟨rfl, t1, g4⟩⟩ hS1 hl hc hz)
set_option maxHeartbeats 1000000 in
theorem ew_wk (F : ev_fr p R s m args meth c0 A G M d w) (hmet : ev_met l G d w C) : ru_wk G C w M K (ev_W p l e R s m args below meth c0 Q D A M) := by
  obtain ⟨hx, hb, hml, hown, hts, hG, hnw, hA, hRf, hRl, hret, hnm, hlk⟩ := F
  intro pc L st h c z L2 hw k H locs cells slots ls hr hS hl hc hz
  dsimp only at hr hl hc hz ⊢
  obtain ⟨lv, hv1, hv2⟩ := hl
  exact k H locs cells slots ls hr hS ⟨lv, hv1, fun i v q => hv2 i v (hw i v q)⟩ hc hz
set_option maxHeartbeats 1000000 in
theorem ew_hw (F : ev_fr p R s m args meth c0 A G M d w) (hmet : ev_met l G d w C) : ru_hw G C w M K (ev_W p l e R s m args below meth c0 Q D A M) := by
  obtain ⟨hx, hb, hml, hown, hts, hG, hnw, hA, hRf, hRl, hret, hnm, hlk⟩ := F
  intro pc L st h c z h2 hw k H locs cells slots ls hr hS hl hc hz
  dsimp only at hr hl hc hz ⊢
  obtain ⟨ws, tys, hP, hK, hD, hR⟩ := id hr
  exact k H locs cells slots ls ⟨ws, tys, hP, hK, hD, fun q x e => hR q x (hw q x e)⟩ hS hl hc hz
set_option maxHeartbeats 1000000 in
theorem ew_cw (F : ev_fr p R s m args meth c0 A G M d w) (hmet : ev_met l G d w C) : ru_cw G C w M K (ev_W p l e R s m args below meth c0 Q D A M) := by
  obtain ⟨hx, hb, hml, hown, hts, hG, hnw, hA, hRf, hRl, hret, hnm, hlk⟩ := F
  intro pc L st h c z c2 z2 h1 h2 k H locs cells slots ls hr hS hl hc hz
  dsimp only at hr hl hc hz ⊢
  exact k H locs cells slots ls hr hS hl (by dsimp only; omega) (by dsimp only; omega)
/-- all rules but the ends -/
theorem ew_all (F : ev_fr p R s m args meth c0 A G M d w) (hmet : ev_met l G d w C) (h_iret : ru_iret G C w M K (ev_W p l e R s m args below meth c0 Q D A M)) (h_lret : ru_lret G C w M K (ev_W p l e R s m args below meth c0 Q D A M)) (h_aret : ru_aret G C w M K (ev_W p l e R s m args below meth c0 Q D A M)) (h_vret : ru_vret G C w M K (ev_W p l e R s m args below meth c0 Q D A M)) : ∀ n, ev_ru G C w M K (ev_W p l e R s m args below meth c0 Q D A M) n
  | 0 => ew_iconst (K := K) F hmet
  | 1 => ew_bipush (K := K) F hmet
  | 2 => ew_sipush (K := K) F hmet
  | 3 => ew_lconst (K := K) F hmet
  | 4 => ew_null (K := K) F hmet
  | 5 => ew_ldc (K := K) F hmet
  | 6 => ew_ldc2 (K := K) F hmet
  | 7 => ew_ldcw (K := K) F hmet
  | 8 => ew_iload_n (K := K) F hmet
  | 9 => ew_iload (K := K) F hmet
  | 10 => ew_istore_n (K := K) F hmet
  | 11 => ew_istore (K := K) F hmet
  | 12 => ew_lload_n (K := K) F hmet
  | 13 => ew_lload (K := K) F hmet
  | 14 => ew_lstore_n (K := K) F hmet
  | 15 => ew_lstore (K := K) F hmet
  | 16 => ew_aload_n (K := K) F hmet
  | 17 => ew_aload (K := K) F hmet
  | 18 => ew_astore_n (K := K) F hmet
  | 19 => ew_astore (K := K) F hmet
  | 20 => ew_iinc (K := K) F hmet
  | 21 => ew_iadd (K := K) F hmet
  | 22 => ew_isub (K := K) F hmet
  | 23 => ew_imul (K := K) F hmet
  | 24 => ew_iand (K := K) F hmet
  | 25 => ew_ior (K := K) F hmet
  | 26 => ew_ixor (K := K) F hmet
  | 27 => ew_ishl (K := K) F hmet
  | 28 => ew_ishr (K := K) F hmet
  | 29 => ew_iushr (K := K) F hmet
  | 30 => ew_idiv (K := K) F hmet
  | 31 => ew_irem (K := K) F hmet
  | 32 => ew_ineg (K := K) F hmet
  | 33 => ew_ladd (K := K) F hmet
  | 34 => ew_lsub (K := K) F hmet
  | 35 => ew_lmul (K := K) F hmet
  | 36 => ew_land (K := K) F hmet
  | 37 => ew_lor (K := K) F hmet
  | 38 => ew_lxor (K := K) F hmet
  | 39 => ew_ldiv (K := K) F hmet
  | 40 => ew_lrem (K := K) F hmet
  | 41 => ew_lshl (K := K) F hmet
  | 42 => ew_lshr (K := K) F hmet
  | 43 => ew_lushr (K := K) F hmet
  | 44 => ew_lneg (K := K) F hmet
  | 45 => ew_i2l (K := K) F hmet
  | 46 => ew_l2i (K := K) F hmet
  | 47 => ew_i2c (K := K) F hmet
  | 48 => ew_i2b (K := K) F hmet
  | 49 => ew_lcmp (K := K) F hmet
  | 50 => ew_dup (K := K) F hmet
  | 51 => ew_pop (K := K) F hmet
  | 52 => ew_dup_x1 (K := K) F hmet
  | 53 => ew_dup_x2 (K := K) F hmet
  | 54 => ew_dup2_11 (K := K) F hmet
  | 55 => ew_dup2_2 (K := K) F hmet
  | 56 => ew_pop2_2 (K := K) F hmet
  | 57 => ew_dup2_x1_2 (K := K) F hmet
  | 58 => ew_dup2_x2_2 (K := K) F hmet
  | 59 => ew_if_eq (K := K) F hmet
  | 60 => ew_icmp_eq (K := K) F hmet
  | 61 => ew_if_ne (K := K) F hmet
  | 62 => ew_icmp_ne (K := K) F hmet
  | 63 => ew_if_lt (K := K) F hmet
  | 64 => ew_icmp_lt (K := K) F hmet
  | 65 => ew_if_ge (K := K) F hmet
  | 66 => ew_icmp_ge (K := K) F hmet
  | 67 => ew_if_gt (K := K) F hmet
  | 68 => ew_icmp_gt (K := K) F hmet
  | 69 => ew_if_le (K := K) F hmet
  | 70 => ew_icmp_le (K := K) F hmet
  | 71 => ew_goto (K := K) F hmet
  | 72 => ew_tableIn (K := K) F hmet
  | 73 => ew_tableOut (K := K) F hmet
  | 74 => ew_iald (K := K) F hmet
  | 75 => ew_cald (K := K) F hmet
  | 76 => ew_bald (K := K) F hmet
  | 77 => ew_zald (K := K) F hmet
  | 78 => ew_lald (K := K) F hmet
  | 79 => ew_aald (K := K) F hmet
  | 80 => ew_iast (K := K) F hmet
  | 81 => ew_cast (K := K) F hmet
  | 82 => ew_zast (K := K) F hmet
  | 83 => ew_bast (K := K) F hmet
  | 84 => ew_last (K := K) F hmet
  | 85 => ew_alen (K := K) F hmet
  | 86 => ew_riald (K := K) F hmet
  | 87 => ew_ralen (K := K) F hmet
  | 88 => ew_gets (K := K) F hmet
  | 89 => ew_getf (K := K) F hmet
  | 90 => ew_putf (K := K) F hmet
  | 91 => ew_putF (K := K) F hmet
  | 92 => ew_newi (K := K) F hmet
  | 93 => ew_newc (K := K) F hmet
  | 94 => ew_newl (K := K) F hmet
  | 95 => ew_newz (K := K) F hmet
  | 96 => ew_new (K := K) F hmet
  | 97 => h_iret
  | 98 => h_lret
  | 99 => h_aret
  | 100 => h_vret
  | 101 => ew_callV (K := K) F hmet
  | 102 => ew_callS (K := K) F hmet
  | 103 => ew_callI (K := K) F hmet
  | 104 => ew_callIN (K := K) F hmet
  | 105 => ew_objInit (K := K) F hmet
  | 106 => ew_mmax (K := K) F hmet
  | 107 => ew_mmin (K := K) F hmet
  | 108 => ew_mmaxl (K := K) F hmet
  | 109 => ew_mminl (K := K) F hmet
  | 110 => ew_copyi (K := K) F hmet
  | 111 => ew_copyl (K := K) F hmet
  | 112 => ew_wk (K := K) F hmet
  | 113 => ew_hw (K := K) F hmet
  | 114 => ew_cw (K := K) F hmet
  | _ + 115 => trivial
end EVW
set_option maxHeartbeats 1000000 in
/-- a call that the rules allow is a contract -/
theorem ev_meets (l : Launch) (G : ev_G) : ∀ d w N args h c z K, ev_Ca G d w N args h c z K → ∀ (D : va_G) (ws : va_W) (tys : List (ClassId × FieldType)) (sz : Nat), ev_hr tys h ws → Met l N.1 (ev_code N :: ev_ws) (ev_rm d w c z) (ev_Pc D G ws tys sz args) (ev_Qc D (va_A ws sz) K) c z (va_A ws sz)
  | 0, w => fun N args h c z K hC => hC.elim
  | d + 1, w => by
    intro N args h c z K hC D ws tys sz hR
    obtain ⟨hpl, hle, hE⟩ := hC
    refine Met.ofW (cc := N.2.1) (maxL := N.2.2.1) (ret := N.2.2.2) hpl rfl ?_
    intro p e s m args0 below meth c0 s₁ B hml hv
    obtain ⟨rfl, hsz, hP, hK, hD0, hG, hN⟩ := hv
    have hts := atoms_spec (ws := ev_code N :: ev_ws) B.pre
    subst hsz
    have F : ev_fr p (headSpec (ev_code N :: ev_ws) (ev_rm (d + 1) w c z)).room s m args.toArray meth c0 (va_A ws s.heap.size) G N d w := ⟨B.exec, B.bytes, hml, findClass_of_methodNamed B.named, fun w hw => hts w (List.mem_cons_of_mem _ hw), hG, hN, fun q hq => Or.inr hq, Nat.le_refl _, Nat.le_refl _, B.returns, (name_of_methodNamed B.named B.method).1, B.notSynchronized⟩
    have hm : ev_met l G d w (fun N a2 h2 c2 z2 K2 => 19 + N.2.2.1 ≤ w ∧ ev_Ca G d (w - (19 + N.2.2.1)) N a2 h2 c2 z2 K2) := fun N2 a2 h2 c2 z2 K2 q => ⟨w - (19 + N2.2.2.1), by have := q.1; omega, ev_meets l G d (w - (19 + N2.2.2.1)) N2 a2 h2 c2 z2 K2 q.2⟩
    have h1 := hE (ev_W p l e (headSpec (ev_code N :: ev_ws) (ev_rm (d + 1) w c z)).room s m args.toArray below meth c0 (MQ below (ev_Qc D (va_A ws s.heap.size) K) args.toArray s c z (va_A ws s.heap.size)) D (va_A ws s.heap.size) N)
      (ew_all F hm (ew_iret (K := K) F hm) (ew_lret (K := K) F hm) (ew_aret (K := K) F hm) (ew_vret (K := K) F hm))
    have hl := lv_entry args (n := N.2.2.1) (Nat.le_of_ble_eq_true hle)
    rw [lg_entry_eq]
    exact h1 s.heap [] 0 0 _ ⟨ws, tys, hP, hK, hD0.self, hR⟩ va_S.rf ⟨_, hl, fun i v q => ev_lfm q⟩ (by show 0 + c ≤ c; omega) (by show 0 + z ≤ z; omega)
end
section
/-! what the instructions' entries say (written by wip/whole/gen/st.py) -/
abbrev m_X0_init : ev_M := (yX0_init, cX0_init, 1, none)
abbrev m_X0_forget : ev_M := (yX0_forget, cX0_forget, 1, none)
abbrev m_X0_isFull : ev_M := (yX0_isFull, cX0_isFull, 1, (some .boolean))
abbrev m_X0_wasArranged : ev_M := (yX0_wasArranged, cX0_wasArranged, 2, (some .boolean))
abbrev m_X0_note : ev_M := (yX0_note, cX0_note, 6, (some .int))
abbrev m_X0_isBefore : ev_M := (yX0_isBefore, cX0_isBefore, 3, (some .boolean))
abbrev m_X0_arrange : ev_M := (yX0_arrange, cX0_arrange, 3, none)
abbrev m_X7_init : ev_M := (yX7_init, cX7_init, 1, none)
abbrev m_X1_init : ev_M := (yX1_init, cX1_init, 1, none)
abbrev m_X1_commonDivisor : ev_M := (yX1_commonDivisor, cX1_commonDivisor, 11, (some .long))
abbrev m_X7_clear : ev_M := (yX7_clear, cX7_clear, 2, none)
abbrev m_X7_trim : ev_M := (yX7_trim, cX7_trim, 2, none)
abbrev m_X7_setProduct : ev_M := (yX7_setProduct, cX7_setProduct, 9, none)
abbrev m_X7_copy : ev_M := (yX7_copy, cX7_copy, 2, none)
abbrev m_X1_multiply : ev_M := (yX1_multiply, cX1_multiply, 3, none)
abbrev m_X7_become : ev_M := (yX7_become, cX7_become, 3, none)
abbrev m_X1_scale : ev_M := (yX1_scale, cX1_scale, 4, none)
abbrev m_X7_isZero : ev_M := (yX7_isZero, cX7_isZero, 1, (some .boolean))
abbrev m_J6_compare_7cf53 : ev_M := (yJ6_compare_7cf53, cJ6_compare_7cf53, 2, (some .int))
abbrev m_X7_compareWith : ev_M := (yX7_compareWith, cX7_compareWith, 3, (some .int))
abbrev m_X7_divideBySmall : ev_M := (yX7_divideBySmall, cX7_divideBySmall, 7, (some .int))
abbrev m_X7_freeBits : ev_M := (yX7_freeBits, cX7_freeBits, 2, (some .int))
abbrev m_X7_shiftUp : ev_M := (yX7_shiftUp, cX7_shiftUp, 8, none)
abbrev m_X7_digitAt : ev_M := (yX7_digitAt, cX7_digitAt, 2, (some .int))
abbrev m_X7_guessDigit : ev_M := (yX7_guessDigit, cX7_guessDigit, 13, (some .int))
abbrev m_X7_subtractAt : ev_M := (yX7_subtractAt, cX7_subtractAt, 10, (some .boolean))
abbrev m_X7_addAt : ev_M := (yX7_addAt, cX7_addAt, 7, none)
abbrev m_X7_shiftDown : ev_M := (yX7_shiftDown, cX7_shiftDown, 9, none)
abbrev m_X1_divide : ev_M := (yX1_divide, cX1_divide, 7, none)
abbrev m_X7_isShort : ev_M := (yX7_isShort, cX7_isShort, 1, (some .boolean))
abbrev m_X7_asLong : ev_M := (yX7_asLong, cX7_asLong, 1, (some .long))
abbrev m_X7_isOne : ev_M := (yX7_isOne, cX7_isOne, 1, (some .boolean))
abbrev m_X1_cancel : ev_M := (yX1_cancel, cX1_cancel, 7, none)
abbrev m_X2_become : ev_M := (yX2_become, cX2_become, 5, none)
abbrev m_X5_isMember : ev_M := (yX5_isMember, cX5_isMember, 2, (some .boolean))
abbrev m_X5_plainWorth : ev_M := (yX5_plainWorth, cX5_plainWorth, 2, (some .long))
abbrev m_X7_add : ev_M := (yX7_add, cX7_add, 6, none)
abbrev m_X1_addTo : ev_M := (yX1_addTo, cX1_addTo, 12, none)
abbrev m_X1_addUp : ev_M := (yX1_addUp, cX1_addUp, 4, none)
abbrev m_X1_weigh : ev_M := (yX1_weigh, cX1_weigh, 6, none)
abbrev m_X1_sameLevel : ev_M := (yX1_sameLevel, cX1_sameLevel, 5, (some .boolean))
abbrev m_X2_init : ev_M := (yX2_init, cX2_init, 1, none)
abbrev m_X2_copy : ev_M := (yX2_copy, cX2_copy, 2, none)
abbrev m_X7_binaryDigits : ev_M := (yX7_binaryDigits, cX7_binaryDigits, 1, (some .int))
abbrev m_X2_mostDigits : ev_M := (yX2_mostDigits, cX2_mostDigits, 1, (some .int))
abbrev m_J7_fill_53178 : ev_M := (yJ7_fill_53178, cJ7_fill_53178, 4, none)
abbrev m_J7_fill_d0a16 : ev_M := (yJ7_fill_d0a16, cJ7_fill_d0a16, 5, none)
abbrev m_X5_resetFactors : ev_M := (yX5_resetFactors, cX5_resetFactors, 1, none)
abbrev m_X5_init : ev_M := (yX5_init, cX5_init, 2, none)
abbrev m_X5_has : ev_M := (yX5_has, cX5_has, 1, (some .boolean))
abbrev m_X5_fits : ev_M := (yX5_fits, cX5_fits, 3, (some .boolean))
abbrev m_X5_hasFactorOne : ev_M := (yX5_hasFactorOne, cX5_hasFactorOne, 2, (some .boolean))
abbrev m_X5_copy : ev_M := (yX5_copy, cX5_copy, 3, none)
abbrev m_X5_isRatio : ev_M := (yX5_isRatio, cX5_isRatio, 2, (some .boolean))
abbrev m_X5_exchange : ev_M := (yX5_exchange, cX5_exchange, 12, (some .int))
abbrev m_X5_split : ev_M := (yX5_split, cX5_split, 8, (some .int))
abbrev m_X5_offerRights : ev_M := (yX5_offerRights, cX5_offerRights, 11, (some .int))
abbrev m_X5_payDividend : ev_M := (yX5_payDividend, cX5_payDividend, 5, (some .int))
abbrev m_J6_bitCount_0f7a4 : ev_M := (yJ6_bitCount_0f7a4, cJ6_bitCount_0f7a4, 1, (some .int))
abbrev m_X5_leave : ev_M := (yX5_leave, cX5_leave, 2, (some .int))
abbrev m_X5_join : ev_M := (yX5_join, cX5_join, 2, (some .int))
abbrev m_X5_replace : ev_M := (yX5_replace, cX5_replace, 4, (some .int))
abbrev m_X5_plainWorthOf : ev_M := (yX5_plainWorthOf, cX5_plainWorthOf, 5, (some .long))
abbrev m_X5_findLarge : ev_M := (yX5_findLarge, cX5_findLarge, 11, (some .int))
abbrev m_X5_putFactor : ev_M := (yX5_putFactor, cX5_putFactor, 8, none)
abbrev m_X5_cap : ev_M := (yX5_cap, cX5_cap, 9, (some .int))
abbrev m_X5_change : ev_M := (yX5_change, cX5_change, 6, (some .int))
abbrev m_X6_init : ev_M := (yX6_init, cX6_init, 1, none)
abbrev m_X6_append : ev_M := (yX6_append, cX6_append, 2, none)
abbrev m_X6_writeBackwards : ev_M := (yX6_writeBackwards, cX6_writeBackwards, 5, none)
abbrev m_X6_turnRound : ev_M := (yX6_turnRound, cX6_turnRound, 5, none)
abbrev m_X6_writeWhole : ev_M := (yX6_writeWhole, cX6_writeWhole, 5, none)
abbrev m_X6_write : ev_M := (yX6_write, cX6_write, 2, none)
abbrev m_X8_init : ev_M := (yX8_init, cX8_init, 1, none)
abbrev m_X8_refuseUnknown : ev_M := (yX8_refuseUnknown, cX8_refuseUnknown, 2, none)
abbrev m_X8_set : ev_M := (yX8_set, cX8_set, 5, (some .int))
abbrev m_X8_get : ev_M := (yX8_get, cX8_get, 3, (some .int))
abbrev m_X8_base : ev_M := (yX8_base, cX8_base, 3, none)
abbrev m_X8_members : ev_M := (yX8_members, cX8_members, 1, (some .int))
abbrev m_X8_event : ev_M := (yX8_event, cX8_event, 7, (some .int))
abbrev m_X8_findNextDivisor : ev_M := (yX8_findNextDivisor, cX8_findNextDivisor, 1, none)
abbrev m_X8_isCapped : ev_M := (yX8_isCapped, cX8_isCapped, 5, (some .boolean))
abbrev m_X8_perform : ev_M := (yX8_perform, cX8_perform, 6, (some .int))
abbrev m_X8_exactLevel : ev_M := (yX8_exactLevel, cX8_exactLevel, 1, none)
abbrev m_X8_roundedLevel : ev_M := (yX8_roundedLevel, cX8_roundedLevel, 1, (some .long))
abbrev m_X8_close : ev_M := (yX8_close, cX8_close, 3, (some .int))
abbrev m_X8_outcome : ev_M := (yX8_outcome, cX8_outcome, 2, (some .int))
abbrev m_X8_noted : ev_M := (yX8_noted, cX8_noted, 2, (some .int))
abbrev m_X8_days : ev_M := (yX8_days, cX8_days, 1, (some .int))
abbrev m_X8_published : ev_M := (yX8_published, cX8_published, 2, (some .long))
abbrev m_X8_level : ev_M := (yX8_level, cX8_level, 1, (some .long))
abbrev m_X8_weight : ev_M := (yX8_weight, cX8_weight, 2, (some .int))
abbrev m_X8_print : ev_M := (yX8_print, cX8_print, 4, (some .int))
abbrev m_X8_character : ev_M := (yX8_character, cX8_character, 2, (some .int))
abbrev m_X8_places : ev_M := (yX8_places, cX8_places, 2, (some .int))
abbrev m_X8_check : ev_M := (yX8_check, cX8_check, 1, (some .int))
abbrev m_X9_set : ev_M := (yX9_set, cX9_set, 6, none)
abbrev m_X9_init : ev_M := (yX9_init, cX9_init, 2, none)
abbrev m_X9_thrown : ev_M := (yX9_thrown, cX9_thrown, 1, (some .int))
abbrev m_X9_in : ev_M := (yX9_in, cX9_in, 3, (some .boolean))
abbrev m_X9_isMember : ev_M := (yX9_isMember, cX9_isMember, 2, (some .boolean))
abbrev m_X9_copy : ev_M := (yX9_copy, cX9_copy, 4, none)
abbrev m_X9_trim : ev_M := (yX9_trim, cX9_trim, 2, none)
abbrev m_X9_isOne : ev_M := (yX9_isOne, cX9_isOne, 2, (some .boolean))
abbrev m_X9_isEven : ev_M := (yX9_isEven, cX9_isEven, 2, (some .boolean))
abbrev m_X9_bits : ev_M := (yX9_bits, cX9_bits, 4, (some .int))
abbrev m_X9_limb : ev_M := (yX9_limb, cX9_limb, 3, (some .int))
abbrev m_X9_add : ev_M := (yX9_add, cX9_add, 7, none)
abbrev m_X9_compare : ev_M := (yX9_compare, cX9_compare, 4, (some .int))
abbrev m_X9_multiply : ev_M := (yX9_multiply, cX9_multiply, 11, none)
abbrev m_X9_scale : ev_M := (yX9_scale, cX9_scale, 8, none)
abbrev m_X9_divide : ev_M := (yX9_divide, cX9_divide, 8, (some .int))
abbrev m_X9_twice : ev_M := (yX9_twice, cX9_twice, 6, none)
abbrev m_X9_subtract : ev_M := (yX9_subtract, cX9_subtract, 6, none)
abbrev m_X9_half : ev_M := (yX9_half, cX9_half, 5, none)
abbrev m_X9_quotient : ev_M := (yX9_quotient, cX9_quotient, 7, none)
abbrev m_X9_swap : ev_M := (yX9_swap, cX9_swap, 1, none)
abbrev m_X9_common : ev_M := (yX9_common, cX9_common, 5, none)
abbrev m_X9_reduce : ev_M := (yX9_reduce, cX9_reduce, 3, none)
abbrev m_X9_plain : ev_M := (yX9_plain, cX9_plain, 2, (some .long))
abbrev m_X9_sum : ev_M := (yX9_sum, cX9_sum, 2, none)
abbrev m_X9_fits : ev_M := (yX9_fits, cX9_fits, 2, (some .boolean))
abbrev m_X9_set_ : ev_M := (yX9_set_, cX9_set_, 4, (some .int))
abbrev m_X9_get : ev_M := (yX9_get, cX9_get, 3, (some .int))
abbrev m_X9_base : ev_M := (yX9_base, cX9_base, 4, none)
abbrev m_X9_members : ev_M := (yX9_members, cX9_members, 1, (some .int))
abbrev m_X9_event : ev_M := (yX9_event, cX9_event, 6, (some .int))
abbrev m_X9_remember : ev_M := (yX9_remember, cX9_remember, 2, none)
abbrev m_X9_putBack : ev_M := (yX9_putBack, cX9_putBack, 2, none)
abbrev m_X9_become : ev_M := (yX9_become, cX9_become, 7, (some .int))
abbrev m_X9_rounded : ev_M := (yX9_rounded, cX9_rounded, 4, (some .long))
abbrev m_X9_split : ev_M := (yX9_split, cX9_split, 4, (some .int))
abbrev m_X9_rights : ev_M := (yX9_rights, cX9_rights, 5, (some .int))
abbrev m_X9_dividend : ev_M := (yX9_dividend, cX9_dividend, 3, (some .int))
abbrev m_X9_count : ev_M := (yX9_count, cX9_count, 4, (some .int))
abbrev m_X9_cap : ev_M := (yX9_cap, cX9_cap, 9, (some .int))
abbrev m_X9_change : ev_M := (yX9_change, cX9_change, 6, (some .int))
abbrev m_X9_perform : ev_M := (yX9_perform, cX9_perform, 6, (some .int))
abbrev m_X9_level : ev_M := (yX9_level, cX9_level, 4, (some .long))
abbrev m_X9_close : ev_M := (yX9_close, cX9_close, 5, (some .int))
abbrev m_X9_outcome : ev_M := (yX9_outcome, cX9_outcome, 2, (some .int))
abbrev m_X9_noted : ev_M := (yX9_noted, cX9_noted, 2, (some .int))
abbrev m_X9_days : ev_M := (yX9_days, cX9_days, 1, (some .int))
abbrev m_X9_published : ev_M := (yX9_published, cX9_published, 2, (some .long))
abbrev m_X9_weight : ev_M := (yX9_weight, cX9_weight, 4, (some .int))
abbrev m_X9_printWhole : ev_M := (yX9_printWhole, cX9_printWhole, 6, none)
abbrev m_X9_print : ev_M := (yX9_print, cX9_print, 3, (some .int))
abbrev m_X9_character : ev_M := (yX9_character, cX9_character, 2, (some .int))
abbrev m_X9_places : ev_M := (yX9_places, cX9_places, 2, (some .int))
abbrev m_X9_check : ev_M := (yX9_check, cX9_check, 1, (some .int))
abbrev m_J9_max_7cf53 : ev_M := (yJ9_max_7cf53, cJ9_max_7cf53, 2, (some .int))
abbrev m_J9_max_f86c9 : ev_M := (yJ9_max_f86c9, cJ9_max_f86c9, 4, (some .long))
abbrev m_J9_min_7cf53 : ev_M := (yJ9_min_7cf53, cJ9_min_7cf53, 2, (some .int))
abbrev m_J9_min_f86c9 : ev_M := (yJ9_min_f86c9, cJ9_min_f86c9, 4, (some .long))
theorem ev_at {w : Cond} (i : Nat) (h : lw_tbl[i]? = some w) (g : goodWord w = true) : w ∈ ev_ws := List.mem_filter.mpr ⟨List.mem_of_getElem? h, g⟩
theorem ev_an {w : Cond} (i : Nat) (h : lw_tbl[i]? = some w) (g : ev_isN w = true) : w ∈ ev_ns := List.mem_filter.mpr ⟨List.mem_of_getElem? h, g⟩
set_option maxRecDepth 20000 in
theorem cd_X0_init : ev_code m_X0_init ∈ ev_ws := ev_at 128 rfl rfl
set_option maxRecDepth 20000 in
theorem cd_X0_forget : ev_code m_X0_forget ∈ ev_ws := ev_at 677 rfl rfl
set_option maxRecDepth 20000 in
theorem cd_X0_isFull : ev_code m_X0_isFull ∈ ev_ws := ev_at 317 rfl rfl
set_option maxRecDepth 20000 in
theorem cd_X0_wasArranged : ev_code m_X0_wasArranged ∈ ev_ws := ev_at 329 rfl rfl
set_option maxRecDepth 20000 in
theorem cd_X0_note : ev_code m_X0_note ∈ ev_ws := ev_at 321 rfl rfl
set_option maxRecDepth 20000 in
theorem cd_X0_isBefore : ev_code m_X0_isBefore ∈ ev_ws := ev_at 708 rfl rfl
set_option maxRecDepth 20000 in
theorem cd_X0_arrange : ev_code m_X0_arrange ∈ ev_ws := ev_at 704 rfl rfl
set_option maxRecDepth 20000 in
theorem cd_X7_init : ev_code m_X7_init ∈ ev_ws := ev_at 176 rfl rfl
set_option maxRecDepth 20000 in
theorem cd_X1_init : ev_code m_X1_init ∈ ev_ws := ev_at 170 rfl rfl
set_option maxRecDepth 20000 in
theorem cd_X1_commonDivisor : ev_code m_X1_commonDivisor ∈ ev_ws := ev_at 390 rfl rfl
set_option maxRecDepth 20000 in
theorem cd_X7_clear : ev_code m_X7_clear ∈ ev_ws := ev_at 370 rfl rfl
set_option maxRecDepth 20000 in
theorem cd_X7_trim : ev_code m_X7_trim ∈ ev_ws := ev_at 375 rfl rfl
set_option maxRecDepth 20000 in
theorem cd_X7_setProduct : ev_code m_X7_setProduct ∈ ev_ws := ev_at 406 rfl rfl
set_option maxRecDepth 20000 in
theorem cd_X7_copy : ev_code m_X7_copy ∈ ev_ws := ev_at 410 rfl rfl
set_option maxRecDepth 20000 in
theorem cd_X1_multiply : ev_code m_X1_multiply ∈ ev_ws := ev_at 402 rfl rfl
set_option maxRecDepth 20000 in
theorem cd_X7_become : ev_code m_X7_become ∈ ev_ws := ev_at 366 rfl rfl
set_option maxRecDepth 20000 in
theorem cd_X1_scale : ev_code m_X1_scale ∈ ev_ws := ev_at 398 rfl rfl
set_option maxRecDepth 20000 in
theorem cd_X7_isZero : ev_code m_X7_isZero ∈ ev_ws := ev_at 437 rfl rfl
set_option maxRecDepth 20000 in
theorem cd_J6_compare_7cf53 : ev_code m_J6_compare_7cf53 ∈ ev_ws := ev_at 444 rfl rfl
set_option maxRecDepth 20000 in
theorem cd_X7_compareWith : ev_code m_X7_compareWith ∈ ev_ws := ev_at 441 rfl rfl
set_option maxRecDepth 20000 in
theorem cd_X7_divideBySmall : ev_code m_X7_divideBySmall ∈ ev_ws := ev_at 448 rfl rfl
set_option maxRecDepth 20000 in
theorem cd_X7_freeBits : ev_code m_X7_freeBits ∈ ev_ws := ev_at 452 rfl rfl
set_option maxRecDepth 20000 in
theorem cd_X7_shiftUp : ev_code m_X7_shiftUp ∈ ev_ws := ev_at 456 rfl rfl
set_option maxRecDepth 20000 in
theorem cd_X7_digitAt : ev_code m_X7_digitAt ∈ ev_ws := ev_at 464 rfl rfl
set_option maxRecDepth 20000 in
theorem cd_X7_guessDigit : ev_code m_X7_guessDigit ∈ ev_ws := ev_at 460 rfl rfl
set_option maxRecDepth 20000 in
theorem cd_X7_subtractAt : ev_code m_X7_subtractAt ∈ ev_ws := ev_at 468 rfl rfl
set_option maxRecDepth 20000 in
theorem cd_X7_addAt : ev_code m_X7_addAt ∈ ev_ws := ev_at 472 rfl rfl
set_option maxRecDepth 20000 in
theorem cd_X7_shiftDown : ev_code m_X7_shiftDown ∈ ev_ws := ev_at 477 rfl rfl
set_option maxRecDepth 20000 in
theorem cd_X1_divide : ev_code m_X1_divide ∈ ev_ws := ev_at 433 rfl rfl
set_option maxRecDepth 20000 in
theorem cd_X7_isShort : ev_code m_X7_isShort ∈ ev_ws := ev_at 481 rfl rfl
set_option maxRecDepth 20000 in
theorem cd_X7_asLong : ev_code m_X7_asLong ∈ ev_ws := ev_at 486 rfl rfl
set_option maxRecDepth 20000 in
theorem cd_X7_isOne : ev_code m_X7_isOne ∈ ev_ws := ev_at 514 rfl rfl
set_option maxRecDepth 20000 in
theorem cd_X1_cancel : ev_code m_X1_cancel ∈ ev_ws := ev_at 507 rfl rfl
set_option maxRecDepth 20000 in
theorem cd_X2_become : ev_code m_X2_become ∈ ev_ws := ev_at 362 rfl rfl
set_option maxRecDepth 20000 in
theorem cd_X5_isMember : ev_code m_X5_isMember ∈ ev_ws := ev_at 379 rfl rfl
set_option maxRecDepth 20000 in
theorem cd_X5_plainWorth : ev_code m_X5_plainWorth ∈ ev_ws := ev_at 383 rfl rfl
set_option maxRecDepth 20000 in
theorem cd_X7_add : ev_code m_X7_add ∈ ev_ws := ev_at 420 rfl rfl
set_option maxRecDepth 20000 in
theorem cd_X1_addTo : ev_code m_X1_addTo ∈ ev_ws := ev_at 387 rfl rfl
set_option maxRecDepth 20000 in
theorem cd_X1_addUp : ev_code m_X1_addUp ∈ ev_ws := ev_at 358 rfl rfl
set_option maxRecDepth 20000 in
theorem cd_X1_weigh : ev_code m_X1_weigh ∈ ev_ws := ev_at 499 rfl rfl
set_option maxRecDepth 20000 in
theorem cd_X1_sameLevel : ev_code m_X1_sameLevel ∈ ev_ws := ev_at 794 rfl rfl
set_option maxRecDepth 20000 in
theorem cd_X2_init : ev_code m_X2_init ∈ ev_ws := ev_at 243 rfl rfl
set_option maxRecDepth 20000 in
theorem cd_X2_copy : ev_code m_X2_copy ∈ ev_ws := ev_at 518 rfl rfl
set_option maxRecDepth 20000 in
theorem cd_X7_binaryDigits : ev_code m_X7_binaryDigits ∈ ev_ws := ev_at 557 rfl rfl
set_option maxRecDepth 20000 in
theorem cd_X2_mostDigits : ev_code m_X2_mostDigits ∈ ev_ws := ev_at 788 rfl rfl
set_option maxRecDepth 20000 in
theorem cd_J7_fill_53178 : ev_code m_J7_fill_53178 ∈ ev_ws := ev_at 95 rfl rfl
set_option maxRecDepth 20000 in
theorem cd_J7_fill_d0a16 : ev_code m_J7_fill_d0a16 ∈ ev_ws := ev_at 102 rfl rfl
set_option maxRecDepth 20000 in
theorem cd_X5_resetFactors : ev_code m_X5_resetFactors ∈ ev_ws := ev_at 99 rfl rfl
set_option maxRecDepth 20000 in
theorem cd_X5_init : ev_code m_X5_init ∈ ev_ws := ev_at 89 rfl rfl
set_option maxRecDepth 20000 in
theorem cd_X5_has : ev_code m_X5_has ∈ ev_ws := ev_at 313 rfl rfl
set_option maxRecDepth 20000 in
theorem cd_X5_fits : ev_code m_X5_fits ∈ ev_ws := ev_at 655 rfl rfl
set_option maxRecDepth 20000 in
theorem cd_X5_hasFactorOne : ev_code m_X5_hasFactorOne ∈ ev_ws := ev_at 803 rfl rfl
set_option maxRecDepth 20000 in
theorem cd_X5_copy : ev_code m_X5_copy ∈ ev_ws := ev_at 716 rfl rfl
set_option maxRecDepth 20000 in
theorem cd_X5_isRatio : ev_code m_X5_isRatio ∈ ev_ws := ev_at 728 rfl rfl
set_option maxRecDepth 20000 in
theorem cd_X5_exchange : ev_code m_X5_exchange ∈ ev_ws := ev_at 732 rfl rfl
set_option maxRecDepth 20000 in
theorem cd_X5_split : ev_code m_X5_split ∈ ev_ws := ev_at 725 rfl rfl
set_option maxRecDepth 20000 in
theorem cd_X5_offerRights : ev_code m_X5_offerRights ∈ ev_ws := ev_at 738 rfl rfl
set_option maxRecDepth 20000 in
theorem cd_X5_payDividend : ev_code m_X5_payDividend ∈ ev_ws := ev_at 742 rfl rfl
set_option maxRecDepth 20000 in
theorem cd_J6_bitCount_0f7a4 : ev_code m_J6_bitCount_0f7a4 ∈ ev_ws := ev_at 750 rfl rfl
set_option maxRecDepth 20000 in
theorem cd_X5_leave : ev_code m_X5_leave ∈ ev_ws := ev_at 746 rfl rfl
set_option maxRecDepth 20000 in
theorem cd_X5_join : ev_code m_X5_join ∈ ev_ws := ev_at 757 rfl rfl
set_option maxRecDepth 20000 in
theorem cd_X5_replace : ev_code m_X5_replace ∈ ev_ws := ev_at 761 rfl rfl
set_option maxRecDepth 20000 in
theorem cd_X5_plainWorthOf : ev_code m_X5_plainWorthOf ∈ ev_ws := ev_at 773 rfl rfl
set_option maxRecDepth 20000 in
theorem cd_X5_findLarge : ev_code m_X5_findLarge ∈ ev_ws := ev_at 769 rfl rfl
set_option maxRecDepth 20000 in
theorem cd_X5_putFactor : ev_code m_X5_putFactor ∈ ev_ws := ev_at 779 rfl rfl
set_option maxRecDepth 20000 in
theorem cd_X5_cap : ev_code m_X5_cap ∈ ev_ws := ev_at 765 rfl rfl
set_option maxRecDepth 20000 in
theorem cd_X5_change : ev_code m_X5_change ∈ ev_ws := ev_at 721 rfl rfl
set_option maxRecDepth 20000 in
theorem cd_X6_init : ev_code m_X6_init ∈ ev_ws := ev_at 222 rfl rfl
set_option maxRecDepth 20000 in
theorem cd_X6_append : ev_code m_X6_append ∈ ev_ws := ev_at 540 rfl rfl
set_option maxRecDepth 20000 in
theorem cd_X6_writeBackwards : ev_code m_X6_writeBackwards ∈ ev_ws := ev_at 536 rfl rfl
set_option maxRecDepth 20000 in
theorem cd_X6_turnRound : ev_code m_X6_turnRound ∈ ev_ws := ev_at 544 rfl rfl
set_option maxRecDepth 20000 in
theorem cd_X6_writeWhole : ev_code m_X6_writeWhole ∈ ev_ws := ev_at 528 rfl rfl
set_option maxRecDepth 20000 in
theorem cd_X6_write : ev_code m_X6_write ∈ ev_ws := ev_at 524 rfl rfl
set_option maxRecDepth 20000 in
theorem cd_X8_init : ev_code m_X8_init ∈ ev_ws := ev_at 81 rfl rfl
set_option maxRecDepth 20000 in
theorem cd_X8_refuseUnknown : ev_code m_X8_refuseUnknown ∈ ev_ws := ev_at 574 rfl rfl
set_option maxRecDepth 20000 in
theorem cd_X8_set : ev_code m_X8_set ∈ ev_ws := ev_at 571 rfl rfl
set_option maxRecDepth 20000 in
theorem cd_X8_get : ev_code m_X8_get ∈ ev_ws := ev_at 664 rfl rfl
set_option maxRecDepth 20000 in
theorem cd_X8_base : ev_code m_X8_base ∈ ev_ws := ev_at 671 rfl rfl
set_option maxRecDepth 20000 in
theorem cd_X8_members : ev_code m_X8_members ∈ ev_ws := ev_at 306 rfl rfl
set_option maxRecDepth 20000 in
theorem cd_X8_event : ev_code m_X8_event ∈ ev_ws := ev_at 310 rfl rfl
set_option maxRecDepth 20000 in
theorem cd_X8_findNextDivisor : ev_code m_X8_findNextDivisor ∈ ev_ws := ev_at 784 rfl rfl
set_option maxRecDepth 20000 in
theorem cd_X8_isCapped : ev_code m_X8_isCapped ∈ ev_ws := ev_at 798 rfl rfl
set_option maxRecDepth 20000 in
theorem cd_X8_perform : ev_code m_X8_perform ∈ ev_ws := ev_at 712 rfl rfl
set_option maxRecDepth 20000 in
theorem cd_X8_exactLevel : ev_code m_X8_exactLevel ∈ ev_ws := ev_at 354 rfl rfl
set_option maxRecDepth 20000 in
theorem cd_X8_roundedLevel : ev_code m_X8_roundedLevel ∈ ev_ws := ev_at 350 rfl rfl
set_option maxRecDepth 20000 in
theorem cd_X8_close : ev_code m_X8_close ∈ ev_ws := ev_at 685 rfl rfl
set_option maxRecDepth 20000 in
theorem cd_X8_outcome : ev_code m_X8_outcome ∈ ev_ws := ev_at 325 rfl rfl
set_option maxRecDepth 20000 in
theorem cd_X8_noted : ev_code m_X8_noted ∈ ev_ws := ev_at 333 rfl rfl
set_option maxRecDepth 20000 in
theorem cd_X8_days : ev_code m_X8_days ∈ ev_ws := ev_at 337 rfl rfl
set_option maxRecDepth 20000 in
theorem cd_X8_published : ev_code m_X8_published ∈ ev_ws := ev_at 341 rfl rfl
set_option maxRecDepth 20000 in
theorem cd_X8_level : ev_code m_X8_level ∈ ev_ws := ev_at 346 rfl rfl
set_option maxRecDepth 20000 in
theorem cd_X8_weight : ev_code m_X8_weight ∈ ev_ws := ev_at 493 rfl rfl
set_option maxRecDepth 20000 in
theorem cd_X8_print : ev_code m_X8_print ∈ ev_ws := ev_at 503 rfl rfl
set_option maxRecDepth 20000 in
theorem cd_X8_character : ev_code m_X8_character ∈ ev_ws := ev_at 549 rfl rfl
set_option maxRecDepth 20000 in
theorem cd_X8_places : ev_code m_X8_places ∈ ev_ws := ev_at 553 rfl rfl
set_option maxRecDepth 20000 in
theorem cd_X8_check : ev_code m_X8_check ∈ ev_ws := ev_at 562 rfl rfl
set_option maxRecDepth 20000 in
theorem cd_X9_set : ev_code m_X9_set ∈ ev_ws := ev_at 813 rfl rfl
set_option maxRecDepth 20000 in
theorem cd_X9_init : ev_code m_X9_init ∈ ev_ws := ev_at 808 rfl rfl
set_option maxRecDepth 20000 in
theorem cd_X9_thrown : ev_code m_X9_thrown ∈ ev_ws := ev_at 894 rfl rfl
set_option maxRecDepth 20000 in
theorem cd_X9_in : ev_code m_X9_in ∈ ev_ws := ev_at 901 rfl rfl
set_option maxRecDepth 20000 in
theorem cd_X9_isMember : ev_code m_X9_isMember ∈ ev_ws := ev_at 909 rfl rfl
set_option maxRecDepth 20000 in
theorem cd_X9_copy : ev_code m_X9_copy ∈ ev_ws := ev_at 948 rfl rfl
set_option maxRecDepth 20000 in
theorem cd_X9_trim : ev_code m_X9_trim ∈ ev_ws := ev_at 935 rfl rfl
set_option maxRecDepth 20000 in
theorem cd_X9_isOne : ev_code m_X9_isOne ∈ ev_ws := ev_at 985 rfl rfl
set_option maxRecDepth 20000 in
theorem cd_X9_isEven : ev_code m_X9_isEven ∈ ev_ws := ev_at 960 rfl rfl
set_option maxRecDepth 20000 in
theorem cd_X9_bits : ev_code m_X9_bits ∈ ev_ws := ev_at 993 rfl rfl
set_option maxRecDepth 20000 in
theorem cd_X9_limb : ev_code m_X9_limb ∈ ev_ws := ev_at 943 rfl rfl
set_option maxRecDepth 20000 in
theorem cd_X9_add : ev_code m_X9_add ∈ ev_ws := ev_at 939 rfl rfl
set_option maxRecDepth 20000 in
theorem cd_X9_compare : ev_code m_X9_compare ∈ ev_ws := ev_at 968 rfl rfl
set_option maxRecDepth 20000 in
theorem cd_X9_multiply : ev_code m_X9_multiply ∈ ev_ws := ev_at 930 rfl rfl
set_option maxRecDepth 20000 in
theorem cd_X9_scale : ev_code m_X9_scale ∈ ev_ws := ev_at 997 rfl rfl
set_option maxRecDepth 20000 in
theorem cd_X9_divide : ev_code m_X9_divide ∈ ev_ws := ev_at 1095 rfl rfl
set_option maxRecDepth 20000 in
theorem cd_X9_twice : ev_code m_X9_twice ∈ ev_ws := ev_at 981 rfl rfl
set_option maxRecDepth 20000 in
theorem cd_X9_subtract : ev_code m_X9_subtract ∈ ev_ws := ev_at 972 rfl rfl
set_option maxRecDepth 20000 in
theorem cd_X9_half : ev_code m_X9_half ∈ ev_ws := ev_at 964 rfl rfl
set_option maxRecDepth 20000 in
theorem cd_X9_quotient : ev_code m_X9_quotient ∈ ev_ws := ev_at 989 rfl rfl
set_option maxRecDepth 20000 in
theorem cd_X9_swap : ev_code m_X9_swap ∈ ev_ws := ev_at 977 rfl rfl
set_option maxRecDepth 20000 in
theorem cd_X9_common : ev_code m_X9_common ∈ ev_ws := ev_at 956 rfl rfl
set_option maxRecDepth 20000 in
theorem cd_X9_reduce : ev_code m_X9_reduce ∈ ev_ws := ev_at 952 rfl rfl
set_option maxRecDepth 20000 in
theorem cd_X9_plain : ev_code m_X9_plain ∈ ev_ws := ev_at 926 rfl rfl
set_option maxRecDepth 20000 in
theorem cd_X9_sum : ev_code m_X9_sum ∈ ev_ws := ev_at 922 rfl rfl
set_option maxRecDepth 20000 in
theorem cd_X9_fits : ev_code m_X9_fits ∈ ev_ws := ev_at 904 rfl rfl
set_option maxRecDepth 20000 in
theorem cd_X9_set_ : ev_code m_X9_set_ ∈ ev_ws := ev_at 898 rfl rfl
set_option maxRecDepth 20000 in
theorem cd_X9_get : ev_code m_X9_get ∈ ev_ws := ev_at 913 rfl rfl
set_option maxRecDepth 20000 in
theorem cd_X9_base : ev_code m_X9_base ∈ ev_ws := ev_at 917 rfl rfl
set_option maxRecDepth 20000 in
theorem cd_X9_members : ev_code m_X9_members ∈ ev_ws := ev_at 1001 rfl rfl
set_option maxRecDepth 20000 in
theorem cd_X9_event : ev_code m_X9_event ∈ ev_ws := ev_at 1005 rfl rfl
set_option maxRecDepth 20000 in
theorem cd_X9_remember : ev_code m_X9_remember ∈ ev_ws := ev_at 1017 rfl rfl
set_option maxRecDepth 20000 in
theorem cd_X9_putBack : ev_code m_X9_putBack ∈ ev_ws := ev_at 1055 rfl rfl
set_option maxRecDepth 20000 in
theorem cd_X9_become : ev_code m_X9_become ∈ ev_ws := ev_at 1033 rfl rfl
set_option maxRecDepth 20000 in
theorem cd_X9_rounded : ev_code m_X9_rounded ∈ ev_ws := ev_at 1028 rfl rfl
set_option maxRecDepth 20000 in
theorem cd_X9_split : ev_code m_X9_split ∈ ev_ws := ev_at 1025 rfl rfl
set_option maxRecDepth 20000 in
theorem cd_X9_rights : ev_code m_X9_rights ∈ ev_ws := ev_at 1038 rfl rfl
set_option maxRecDepth 20000 in
theorem cd_X9_dividend : ev_code m_X9_dividend ∈ ev_ws := ev_at 1042 rfl rfl
set_option maxRecDepth 20000 in
theorem cd_X9_count : ev_code m_X9_count ∈ ev_ws := ev_at 1046 rfl rfl
set_option maxRecDepth 20000 in
theorem cd_X9_cap : ev_code m_X9_cap ∈ ev_ws := ev_at 1050 rfl rfl
set_option maxRecDepth 20000 in
theorem cd_X9_change : ev_code m_X9_change ∈ ev_ws := ev_at 1021 rfl rfl
set_option maxRecDepth 20000 in
theorem cd_X9_perform : ev_code m_X9_perform ∈ ev_ws := ev_at 1013 rfl rfl
set_option maxRecDepth 20000 in
theorem cd_X9_level : ev_code m_X9_level ∈ ev_ws := ev_at 1059 rfl rfl
set_option maxRecDepth 20000 in
theorem cd_X9_close : ev_code m_X9_close ∈ ev_ws := ev_at 1009 rfl rfl
set_option maxRecDepth 20000 in
theorem cd_X9_outcome : ev_code m_X9_outcome ∈ ev_ws := ev_at 1065 rfl rfl
set_option maxRecDepth 20000 in
theorem cd_X9_noted : ev_code m_X9_noted ∈ ev_ws := ev_at 1069 rfl rfl
set_option maxRecDepth 20000 in
theorem cd_X9_days : ev_code m_X9_days ∈ ev_ws := ev_at 1073 rfl rfl
set_option maxRecDepth 20000 in
theorem cd_X9_published : ev_code m_X9_published ∈ ev_ws := ev_at 1077 rfl rfl
set_option maxRecDepth 20000 in
theorem cd_X9_weight : ev_code m_X9_weight ∈ ev_ws := ev_at 1082 rfl rfl
set_option maxRecDepth 20000 in
theorem cd_X9_printWhole : ev_code m_X9_printWhole ∈ ev_ws := ev_at 1091 rfl rfl
set_option maxRecDepth 20000 in
theorem cd_X9_print : ev_code m_X9_print ∈ ev_ws := ev_at 1087 rfl rfl
set_option maxRecDepth 20000 in
theorem cd_X9_character : ev_code m_X9_character ∈ ev_ws := ev_at 1099 rfl rfl
set_option maxRecDepth 20000 in
theorem cd_X9_places : ev_code m_X9_places ∈ ev_ws := ev_at 1103 rfl rfl
set_option maxRecDepth 20000 in
theorem cd_X9_check : ev_code m_X9_check ∈ ev_ws := ev_at 1107 rfl rfl
set_option maxRecDepth 20000 in
theorem cd_J9_max_7cf53 : ev_code m_J9_max_7cf53 ∈ ev_ws := ev_at 413 rfl rfl
set_option maxRecDepth 20000 in
theorem cd_J9_max_f86c9 : ev_code m_J9_max_f86c9 ∈ ev_ws := ev_at 393 rfl rfl
set_option maxRecDepth 20000 in
theorem cd_J9_min_7cf53 : ev_code m_J9_min_7cf53 ∈ ev_ws := ev_at 423 rfl rfl
set_option maxRecDepth 20000 in
theorem cd_J9_min_f86c9 : ev_code m_J9_min_f86c9 ∈ ev_ws := ev_at 489 rfl rfl
theorem oi_X0_1 : Cond.methodLink RX0 1 Lib.objectInit ∈ ev_ws ∧ Cond.instanceMethod Lib.objectInit ∈ ev_ws ∧ Cond.code Lib.objectInit ⟨#[0xb1]⟩ 1 none ∈ ev_ws := ⟨ev_at 129 (by decide +kernel) rfl, ev_at 83 (by decide +kernel) rfl, ev_at 84 rfl rfl⟩
theorem pF_X0_9 : ev_fF RX0 9 0 0 (.array .int) := ⟨_, _, _, rfl, by decide, ev_at 130 (by decide +kernel) rfl, rfl, by decide +kernel, rfl⟩
theorem pF_X0_13 : ev_fF RX0 13 0 1 (.array .int) := ⟨_, _, _, rfl, by decide, ev_at 132 (by decide +kernel) rfl, rfl, by decide +kernel, rfl⟩
theorem pF_X0_16 : ev_fF RX0 16 0 2 (.array .int) := ⟨_, _, _, rfl, by decide, ev_at 134 (by decide +kernel) rfl, rfl, by decide +kernel, rfl⟩
theorem pF_X0_19 : ev_fF RX0 19 0 3 (.array .int) := ⟨_, _, _, rfl, by decide, ev_at 136 (by decide +kernel) rfl, rfl, by decide +kernel, rfl⟩
theorem pF_X0_22 : ev_fF RX0 22 0 4 (.array .int) := ⟨_, _, _, rfl, by decide, ev_at 138 (by decide +kernel) rfl, rfl, by decide +kernel, rfl⟩
theorem pF_X0_25 : ev_fF RX0 25 0 5 (.array .int) := ⟨_, _, _, rfl, by decide, ev_at 140 (by decide +kernel) rfl, rfl, by decide +kernel, rfl⟩
theorem pF_X0_28 : ev_fF RX0 28 0 6 (.array .int) := ⟨_, _, _, rfl, by decide, ev_at 142 (by decide +kernel) rfl, rfl, by decide +kernel, rfl⟩
theorem p_X0_31 : ev_fp RX0 31 0 7 .int := ⟨_, _, _, rfl, by decide, ev_at 144 (by decide +kernel) rfl, rfl, by decide +kernel⟩
theorem p_X0_35 : ev_fp RX0 35 0 8 .int := ⟨_, _, _, rfl, by decide, ev_at 145 (by decide +kernel) rfl, rfl, by decide +kernel⟩
theorem f_X0_31 : ev_fl RX0 31 0 7 := ⟨_, _, _, rfl, by decide, ev_at 144 (by decide +kernel) rfl⟩
theorem f_X0_35 : ev_fl RX0 35 0 8 := ⟨_, _, _, rfl, by decide, ev_at 145 (by decide +kernel) rfl⟩
theorem f_X0_9 : ev_fl RX0 9 0 0 := ⟨_, _, _, rfl, by decide, ev_at 130 (by decide +kernel) rfl⟩
theorem f_X0_13 : ev_fl RX0 13 0 1 := ⟨_, _, _, rfl, by decide, ev_at 132 (by decide +kernel) rfl⟩
theorem f_X0_16 : ev_fl RX0 16 0 2 := ⟨_, _, _, rfl, by decide, ev_at 134 (by decide +kernel) rfl⟩
theorem f_X0_19 : ev_fl RX0 19 0 3 := ⟨_, _, _, rfl, by decide, ev_at 136 (by decide +kernel) rfl⟩
theorem f_X0_22 : ev_fl RX0 22 0 4 := ⟨_, _, _, rfl, by decide, ev_at 138 (by decide +kernel) rfl⟩
theorem f_X0_25 : ev_fl RX0 25 0 5 := ⟨_, _, _, rfl, by decide, ev_at 140 (by decide +kernel) rfl⟩
theorem cv_X0_38 : ev_cv RX0 38 m_X0_isBefore 2 := ⟨ev_at 705 (by decide +kernel) rfl, ev_at 707 (by decide +kernel) rfl, ev_at 10 (by decide +kernel) rfl, ev_at 62 (by decide +kernel) rfl, cd_X0_isBefore, ⟨by decide +kernel, by decide +kernel, by decide +kernel⟩⟩
theorem oi_X1_1 : Cond.methodLink RX1 1 Lib.objectInit ∈ ev_ws ∧ Cond.instanceMethod Lib.objectInit ∈ ev_ws ∧ Cond.code Lib.objectInit ⟨#[0xb1]⟩ 1 none ∈ ev_ws := ⟨ev_at 171 (by decide +kernel) rfl, ev_at 83 (by decide +kernel) rfl, ev_at 84 rfl rfl⟩
theorem n_X1_7 : ev_nw RX1 7 5 2 [.null, .int 0] := ⟨_, _, rfl, ev_at 172 (by decide +kernel) rfl, ev_at 173 (by decide +kernel) rfl, ev_at 64 (by decide +kernel) rfl, tyX7, tyX7_ok, by decide +kernel⟩
theorem cin_X1_9 : ev_cin RX1 9 m_X7_init 0 := ⟨"IndexBureau", ev_an 174 (by decide +kernel) rfl, ev_at 175 (by decide +kernel) rfl, ev_at 64 (by decide +kernel) rfl, cd_X7_init, by decide +kernel, rfl, ⟨by decide +kernel, by decide +kernel, by decide +kernel⟩⟩
theorem pF_X1_10 : ev_fF RX1 10 1 0 (.object "IndexBureau$Whole") := ⟨_, _, _, rfl, by decide, ev_at 187 (by decide +kernel) rfl, rfl, by decide +kernel, rfl⟩
theorem pF_X1_16 : ev_fF RX1 16 1 1 (.object "IndexBureau$Whole") := ⟨_, _, _, rfl, by decide, ev_at 189 (by decide +kernel) rfl, rfl, by decide +kernel, rfl⟩
theorem pF_X1_19 : ev_fF RX1 19 1 2 (.object "IndexBureau$Whole") := ⟨_, _, _, rfl, by decide, ev_at 191 (by decide +kernel) rfl, rfl, by decide +kernel, rfl⟩
theorem pF_X1_22 : ev_fF RX1 22 1 3 (.object "IndexBureau$Whole") := ⟨_, _, _, rfl, by decide, ev_at 193 (by decide +kernel) rfl, rfl, by decide +kernel, rfl⟩
theorem pF_X1_25 : ev_fF RX1 25 1 4 (.object "IndexBureau$Whole") := ⟨_, _, _, rfl, by decide, ev_at 194 (by decide +kernel) rfl, rfl, by decide +kernel, rfl⟩
theorem pF_X1_28 : ev_fF RX1 28 1 5 (.object "IndexBureau$Whole") := ⟨_, _, _, rfl, by decide, ev_at 195 (by decide +kernel) rfl, rfl, by decide +kernel, rfl⟩
theorem pF_X1_31 : ev_fF RX1 31 1 6 (.object "IndexBureau$Whole") := ⟨_, _, _, rfl, by decide, ev_at 196 (by decide +kernel) rfl, rfl, by decide +kernel, rfl⟩
theorem pF_X1_34 : ev_fF RX1 34 1 7 (.object "IndexBureau$Whole") := ⟨_, _, _, rfl, by decide, ev_at 197 (by decide +kernel) rfl, rfl, by decide +kernel, rfl⟩
theorem pF_X1_37 : ev_fF RX1 37 1 8 (.object "IndexBureau$Whole") := ⟨_, _, _, rfl, by decide, ev_at 198 (by decide +kernel) rfl, rfl, by decide +kernel, rfl⟩
theorem f_X1_22 : ev_fl RX1 22 1 3 := ⟨_, _, _, rfl, by decide, ev_at 193 (by decide +kernel) rfl⟩
theorem cv_X1_40 : ev_cv RX1 40 m_X7_setProduct 2 := ⟨ev_at 403 (by decide +kernel) rfl, ev_at 404 (by decide +kernel) rfl, ev_at 405 (by decide +kernel) rfl, ev_at 64 (by decide +kernel) rfl, cd_X7_setProduct, ⟨by decide +kernel, by decide +kernel, by decide +kernel⟩⟩
theorem cv_X1_44 : ev_cv RX1 44 m_X7_copy 1 := ⟨ev_at 407 (by decide +kernel) rfl, ev_at 408 (by decide +kernel) rfl, ev_at 409 (by decide +kernel) rfl, ev_at 64 (by decide +kernel) rfl, cd_X7_copy, ⟨by decide +kernel, by decide +kernel, by decide +kernel⟩⟩
theorem f_X1_25 : ev_fl RX1 25 1 4 := ⟨_, _, _, rfl, by decide, ev_at 194 (by decide +kernel) rfl⟩
theorem cv_X1_48 : ev_cv RX1 48 m_X7_become 1 := ⟨ev_at 394 (by decide +kernel) rfl, ev_at 364 (by decide +kernel) rfl, ev_at 365 (by decide +kernel) rfl, ev_at 64 (by decide +kernel) rfl, cd_X7_become, ⟨by decide +kernel, by decide +kernel, by decide +kernel⟩⟩
theorem cv_X1_52 : ev_cv RX1 52 m_X1_multiply 2 := ⟨ev_at 399 (by decide +kernel) rfl, ev_at 400 (by decide +kernel) rfl, ev_at 401 (by decide +kernel) rfl, ev_at 63 (by decide +kernel) rfl, cd_X1_multiply, ⟨by decide +kernel, by decide +kernel, by decide +kernel⟩⟩
theorem f_X1_10 : ev_fl RX1 10 1 0 := ⟨_, _, _, rfl, by decide, ev_at 187 (by decide +kernel) rfl⟩
theorem cv_X1_55 : ev_cv RX1 55 m_X7_isZero 0 := ⟨ev_at 434 (by decide +kernel) rfl, ev_at 435 (by decide +kernel) rfl, ev_at 436 (by decide +kernel) rfl, ev_at 64 (by decide +kernel) rfl, cd_X7_isZero, ⟨by decide +kernel, by decide +kernel, by decide +kernel⟩⟩
theorem cv_X1_59 : ev_cv RX1 59 m_X7_compareWith 1 := ⟨ev_at 438 (by decide +kernel) rfl, ev_at 439 (by decide +kernel) rfl, ev_at 440 (by decide +kernel) rfl, ev_at 64 (by decide +kernel) rfl, cd_X7_compareWith, ⟨by decide +kernel, by decide +kernel, by decide +kernel⟩⟩
theorem f_X1_63 : ev_fl RX1 63 5 1 := ⟨_, _, _, rfl, by decide, ev_at 181 (by decide +kernel) rfl⟩
theorem f_X1_67 : ev_fl RX1 67 5 0 := ⟨_, _, _, rfl, by decide, ev_at 179 (by decide +kernel) rfl⟩
theorem cv_X1_71 : ev_cv RX1 71 m_X7_divideBySmall 1 := ⟨ev_at 445 (by decide +kernel) rfl, ev_at 446 (by decide +kernel) rfl, ev_at 447 (by decide +kernel) rfl, ev_at 64 (by decide +kernel) rfl, cd_X7_divideBySmall, ⟨by decide +kernel, by decide +kernel, by decide +kernel⟩⟩
theorem cv_X1_75 : ev_cv RX1 75 m_X7_freeBits 0 := ⟨ev_at 449 (by decide +kernel) rfl, ev_at 450 (by decide +kernel) rfl, ev_at 451 (by decide +kernel) rfl, ev_at 64 (by decide +kernel) rfl, cd_X7_freeBits, ⟨by decide +kernel, by decide +kernel, by decide +kernel⟩⟩
theorem f_X1_31 : ev_fl RX1 31 1 6 := ⟨_, _, _, rfl, by decide, ev_at 196 (by decide +kernel) rfl⟩
theorem cv_X1_79 : ev_cv RX1 79 m_X7_shiftUp 1 := ⟨ev_at 453 (by decide +kernel) rfl, ev_at 454 (by decide +kernel) rfl, ev_at 455 (by decide +kernel) rfl, ev_at 64 (by decide +kernel) rfl, cd_X7_shiftUp, ⟨by decide +kernel, by decide +kernel, by decide +kernel⟩⟩
theorem cv_X1_83 : ev_cv RX1 83 m_X7_guessDigit 2 := ⟨ev_at 457 (by decide +kernel) rfl, ev_at 458 (by decide +kernel) rfl, ev_at 459 (by decide +kernel) rfl, ev_at 64 (by decide +kernel) rfl, cd_X7_guessDigit, ⟨by decide +kernel, by decide +kernel, by decide +kernel⟩⟩
theorem cv_X1_87 : ev_cv RX1 87 m_X7_subtractAt 3 := ⟨ev_at 465 (by decide +kernel) rfl, ev_at 466 (by decide +kernel) rfl, ev_at 467 (by decide +kernel) rfl, ev_at 64 (by decide +kernel) rfl, cd_X7_subtractAt, ⟨by decide +kernel, by decide +kernel, by decide +kernel⟩⟩
theorem cv_X1_91 : ev_cv RX1 91 m_X7_addAt 2 := ⟨ev_at 469 (by decide +kernel) rfl, ev_at 470 (by decide +kernel) rfl, ev_at 471 (by decide +kernel) rfl, ev_at 64 (by decide +kernel) rfl, cd_X7_addAt, ⟨by decide +kernel, by decide +kernel, by decide +kernel⟩⟩
theorem cv_X1_95 : ev_cv RX1 95 m_X7_trim 1 := ⟨ev_at 473 (by decide +kernel) rfl, ev_at 373 (by decide +kernel) rfl, ev_at 374 (by decide +kernel) rfl, ev_at 64 (by decide +kernel) rfl, cd_X7_trim, ⟨by decide +kernel, by decide +kernel, by decide +kernel⟩⟩
theorem cv_X1_98 : ev_cv RX1 98 m_X7_shiftDown 1 := ⟨ev_at 474 (by decide +kernel) rfl, ev_at 475 (by decide +kernel) rfl, ev_at 476 (by decide +kernel) rfl, ev_at 64 (by decide +kernel) rfl, cd_X7_shiftDown, ⟨by decide +kernel, by decide +kernel, by decide +kernel⟩⟩
theorem f_X1_34 : ev_fl RX1 34 1 7 := ⟨_, _, _, rfl, by decide, ev_at 197 (by decide +kernel) rfl⟩
theorem f_X1_37 : ev_fl RX1 37 1 8 := ⟨_, _, _, rfl, by decide, ev_at 198 (by decide +kernel) rfl⟩
theorem cv_X1_101 : ev_cv RX1 101 m_X7_isShort 0 := ⟨ev_at 508 (by decide +kernel) rfl, ev_at 479 (by decide +kernel) rfl, ev_at 480 (by decide +kernel) rfl, ev_at 64 (by decide +kernel) rfl, cd_X7_isShort, ⟨by decide +kernel, by decide +kernel, by decide +kernel⟩⟩
theorem cv_X1_104 : ev_cv RX1 104 m_X1_divide 2 := ⟨ev_at 509 (by decide +kernel) rfl, ev_at 431 (by decide +kernel) rfl, ev_at 432 (by decide +kernel) rfl, ev_at 63 (by decide +kernel) rfl, cd_X1_divide, ⟨by decide +kernel, by decide +kernel, by decide +kernel⟩⟩
theorem cv_X1_107 : ev_cv RX1 107 m_X7_asLong 0 := ⟨ev_at 510 (by decide +kernel) rfl, ev_at 484 (by decide +kernel) rfl, ev_at 485 (by decide +kernel) rfl, ev_at 64 (by decide +kernel) rfl, cd_X7_asLong, ⟨by decide +kernel, by decide +kernel, by decide +kernel⟩⟩
theorem cs_X1_111 : ev_cs RX1 111 m_X1_commonDivisor 2 := ⟨ev_at 388 (by decide +kernel) rfl, ev_at 389 (by decide +kernel) rfl, ev_at 63 (by decide +kernel) rfl, cd_X1_commonDivisor, ⟨by decide +kernel, by decide +kernel, by decide +kernel⟩⟩
theorem cv_X1_115 : ev_cv RX1 115 m_X7_isOne 0 := ⟨ev_at 511 (by decide +kernel) rfl, ev_at 512 (by decide +kernel) rfl, ev_at 513 (by decide +kernel) rfl, ev_at 64 (by decide +kernel) rfl, cd_X7_isOne, ⟨by decide +kernel, by decide +kernel, by decide +kernel⟩⟩
theorem cv_X1_118 : ev_cv RX1 118 m_X2_become 2 := ⟨ev_at 359 (by decide +kernel) rfl, ev_at 360 (by decide +kernel) rfl, ev_at 361 (by decide +kernel) rfl, ev_at 66 (by decide +kernel) rfl, cd_X2_become, ⟨by decide +kernel, by decide +kernel, by decide +kernel⟩⟩
theorem cv_X1_125 : ev_cv RX1 125 m_X5_isMember 1 := ⟨ev_at 376 (by decide +kernel) rfl, ev_at 377 (by decide +kernel) rfl, ev_at 378 (by decide +kernel) rfl, ev_at 60 (by decide +kernel) rfl, cd_X5_isMember, ⟨by decide +kernel, by decide +kernel, by decide +kernel⟩⟩
theorem cv_X1_129 : ev_cv RX1 129 m_X5_plainWorth 1 := ⟨ev_at 380 (by decide +kernel) rfl, ev_at 381 (by decide +kernel) rfl, ev_at 382 (by decide +kernel) rfl, ev_at 60 (by decide +kernel) rfl, cd_X5_plainWorth, ⟨by decide +kernel, by decide +kernel, by decide +kernel⟩⟩
theorem f_X1_133 : ev_fl RX1 133 3 1 := ⟨_, _, _, rfl, by decide, ev_at 106 (by decide +kernel) rfl⟩
theorem f_X1_137 : ev_fl RX1 137 3 2 := ⟨_, _, _, rfl, by decide, ev_at 109 (by decide +kernel) rfl⟩
theorem cv_X1_140 : ev_cv RX1 140 m_X1_addTo 4 := ⟨ev_at 384 (by decide +kernel) rfl, ev_at 386 (by decide +kernel) rfl, ev_at 3 (by decide +kernel) rfl, ev_at 63 (by decide +kernel) rfl, cd_X1_addTo, ⟨by decide +kernel, by decide +kernel, by decide +kernel⟩⟩
theorem mx_X1_144 : Cond.methodLink RX1 144 Lib.MathLoose.max_long.x ∈ ev_ws ∧ Cond.static Lib.MathLoose.max_long.x ∈ ev_ws ∧ Cond.initialized "java/lang/Math" ∈ ev_ws ∧ Cond.code Lib.MathLoose.max_long.x Lib.MathLoose.max_long.code 4 (some .long) ∈ ev_ws := ⟨ev_at 391 (by decide +kernel) rfl, ev_at 392 (by decide +kernel) rfl, ev_at 73 (by decide +kernel) rfl, ev_at 393 (by decide +kernel) rfl⟩
theorem f_X1_28 : ev_fl RX1 28 1 5 := ⟨_, _, _, rfl, by decide, ev_at 195 (by decide +kernel) rfl⟩
theorem cv_X1_149 : ev_cv RX1 149 m_X1_scale 2 := ⟨ev_at 395 (by decide +kernel) rfl, ev_at 396 (by decide +kernel) rfl, ev_at 397 (by decide +kernel) rfl, ev_at 63 (by decide +kernel) rfl, cd_X1_scale, ⟨by decide +kernel, by decide +kernel, by decide +kernel⟩⟩
theorem f_X1_153 : ev_fl RX1 153 2 1 := ⟨_, _, _, rfl, by decide, ev_at 254 (by decide +kernel) rfl⟩
theorem f_X1_156 : ev_fl RX1 156 2 0 := ⟨_, _, _, rfl, by decide, ev_at 250 (by decide +kernel) rfl⟩
theorem cv_X1_159 : ev_cv RX1 159 m_X7_add 1 := ⟨ev_at 417 (by decide +kernel) rfl, ev_at 418 (by decide +kernel) rfl, ev_at 419 (by decide +kernel) rfl, ev_at 64 (by decide +kernel) rfl, cd_X7_add, ⟨by decide +kernel, by decide +kernel, by decide +kernel⟩⟩
theorem f_X1_16 : ev_fl RX1 16 1 1 := ⟨_, _, _, rfl, by decide, ev_at 189 (by decide +kernel) rfl⟩
theorem f_X1_19 : ev_fl RX1 19 1 2 := ⟨_, _, _, rfl, by decide, ev_at 191 (by decide +kernel) rfl⟩
theorem oi_X2_1 : Cond.methodLink RX2 1 Lib.objectInit ∈ ev_ws ∧ Cond.instanceMethod Lib.objectInit ∈ ev_ws ∧ Cond.code Lib.objectInit ⟨#[0xb1]⟩ 1 none ∈ ev_ws := ⟨ev_at 244 (by decide +kernel) rfl, ev_at 83 (by decide +kernel) rfl, ev_at 84 rfl rfl⟩
theorem n_X2_7 : ev_nw RX2 7 5 2 [.null, .int 0] := ⟨_, _, rfl, ev_at 245 (by decide +kernel) rfl, ev_at 173 (by decide +kernel) rfl, ev_at 64 (by decide +kernel) rfl, tyX7, tyX7_ok, by decide +kernel⟩
theorem cin_X2_9 : ev_cin RX2 9 m_X7_init 0 := ⟨"IndexBureau", ev_an 246 (by decide +kernel) rfl, ev_at 175 (by decide +kernel) rfl, ev_at 64 (by decide +kernel) rfl, cd_X7_init, by decide +kernel, rfl, ⟨by decide +kernel, by decide +kernel, by decide +kernel⟩⟩
theorem pF_X2_10 : ev_fF RX2 10 2 0 (.object "IndexBureau$Whole") := ⟨_, _, _, rfl, by decide, ev_at 247 (by decide +kernel) rfl, rfl, by decide +kernel, rfl⟩
theorem pF_X2_16 : ev_fF RX2 16 2 1 (.object "IndexBureau$Whole") := ⟨_, _, _, rfl, by decide, ev_at 251 (by decide +kernel) rfl, rfl, by decide +kernel, rfl⟩
theorem f_X2_10 : ev_fl RX2 10 2 0 := ⟨_, _, _, rfl, by decide, ev_at 247 (by decide +kernel) rfl⟩
theorem cv_X2_19 : ev_cv RX2 19 m_X7_become 1 := ⟨ev_at 363 (by decide +kernel) rfl, ev_at 364 (by decide +kernel) rfl, ev_at 365 (by decide +kernel) rfl, ev_at 64 (by decide +kernel) rfl, cd_X7_become, ⟨by decide +kernel, by decide +kernel, by decide +kernel⟩⟩
theorem f_X2_16 : ev_fl RX2 16 2 1 := ⟨_, _, _, rfl, by decide, ev_at 251 (by decide +kernel) rfl⟩
theorem cv_X2_23 : ev_cv RX2 23 m_X7_copy 1 := ⟨ev_at 519 (by decide +kernel) rfl, ev_at 408 (by decide +kernel) rfl, ev_at 409 (by decide +kernel) rfl, ev_at 64 (by decide +kernel) rfl, cd_X7_copy, ⟨by decide +kernel, by decide +kernel, by decide +kernel⟩⟩
theorem cv_X2_27 : ev_cv RX2 27 m_X7_binaryDigits 0 := ⟨ev_at 789 (by decide +kernel) rfl, ev_at 555 (by decide +kernel) rfl, ev_at 556 (by decide +kernel) rfl, ev_at 64 (by decide +kernel) rfl, cd_X7_binaryDigits, ⟨by decide +kernel, by decide +kernel, by decide +kernel⟩⟩
theorem mx_X2_31 : Cond.methodLink RX2 31 Lib.Math.max.name ∈ ev_ws ∧ Cond.static Lib.Math.max.name ∈ ev_ws ∧ Cond.initialized "java/lang/Math" ∈ ev_ws ∧ Cond.code Lib.Math.max.name Lib.Math.max.code 2 (some .int) ∈ ev_ws := ⟨ev_at 790 (by decide +kernel) rfl, ev_at 412 (by decide +kernel) rfl, ev_at 73 (by decide +kernel) rfl, ev_at 413 (by decide +kernel) rfl⟩
theorem oi_X5_1 : Cond.methodLink RX5 1 Lib.objectInit ∈ ev_ws ∧ Cond.instanceMethod Lib.objectInit ∈ ev_ws ∧ Cond.code Lib.objectInit ⟨#[0xb1]⟩ 1 none ∈ ev_ws := ⟨ev_at 90 (by decide +kernel) rfl, ev_at 83 (by decide +kernel) rfl, ev_at 84 rfl rfl⟩
theorem pF_X5_11 : ev_fF RX5 11 3 0 (.array (.array .int)) := ⟨_, _, _, rfl, by decide, ev_at 103 (by decide +kernel) rfl, rfl, by decide +kernel, rfl⟩
theorem pF_X5_14 : ev_fF RX5 14 3 1 (.array .long) := ⟨_, _, _, rfl, by decide, ev_at 105 (by decide +kernel) rfl, rfl, by decide +kernel, rfl⟩
theorem pF_X5_18 : ev_fF RX5 18 3 2 (.array .long) := ⟨_, _, _, rfl, by decide, ev_at 108 (by decide +kernel) rfl, rfl, by decide +kernel, rfl⟩
theorem f_X5_11 : ev_fl RX5 11 3 0 := ⟨_, _, _, rfl, by decide, ev_at 103 (by decide +kernel) rfl⟩
theorem cs_X5_21 : ev_cs RX5 21 m_J7_fill_53178 2 := ⟨ev_at 93 (by decide +kernel) rfl, ev_at 94 (by decide +kernel) rfl, ev_at 61 (by decide +kernel) rfl, cd_J7_fill_53178, ⟨by decide +kernel, by decide +kernel, by decide +kernel⟩⟩
theorem cv_X5_27 : ev_cv RX5 27 m_X5_resetFactors 0 := ⟨ev_at 96 (by decide +kernel) rfl, ev_at 97 (by decide +kernel) rfl, ev_at 98 (by decide +kernel) rfl, ev_at 60 (by decide +kernel) rfl, cd_X5_resetFactors, ⟨by decide +kernel, by decide +kernel, by decide +kernel⟩⟩
theorem p_X5_30 : ev_fp RX5 30 3 3 .int := ⟨_, _, _, rfl, by decide, ev_at 111 (by decide +kernel) rfl, rfl, by decide +kernel⟩
theorem s_X5_34 : Cond.fieldLink RX5 34 "IndexBureau$Shares" "MOST" "[I" ∈ ev_ws := ev_at 656 (by decide +kernel) rfl
theorem f_X5_30 : ev_fl RX5 30 3 3 := ⟨_, _, _, rfl, by decide, ev_at 111 (by decide +kernel) rfl⟩
theorem f_X5_14 : ev_fl RX5 14 3 1 := ⟨_, _, _, rfl, by decide, ev_at 105 (by decide +kernel) rfl⟩
theorem f_X5_18 : ev_fl RX5 18 3 2 := ⟨_, _, _, rfl, by decide, ev_at 108 (by decide +kernel) rfl⟩
theorem ac_X5_38 : Cond.methodLink RX5 38 arraycopyName ∈ ev_ws ∧ Cond.native arraycopyName ∈ ev_ws ∧ Cond.static arraycopyName ∈ ev_ws ∧ Cond.initialized "java/lang/System" ∈ ev_ws := ⟨ev_at 717 (by decide +kernel) rfl, ev_at 416 (by decide +kernel) rfl, ev_at 415 (by decide +kernel) rfl, ev_at 74 (by decide +kernel) rfl⟩
theorem cs_X5_44 : ev_cs RX5 44 m_J7_fill_d0a16 2 := ⟨ev_at 100 (by decide +kernel) rfl, ev_at 101 (by decide +kernel) rfl, ev_at 61 (by decide +kernel) rfl, cd_J7_fill_d0a16, ⟨by decide +kernel, by decide +kernel, by decide +kernel⟩⟩
theorem cv_X5_47 : ev_cv RX5 47 m_X5_split 3 := ⟨ev_at 722 (by decide +kernel) rfl, ev_at 724 (by decide +kernel) rfl, ev_at 12 (by decide +kernel) rfl, ev_at 60 (by decide +kernel) rfl, cd_X5_split, ⟨by decide +kernel, by decide +kernel, by decide +kernel⟩⟩
theorem cv_X5_51 : ev_cv RX5 51 m_X5_offerRights 4 := ⟨ev_at 735 (by decide +kernel) rfl, ev_at 737 (by decide +kernel) rfl, ev_at 14 (by decide +kernel) rfl, ev_at 60 (by decide +kernel) rfl, cd_X5_offerRights, ⟨by decide +kernel, by decide +kernel, by decide +kernel⟩⟩
theorem cv_X5_55 : ev_cv RX5 55 m_X5_payDividend 2 := ⟨ev_at 739 (by decide +kernel) rfl, ev_at 741 (by decide +kernel) rfl, ev_at 15 (by decide +kernel) rfl, ev_at 60 (by decide +kernel) rfl, cd_X5_payDividend, ⟨by decide +kernel, by decide +kernel, by decide +kernel⟩⟩
theorem cv_X5_59 : ev_cv RX5 59 m_X5_leave 1 := ⟨ev_at 743 (by decide +kernel) rfl, ev_at 745 (by decide +kernel) rfl, ev_at 16 (by decide +kernel) rfl, ev_at 60 (by decide +kernel) rfl, cd_X5_leave, ⟨by decide +kernel, by decide +kernel, by decide +kernel⟩⟩
theorem cv_X5_63 : ev_cv RX5 63 m_X5_join 1 := ⟨ev_at 754 (by decide +kernel) rfl, ev_at 756 (by decide +kernel) rfl, ev_at 17 (by decide +kernel) rfl, ev_at 60 (by decide +kernel) rfl, cd_X5_join, ⟨by decide +kernel, by decide +kernel, by decide +kernel⟩⟩
theorem cv_X5_66 : ev_cv RX5 66 m_X5_replace 3 := ⟨ev_at 758 (by decide +kernel) rfl, ev_at 760 (by decide +kernel) rfl, ev_at 18 (by decide +kernel) rfl, ev_at 60 (by decide +kernel) rfl, cd_X5_replace, ⟨by decide +kernel, by decide +kernel, by decide +kernel⟩⟩
theorem cv_X5_69 : ev_cv RX5 69 m_X5_cap 1 := ⟨ev_at 762 (by decide +kernel) rfl, ev_at 764 (by decide +kernel) rfl, ev_at 19 (by decide +kernel) rfl, ev_at 60 (by decide +kernel) rfl, cd_X5_cap, ⟨by decide +kernel, by decide +kernel, by decide +kernel⟩⟩
theorem cs_X5_72 : ev_cs RX5 72 m_X5_isRatio 2 := ⟨ev_at 726 (by decide +kernel) rfl, ev_at 727 (by decide +kernel) rfl, ev_at 60 (by decide +kernel) rfl, cd_X5_isRatio, ⟨by decide +kernel, by decide +kernel, by decide +kernel⟩⟩
theorem cv_X5_78 : ev_cv RX5 78 m_X5_exchange 5 := ⟨ev_at 729 (by decide +kernel) rfl, ev_at 731 (by decide +kernel) rfl, ev_at 13 (by decide +kernel) rfl, ev_at 60 (by decide +kernel) rfl, cd_X5_exchange, ⟨by decide +kernel, by decide +kernel, by decide +kernel⟩⟩
theorem cs_X5_82 : ev_cs RX5 82 m_X5_fits 2 := ⟨ev_at 734 (by decide +kernel) rfl, ev_at 654 (by decide +kernel) rfl, ev_at 60 (by decide +kernel) rfl, cd_X5_fits, ⟨by decide +kernel, by decide +kernel, by decide +kernel⟩⟩
theorem k_X5_86 : Cond.constantLong RX5 86 (lN 2) ∈ ev_ws := ev_at 733 (by decide +kernel) rfl
theorem cv_X5_88 : ev_cv RX5 88 m_X5_isMember 1 := ⟨ev_at 747 (by decide +kernel) rfl, ev_at 377 (by decide +kernel) rfl, ev_at 378 (by decide +kernel) rfl, ev_at 60 (by decide +kernel) rfl, cd_X5_isMember, ⟨by decide +kernel, by decide +kernel, by decide +kernel⟩⟩
theorem cs_X5_92 : ev_cs RX5 92 m_J6_bitCount_0f7a4 1 := ⟨ev_at 748 (by decide +kernel) rfl, ev_at 749 (by decide +kernel) rfl, ev_at 75 (by decide +kernel) rfl, cd_J6_bitCount_0f7a4, ⟨by decide +kernel, by decide +kernel, by decide +kernel⟩⟩
theorem cv_X5_97 : ev_cv RX5 97 m_X5_findLarge 1 := ⟨ev_at 766 (by decide +kernel) rfl, ev_at 768 (by decide +kernel) rfl, ev_at 20 (by decide +kernel) rfl, ev_at 60 (by decide +kernel) rfl, cd_X5_findLarge, ⟨by decide +kernel, by decide +kernel, by decide +kernel⟩⟩
theorem cv_X5_100 : ev_cv RX5 100 m_X5_plainWorthOf 1 := ⟨ev_at 770 (by decide +kernel) rfl, ev_at 772 (by decide +kernel) rfl, ev_at 21 (by decide +kernel) rfl, ev_at 60 (by decide +kernel) rfl, cd_X5_plainWorthOf, ⟨by decide +kernel, by decide +kernel, by decide +kernel⟩⟩
theorem k_X5_104 : Cond.constantLong RX5 104 (lN 100) ∈ ev_ws := ev_at 775 (by decide +kernel) rfl
theorem cv_X5_106 : ev_cv RX5 106 m_X5_plainWorth 1 := ⟨ev_at 774 (by decide +kernel) rfl, ev_at 381 (by decide +kernel) rfl, ev_at 382 (by decide +kernel) rfl, ev_at 60 (by decide +kernel) rfl, cd_X5_plainWorth, ⟨by decide +kernel, by decide +kernel, by decide +kernel⟩⟩
theorem cv_X5_109 : ev_cv RX5 109 m_X5_putFactor 3 := ⟨ev_at 776 (by decide +kernel) rfl, ev_at 778 (by decide +kernel) rfl, ev_at 22 (by decide +kernel) rfl, ev_at 60 (by decide +kernel) rfl, cd_X5_putFactor, ⟨by decide +kernel, by decide +kernel, by decide +kernel⟩⟩
theorem cs_X5_113 : ev_cs RX5 113 m_X1_commonDivisor 2 := ⟨ev_at 780 (by decide +kernel) rfl, ev_at 389 (by decide +kernel) rfl, ev_at 63 (by decide +kernel) rfl, cd_X1_commonDivisor, ⟨by decide +kernel, by decide +kernel, by decide +kernel⟩⟩
theorem oi_X6_3 : Cond.methodLink RX6 3 Lib.objectInit ∈ ev_ws ∧ Cond.instanceMethod Lib.objectInit ∈ ev_ws ∧ Cond.code Lib.objectInit ⟨#[0xb1]⟩ 1 none ∈ ev_ws := ⟨ev_at 223 (by decide +kernel) rfl, ev_at 83 (by decide +kernel) rfl, ev_at 84 rfl rfl⟩
theorem pF_X6_11 : ev_fF RX6 11 4 0 (.array .char) := ⟨_, _, _, rfl, by decide, ev_at 226 (by decide +kernel) rfl, rfl, by decide +kernel, rfl⟩
theorem n_X6_15 : ev_nw RX6 15 5 2 [.null, .int 0] := ⟨_, _, rfl, ev_at 224 (by decide +kernel) rfl, ev_at 173 (by decide +kernel) rfl, ev_at 64 (by decide +kernel) rfl, tyX7, tyX7_ok, by decide +kernel⟩
theorem cin_X6_17 : ev_cin RX6 17 m_X7_init 0 := ⟨"IndexBureau", ev_an 225 (by decide +kernel) rfl, ev_at 175 (by decide +kernel) rfl, ev_at 64 (by decide +kernel) rfl, cd_X7_init, by decide +kernel, rfl, ⟨by decide +kernel, by decide +kernel, by decide +kernel⟩⟩
theorem pF_X6_18 : ev_fF RX6 18 4 1 (.object "IndexBureau$Whole") := ⟨_, _, _, rfl, by decide, ev_at 228 (by decide +kernel) rfl, rfl, by decide +kernel, rfl⟩
theorem p_X6_22 : ev_fp RX6 22 4 2 .int := ⟨_, _, _, rfl, by decide, ev_at 229 (by decide +kernel) rfl, rfl, by decide +kernel⟩
theorem f_X6_26 : ev_fl RX6 26 2 0 := ⟨_, _, _, rfl, by decide, ev_at 248 (by decide +kernel) rfl⟩
theorem cv_X6_31 : ev_cv RX6 31 m_X6_writeWhole 1 := ⟨ev_at 525 (by decide +kernel) rfl, ev_at 527 (by decide +kernel) rfl, ev_at 5 (by decide +kernel) rfl, ev_at 65 (by decide +kernel) rfl, cd_X6_writeWhole, ⟨by decide +kernel, by decide +kernel, by decide +kernel⟩⟩
theorem f_X6_35 : ev_fl RX6 35 2 1 := ⟨_, _, _, rfl, by decide, ev_at 252 (by decide +kernel) rfl⟩
theorem cv_X6_38 : ev_cv RX6 38 m_X7_isOne 0 := ⟨ev_at 545 (by decide +kernel) rfl, ev_at 512 (by decide +kernel) rfl, ev_at 513 (by decide +kernel) rfl, ev_at 64 (by decide +kernel) rfl, cd_X7_isOne, ⟨by decide +kernel, by decide +kernel, by decide +kernel⟩⟩
theorem cv_X6_42 : ev_cv RX6 42 m_X6_append 1 := ⟨ev_at 537 (by decide +kernel) rfl, ev_at 539 (by decide +kernel) rfl, ev_at 7 (by decide +kernel) rfl, ev_at 65 (by decide +kernel) rfl, cd_X6_append, ⟨by decide +kernel, by decide +kernel, by decide +kernel⟩⟩
theorem f_X6_22 : ev_fl RX6 22 4 2 := ⟨_, _, _, rfl, by decide, ev_at 229 (by decide +kernel) rfl⟩
theorem f_X6_18 : ev_fl RX6 18 4 1 := ⟨_, _, _, rfl, by decide, ev_at 228 (by decide +kernel) rfl⟩
theorem cv_X6_46 : ev_cv RX6 46 m_X7_copy 1 := ⟨ev_at 529 (by decide +kernel) rfl, ev_at 408 (by decide +kernel) rfl, ev_at 409 (by decide +kernel) rfl, ev_at 64 (by decide +kernel) rfl, cd_X7_copy, ⟨by decide +kernel, by decide +kernel, by decide +kernel⟩⟩
theorem cv_X6_49 : ev_cv RX6 49 m_X7_isZero 0 := ⟨ev_at 530 (by decide +kernel) rfl, ev_at 435 (by decide +kernel) rfl, ev_at 436 (by decide +kernel) rfl, ev_at 64 (by decide +kernel) rfl, cd_X7_isZero, ⟨by decide +kernel, by decide +kernel, by decide +kernel⟩⟩
theorem k_X6_52 : Cond.constant RX6 52 (nI 1000000000) ∈ ev_ws := ev_at 531 (by decide +kernel) rfl
theorem cv_X6_53 : ev_cv RX6 53 m_X7_divideBySmall 1 := ⟨ev_at 532 (by decide +kernel) rfl, ev_at 446 (by decide +kernel) rfl, ev_at 447 (by decide +kernel) rfl, ev_at 64 (by decide +kernel) rfl, cd_X7_divideBySmall, ⟨by decide +kernel, by decide +kernel, by decide +kernel⟩⟩
theorem cv_X6_57 : ev_cv RX6 57 m_X6_writeBackwards 2 := ⟨ev_at 533 (by decide +kernel) rfl, ev_at 535 (by decide +kernel) rfl, ev_at 6 (by decide +kernel) rfl, ev_at 65 (by decide +kernel) rfl, cd_X6_writeBackwards, ⟨by decide +kernel, by decide +kernel, by decide +kernel⟩⟩
theorem cv_X6_61 : ev_cv RX6 61 m_X6_turnRound 1 := ⟨ev_at 541 (by decide +kernel) rfl, ev_at 543 (by decide +kernel) rfl, ev_at 8 (by decide +kernel) rfl, ev_at 65 (by decide +kernel) rfl, cd_X6_turnRound, ⟨by decide +kernel, by decide +kernel, by decide +kernel⟩⟩
theorem f_X6_11 : ev_fl RX6 11 4 0 := ⟨_, _, _, rfl, by decide, ev_at 226 (by decide +kernel) rfl⟩
theorem oi_X7_3 : Cond.methodLink RX7 3 Lib.objectInit ∈ ev_ws ∧ Cond.instanceMethod Lib.objectInit ∈ ev_ws ∧ Cond.code Lib.objectInit ⟨#[0xb1]⟩ 1 none ∈ ev_ws := ⟨ev_at 177 (by decide +kernel) rfl, ev_at 83 (by decide +kernel) rfl, ev_at 84 rfl rfl⟩
theorem pF_X7_9 : ev_fF RX7 9 5 0 (.array .int) := ⟨_, _, _, rfl, by decide, ev_at 178 (by decide +kernel) rfl, rfl, by decide +kernel, rfl⟩
theorem cv_X7_13 : ev_cv RX7 13 m_X7_clear 0 := ⟨ev_at 367 (by decide +kernel) rfl, ev_at 369 (by decide +kernel) rfl, ev_at 2 (by decide +kernel) rfl, ev_at 64 (by decide +kernel) rfl, cd_X7_clear, ⟨by decide +kernel, by decide +kernel, by decide +kernel⟩⟩
theorem f_X7_9 : ev_fl RX7 9 5 0 := ⟨_, _, _, rfl, by decide, ev_at 178 (by decide +kernel) rfl⟩
theorem k_X7_16 : Cond.constantLong RX7 16 (lN 1073741823) ∈ ev_ws := ev_at 371 (by decide +kernel) rfl
theorem cv_X7_18 : ev_cv RX7 18 m_X7_trim 1 := ⟨ev_at 372 (by decide +kernel) rfl, ev_at 373 (by decide +kernel) rfl, ev_at 374 (by decide +kernel) rfl, ev_at 64 (by decide +kernel) rfl, cd_X7_trim, ⟨by decide +kernel, by decide +kernel, by decide +kernel⟩⟩
theorem f_X7_22 : ev_fl RX7 22 5 1 := ⟨_, _, _, rfl, by decide, ev_at 180 (by decide +kernel) rfl⟩
theorem mx_X7_26 : Cond.methodLink RX7 26 Lib.Math.max.name ∈ ev_ws ∧ Cond.static Lib.Math.max.name ∈ ev_ws ∧ Cond.initialized "java/lang/Math" ∈ ev_ws ∧ Cond.code Lib.Math.max.name Lib.Math.max.code 2 (some .int) ∈ ev_ws := ⟨ev_at 411 (by decide +kernel) rfl, ev_at 412 (by decide +kernel) rfl, ev_at 73 (by decide +kernel) rfl, ev_at 413 (by decide +kernel) rfl⟩
theorem ac_X7_32 : Cond.methodLink RX7 32 arraycopyName ∈ ev_ws ∧ Cond.native arraycopyName ∈ ev_ws ∧ Cond.static arraycopyName ∈ ev_ws ∧ Cond.initialized "java/lang/System" ∈ ev_ws := ⟨ev_at 414 (by decide +kernel) rfl, ev_at 416 (by decide +kernel) rfl, ev_at 415 (by decide +kernel) rfl, ev_at 74 (by decide +kernel) rfl⟩
theorem p_X7_22 : ev_fp RX7 22 5 1 .int := ⟨_, _, _, rfl, by decide, ev_at 180 (by decide +kernel) rfl, rfl, by decide +kernel⟩
theorem cv_X7_38 : ev_cv RX7 38 m_X7_freeBits 0 := ⟨ev_at 558 (by decide +kernel) rfl, ev_at 450 (by decide +kernel) rfl, ev_at 451 (by decide +kernel) rfl, ev_at 64 (by decide +kernel) rfl, cd_X7_freeBits, ⟨by decide +kernel, by decide +kernel, by decide +kernel⟩⟩
theorem cs_X7_42 : ev_cs RX7 42 m_J6_compare_7cf53 2 := ⟨ev_at 442 (by decide +kernel) rfl, ev_at 443 (by decide +kernel) rfl, ev_at 75 (by decide +kernel) rfl, cd_J6_compare_7cf53, ⟨by decide +kernel, by decide +kernel, by decide +kernel⟩⟩
theorem mx_X7_47 : Cond.methodLink RX7 47 Lib.Math.min.name ∈ ev_ws ∧ Cond.static Lib.Math.min.name ∈ ev_ws ∧ Cond.initialized "java/lang/Math" ∈ ev_ws ∧ Cond.code Lib.Math.min.name Lib.Math.min.code 2 (some .int) ∈ ev_ws := ⟨ev_at 421 (by decide +kernel) rfl, ev_at 422 (by decide +kernel) rfl, ev_at 73 (by decide +kernel) rfl, ev_at 423 (by decide +kernel) rfl⟩
theorem k_X7_50 : Cond.constant RX7 50 (nI 1073741823) ∈ ev_ws := ev_at 424 (by decide +kernel) rfl
theorem cv_X7_51 : ev_cv RX7 51 m_X7_digitAt 1 := ⟨ev_at 461 (by decide +kernel) rfl, ev_at 463 (by decide +kernel) rfl, ev_at 4 (by decide +kernel) rfl, ev_at 64 (by decide +kernel) rfl, cd_X7_digitAt, ⟨by decide +kernel, by decide +kernel, by decide +kernel⟩⟩
theorem oi_X8_1 : Cond.methodLink RX8 1 Lib.objectInit ∈ ev_ws ∧ Cond.instanceMethod Lib.objectInit ∈ ev_ws ∧ Cond.code Lib.objectInit ⟨#[0xb1]⟩ 1 none ∈ ev_ws := ⟨ev_at 82 (by decide +kernel) rfl, ev_at 83 (by decide +kernel) rfl, ev_at 84 rfl rfl⟩
theorem n_X8_7 : ev_nw RX8 7 3 4 [.null, .null, .null, .int 0] := ⟨_, _, rfl, ev_at 85 (by decide +kernel) rfl, ev_at 86 (by decide +kernel) rfl, ev_at 60 (by decide +kernel) rfl, tyX5, tyX5_ok, by decide +kernel⟩
theorem ci_X8_9 : ev_ci RX8 9 m_X5_init 0 := ⟨ev_at 87 (by decide +kernel) rfl, ev_at 88 (by decide +kernel) rfl, ev_at 60 (by decide +kernel) rfl, cd_X5_init, by decide +kernel, rfl, ⟨by decide +kernel, by decide +kernel, by decide +kernel⟩⟩
theorem pF_X8_10 : ev_fF RX8 10 6 0 (.object "IndexBureau$Shares") := ⟨_, _, _, rfl, by decide, ev_at 260 (by decide +kernel) rfl, rfl, by decide +kernel, rfl⟩
theorem pF_X8_16 : ev_fF RX8 16 6 1 (.object "IndexBureau$Shares") := ⟨_, _, _, rfl, by decide, ev_at 261 (by decide +kernel) rfl, rfl, by decide +kernel, rfl⟩
theorem n_X8_19 : ev_nw RX8 19 0 9 [.null, .null, .null, .null, .null, .null, .null, .int 0, .int 0] := ⟨_, _, rfl, ev_at 124 (by decide +kernel) rfl, ev_at 125 (by decide +kernel) rfl, ev_at 62 (by decide +kernel) rfl, tyX0, tyX0_ok, by decide +kernel⟩
theorem cin_X8_21 : ev_cin RX8 21 m_X0_init 0 := ⟨"IndexBureau", ev_an 126 (by decide +kernel) rfl, ev_at 127 (by decide +kernel) rfl, ev_at 62 (by decide +kernel) rfl, cd_X0_init, by decide +kernel, rfl, ⟨by decide +kernel, by decide +kernel, by decide +kernel⟩⟩
theorem pF_X8_22 : ev_fF RX8 22 6 2 (.object "IndexBureau$Agenda") := ⟨_, _, _, rfl, by decide, ev_at 262 (by decide +kernel) rfl, rfl, by decide +kernel, rfl⟩
theorem n_X8_26 : ev_nw RX8 26 1 9 [.null, .null, .null, .null, .null, .null, .null, .null, .null] := ⟨_, _, rfl, ev_at 166 (by decide +kernel) rfl, ev_at 167 (by decide +kernel) rfl, ev_at 63 (by decide +kernel) rfl, tyX1, tyX1_ok, by decide +kernel⟩
theorem cin_X8_28 : ev_cin RX8 28 m_X1_init 0 := ⟨"IndexBureau", ev_an 168 (by decide +kernel) rfl, ev_at 169 (by decide +kernel) rfl, ev_at 63 (by decide +kernel) rfl, cd_X1_init, by decide +kernel, rfl, ⟨by decide +kernel, by decide +kernel, by decide +kernel⟩⟩
theorem pF_X8_29 : ev_fF RX8 29 6 3 (.object "IndexBureau$Desk") := ⟨_, _, _, rfl, by decide, ev_at 263 (by decide +kernel) rfl, rfl, by decide +kernel, rfl⟩
theorem n_X8_33 : ev_nw RX8 33 4 3 [.null, .null, .int 0] := ⟨_, _, rfl, ev_at 218 (by decide +kernel) rfl, ev_at 219 (by decide +kernel) rfl, ev_at 65 (by decide +kernel) rfl, tyX6, tyX6_ok, by decide +kernel⟩
theorem cin_X8_35 : ev_cin RX8 35 m_X6_init 0 := ⟨"IndexBureau", ev_an 220 (by decide +kernel) rfl, ev_at 221 (by decide +kernel) rfl, ev_at 65 (by decide +kernel) rfl, cd_X6_init, by decide +kernel, rfl, ⟨by decide +kernel, by decide +kernel, by decide +kernel⟩⟩
theorem pF_X8_36 : ev_fF RX8 36 6 4 (.object "IndexBureau$Text") := ⟨_, _, _, rfl, by decide, ev_at 264 (by decide +kernel) rfl, rfl, by decide +kernel, rfl⟩
theorem n_X8_40 : ev_nw RX8 40 2 2 [.null, .null] := ⟨_, _, rfl, ev_at 239 (by decide +kernel) rfl, ev_at 240 (by decide +kernel) rfl, ev_at 66 (by decide +kernel) rfl, tyX2, tyX2_ok, by decide +kernel⟩
theorem cin_X8_42 : ev_cin RX8 42 m_X2_init 0 := ⟨"IndexBureau", ev_an 241 (by decide +kernel) rfl, ev_at 242 (by decide +kernel) rfl, ev_at 66 (by decide +kernel) rfl, cd_X2_init, by decide +kernel, rfl, ⟨by decide +kernel, by decide +kernel, by decide +kernel⟩⟩
theorem pF_X8_43 : ev_fF RX8 43 6 5 (.object "IndexBureau$Fraction") := ⟨_, _, _, rfl, by decide, ev_at 265 (by decide +kernel) rfl, rfl, by decide +kernel, rfl⟩
theorem pF_X8_47 : ev_fF RX8 47 6 6 (.object "IndexBureau$Fraction") := ⟨_, _, _, rfl, by decide, ev_at 266 (by decide +kernel) rfl, rfl, by decide +kernel, rfl⟩
theorem pF_X8_50 : ev_fF RX8 50 6 7 (.object "IndexBureau$Fraction") := ⟨_, _, _, rfl, by decide, ev_at 267 (by decide +kernel) rfl, rfl, by decide +kernel, rfl⟩
theorem pF_X8_53 : ev_fF RX8 53 6 8 (.object "IndexBureau$Fraction") := ⟨_, _, _, rfl, by decide, ev_at 268 (by decide +kernel) rfl, rfl, by decide +kernel, rfl⟩
theorem pF_X8_56 : ev_fF RX8 56 6 9 (.object "IndexBureau$Fraction") := ⟨_, _, _, rfl, by decide, ev_at 269 (by decide +kernel) rfl, rfl, by decide +kernel, rfl⟩
theorem pF_X8_59 : ev_fF RX8 59 6 10 (.array .long) := ⟨_, _, _, rfl, by decide, ev_at 270 (by decide +kernel) rfl, rfl, by decide +kernel, rfl⟩
theorem p_X8_63 : ev_fp RX8 63 6 11 .int := ⟨_, _, _, rfl, by decide, ev_at 271 (by decide +kernel) rfl, rfl, by decide +kernel⟩
theorem p_X8_67 : ev_fp RX8 67 6 12 .boolean := ⟨_, _, _, rfl, by decide, ev_at 272 (by decide +kernel) rfl, rfl, by decide +kernel⟩
theorem p_X8_71 : ev_fp RX8 71 6 13 .boolean := ⟨_, _, _, rfl, by decide, ev_at 273 (by decide +kernel) rfl, rfl, by decide +kernel⟩
theorem cs_X8_74 : ev_cs RX8 74 m_X8_refuseUnknown 2 := ⟨ev_at 572 (by decide +kernel) rfl, ev_at 573 (by decide +kernel) rfl, ev_at 59 (by decide +kernel) rfl, cd_X8_refuseUnknown, ⟨by decide +kernel, by decide +kernel, by decide +kernel⟩⟩
theorem f_X8_10 : ev_fl RX8 10 6 0 := ⟨_, _, _, rfl, by decide, ev_at 260 (by decide +kernel) rfl⟩
theorem cv_X8_78 : ev_cv RX8 78 m_X5_isMember 1 := ⟨ev_at 494 (by decide +kernel) rfl, ev_at 377 (by decide +kernel) rfl, ev_at 378 (by decide +kernel) rfl, ev_at 60 (by decide +kernel) rfl, cd_X5_isMember, ⟨by decide +kernel, by decide +kernel, by decide +kernel⟩⟩
theorem cs_X8_82 : ev_cs RX8 82 m_X5_fits 2 := ⟨ev_at 653 (by decide +kernel) rfl, ev_at 654 (by decide +kernel) rfl, ev_at 60 (by decide +kernel) rfl, cd_X5_fits, ⟨by decide +kernel, by decide +kernel, by decide +kernel⟩⟩
theorem f_X8_86 : ev_fl RX8 86 3 0 := ⟨_, _, _, rfl, by decide, ev_at 104 (by decide +kernel) rfl⟩
theorem k_X8_90 : Cond.constant RX8 90 (nI 1000000) ∈ ev_ws := ev_at 672 (by decide +kernel) rfl
theorem p_X8_94 : ev_fp RX8 94 3 3 .int := ⟨_, _, _, rfl, by decide, ev_at 112 (by decide +kernel) rfl, rfl, by decide +kernel⟩
theorem cv_X8_97 : ev_cv RX8 97 m_X5_resetFactors 0 := ⟨ev_at 673 (by decide +kernel) rfl, ev_at 97 (by decide +kernel) rfl, ev_at 98 (by decide +kernel) rfl, ev_at 60 (by decide +kernel) rfl, cd_X5_resetFactors, ⟨by decide +kernel, by decide +kernel, by decide +kernel⟩⟩
theorem f_X8_29 : ev_fl RX8 29 6 3 := ⟨_, _, _, rfl, by decide, ev_at 263 (by decide +kernel) rfl⟩
theorem f_X8_43 : ev_fl RX8 43 6 5 := ⟨_, _, _, rfl, by decide, ev_at 265 (by decide +kernel) rfl⟩
theorem cv_X8_100 : ev_cv RX8 100 m_X1_addUp 2 := ⟨ev_at 355 (by decide +kernel) rfl, ev_at 356 (by decide +kernel) rfl, ev_at 357 (by decide +kernel) rfl, ev_at 63 (by decide +kernel) rfl, cd_X1_addUp, ⟨by decide +kernel, by decide +kernel, by decide +kernel⟩⟩
theorem f_X8_104 : ev_fl RX8 104 2 1 := ⟨_, _, _, rfl, by decide, ev_at 253 (by decide +kernel) rfl⟩
theorem cv_X8_108 : ev_cv RX8 108 m_X1_scale 2 := ⟨ev_at 427 (by decide +kernel) rfl, ev_at 396 (by decide +kernel) rfl, ev_at 397 (by decide +kernel) rfl, ev_at 63 (by decide +kernel) rfl, cd_X1_scale, ⟨by decide +kernel, by decide +kernel, by decide +kernel⟩⟩
theorem f_X8_112 : ev_fl RX8 112 2 0 := ⟨_, _, _, rfl, by decide, ev_at 249 (by decide +kernel) rfl⟩
theorem cv_X8_115 : ev_cv RX8 115 m_X1_cancel 2 := ⟨ev_at 504 (by decide +kernel) rfl, ev_at 505 (by decide +kernel) rfl, ev_at 506 (by decide +kernel) rfl, ev_at 63 (by decide +kernel) rfl, cd_X1_cancel, ⟨by decide +kernel, by decide +kernel, by decide +kernel⟩⟩
theorem f_X8_22 : ev_fl RX8 22 6 2 := ⟨_, _, _, rfl, by decide, ev_at 262 (by decide +kernel) rfl⟩
theorem cv_X8_119 : ev_cv RX8 119 m_X0_forget 0 := ⟨ev_at 674 (by decide +kernel) rfl, ev_at 675 (by decide +kernel) rfl, ev_at 676 (by decide +kernel) rfl, ev_at 62 (by decide +kernel) rfl, cd_X0_forget, ⟨by decide +kernel, by decide +kernel, by decide +kernel⟩⟩
theorem f_X8_67 : ev_fl RX8 67 6 12 := ⟨_, _, _, rfl, by decide, ev_at 272 (by decide +kernel) rfl⟩
theorem f_X8_94 : ev_fl RX8 94 3 3 := ⟨_, _, _, rfl, by decide, ev_at 112 (by decide +kernel) rfl⟩
theorem cs_X8_124 : ev_cs RX8 124 m_X5_has 1 := ⟨ev_at 311 (by decide +kernel) rfl, ev_at 312 (by decide +kernel) rfl, ev_at 60 (by decide +kernel) rfl, cd_X5_has, ⟨by decide +kernel, by decide +kernel, by decide +kernel⟩⟩
theorem cv_X8_127 : ev_cv RX8 127 m_X0_isFull 0 := ⟨ev_at 314 (by decide +kernel) rfl, ev_at 315 (by decide +kernel) rfl, ev_at 316 (by decide +kernel) rfl, ev_at 62 (by decide +kernel) rfl, cd_X0_isFull, ⟨by decide +kernel, by decide +kernel, by decide +kernel⟩⟩
theorem cv_X8_131 : ev_cv RX8 131 m_X0_note 5 := ⟨ev_at 318 (by decide +kernel) rfl, ev_at 319 (by decide +kernel) rfl, ev_at 320 (by decide +kernel) rfl, ev_at 62 (by decide +kernel) rfl, cd_X0_note, ⟨by decide +kernel, by decide +kernel, by decide +kernel⟩⟩
theorem f_X8_63 : ev_fl RX8 63 6 11 := ⟨_, _, _, rfl, by decide, ev_at 271 (by decide +kernel) rfl⟩
theorem cv_X8_138 : ev_cv RX8 138 m_X0_arrange 0 := ⟨ev_at 701 (by decide +kernel) rfl, ev_at 702 (by decide +kernel) rfl, ev_at 703 (by decide +kernel) rfl, ev_at 62 (by decide +kernel) rfl, cd_X0_arrange, ⟨by decide +kernel, by decide +kernel, by decide +kernel⟩⟩
theorem f_X8_141 : ev_fl RX8 141 0 8 := ⟨_, _, _, rfl, by decide, ev_at 146 (by decide +kernel) rfl⟩
theorem f_X8_144 : ev_fl RX8 144 0 6 := ⟨_, _, _, rfl, by decide, ev_at 143 (by decide +kernel) rfl⟩
theorem f_X8_148 : ev_fl RX8 148 0 5 := ⟨_, _, _, rfl, by decide, ev_at 141 (by decide +kernel) rfl⟩
theorem cv_X8_151 : ev_cv RX8 151 m_X8_perform 1 := ⟨ev_at 709 (by decide +kernel) rfl, ev_at 711 (by decide +kernel) rfl, ev_at 11 (by decide +kernel) rfl, ev_at 59 (by decide +kernel) rfl, cd_X8_perform, ⟨by decide +kernel, by decide +kernel, by decide +kernel⟩⟩
theorem f_X8_59 : ev_fl RX8 59 6 10 := ⟨_, _, _, rfl, by decide, ev_at 270 (by decide +kernel) rfl⟩
theorem cv_X8_155 : ev_cv RX8 155 m_X8_roundedLevel 0 := ⟨ev_at 347 (by decide +kernel) rfl, ev_at 349 (by decide +kernel) rfl, ev_at 0 (by decide +kernel) rfl, ev_at 59 (by decide +kernel) rfl, cd_X8_roundedLevel, ⟨by decide +kernel, by decide +kernel, by decide +kernel⟩⟩
theorem cv_X8_159 : ev_cv RX8 159 m_X0_wasArranged 1 := ⟨ev_at 326 (by decide +kernel) rfl, ev_at 327 (by decide +kernel) rfl, ev_at 328 (by decide +kernel) rfl, ev_at 62 (by decide +kernel) rfl, cd_X0_wasArranged, ⟨by decide +kernel, by decide +kernel, by decide +kernel⟩⟩
theorem k_X8_162 : Cond.constantLong RX8 162 (-1) ∈ ev_ws := ev_at 342 (by decide +kernel) rfl
theorem f_X8_50 : ev_fl RX8 50 6 7 := ⟨_, _, _, rfl, by decide, ev_at 267 (by decide +kernel) rfl⟩
theorem k_X8_164 : Cond.constant RX8 164 (nI 1000000000) ∈ ev_ws := ev_at 495 (by decide +kernel) rfl
theorem cv_X8_165 : ev_cv RX8 165 m_X1_weigh 5 := ⟨ev_at 496 (by decide +kernel) rfl, ev_at 497 (by decide +kernel) rfl, ev_at 498 (by decide +kernel) rfl, ev_at 63 (by decide +kernel) rfl, cd_X1_weigh, ⟨by decide +kernel, by decide +kernel, by decide +kernel⟩⟩
theorem f_X8_169 : ev_fl RX8 169 1 1 := ⟨_, _, _, rfl, by decide, ev_at 190 (by decide +kernel) rfl⟩
theorem f_X8_172 : ev_fl RX8 172 1 2 := ⟨_, _, _, rfl, by decide, ev_at 192 (by decide +kernel) rfl⟩
theorem cv_X8_175 : ev_cv RX8 175 m_X1_divide 2 := ⟨ev_at 430 (by decide +kernel) rfl, ev_at 431 (by decide +kernel) rfl, ev_at 432 (by decide +kernel) rfl, ev_at 63 (by decide +kernel) rfl, cd_X1_divide, ⟨by decide +kernel, by decide +kernel, by decide +kernel⟩⟩
theorem f_X8_178 : ev_fl RX8 178 1 0 := ⟨_, _, _, rfl, by decide, ev_at 188 (by decide +kernel) rfl⟩
theorem cv_X8_181 : ev_cv RX8 181 m_X7_asLong 0 := ⟨ev_at 483 (by decide +kernel) rfl, ev_at 484 (by decide +kernel) rfl, ev_at 485 (by decide +kernel) rfl, ev_at 64 (by decide +kernel) rfl, cd_X7_asLong, ⟨by decide +kernel, by decide +kernel, by decide +kernel⟩⟩
theorem cv_X8_186 : ev_cv RX8 186 m_X8_exactLevel 0 := ⟨ev_at 351 (by decide +kernel) rfl, ev_at 353 (by decide +kernel) rfl, ev_at 1 (by decide +kernel) rfl, ev_at 59 (by decide +kernel) rfl, cd_X8_exactLevel, ⟨by decide +kernel, by decide +kernel, by decide +kernel⟩⟩
theorem f_X8_56 : ev_fl RX8 56 6 9 := ⟨_, _, _, rfl, by decide, ev_at 269 (by decide +kernel) rfl⟩
theorem cv_X8_189 : ev_cv RX8 189 m_X2_copy 1 := ⟨ev_at 515 (by decide +kernel) rfl, ev_at 516 (by decide +kernel) rfl, ev_at 517 (by decide +kernel) rfl, ev_at 66 (by decide +kernel) rfl, cd_X2_copy, ⟨by decide +kernel, by decide +kernel, by decide +kernel⟩⟩
theorem f_X8_193 : ev_fl RX8 193 3 1 := ⟨_, _, _, rfl, by decide, ev_at 107 (by decide +kernel) rfl⟩
theorem f_X8_196 : ev_fl RX8 196 3 2 := ⟨_, _, _, rfl, by decide, ev_at 110 (by decide +kernel) rfl⟩
theorem cv_X8_199 : ev_cv RX8 199 m_X2_become 2 := ⟨ev_at 520 (by decide +kernel) rfl, ev_at 360 (by decide +kernel) rfl, ev_at 361 (by decide +kernel) rfl, ev_at 66 (by decide +kernel) rfl, cd_X2_become, ⟨by decide +kernel, by decide +kernel, by decide +kernel⟩⟩
theorem f_X8_36 : ev_fl RX8 36 6 4 := ⟨_, _, _, rfl, by decide, ev_at 264 (by decide +kernel) rfl⟩
theorem cv_X8_203 : ev_cv RX8 203 m_X6_write 1 := ⟨ev_at 521 (by decide +kernel) rfl, ev_at 522 (by decide +kernel) rfl, ev_at 523 (by decide +kernel) rfl, ev_at 65 (by decide +kernel) rfl, cd_X6_write, ⟨by decide +kernel, by decide +kernel, by decide +kernel⟩⟩
theorem f_X8_206 : ev_fl RX8 206 4 2 := ⟨_, _, _, rfl, by decide, ev_at 230 (by decide +kernel) rfl⟩
theorem f_X8_209 : ev_fl RX8 209 4 0 := ⟨_, _, _, rfl, by decide, ev_at 227 (by decide +kernel) rfl⟩
theorem cv_X8_213 : ev_cv RX8 213 m_X7_binaryDigits 0 := ⟨ev_at 554 (by decide +kernel) rfl, ev_at 555 (by decide +kernel) rfl, ev_at 556 (by decide +kernel) rfl, ev_at 64 (by decide +kernel) rfl, cd_X7_binaryDigits, ⟨by decide +kernel, by decide +kernel, by decide +kernel⟩⟩
theorem f_X8_71 : ev_fl RX8 71 6 13 := ⟨_, _, _, rfl, by decide, ev_at 273 (by decide +kernel) rfl⟩
theorem f_X8_220 : ev_fl RX8 220 0 0 := ⟨_, _, _, rfl, by decide, ev_at 131 (by decide +kernel) rfl⟩
theorem f_X8_223 : ev_fl RX8 223 0 2 := ⟨_, _, _, rfl, by decide, ev_at 135 (by decide +kernel) rfl⟩
theorem f_X8_16 : ev_fl RX8 16 6 1 := ⟨_, _, _, rfl, by decide, ev_at 261 (by decide +kernel) rfl⟩
theorem cv_X8_226 : ev_cv RX8 226 m_X5_copy 1 := ⟨ev_at 713 (by decide +kernel) rfl, ev_at 714 (by decide +kernel) rfl, ev_at 715 (by decide +kernel) rfl, ev_at 60 (by decide +kernel) rfl, cd_X5_copy, ⟨by decide +kernel, by decide +kernel, by decide +kernel⟩⟩
theorem f_X8_229 : ev_fl RX8 229 0 1 := ⟨_, _, _, rfl, by decide, ev_at 133 (by decide +kernel) rfl⟩
theorem f_X8_232 : ev_fl RX8 232 0 3 := ⟨_, _, _, rfl, by decide, ev_at 137 (by decide +kernel) rfl⟩
theorem f_X8_235 : ev_fl RX8 235 0 4 := ⟨_, _, _, rfl, by decide, ev_at 139 (by decide +kernel) rfl⟩
theorem cv_X8_238 : ev_cv RX8 238 m_X5_change 5 := ⟨ev_at 718 (by decide +kernel) rfl, ev_at 719 (by decide +kernel) rfl, ev_at 720 (by decide +kernel) rfl, ev_at 60 (by decide +kernel) rfl, cd_X5_change, ⟨by decide +kernel, by decide +kernel, by decide +kernel⟩⟩
theorem cv_X8_241 : ev_cv RX8 241 m_X8_findNextDivisor 0 := ⟨ev_at 781 (by decide +kernel) rfl, ev_at 783 (by decide +kernel) rfl, ev_at 23 (by decide +kernel) rfl, ev_at 59 (by decide +kernel) rfl, cd_X8_findNextDivisor, ⟨by decide +kernel, by decide +kernel, by decide +kernel⟩⟩
theorem f_X8_47 : ev_fl RX8 47 6 6 := ⟨_, _, _, rfl, by decide, ev_at 266 (by decide +kernel) rfl⟩
theorem cv_X8_244 : ev_cv RX8 244 m_X2_mostDigits 0 := ⟨ev_at 785 (by decide +kernel) rfl, ev_at 786 (by decide +kernel) rfl, ev_at 787 (by decide +kernel) rfl, ev_at 66 (by decide +kernel) rfl, cd_X2_mostDigits, ⟨by decide +kernel, by decide +kernel, by decide +kernel⟩⟩
theorem f_X8_53 : ev_fl RX8 53 6 8 := ⟨_, _, _, rfl, by decide, ev_at 268 (by decide +kernel) rfl⟩
theorem cv_X8_249 : ev_cv RX8 249 m_X1_sameLevel 4 := ⟨ev_at 791 (by decide +kernel) rfl, ev_at 792 (by decide +kernel) rfl, ev_at 793 (by decide +kernel) rfl, ev_at 63 (by decide +kernel) rfl, cd_X1_sameLevel, ⟨by decide +kernel, by decide +kernel, by decide +kernel⟩⟩
theorem cv_X8_253 : ev_cv RX8 253 m_X8_isCapped 1 := ⟨ev_at 795 (by decide +kernel) rfl, ev_at 797 (by decide +kernel) rfl, ev_at 24 (by decide +kernel) rfl, ev_at 59 (by decide +kernel) rfl, cd_X8_isCapped, ⟨by decide +kernel, by decide +kernel, by decide +kernel⟩⟩
theorem cv_X8_256 : ev_cv RX8 256 m_X1_multiply 2 := ⟨ev_at 425 (by decide +kernel) rfl, ev_at 400 (by decide +kernel) rfl, ev_at 401 (by decide +kernel) rfl, ev_at 63 (by decide +kernel) rfl, cd_X1_multiply, ⟨by decide +kernel, by decide +kernel, by decide +kernel⟩⟩
theorem cv_X8_259 : ev_cv RX8 259 m_X7_compareWith 1 := ⟨ev_at 799 (by decide +kernel) rfl, ev_at 439 (by decide +kernel) rfl, ev_at 440 (by decide +kernel) rfl, ev_at 64 (by decide +kernel) rfl, cd_X7_compareWith, ⟨by decide +kernel, by decide +kernel, by decide +kernel⟩⟩
theorem cv_X8_263 : ev_cv RX8 263 m_X5_hasFactorOne 1 := ⟨ev_at 800 (by decide +kernel) rfl, ev_at 801 (by decide +kernel) rfl, ev_at 802 (by decide +kernel) rfl, ev_at 60 (by decide +kernel) rfl, cd_X5_hasFactorOne, ⟨by decide +kernel, by decide +kernel, by decide +kernel⟩⟩
theorem k_X8_266 : Cond.constantLong RX8 266 (lN 200) ∈ ev_ws := ev_at 426 (by decide +kernel) rfl
theorem cv_X8_268 : ev_cv RX8 268 m_X7_add 1 := ⟨ev_at 428 (by decide +kernel) rfl, ev_at 418 (by decide +kernel) rfl, ev_at 419 (by decide +kernel) rfl, ev_at 64 (by decide +kernel) rfl, cd_X7_add, ⟨by decide +kernel, by decide +kernel, by decide +kernel⟩⟩
theorem k_X8_272 : Cond.constantLong RX8 272 (lN 2) ∈ ev_ws := ev_at 429 (by decide +kernel) rfl
theorem cv_X8_274 : ev_cv RX8 274 m_X7_isShort 0 := ⟨ev_at 478 (by decide +kernel) rfl, ev_at 479 (by decide +kernel) rfl, ev_at 480 (by decide +kernel) rfl, ev_at 64 (by decide +kernel) rfl, cd_X7_isShort, ⟨by decide +kernel, by decide +kernel, by decide +kernel⟩⟩
theorem k_X8_277 : Cond.constantLong RX8 277 (lN 999999999999999999) ∈ ev_ws := ev_at 482 (by decide +kernel) rfl
theorem mx_X8_279 : Cond.methodLink RX8 279 Lib.MathLoose.min_long.x ∈ ev_ws ∧ Cond.static Lib.MathLoose.min_long.x ∈ ev_ws ∧ Cond.initialized "java/lang/Math" ∈ ev_ws ∧ Cond.code Lib.MathLoose.min_long.x Lib.MathLoose.min_long.code 4 (some .long) ∈ ev_ws := ⟨ev_at 487 (by decide +kernel) rfl, ev_at 488 (by decide +kernel) rfl, ev_at 73 (by decide +kernel) rfl, ev_at 489 (by decide +kernel) rfl⟩
theorem oi_X9_1 : Cond.methodLink RX9 1 Lib.objectInit ∈ ev_ws ∧ Cond.instanceMethod Lib.objectInit ∈ ev_ws ∧ Cond.code Lib.objectInit ⟨#[0xb1]⟩ 1 none ∈ ev_ws := ⟨ev_at 809 (by decide +kernel) rfl, ev_at 83 (by decide +kernel) rfl, ev_at 84 rfl rfl⟩
theorem pF_X9_7 : ev_fF RX9 7 7 0 (.array .int) := ⟨_, _, _, rfl, by decide, ev_at 815 (by decide +kernel) rfl, rfl, by decide +kernel, rfl⟩
theorem pF_X9_13 : ev_fF RX9 13 7 1 (.array .int) := ⟨_, _, _, rfl, by decide, ev_at 816 (by decide +kernel) rfl, rfl, by decide +kernel, rfl⟩
theorem pF_X9_16 : ev_fF RX9 16 7 2 (.array .int) := ⟨_, _, _, rfl, by decide, ev_at 817 (by decide +kernel) rfl, rfl, by decide +kernel, rfl⟩
theorem pF_X9_19 : ev_fF RX9 19 7 3 (.array .int) := ⟨_, _, _, rfl, by decide, ev_at 818 (by decide +kernel) rfl, rfl, by decide +kernel, rfl⟩
theorem pF_X9_22 : ev_fF RX9 22 7 4 (.array .int) := ⟨_, _, _, rfl, by decide, ev_at 819 (by decide +kernel) rfl, rfl, by decide +kernel, rfl⟩
theorem pF_X9_25 : ev_fF RX9 25 7 7 (.array .int) := ⟨_, _, _, rfl, by decide, ev_at 822 (by decide +kernel) rfl, rfl, by decide +kernel, rfl⟩
theorem pF_X9_28 : ev_fF RX9 28 7 8 (.array .int) := ⟨_, _, _, rfl, by decide, ev_at 823 (by decide +kernel) rfl, rfl, by decide +kernel, rfl⟩
theorem pF_X9_31 : ev_fF RX9 31 7 9 (.array .int) := ⟨_, _, _, rfl, by decide, ev_at 824 (by decide +kernel) rfl, rfl, by decide +kernel, rfl⟩
theorem pF_X9_34 : ev_fF RX9 34 7 12 (.array .int) := ⟨_, _, _, rfl, by decide, ev_at 827 (by decide +kernel) rfl, rfl, by decide +kernel, rfl⟩
theorem pF_X9_37 : ev_fF RX9 37 7 13 (.array .int) := ⟨_, _, _, rfl, by decide, ev_at 828 (by decide +kernel) rfl, rfl, by decide +kernel, rfl⟩
theorem pF_X9_40 : ev_fF RX9 40 7 14 (.array .int) := ⟨_, _, _, rfl, by decide, ev_at 829 (by decide +kernel) rfl, rfl, by decide +kernel, rfl⟩
theorem pF_X9_43 : ev_fF RX9 43 7 15 (.array .int) := ⟨_, _, _, rfl, by decide, ev_at 830 (by decide +kernel) rfl, rfl, by decide +kernel, rfl⟩
theorem pF_X9_46 : ev_fF RX9 46 7 16 (.array .int) := ⟨_, _, _, rfl, by decide, ev_at 831 (by decide +kernel) rfl, rfl, by decide +kernel, rfl⟩
theorem pF_X9_49 : ev_fF RX9 49 7 18 (.array .int) := ⟨_, _, _, rfl, by decide, ev_at 833 (by decide +kernel) rfl, rfl, by decide +kernel, rfl⟩
theorem pF_X9_52 : ev_fF RX9 52 7 19 (.array .int) := ⟨_, _, _, rfl, by decide, ev_at 834 (by decide +kernel) rfl, rfl, by decide +kernel, rfl⟩
theorem pF_X9_55 : ev_fF RX9 55 7 21 (.array .long) := ⟨_, _, _, rfl, by decide, ev_at 836 (by decide +kernel) rfl, rfl, by decide +kernel, rfl⟩
theorem pF_X9_59 : ev_fF RX9 59 7 23 (.array .int) := ⟨_, _, _, rfl, by decide, ev_at 838 (by decide +kernel) rfl, rfl, by decide +kernel, rfl⟩
theorem f_X9_16 : ev_fl RX9 16 7 2 := ⟨_, _, _, rfl, by decide, ev_at 817 (by decide +kernel) rfl⟩
theorem f_X9_19 : ev_fl RX9 19 7 3 := ⟨_, _, _, rfl, by decide, ev_at 818 (by decide +kernel) rfl⟩
theorem f_X9_22 : ev_fl RX9 22 7 4 := ⟨_, _, _, rfl, by decide, ev_at 819 (by decide +kernel) rfl⟩
theorem cv_X9_62 : ev_cv RX9 62 m_X9_set 2 := ⟨ev_at 810 (by decide +kernel) rfl, ev_at 812 (by decide +kernel) rfl, ev_at 25 (by decide +kernel) rfl, ev_at 67 (by decide +kernel) rfl, cd_X9_set, ⟨by decide +kernel, by decide +kernel, by decide +kernel⟩⟩
theorem f_X9_66 : ev_fl RX9 66 7 24 := ⟨_, _, _, rfl, by decide, ev_at 839 (by decide +kernel) rfl⟩
theorem f_X9_70 : ev_fl RX9 70 7 5 := ⟨_, _, _, rfl, by decide, ev_at 820 (by decide +kernel) rfl⟩
theorem f_X9_13 : ev_fl RX9 13 7 1 := ⟨_, _, _, rfl, by decide, ev_at 816 (by decide +kernel) rfl⟩
theorem f_X9_7 : ev_fl RX9 7 7 0 := ⟨_, _, _, rfl, by decide, ev_at 815 (by decide +kernel) rfl⟩
theorem k_X9_73 : Cond.constantLong RX9 73 (lN 1073741824) ∈ ev_ws := ev_at 814 (by decide +kernel) rfl
theorem cv_X9_75 : ev_cv RX9 75 m_X9_limb 2 := ⟨ev_at 940 (by decide +kernel) rfl, ev_at 942 (by decide +kernel) rfl, ev_at 32 (by decide +kernel) rfl, ev_at 67 (by decide +kernel) rfl, cd_X9_limb, ⟨by decide +kernel, by decide +kernel, by decide +kernel⟩⟩
theorem k_X9_79 : Cond.constant RX9 79 (nI 1073741823) ∈ ev_ws := ev_at 944 (by decide +kernel) rfl
theorem k_X9_80 : Cond.constantLong RX9 80 (lN 1073741823) ∈ ev_ws := ev_at 931 (by decide +kernel) rfl
theorem cv_X9_82 : ev_cv RX9 82 m_X9_trim 1 := ⟨ev_at 932 (by decide +kernel) rfl, ev_at 934 (by decide +kernel) rfl, ev_at 30 (by decide +kernel) rfl, ev_at 67 (by decide +kernel) rfl, cd_X9_trim, ⟨by decide +kernel, by decide +kernel, by decide +kernel⟩⟩
theorem k_X9_86 : Cond.constant RX9 86 (nI 1073741824) ∈ ev_ws := ev_at 973 (by decide +kernel) rfl
theorem cv_X9_87 : ev_cv RX9 87 m_X9_bits 1 := ⟨ev_at 990 (by decide +kernel) rfl, ev_at 992 (by decide +kernel) rfl, ev_at 44 (by decide +kernel) rfl, ev_at 67 (by decide +kernel) rfl, cd_X9_bits, ⟨by decide +kernel, by decide +kernel, by decide +kernel⟩⟩
theorem cv_X9_91 : ev_cv RX9 91 m_X9_twice 2 := ⟨ev_at 978 (by decide +kernel) rfl, ev_at 980 (by decide +kernel) rfl, ev_at 41 (by decide +kernel) rfl, ev_at 67 (by decide +kernel) rfl, cd_X9_twice, ⟨by decide +kernel, by decide +kernel, by decide +kernel⟩⟩
theorem cv_X9_95 : ev_cv RX9 95 m_X9_compare 2 := ⟨ev_at 965 (by decide +kernel) rfl, ev_at 967 (by decide +kernel) rfl, ev_at 38 (by decide +kernel) rfl, ev_at 67 (by decide +kernel) rfl, cd_X9_compare, ⟨by decide +kernel, by decide +kernel, by decide +kernel⟩⟩
theorem cv_X9_98 : ev_cv RX9 98 m_X9_subtract 2 := ⟨ev_at 969 (by decide +kernel) rfl, ev_at 971 (by decide +kernel) rfl, ev_at 39 (by decide +kernel) rfl, ev_at 67 (by decide +kernel) rfl, cd_X9_subtract, ⟨by decide +kernel, by decide +kernel, by decide +kernel⟩⟩
theorem cv_X9_101 : ev_cv RX9 101 m_X9_copy 2 := ⟨ev_at 945 (by decide +kernel) rfl, ev_at 947 (by decide +kernel) rfl, ev_at 33 (by decide +kernel) rfl, ev_at 67 (by decide +kernel) rfl, cd_X9_copy, ⟨by decide +kernel, by decide +kernel, by decide +kernel⟩⟩
theorem cv_X9_104 : ev_cv RX9 104 m_X9_isEven 1 := ⟨ev_at 957 (by decide +kernel) rfl, ev_at 959 (by decide +kernel) rfl, ev_at 36 (by decide +kernel) rfl, ev_at 67 (by decide +kernel) rfl, cd_X9_isEven, ⟨by decide +kernel, by decide +kernel, by decide +kernel⟩⟩
theorem cv_X9_108 : ev_cv RX9 108 m_X9_half 1 := ⟨ev_at 961 (by decide +kernel) rfl, ev_at 963 (by decide +kernel) rfl, ev_at 37 (by decide +kernel) rfl, ev_at 67 (by decide +kernel) rfl, cd_X9_half, ⟨by decide +kernel, by decide +kernel, by decide +kernel⟩⟩
theorem cv_X9_111 : ev_cv RX9 111 m_X9_swap 0 := ⟨ev_at 974 (by decide +kernel) rfl, ev_at 976 (by decide +kernel) rfl, ev_at 40 (by decide +kernel) rfl, ev_at 67 (by decide +kernel) rfl, cd_X9_swap, ⟨by decide +kernel, by decide +kernel, by decide +kernel⟩⟩
theorem cv_X9_114 : ev_cv RX9 114 m_X9_common 2 := ⟨ev_at 953 (by decide +kernel) rfl, ev_at 955 (by decide +kernel) rfl, ev_at 35 (by decide +kernel) rfl, ev_at 67 (by decide +kernel) rfl, cd_X9_common, ⟨by decide +kernel, by decide +kernel, by decide +kernel⟩⟩
theorem cv_X9_117 : ev_cv RX9 117 m_X9_isOne 1 := ⟨ev_at 982 (by decide +kernel) rfl, ev_at 984 (by decide +kernel) rfl, ev_at 42 (by decide +kernel) rfl, ev_at 67 (by decide +kernel) rfl, cd_X9_isOne, ⟨by decide +kernel, by decide +kernel, by decide +kernel⟩⟩
theorem cv_X9_120 : ev_cv RX9 120 m_X9_quotient 4 := ⟨ev_at 986 (by decide +kernel) rfl, ev_at 988 (by decide +kernel) rfl, ev_at 43 (by decide +kernel) rfl, ev_at 67 (by decide +kernel) rfl, cd_X9_quotient, ⟨by decide +kernel, by decide +kernel, by decide +kernel⟩⟩
theorem cv_X9_124 : ev_cv RX9 124 m_X9_isMember 1 := ⟨ev_at 906 (by decide +kernel) rfl, ev_at 908 (by decide +kernel) rfl, ev_at 26 (by decide +kernel) rfl, ev_at 67 (by decide +kernel) rfl, cd_X9_isMember, ⟨by decide +kernel, by decide +kernel, by decide +kernel⟩⟩
theorem cv_X9_127 : ev_cv RX9 127 m_X9_plain 1 := ⟨ev_at 923 (by decide +kernel) rfl, ev_at 925 (by decide +kernel) rfl, ev_at 28 (by decide +kernel) rfl, ev_at 67 (by decide +kernel) rfl, cd_X9_plain, ⟨by decide +kernel, by decide +kernel, by decide +kernel⟩⟩
theorem cv_X9_131 : ev_cv RX9 131 m_X9_multiply 3 := ⟨ev_at 927 (by decide +kernel) rfl, ev_at 929 (by decide +kernel) rfl, ev_at 29 (by decide +kernel) rfl, ev_at 67 (by decide +kernel) rfl, cd_X9_multiply, ⟨by decide +kernel, by decide +kernel, by decide +kernel⟩⟩
theorem cv_X9_135 : ev_cv RX9 135 m_X9_add 2 := ⟨ev_at 936 (by decide +kernel) rfl, ev_at 938 (by decide +kernel) rfl, ev_at 31 (by decide +kernel) rfl, ev_at 67 (by decide +kernel) rfl, cd_X9_add, ⟨by decide +kernel, by decide +kernel, by decide +kernel⟩⟩
theorem cv_X9_138 : ev_cv RX9 138 m_X9_reduce 2 := ⟨ev_at 949 (by decide +kernel) rfl, ev_at 951 (by decide +kernel) rfl, ev_at 34 (by decide +kernel) rfl, ev_at 67 (by decide +kernel) rfl, cd_X9_reduce, ⟨by decide +kernel, by decide +kernel, by decide +kernel⟩⟩
theorem k_X9_141 : Cond.constant RX9 141 (nI 9999999) ∈ ev_ws := ev_at 905 (by decide +kernel) rfl
theorem cs_X9_142 : ev_cs RX9 142 m_X9_in 3 := ⟨ev_at 899 (by decide +kernel) rfl, ev_at 900 (by decide +kernel) rfl, ev_at 67 (by decide +kernel) rfl, cd_X9_in, ⟨by decide +kernel, by decide +kernel, by decide +kernel⟩⟩
theorem p_X9_66 : ev_fp RX9 66 7 24 .int := ⟨_, _, _, rfl, by decide, ev_at 839 (by decide +kernel) rfl, rfl, by decide +kernel⟩
theorem cs_X9_146 : ev_cs RX9 146 m_X9_fits 2 := ⟨ev_at 902 (by decide +kernel) rfl, ev_at 903 (by decide +kernel) rfl, ev_at 67 (by decide +kernel) rfl, cd_X9_fits, ⟨by decide +kernel, by decide +kernel, by decide +kernel⟩⟩
theorem f_X9_150 : ev_fl RX9 150 7 6 := ⟨_, _, _, rfl, by decide, ev_at 821 (by decide +kernel) rfl⟩
theorem k_X9_154 : Cond.constant RX9 154 (nI 1000000) ∈ ev_ws := ev_at 918 (by decide +kernel) rfl
theorem p_X9_70 : ev_fp RX9 70 7 5 .int := ⟨_, _, _, rfl, by decide, ev_at 820 (by decide +kernel) rfl, rfl, by decide +kernel⟩
theorem p_X9_150 : ev_fp RX9 150 7 6 .boolean := ⟨_, _, _, rfl, by decide, ev_at 821 (by decide +kernel) rfl, rfl, by decide +kernel⟩
theorem cv_X9_155 : ev_cv RX9 155 m_X9_sum 0 := ⟨ev_at 919 (by decide +kernel) rfl, ev_at 921 (by decide +kernel) rfl, ev_at 27 (by decide +kernel) rfl, ev_at 67 (by decide +kernel) rfl, cd_X9_sum, ⟨by decide +kernel, by decide +kernel, by decide +kernel⟩⟩
theorem cv_X9_158 : ev_cv RX9 158 m_X9_scale 2 := ⟨ev_at 994 (by decide +kernel) rfl, ev_at 996 (by decide +kernel) rfl, ev_at 45 (by decide +kernel) rfl, ev_at 67 (by decide +kernel) rfl, cd_X9_scale, ⟨by decide +kernel, by decide +kernel, by decide +kernel⟩⟩
theorem p_X9_161 : ev_fp RX9 161 7 11 .int := ⟨_, _, _, rfl, by decide, ev_at 826 (by decide +kernel) rfl, rfl, by decide +kernel⟩
theorem p_X9_164 : ev_fp RX9 164 7 17 .int := ⟨_, _, _, rfl, by decide, ev_at 832 (by decide +kernel) rfl, rfl, by decide +kernel⟩
theorem p_X9_167 : ev_fp RX9 167 7 20 .int := ⟨_, _, _, rfl, by decide, ev_at 835 (by decide +kernel) rfl, rfl, by decide +kernel⟩
theorem f_X9_161 : ev_fl RX9 161 7 11 := ⟨_, _, _, rfl, by decide, ev_at 826 (by decide +kernel) rfl⟩
theorem f_X9_34 : ev_fl RX9 34 7 12 := ⟨_, _, _, rfl, by decide, ev_at 827 (by decide +kernel) rfl⟩
theorem f_X9_37 : ev_fl RX9 37 7 13 := ⟨_, _, _, rfl, by decide, ev_at 828 (by decide +kernel) rfl⟩
theorem f_X9_40 : ev_fl RX9 40 7 14 := ⟨_, _, _, rfl, by decide, ev_at 829 (by decide +kernel) rfl⟩
theorem f_X9_43 : ev_fl RX9 43 7 15 := ⟨_, _, _, rfl, by decide, ev_at 830 (by decide +kernel) rfl⟩
theorem f_X9_46 : ev_fl RX9 46 7 16 := ⟨_, _, _, rfl, by decide, ev_at 831 (by decide +kernel) rfl⟩
theorem p_X9_170 : ev_fp RX9 170 7 10 .int := ⟨_, _, _, rfl, by decide, ev_at 825 (by decide +kernel) rfl, rfl, by decide +kernel⟩
theorem f_X9_25 : ev_fl RX9 25 7 7 := ⟨_, _, _, rfl, by decide, ev_at 822 (by decide +kernel) rfl⟩
theorem f_X9_28 : ev_fl RX9 28 7 8 := ⟨_, _, _, rfl, by decide, ev_at 823 (by decide +kernel) rfl⟩
theorem f_X9_31 : ev_fl RX9 31 7 9 := ⟨_, _, _, rfl, by decide, ev_at 824 (by decide +kernel) rfl⟩
theorem f_X9_170 : ev_fl RX9 170 7 10 := ⟨_, _, _, rfl, by decide, ev_at 825 (by decide +kernel) rfl⟩
theorem k_X9_173 : Cond.constantLong RX9 173 (lN 9999999) ∈ ev_ws := ev_at 1034 (by decide +kernel) rfl
theorem k_X9_175 : Cond.constantLong RX9 175 (lN 2) ∈ ev_ws := ev_at 1029 (by decide +kernel) rfl
theorem cs_X9_177 : ev_cs RX9 177 m_X9_rounded 2 := ⟨ev_at 1026 (by decide +kernel) rfl, ev_at 1027 (by decide +kernel) rfl, ev_at 67 (by decide +kernel) rfl, cd_X9_rounded, ⟨by decide +kernel, by decide +kernel, by decide +kernel⟩⟩
theorem cv_X9_181 : ev_cv RX9 181 m_X9_become 4 := ⟨ev_at 1030 (by decide +kernel) rfl, ev_at 1032 (by decide +kernel) rfl, ev_at 50 (by decide +kernel) rfl, ev_at 67 (by decide +kernel) rfl, cd_X9_become, ⟨by decide +kernel, by decide +kernel, by decide +kernel⟩⟩
theorem cv_X9_185 : ev_cv RX9 185 m_X9_count 1 := ⟨ev_at 1043 (by decide +kernel) rfl, ev_at 1045 (by decide +kernel) rfl, ev_at 53 (by decide +kernel) rfl, ev_at 67 (by decide +kernel) rfl, cd_X9_count, ⟨by decide +kernel, by decide +kernel, by decide +kernel⟩⟩
theorem k_X9_188 : Cond.constantLong RX9 188 (lN 100) ∈ ev_ws := ev_at 1051 (by decide +kernel) rfl
theorem cv_X9_190 : ev_cv RX9 190 m_X9_split 3 := ⟨ev_at 1022 (by decide +kernel) rfl, ev_at 1024 (by decide +kernel) rfl, ev_at 49 (by decide +kernel) rfl, ev_at 67 (by decide +kernel) rfl, cd_X9_split, ⟨by decide +kernel, by decide +kernel, by decide +kernel⟩⟩
theorem cv_X9_194 : ev_cv RX9 194 m_X9_rights 4 := ⟨ev_at 1035 (by decide +kernel) rfl, ev_at 1037 (by decide +kernel) rfl, ev_at 51 (by decide +kernel) rfl, ev_at 67 (by decide +kernel) rfl, cd_X9_rights, ⟨by decide +kernel, by decide +kernel, by decide +kernel⟩⟩
theorem cv_X9_198 : ev_cv RX9 198 m_X9_dividend 2 := ⟨ev_at 1039 (by decide +kernel) rfl, ev_at 1041 (by decide +kernel) rfl, ev_at 52 (by decide +kernel) rfl, ev_at 67 (by decide +kernel) rfl, cd_X9_dividend, ⟨by decide +kernel, by decide +kernel, by decide +kernel⟩⟩
theorem cv_X9_201 : ev_cv RX9 201 m_X9_cap 1 := ⟨ev_at 1047 (by decide +kernel) rfl, ev_at 1049 (by decide +kernel) rfl, ev_at 54 (by decide +kernel) rfl, ev_at 67 (by decide +kernel) rfl, cd_X9_cap, ⟨by decide +kernel, by decide +kernel, by decide +kernel⟩⟩
theorem cv_X9_204 : ev_cv RX9 204 m_X9_remember 0 := ⟨ev_at 1014 (by decide +kernel) rfl, ev_at 1016 (by decide +kernel) rfl, ev_at 47 (by decide +kernel) rfl, ev_at 67 (by decide +kernel) rfl, cd_X9_remember, ⟨by decide +kernel, by decide +kernel, by decide +kernel⟩⟩
theorem cv_X9_207 : ev_cv RX9 207 m_X9_change 5 := ⟨ev_at 1018 (by decide +kernel) rfl, ev_at 1020 (by decide +kernel) rfl, ev_at 48 (by decide +kernel) rfl, ev_at 67 (by decide +kernel) rfl, cd_X9_change, ⟨by decide +kernel, by decide +kernel, by decide +kernel⟩⟩
theorem cv_X9_211 : ev_cv RX9 211 m_X9_putBack 0 := ⟨ev_at 1052 (by decide +kernel) rfl, ev_at 1054 (by decide +kernel) rfl, ev_at 55 (by decide +kernel) rfl, ev_at 67 (by decide +kernel) rfl, cd_X9_putBack, ⟨by decide +kernel, by decide +kernel, by decide +kernel⟩⟩
theorem f_X9_167 : ev_fl RX9 167 7 20 := ⟨_, _, _, rfl, by decide, ev_at 835 (by decide +kernel) rfl⟩
theorem f_X9_52 : ev_fl RX9 52 7 19 := ⟨_, _, _, rfl, by decide, ev_at 834 (by decide +kernel) rfl⟩
theorem f_X9_164 : ev_fl RX9 164 7 17 := ⟨_, _, _, rfl, by decide, ev_at 832 (by decide +kernel) rfl⟩
theorem f_X9_49 : ev_fl RX9 49 7 18 := ⟨_, _, _, rfl, by decide, ev_at 833 (by decide +kernel) rfl⟩
theorem cv_X9_214 : ev_cv RX9 214 m_X9_perform 1 := ⟨ev_at 1010 (by decide +kernel) rfl, ev_at 1012 (by decide +kernel) rfl, ev_at 46 (by decide +kernel) rfl, ev_at 67 (by decide +kernel) rfl, cd_X9_perform, ⟨by decide +kernel, by decide +kernel, by decide +kernel⟩⟩
theorem f_X9_55 : ev_fl RX9 55 7 21 := ⟨_, _, _, rfl, by decide, ev_at 836 (by decide +kernel) rfl⟩
theorem cv_X9_217 : ev_cv RX9 217 m_X9_level 0 := ⟨ev_at 1056 (by decide +kernel) rfl, ev_at 1057 (by decide +kernel) rfl, ev_at 1058 (by decide +kernel) rfl, ev_at 67 (by decide +kernel) rfl, cd_X9_level, ⟨by decide +kernel, by decide +kernel, by decide +kernel⟩⟩
theorem k_X9_221 : Cond.constantLong RX9 221 (-1) ∈ ev_ws := ev_at 1060 (by decide +kernel) rfl
theorem k_X9_223 : Cond.constantLong RX9 223 (lN 999999999999999999) ∈ ev_ws := ev_at 1061 (by decide +kernel) rfl
theorem k_X9_225 : Cond.constant RX9 225 (nI 1000000000) ∈ ev_ws := ev_at 1083 (by decide +kernel) rfl
theorem f_X9_226 : ev_fl RX9 226 7 22 := ⟨_, _, _, rfl, by decide, ev_at 837 (by decide +kernel) rfl⟩
theorem f_X9_59 : ev_fl RX9 59 7 23 := ⟨_, _, _, rfl, by decide, ev_at 838 (by decide +kernel) rfl⟩
theorem cv_X9_229 : ev_cv RX9 229 m_X9_divide 2 := ⟨ev_at 1092 (by decide +kernel) rfl, ev_at 1094 (by decide +kernel) rfl, ev_at 57 (by decide +kernel) rfl, ev_at 67 (by decide +kernel) rfl, cd_X9_divide, ⟨by decide +kernel, by decide +kernel, by decide +kernel⟩⟩
theorem p_X9_226 : ev_fp RX9 226 7 22 .int := ⟨_, _, _, rfl, by decide, ev_at 837 (by decide +kernel) rfl, rfl, by decide +kernel⟩
theorem cv_X9_232 : ev_cv RX9 232 m_X9_printWhole 1 := ⟨ev_at 1088 (by decide +kernel) rfl, ev_at 1090 (by decide +kernel) rfl, ev_at 56 (by decide +kernel) rfl, ev_at 67 (by decide +kernel) rfl, cd_X9_printWhole, ⟨by decide +kernel, by decide +kernel, by decide +kernel⟩⟩
theorem k_J6_265 : Cond.constant RJ6 265 (nI 1431655765) ∈ ev_ws := ev_at 751 (by decide +kernel) rfl
theorem k_J6_266 : Cond.constant RJ6 266 (nI 858993459) ∈ ev_ws := ev_at 752 (by decide +kernel) rfl
theorem k_J6_267 : Cond.constant RJ6 267 (nI 252645135) ∈ ev_ws := ev_at 753 (by decide +kernel) rfl
theorem cv_L_7 : ev_cv RL 7 m_X8_set 3 := ⟨ev_at 568 (by decide +kernel) rfl, ev_at 569 (by decide +kernel) rfl, ev_at 570 (by decide +kernel) rfl, ev_at 59 (by decide +kernel) rfl, cd_X8_set, ⟨by decide +kernel, by decide +kernel, by decide +kernel⟩⟩
theorem cv_L_17 : ev_cv RL 17 m_X8_get 2 := ⟨ev_at 661 (by decide +kernel) rfl, ev_at 662 (by decide +kernel) rfl, ev_at 663 (by decide +kernel) rfl, ev_at 59 (by decide +kernel) rfl, cd_X8_get, ⟨by decide +kernel, by decide +kernel, by decide +kernel⟩⟩
theorem cv_L_21 : ev_cv RL 21 m_X8_base 2 := ⟨ev_at 668 (by decide +kernel) rfl, ev_at 669 (by decide +kernel) rfl, ev_at 670 (by decide +kernel) rfl, ev_at 59 (by decide +kernel) rfl, cd_X8_base, ⟨by decide +kernel, by decide +kernel, by decide +kernel⟩⟩
theorem cv_L_25 : ev_cv RL 25 m_X8_close 0 := ⟨ev_at 682 (by decide +kernel) rfl, ev_at 683 (by decide +kernel) rfl, ev_at 684 (by decide +kernel) rfl, ev_at 59 (by decide +kernel) rfl, cd_X8_close, ⟨by decide +kernel, by decide +kernel, by decide +kernel⟩⟩
theorem n_L_8 : ev_nw RL 8 6 14 [.null, .null, .null, .null, .null, .null, .null, .null, .null, .null, .null, .int 0, .int 0, .int 0] := ⟨_, _, rfl, ev_at 77 (by decide +kernel) rfl, ev_at 78 (by decide +kernel) rfl, ev_at 59 (by decide +kernel) rfl, tyX8, tyX8_ok, by decide +kernel⟩
theorem ci_L_31 : ev_ci RL 31 m_X8_init 0 := ⟨ev_at 79 (by decide +kernel) rfl, ev_at 80 (by decide +kernel) rfl, ev_at 59 (by decide +kernel) rfl, cd_X8_init, by decide +kernel, rfl, ⟨by decide +kernel, by decide +kernel, by decide +kernel⟩⟩
theorem n_L_32 : ev_nw RL 32 7 25 [.null, .null, .null, .null, .null, .int 0, .int 0, .null, .null, .null, .int 0, .int 0, .null, .null, .null, .null, .null, .int 0, .null, .null, .int 0, .null, .int 0, .null, .int 0] := ⟨_, _, rfl, ev_at 804 (by decide +kernel) rfl, ev_at 805 (by decide +kernel) rfl, ev_at 67 (by decide +kernel) rfl, tyX9, tyX9_ok, by decide +kernel⟩
theorem ci_L_34 : ev_ci RL 34 m_X9_init 0 := ⟨ev_at 806 (by decide +kernel) rfl, ev_at 807 (by decide +kernel) rfl, ev_at 67 (by decide +kernel) rfl, cd_X9_init, by decide +kernel, rfl, ⟨by decide +kernel, by decide +kernel, by decide +kernel⟩⟩
theorem cv_L_40 : ev_cv RL 40 m_X9_set_ 3 := ⟨ev_at 895 (by decide +kernel) rfl, ev_at 896 (by decide +kernel) rfl, ev_at 897 (by decide +kernel) rfl, ev_at 67 (by decide +kernel) rfl, cd_X9_set_, ⟨by decide +kernel, by decide +kernel, by decide +kernel⟩⟩
theorem cv_L_41 : ev_cv RL 41 m_X9_thrown 0 := ⟨ev_at 891 (by decide +kernel) rfl, ev_at 892 (by decide +kernel) rfl, ev_at 893 (by decide +kernel) rfl, ev_at 67 (by decide +kernel) rfl, cd_X9_thrown, ⟨by decide +kernel, by decide +kernel, by decide +kernel⟩⟩
theorem cv_L_47 : ev_cv RL 47 m_X9_get 2 := ⟨ev_at 910 (by decide +kernel) rfl, ev_at 911 (by decide +kernel) rfl, ev_at 912 (by decide +kernel) rfl, ev_at 67 (by decide +kernel) rfl, cd_X9_get, ⟨by decide +kernel, by decide +kernel, by decide +kernel⟩⟩
theorem cv_L_51 : ev_cv RL 51 m_X9_base 2 := ⟨ev_at 914 (by decide +kernel) rfl, ev_at 915 (by decide +kernel) rfl, ev_at 916 (by decide +kernel) rfl, ev_at 67 (by decide +kernel) rfl, cd_X9_base, ⟨by decide +kernel, by decide +kernel, by decide +kernel⟩⟩
theorem cv_L_52 : ev_cv RL 52 m_X8_members 0 := ⟨ev_at 303 (by decide +kernel) rfl, ev_at 304 (by decide +kernel) rfl, ev_at 305 (by decide +kernel) rfl, ev_at 59 (by decide +kernel) rfl, cd_X8_members, ⟨by decide +kernel, by decide +kernel, by decide +kernel⟩⟩
theorem cv_L_55 : ev_cv RL 55 m_X9_members 0 := ⟨ev_at 998 (by decide +kernel) rfl, ev_at 999 (by decide +kernel) rfl, ev_at 1000 (by decide +kernel) rfl, ev_at 67 (by decide +kernel) rfl, cd_X9_members, ⟨by decide +kernel, by decide +kernel, by decide +kernel⟩⟩
theorem cv_L_56 : ev_cv RL 56 m_X8_event 5 := ⟨ev_at 307 (by decide +kernel) rfl, ev_at 308 (by decide +kernel) rfl, ev_at 309 (by decide +kernel) rfl, ev_at 59 (by decide +kernel) rfl, cd_X8_event, ⟨by decide +kernel, by decide +kernel, by decide +kernel⟩⟩
theorem cv_L_60 : ev_cv RL 60 m_X9_event 5 := ⟨ev_at 1002 (by decide +kernel) rfl, ev_at 1003 (by decide +kernel) rfl, ev_at 1004 (by decide +kernel) rfl, ev_at 67 (by decide +kernel) rfl, cd_X9_event, ⟨by decide +kernel, by decide +kernel, by decide +kernel⟩⟩
theorem cv_L_64 : ev_cv RL 64 m_X9_close 0 := ⟨ev_at 1006 (by decide +kernel) rfl, ev_at 1007 (by decide +kernel) rfl, ev_at 1008 (by decide +kernel) rfl, ev_at 67 (by decide +kernel) rfl, cd_X9_close, ⟨by decide +kernel, by decide +kernel, by decide +kernel⟩⟩
theorem cv_L_65 : ev_cv RL 65 m_X8_outcome 1 := ⟨ev_at 322 (by decide +kernel) rfl, ev_at 323 (by decide +kernel) rfl, ev_at 324 (by decide +kernel) rfl, ev_at 59 (by decide +kernel) rfl, cd_X8_outcome, ⟨by decide +kernel, by decide +kernel, by decide +kernel⟩⟩
theorem cv_L_69 : ev_cv RL 69 m_X9_outcome 1 := ⟨ev_at 1062 (by decide +kernel) rfl, ev_at 1063 (by decide +kernel) rfl, ev_at 1064 (by decide +kernel) rfl, ev_at 67 (by decide +kernel) rfl, cd_X9_outcome, ⟨by decide +kernel, by decide +kernel, by decide +kernel⟩⟩
theorem cv_L_70 : ev_cv RL 70 m_X8_noted 1 := ⟨ev_at 330 (by decide +kernel) rfl, ev_at 331 (by decide +kernel) rfl, ev_at 332 (by decide +kernel) rfl, ev_at 59 (by decide +kernel) rfl, cd_X8_noted, ⟨by decide +kernel, by decide +kernel, by decide +kernel⟩⟩
theorem cv_L_73 : ev_cv RL 73 m_X9_noted 1 := ⟨ev_at 1066 (by decide +kernel) rfl, ev_at 1067 (by decide +kernel) rfl, ev_at 1068 (by decide +kernel) rfl, ev_at 67 (by decide +kernel) rfl, cd_X9_noted, ⟨by decide +kernel, by decide +kernel, by decide +kernel⟩⟩
theorem cv_L_74 : ev_cv RL 74 m_X8_days 0 := ⟨ev_at 334 (by decide +kernel) rfl, ev_at 335 (by decide +kernel) rfl, ev_at 336 (by decide +kernel) rfl, ev_at 59 (by decide +kernel) rfl, cd_X8_days, ⟨by decide +kernel, by decide +kernel, by decide +kernel⟩⟩
theorem cv_L_77 : ev_cv RL 77 m_X9_days 0 := ⟨ev_at 1070 (by decide +kernel) rfl, ev_at 1071 (by decide +kernel) rfl, ev_at 1072 (by decide +kernel) rfl, ev_at 67 (by decide +kernel) rfl, cd_X9_days, ⟨by decide +kernel, by decide +kernel, by decide +kernel⟩⟩
theorem cv_L_78 : ev_cv RL 78 m_X8_published 1 := ⟨ev_at 338 (by decide +kernel) rfl, ev_at 339 (by decide +kernel) rfl, ev_at 340 (by decide +kernel) rfl, ev_at 59 (by decide +kernel) rfl, cd_X8_published, ⟨by decide +kernel, by decide +kernel, by decide +kernel⟩⟩
theorem cv_L_82 : ev_cv RL 82 m_X9_published 1 := ⟨ev_at 1074 (by decide +kernel) rfl, ev_at 1075 (by decide +kernel) rfl, ev_at 1076 (by decide +kernel) rfl, ev_at 67 (by decide +kernel) rfl, cd_X9_published, ⟨by decide +kernel, by decide +kernel, by decide +kernel⟩⟩
theorem cv_L_83 : ev_cv RL 83 m_X8_level 0 := ⟨ev_at 343 (by decide +kernel) rfl, ev_at 344 (by decide +kernel) rfl, ev_at 345 (by decide +kernel) rfl, ev_at 59 (by decide +kernel) rfl, cd_X8_level, ⟨by decide +kernel, by decide +kernel, by decide +kernel⟩⟩
theorem cv_L_87 : ev_cv RL 87 m_X9_level 0 := ⟨ev_at 1078 (by decide +kernel) rfl, ev_at 1057 (by decide +kernel) rfl, ev_at 1058 (by decide +kernel) rfl, ev_at 67 (by decide +kernel) rfl, cd_X9_level, ⟨by decide +kernel, by decide +kernel, by decide +kernel⟩⟩
theorem cv_L_88 : ev_cv RL 88 m_X8_weight 1 := ⟨ev_at 490 (by decide +kernel) rfl, ev_at 491 (by decide +kernel) rfl, ev_at 492 (by decide +kernel) rfl, ev_at 59 (by decide +kernel) rfl, cd_X8_weight, ⟨by decide +kernel, by decide +kernel, by decide +kernel⟩⟩
theorem cv_L_91 : ev_cv RL 91 m_X9_weight 1 := ⟨ev_at 1079 (by decide +kernel) rfl, ev_at 1080 (by decide +kernel) rfl, ev_at 1081 (by decide +kernel) rfl, ev_at 67 (by decide +kernel) rfl, cd_X9_weight, ⟨by decide +kernel, by decide +kernel, by decide +kernel⟩⟩
theorem cv_L_92 : ev_cv RL 92 m_X8_print 2 := ⟨ev_at 500 (by decide +kernel) rfl, ev_at 501 (by decide +kernel) rfl, ev_at 502 (by decide +kernel) rfl, ev_at 59 (by decide +kernel) rfl, cd_X8_print, ⟨by decide +kernel, by decide +kernel, by decide +kernel⟩⟩
theorem cv_L_95 : ev_cv RL 95 m_X9_print 2 := ⟨ev_at 1084 (by decide +kernel) rfl, ev_at 1085 (by decide +kernel) rfl, ev_at 1086 (by decide +kernel) rfl, ev_at 67 (by decide +kernel) rfl, cd_X9_print, ⟨by decide +kernel, by decide +kernel, by decide +kernel⟩⟩
theorem cv_L_96 : ev_cv RL 96 m_X8_character 1 := ⟨ev_at 546 (by decide +kernel) rfl, ev_at 547 (by decide +kernel) rfl, ev_at 548 (by decide +kernel) rfl, ev_at 59 (by decide +kernel) rfl, cd_X8_character, ⟨by decide +kernel, by decide +kernel, by decide +kernel⟩⟩
theorem cv_L_99 : ev_cv RL 99 m_X9_character 1 := ⟨ev_at 1096 (by decide +kernel) rfl, ev_at 1097 (by decide +kernel) rfl, ev_at 1098 (by decide +kernel) rfl, ev_at 67 (by decide +kernel) rfl, cd_X9_character, ⟨by decide +kernel, by decide +kernel, by decide +kernel⟩⟩
theorem cv_L_100 : ev_cv RL 100 m_X8_places 1 := ⟨ev_at 550 (by decide +kernel) rfl, ev_at 551 (by decide +kernel) rfl, ev_at 552 (by decide +kernel) rfl, ev_at 59 (by decide +kernel) rfl, cd_X8_places, ⟨by decide +kernel, by decide +kernel, by decide +kernel⟩⟩
theorem cv_L_103 : ev_cv RL 103 m_X9_places 1 := ⟨ev_at 1100 (by decide +kernel) rfl, ev_at 1101 (by decide +kernel) rfl, ev_at 1102 (by decide +kernel) rfl, ev_at 67 (by decide +kernel) rfl, cd_X9_places, ⟨by decide +kernel, by decide +kernel, by decide +kernel⟩⟩
theorem cv_L_104 : ev_cv RL 104 m_X8_check 0 := ⟨ev_at 559 (by decide +kernel) rfl, ev_at 560 (by decide +kernel) rfl, ev_at 561 (by decide +kernel) rfl, ev_at 59 (by decide +kernel) rfl, cd_X8_check, ⟨by decide +kernel, by decide +kernel, by decide +kernel⟩⟩
theorem cv_L_107 : ev_cv RL 107 m_X9_check 0 := ⟨ev_at 1104 (by decide +kernel) rfl, ev_at 1105 (by decide +kernel) rfl, ev_at 1106 (by decide +kernel) rfl, ev_at 67 (by decide +kernel) rfl, cd_X9_check, ⟨by decide +kernel, by decide +kernel, by decide +kernel⟩⟩
end
section
theorem dX0_init_0 : decode cX0_init 0 = .ok (.aload_n 0, 1) := by decide +kernel
theorem dX0_init_1 : decode cX0_init 1 = .ok (.invokespecial 1, 3) := by decide +kernel
theorem dX0_init_4 : decode cX0_init 4 = .ok (.aload_n 0, 1) := by decide +kernel
theorem dX0_init_5 : decode cX0_init 5 = .ok (.bipush 16, 2) := by decide +kernel
theorem dX0_init_7 : decode cX0_init 7 = .ok (.newarray .int, 2) := by decide +kernel
theorem dX0_init_9 : decode cX0_init 9 = .ok (.putfield 9, 3) := by decide +kernel
theorem dX0_init_12 : decode cX0_init 12 = .ok (.aload_n 0, 1) := by decide +kernel
theorem dX0_init_13 : decode cX0_init 13 = .ok (.bipush 16, 2) := by decide +kernel
theorem dX0_init_15 : decode cX0_init 15 = .ok (.newarray .int, 2) := by decide +kernel
theorem dX0_init_17 : decode cX0_init 17 = .ok (.putfield 13, 3) := by decide +kernel
theorem dX0_init_20 : decode cX0_init 20 = .ok (.aload_n 0, 1) := by decide +kernel
theorem dX0_init_21 : decode cX0_init 21 = .ok (.bipush 16, 2) := by decide +kernel
theorem dX0_init_23 : decode cX0_init 23 = .ok (.newarray .int, 2) := by decide +kernel
theorem dX0_init_25 : decode cX0_init 25 = .ok (.putfield 16, 3) := by decide +kernel
theorem dX0_init_28 : decode cX0_init 28 = .ok (.aload_n 0, 1) := by decide +kernel
theorem dX0_init_29 : decode cX0_init 29 = .ok (.bipush 16, 2) := by decide +kernel
theorem dX0_init_31 : decode cX0_init 31 = .ok (.newarray .int, 2) := by decide +kernel
theorem dX0_init_33 : decode cX0_init 33 = .ok (.putfield 19, 3) := by decide +kernel
theorem dX0_init_36 : decode cX0_init 36 = .ok (.aload_n 0, 1) := by decide +kernel
theorem dX0_init_37 : decode cX0_init 37 = .ok (.bipush 16, 2) := by decide +kernel
theorem dX0_init_39 : decode cX0_init 39 = .ok (.newarray .int, 2) := by decide +kernel
theorem dX0_init_41 : decode cX0_init 41 = .ok (.putfield 22, 3) := by decide +kernel
theorem dX0_init_44 : decode cX0_init 44 = .ok (.aload_n 0, 1) := by decide +kernel
theorem dX0_init_45 : decode cX0_init 45 = .ok (.bipush 16, 2) := by decide +kernel
theorem dX0_init_47 : decode cX0_init 47 = .ok (.newarray .int, 2) := by decide +kernel
theorem dX0_init_49 : decode cX0_init 49 = .ok (.putfield 25, 3) := by decide +kernel
theorem dX0_init_52 : decode cX0_init 52 = .ok (.aload_n 0, 1) := by decide +kernel
theorem dX0_init_53 : decode cX0_init 53 = .ok (.bipush 16, 2) := by decide +kernel
theorem dX0_init_55 : decode cX0_init 55 = .ok (.newarray .int, 2) := by decide +kernel
theorem dX0_init_57 : decode cX0_init 57 = .ok (.putfield 28, 3) := by decide +kernel
theorem dX0_init_60 : decode cX0_init 60 = .ok (.return_, 1) := by decide +kernel
theorem dX0_forget_0 : decode cX0_forget 0 = .ok (.aload_n 0, 1) := by decide +kernel
theorem dX0_forget_1 : decode cX0_forget 1 = .ok (.iconst 0, 1) := by decide +kernel
theorem dX0_forget_2 : decode cX0_forget 2 = .ok (.putfield 31, 3) := by decide +kernel
theorem dX0_forget_5 : decode cX0_forget 5 = .ok (.aload_n 0, 1) := by decide +kernel
theorem dX0_forget_6 : decode cX0_forget 6 = .ok (.iconst 0, 1) := by decide +kernel
theorem dX0_forget_7 : decode cX0_forget 7 = .ok (.putfield 35, 3) := by decide +kernel
theorem dX0_forget_10 : decode cX0_forget 10 = .ok (.return_, 1) := by decide +kernel
theorem dX0_isFull_0 : decode cX0_isFull 0 = .ok (.aload_n 0, 1) := by decide +kernel
theorem dX0_isFull_1 : decode cX0_isFull 1 = .ok (.getfield 31, 3) := by decide +kernel
theorem dX0_isFull_4 : decode cX0_isFull 4 = .ok (.bipush 16, 2) := by decide +kernel
theorem dX0_isFull_6 : decode cX0_isFull 6 = .ok (.if_icmp .lt 7, 3) := by decide +kernel
theorem dX0_isFull_9 : decode cX0_isFull 9 = .ok (.iconst 1, 1) := by decide +kernel
theorem dX0_isFull_10 : decode cX0_isFull 10 = .ok (.goto 4, 3) := by decide +kernel
theorem dX0_isFull_13 : decode cX0_isFull 13 = .ok (.iconst 0, 1) := by decide +kernel
theorem dX0_isFull_14 : decode cX0_isFull 14 = .ok (.ireturn, 1) := by decide +kernel
theorem dX0_wasArranged_0 : decode cX0_wasArranged 0 = .ok (.iload_n 1, 1) := by decide +kernel
theorem dX0_wasArranged_1 : decode cX0_wasArranged 1 = .ok (.ifCond .lt 15, 3) := by decide +kernel
theorem dX0_wasArranged_4 : decode cX0_wasArranged 4 = .ok (.iload_n 1, 1) := by decide +kernel
theorem dX0_wasArranged_5 : decode cX0_wasArranged 5 = .ok (.aload_n 0, 1) := by decide +kernel
theorem dX0_wasArranged_6 : decode cX0_wasArranged 6 = .ok (.getfield 35, 3) := by decide +kernel
theorem dX0_wasArranged_9 : decode cX0_wasArranged 9 = .ok (.if_icmp .ge 7, 3) := by decide +kernel
theorem dX0_wasArranged_12 : decode cX0_wasArranged 12 = .ok (.iconst 1, 1) := by decide +kernel
theorem dX0_wasArranged_13 : decode cX0_wasArranged 13 = .ok (.goto 4, 3) := by decide +kernel
theorem dX0_wasArranged_16 : decode cX0_wasArranged 16 = .ok (.iconst 0, 1) := by decide +kernel
theorem dX0_wasArranged_17 : decode cX0_wasArranged 17 = .ok (.ireturn, 1) := by decide +kernel
theorem dX0_note_0 : decode cX0_note 0 = .ok (.aload_n 0, 1) := by decide +kernel
theorem dX0_note_1 : decode cX0_note 1 = .ok (.getfield 9, 3) := by decide +kernel
theorem dX0_note_4 : decode cX0_note 4 = .ok (.aload_n 0, 1) := by decide +kernel
theorem dX0_note_5 : decode cX0_note 5 = .ok (.getfield 31, 3) := by decide +kernel
theorem dX0_note_8 : decode cX0_note 8 = .ok (.iload_n 1, 1) := by decide +kernel
theorem dX0_note_9 : decode cX0_note 9 = .ok (.iastore, 1) := by decide +kernel
theorem dX0_note_10 : decode cX0_note 10 = .ok (.aload_n 0, 1) := by decide +kernel
theorem dX0_note_11 : decode cX0_note 11 = .ok (.getfield 13, 3) := by decide +kernel
theorem dX0_note_14 : decode cX0_note 14 = .ok (.aload_n 0, 1) := by decide +kernel
theorem dX0_note_15 : decode cX0_note 15 = .ok (.getfield 31, 3) := by decide +kernel
theorem dX0_note_18 : decode cX0_note 18 = .ok (.iload_n 2, 1) := by decide +kernel
theorem dX0_note_19 : decode cX0_note 19 = .ok (.iastore, 1) := by decide +kernel
theorem dX0_note_20 : decode cX0_note 20 = .ok (.aload_n 0, 1) := by decide +kernel
theorem dX0_note_21 : decode cX0_note 21 = .ok (.getfield 16, 3) := by decide +kernel
theorem dX0_note_24 : decode cX0_note 24 = .ok (.aload_n 0, 1) := by decide +kernel
theorem dX0_note_25 : decode cX0_note 25 = .ok (.getfield 31, 3) := by decide +kernel
theorem dX0_note_28 : decode cX0_note 28 = .ok (.iload_n 3, 1) := by decide +kernel
theorem dX0_note_29 : decode cX0_note 29 = .ok (.iastore, 1) := by decide +kernel
theorem dX0_note_30 : decode cX0_note 30 = .ok (.aload_n 0, 1) := by decide +kernel
theorem dX0_note_31 : decode cX0_note 31 = .ok (.getfield 19, 3) := by decide +kernel
theorem dX0_note_34 : decode cX0_note 34 = .ok (.aload_n 0, 1) := by decide +kernel
theorem dX0_note_35 : decode cX0_note 35 = .ok (.getfield 31, 3) := by decide +kernel
theorem dX0_note_38 : decode cX0_note 38 = .ok (.iload 4, 2) := by decide +kernel
theorem dX0_note_40 : decode cX0_note 40 = .ok (.iastore, 1) := by decide +kernel
theorem dX0_note_41 : decode cX0_note 41 = .ok (.aload_n 0, 1) := by decide +kernel
theorem dX0_note_42 : decode cX0_note 42 = .ok (.getfield 22, 3) := by decide +kernel
theorem dX0_note_45 : decode cX0_note 45 = .ok (.aload_n 0, 1) := by decide +kernel
theorem dX0_note_46 : decode cX0_note 46 = .ok (.getfield 31, 3) := by decide +kernel
theorem dX0_note_49 : decode cX0_note 49 = .ok (.iload 5, 2) := by decide +kernel
theorem dX0_note_51 : decode cX0_note 51 = .ok (.iastore, 1) := by decide +kernel
theorem dX0_note_52 : decode cX0_note 52 = .ok (.aload_n 0, 1) := by decide +kernel
theorem dX0_note_53 : decode cX0_note 53 = .ok (.dup, 1) := by decide +kernel
theorem dX0_note_54 : decode cX0_note 54 = .ok (.getfield 31, 3) := by decide +kernel
theorem dX0_note_57 : decode cX0_note 57 = .ok (.iconst 1, 1) := by decide +kernel
theorem dX0_note_58 : decode cX0_note 58 = .ok (.iadd, 1) := by decide +kernel
theorem dX0_note_59 : decode cX0_note 59 = .ok (.putfield 31, 3) := by decide +kernel
theorem dX0_note_62 : decode cX0_note 62 = .ok (.aload_n 0, 1) := by decide +kernel
theorem dX0_note_63 : decode cX0_note 63 = .ok (.getfield 31, 3) := by decide +kernel
theorem dX0_note_66 : decode cX0_note 66 = .ok (.ireturn, 1) := by decide +kernel
theorem dX0_arrange_0 : decode cX0_arrange 0 = .ok (.iconst 0, 1) := by decide +kernel
theorem dX0_arrange_1 : decode cX0_arrange 1 = .ok (.istore_n 1, 1) := by decide +kernel
theorem dX0_arrange_2 : decode cX0_arrange 2 = .ok (.iload_n 1, 1) := by decide +kernel
theorem dX0_arrange_3 : decode cX0_arrange 3 = .ok (.aload_n 0, 1) := by decide +kernel
theorem dX0_arrange_4 : decode cX0_arrange 4 = .ok (.getfield 31, 3) := by decide +kernel
theorem dX0_arrange_7 : decode cX0_arrange 7 = .ok (.if_icmp .ge 58, 3) := by decide +kernel
theorem dX0_arrange_10 : decode cX0_arrange 10 = .ok (.iload_n 1, 1) := by decide +kernel
theorem dX0_arrange_11 : decode cX0_arrange 11 = .ok (.istore_n 2, 1) := by decide +kernel
theorem dX0_arrange_12 : decode cX0_arrange 12 = .ok (.iload_n 2, 1) := by decide +kernel
theorem dX0_arrange_13 : decode cX0_arrange 13 = .ok (.ifCond .le 39, 3) := by decide +kernel
theorem dX0_arrange_16 : decode cX0_arrange 16 = .ok (.aload_n 0, 1) := by decide +kernel
theorem dX0_arrange_17 : decode cX0_arrange 17 = .ok (.iload_n 1, 1) := by decide +kernel
theorem dX0_arrange_18 : decode cX0_arrange 18 = .ok (.aload_n 0, 1) := by decide +kernel
theorem dX0_arrange_19 : decode cX0_arrange 19 = .ok (.getfield 25, 3) := by decide +kernel
theorem dX0_arrange_22 : decode cX0_arrange 22 = .ok (.iload_n 2, 1) := by decide +kernel
theorem dX0_arrange_23 : decode cX0_arrange 23 = .ok (.iconst 1, 1) := by decide +kernel
theorem dX0_arrange_24 : decode cX0_arrange 24 = .ok (.isub, 1) := by decide +kernel
theorem dX0_arrange_25 : decode cX0_arrange 25 = .ok (.iaload, 1) := by decide +kernel
theorem dX0_arrange_26 : decode cX0_arrange 26 = .ok (.invokevirtual 38, 3) := by decide +kernel
theorem dX0_arrange_29 : decode cX0_arrange 29 = .ok (.ifCond .eq 23, 3) := by decide +kernel
theorem dX0_arrange_32 : decode cX0_arrange 32 = .ok (.aload_n 0, 1) := by decide +kernel
theorem dX0_arrange_33 : decode cX0_arrange 33 = .ok (.getfield 25, 3) := by decide +kernel
theorem dX0_arrange_36 : decode cX0_arrange 36 = .ok (.iload_n 2, 1) := by decide +kernel
theorem dX0_arrange_37 : decode cX0_arrange 37 = .ok (.aload_n 0, 1) := by decide +kernel
theorem dX0_arrange_38 : decode cX0_arrange 38 = .ok (.getfield 25, 3) := by decide +kernel
theorem dX0_arrange_41 : decode cX0_arrange 41 = .ok (.iload_n 2, 1) := by decide +kernel
theorem dX0_arrange_42 : decode cX0_arrange 42 = .ok (.iconst 1, 1) := by decide +kernel
theorem dX0_arrange_43 : decode cX0_arrange 43 = .ok (.isub, 1) := by decide +kernel
theorem dX0_arrange_44 : decode cX0_arrange 44 = .ok (.iaload, 1) := by decide +kernel
theorem dX0_arrange_45 : decode cX0_arrange 45 = .ok (.iastore, 1) := by decide +kernel
theorem dX0_arrange_46 : decode cX0_arrange 46 = .ok (.iinc 2 (-1), 3) := by decide +kernel
theorem dX0_arrange_49 : decode cX0_arrange 49 = .ok (.goto (-37), 3) := by decide +kernel
theorem dX0_arrange_52 : decode cX0_arrange 52 = .ok (.aload_n 0, 1) := by decide +kernel
theorem dX0_arrange_53 : decode cX0_arrange 53 = .ok (.getfield 25, 3) := by decide +kernel
theorem dX0_arrange_56 : decode cX0_arrange 56 = .ok (.iload_n 2, 1) := by decide +kernel
theorem dX0_arrange_57 : decode cX0_arrange 57 = .ok (.iload_n 1, 1) := by decide +kernel
theorem dX0_arrange_58 : decode cX0_arrange 58 = .ok (.iastore, 1) := by decide +kernel
theorem dX0_arrange_59 : decode cX0_arrange 59 = .ok (.iinc 1 1, 3) := by decide +kernel
theorem dX0_arrange_62 : decode cX0_arrange 62 = .ok (.goto (-60), 3) := by decide +kernel
theorem dX0_arrange_65 : decode cX0_arrange 65 = .ok (.aload_n 0, 1) := by decide +kernel
theorem dX0_arrange_66 : decode cX0_arrange 66 = .ok (.aload_n 0, 1) := by decide +kernel
theorem dX0_arrange_67 : decode cX0_arrange 67 = .ok (.getfield 31, 3) := by decide +kernel
theorem dX0_arrange_70 : decode cX0_arrange 70 = .ok (.putfield 35, 3) := by decide +kernel
theorem dX0_arrange_73 : decode cX0_arrange 73 = .ok (.aload_n 0, 1) := by decide +kernel
theorem dX0_arrange_74 : decode cX0_arrange 74 = .ok (.iconst 0, 1) := by decide +kernel
theorem dX0_arrange_75 : decode cX0_arrange 75 = .ok (.putfield 31, 3) := by decide +kernel
theorem dX0_arrange_78 : decode cX0_arrange 78 = .ok (.return_, 1) := by decide +kernel
theorem dX0_isBefore_0 : decode cX0_isBefore 0 = .ok (.aload_n 0, 1) := by decide +kernel
theorem dX0_isBefore_1 : decode cX0_isBefore 1 = .ok (.getfield 9, 3) := by decide +kernel
theorem dX0_isBefore_4 : decode cX0_isBefore 4 = .ok (.iload_n 1, 1) := by decide +kernel
theorem dX0_isBefore_5 : decode cX0_isBefore 5 = .ok (.iaload, 1) := by decide +kernel
theorem dX0_isBefore_6 : decode cX0_isBefore 6 = .ok (.aload_n 0, 1) := by decide +kernel
theorem dX0_isBefore_7 : decode cX0_isBefore 7 = .ok (.getfield 9, 3) := by decide +kernel
theorem dX0_isBefore_10 : decode cX0_isBefore 10 = .ok (.iload_n 2, 1) := by decide +kernel
theorem dX0_isBefore_11 : decode cX0_isBefore 11 = .ok (.iaload, 1) := by decide +kernel
theorem dX0_isBefore_12 : decode cX0_isBefore 12 = .ok (.if_icmp .eq 24, 3) := by decide +kernel
theorem dX0_isBefore_15 : decode cX0_isBefore 15 = .ok (.aload_n 0, 1) := by decide +kernel
theorem dX0_isBefore_16 : decode cX0_isBefore 16 = .ok (.getfield 9, 3) := by decide +kernel
theorem dX0_isBefore_19 : decode cX0_isBefore 19 = .ok (.iload_n 1, 1) := by decide +kernel
theorem dX0_isBefore_20 : decode cX0_isBefore 20 = .ok (.iaload, 1) := by decide +kernel
theorem dX0_isBefore_21 : decode cX0_isBefore 21 = .ok (.aload_n 0, 1) := by decide +kernel
theorem dX0_isBefore_22 : decode cX0_isBefore 22 = .ok (.getfield 9, 3) := by decide +kernel
theorem dX0_isBefore_25 : decode cX0_isBefore 25 = .ok (.iload_n 2, 1) := by decide +kernel
theorem dX0_isBefore_26 : decode cX0_isBefore 26 = .ok (.iaload, 1) := by decide +kernel
theorem dX0_isBefore_27 : decode cX0_isBefore 27 = .ok (.if_icmp .ge 7, 3) := by decide +kernel
theorem dX0_isBefore_30 : decode cX0_isBefore 30 = .ok (.iconst 1, 1) := by decide +kernel
theorem dX0_isBefore_31 : decode cX0_isBefore 31 = .ok (.goto 4, 3) := by decide +kernel
theorem dX0_isBefore_34 : decode cX0_isBefore 34 = .ok (.iconst 0, 1) := by decide +kernel
theorem dX0_isBefore_35 : decode cX0_isBefore 35 = .ok (.ireturn, 1) := by decide +kernel
theorem dX0_isBefore_36 : decode cX0_isBefore 36 = .ok (.aload_n 0, 1) := by decide +kernel
theorem dX0_isBefore_37 : decode cX0_isBefore 37 = .ok (.getfield 13, 3) := by decide +kernel
theorem dX0_isBefore_40 : decode cX0_isBefore 40 = .ok (.iload_n 1, 1) := by decide +kernel
theorem dX0_isBefore_41 : decode cX0_isBefore 41 = .ok (.iaload, 1) := by decide +kernel
theorem dX0_isBefore_42 : decode cX0_isBefore 42 = .ok (.aload_n 0, 1) := by decide +kernel
theorem dX0_isBefore_43 : decode cX0_isBefore 43 = .ok (.getfield 13, 3) := by decide +kernel
theorem dX0_isBefore_46 : decode cX0_isBefore 46 = .ok (.iload_n 2, 1) := by decide +kernel
theorem dX0_isBefore_47 : decode cX0_isBefore 47 = .ok (.iaload, 1) := by decide +kernel
theorem dX0_isBefore_48 : decode cX0_isBefore 48 = .ok (.if_icmp .ge 7, 3) := by decide +kernel
theorem dX0_isBefore_51 : decode cX0_isBefore 51 = .ok (.iconst 1, 1) := by decide +kernel
theorem dX0_isBefore_52 : decode cX0_isBefore 52 = .ok (.goto 4, 3) := by decide +kernel
theorem dX0_isBefore_55 : decode cX0_isBefore 55 = .ok (.iconst 0, 1) := by decide +kernel
theorem dX0_isBefore_56 : decode cX0_isBefore 56 = .ok (.ireturn, 1) := by decide +kernel
theorem dX1_init_0 : decode cX1_init 0 = .ok (.aload_n 0, 1) := by decide +kernel
theorem dX1_init_1 : decode cX1_init 1 = .ok (.invokespecial 1, 3) := by decide +kernel
theorem dX1_init_4 : decode cX1_init 4 = .ok (.aload_n 0, 1) := by decide +kernel
theorem dX1_init_5 : decode cX1_init 5 = .ok (.new 7, 3) := by decide +kernel
theorem dX1_init_8 : decode cX1_init 8 = .ok (.dup, 1) := by decide +kernel
theorem dX1_init_9 : decode cX1_init 9 = .ok (.invokespecial 9, 3) := by decide +kernel
theorem dX1_init_12 : decode cX1_init 12 = .ok (.putfield 10, 3) := by decide +kernel
theorem dX1_init_15 : decode cX1_init 15 = .ok (.aload_n 0, 1) := by decide +kernel
theorem dX1_init_16 : decode cX1_init 16 = .ok (.new 7, 3) := by decide +kernel
theorem dX1_init_19 : decode cX1_init 19 = .ok (.dup, 1) := by decide +kernel
theorem dX1_init_20 : decode cX1_init 20 = .ok (.invokespecial 9, 3) := by decide +kernel
theorem dX1_init_23 : decode cX1_init 23 = .ok (.putfield 16, 3) := by decide +kernel
theorem dX1_init_26 : decode cX1_init 26 = .ok (.aload_n 0, 1) := by decide +kernel
theorem dX1_init_27 : decode cX1_init 27 = .ok (.new 7, 3) := by decide +kernel
theorem dX1_init_30 : decode cX1_init 30 = .ok (.dup, 1) := by decide +kernel
theorem dX1_init_31 : decode cX1_init 31 = .ok (.invokespecial 9, 3) := by decide +kernel
theorem dX1_init_34 : decode cX1_init 34 = .ok (.putfield 19, 3) := by decide +kernel
theorem dX1_init_37 : decode cX1_init 37 = .ok (.aload_n 0, 1) := by decide +kernel
theorem dX1_init_38 : decode cX1_init 38 = .ok (.new 7, 3) := by decide +kernel
theorem dX1_init_41 : decode cX1_init 41 = .ok (.dup, 1) := by decide +kernel
theorem dX1_init_42 : decode cX1_init 42 = .ok (.invokespecial 9, 3) := by decide +kernel
theorem dX1_init_45 : decode cX1_init 45 = .ok (.putfield 22, 3) := by decide +kernel
theorem dX1_init_48 : decode cX1_init 48 = .ok (.aload_n 0, 1) := by decide +kernel
theorem dX1_init_49 : decode cX1_init 49 = .ok (.new 7, 3) := by decide +kernel
theorem dX1_init_52 : decode cX1_init 52 = .ok (.dup, 1) := by decide +kernel
theorem dX1_init_53 : decode cX1_init 53 = .ok (.invokespecial 9, 3) := by decide +kernel
theorem dX1_init_56 : decode cX1_init 56 = .ok (.putfield 25, 3) := by decide +kernel
theorem dX1_init_59 : decode cX1_init 59 = .ok (.aload_n 0, 1) := by decide +kernel
theorem dX1_init_60 : decode cX1_init 60 = .ok (.new 7, 3) := by decide +kernel
theorem dX1_init_63 : decode cX1_init 63 = .ok (.dup, 1) := by decide +kernel
theorem dX1_init_64 : decode cX1_init 64 = .ok (.invokespecial 9, 3) := by decide +kernel
theorem dX1_init_67 : decode cX1_init 67 = .ok (.putfield 28, 3) := by decide +kernel
theorem dX1_init_70 : decode cX1_init 70 = .ok (.aload_n 0, 1) := by decide +kernel
theorem dX1_init_71 : decode cX1_init 71 = .ok (.new 7, 3) := by decide +kernel
theorem dX1_init_74 : decode cX1_init 74 = .ok (.dup, 1) := by decide +kernel
theorem dX1_init_75 : decode cX1_init 75 = .ok (.invokespecial 9, 3) := by decide +kernel
theorem dX1_init_78 : decode cX1_init 78 = .ok (.putfield 31, 3) := by decide +kernel
theorem dX1_init_81 : decode cX1_init 81 = .ok (.aload_n 0, 1) := by decide +kernel
theorem dX1_init_82 : decode cX1_init 82 = .ok (.new 7, 3) := by decide +kernel
theorem dX1_init_85 : decode cX1_init 85 = .ok (.dup, 1) := by decide +kernel
theorem dX1_init_86 : decode cX1_init 86 = .ok (.invokespecial 9, 3) := by decide +kernel
theorem dX1_init_89 : decode cX1_init 89 = .ok (.putfield 34, 3) := by decide +kernel
theorem dX1_init_92 : decode cX1_init 92 = .ok (.aload_n 0, 1) := by decide +kernel
theorem dX1_init_93 : decode cX1_init 93 = .ok (.new 7, 3) := by decide +kernel
theorem dX1_init_96 : decode cX1_init 96 = .ok (.dup, 1) := by decide +kernel
theorem dX1_init_97 : decode cX1_init 97 = .ok (.invokespecial 9, 3) := by decide +kernel
theorem dX1_init_100 : decode cX1_init 100 = .ok (.putfield 37, 3) := by decide +kernel
theorem dX1_init_103 : decode cX1_init 103 = .ok (.return_, 1) := by decide +kernel
theorem dX1_commonDivisor_0 : decode cX1_commonDivisor 0 = .ok (.lload_n 0, 1) := by decide +kernel
theorem dX1_commonDivisor_1 : decode cX1_commonDivisor 1 = .ok (.lstore 4, 2) := by decide +kernel
theorem dX1_commonDivisor_3 : decode cX1_commonDivisor 3 = .ok (.lload_n 2, 1) := by decide +kernel
theorem dX1_commonDivisor_4 : decode cX1_commonDivisor 4 = .ok (.lstore 6, 2) := by decide +kernel
theorem dX1_commonDivisor_6 : decode cX1_commonDivisor 6 = .ok (.iconst 0, 1) := by decide +kernel
theorem dX1_commonDivisor_7 : decode cX1_commonDivisor 7 = .ok (.istore 8, 2) := by decide +kernel
theorem dX1_commonDivisor_9 : decode cX1_commonDivisor 9 = .ok (.iload 8, 2) := by decide +kernel
theorem dX1_commonDivisor_11 : decode cX1_commonDivisor 11 = .ok (.sipush 10000, 3) := by decide +kernel
theorem dX1_commonDivisor_14 : decode cX1_commonDivisor 14 = .ok (.if_icmp .ge 31, 3) := by decide +kernel
theorem dX1_commonDivisor_17 : decode cX1_commonDivisor 17 = .ok (.lload 6, 2) := by decide +kernel
theorem dX1_commonDivisor_19 : decode cX1_commonDivisor 19 = .ok (.lconst 0, 1) := by decide +kernel
theorem dX1_commonDivisor_20 : decode cX1_commonDivisor 20 = .ok (.lcmp, 1) := by decide +kernel
theorem dX1_commonDivisor_21 : decode cX1_commonDivisor 21 = .ok (.ifCond .eq 24, 3) := by decide +kernel
theorem dX1_commonDivisor_24 : decode cX1_commonDivisor 24 = .ok (.lload 4, 2) := by decide +kernel
theorem dX1_commonDivisor_26 : decode cX1_commonDivisor 26 = .ok (.lload 6, 2) := by decide +kernel
theorem dX1_commonDivisor_28 : decode cX1_commonDivisor 28 = .ok (.lrem, 1) := by decide +kernel
theorem dX1_commonDivisor_29 : decode cX1_commonDivisor 29 = .ok (.lstore 9, 2) := by decide +kernel
theorem dX1_commonDivisor_31 : decode cX1_commonDivisor 31 = .ok (.lload 6, 2) := by decide +kernel
theorem dX1_commonDivisor_33 : decode cX1_commonDivisor 33 = .ok (.lstore 4, 2) := by decide +kernel
theorem dX1_commonDivisor_35 : decode cX1_commonDivisor 35 = .ok (.lload 9, 2) := by decide +kernel
theorem dX1_commonDivisor_37 : decode cX1_commonDivisor 37 = .ok (.lstore 6, 2) := by decide +kernel
theorem dX1_commonDivisor_39 : decode cX1_commonDivisor 39 = .ok (.iinc 8 1, 3) := by decide +kernel
theorem dX1_commonDivisor_42 : decode cX1_commonDivisor 42 = .ok (.goto (-33), 3) := by decide +kernel
theorem dX1_commonDivisor_45 : decode cX1_commonDivisor 45 = .ok (.lload 4, 2) := by decide +kernel
theorem dX1_commonDivisor_47 : decode cX1_commonDivisor 47 = .ok (.lreturn, 1) := by decide +kernel
theorem dX1_multiply_0 : decode cX1_multiply 0 = .ok (.aload_n 0, 1) := by decide +kernel
theorem dX1_multiply_1 : decode cX1_multiply 1 = .ok (.getfield 22, 3) := by decide +kernel
theorem dX1_multiply_4 : decode cX1_multiply 4 = .ok (.aload_n 1, 1) := by decide +kernel
theorem dX1_multiply_5 : decode cX1_multiply 5 = .ok (.aload_n 2, 1) := by decide +kernel
theorem dX1_multiply_6 : decode cX1_multiply 6 = .ok (.invokevirtual 40, 3) := by decide +kernel
theorem dX1_multiply_9 : decode cX1_multiply 9 = .ok (.aload_n 1, 1) := by decide +kernel
theorem dX1_multiply_10 : decode cX1_multiply 10 = .ok (.aload_n 0, 1) := by decide +kernel
theorem dX1_multiply_11 : decode cX1_multiply 11 = .ok (.getfield 22, 3) := by decide +kernel
theorem dX1_multiply_14 : decode cX1_multiply 14 = .ok (.invokevirtual 44, 3) := by decide +kernel
theorem dX1_multiply_17 : decode cX1_multiply 17 = .ok (.return_, 1) := by decide +kernel
theorem dX1_scale_0 : decode cX1_scale 0 = .ok (.aload_n 0, 1) := by decide +kernel
theorem dX1_scale_1 : decode cX1_scale 1 = .ok (.getfield 25, 3) := by decide +kernel
theorem dX1_scale_4 : decode cX1_scale 4 = .ok (.lload_n 2, 1) := by decide +kernel
theorem dX1_scale_5 : decode cX1_scale 5 = .ok (.invokevirtual 48, 3) := by decide +kernel
theorem dX1_scale_8 : decode cX1_scale 8 = .ok (.aload_n 0, 1) := by decide +kernel
theorem dX1_scale_9 : decode cX1_scale 9 = .ok (.aload_n 1, 1) := by decide +kernel
theorem dX1_scale_10 : decode cX1_scale 10 = .ok (.aload_n 0, 1) := by decide +kernel
theorem dX1_scale_11 : decode cX1_scale 11 = .ok (.getfield 25, 3) := by decide +kernel
theorem dX1_scale_14 : decode cX1_scale 14 = .ok (.invokevirtual 52, 3) := by decide +kernel
theorem dX1_scale_17 : decode cX1_scale 17 = .ok (.return_, 1) := by decide +kernel
theorem dX1_divide_0 : decode cX1_divide 0 = .ok (.aload_n 0, 1) := by decide +kernel
theorem dX1_divide_1 : decode cX1_divide 1 = .ok (.getfield 10, 3) := by decide +kernel
theorem dX1_divide_4 : decode cX1_divide 4 = .ok (.lconst 0, 1) := by decide +kernel
theorem dX1_divide_5 : decode cX1_divide 5 = .ok (.invokevirtual 48, 3) := by decide +kernel
theorem dX1_divide_8 : decode cX1_divide 8 = .ok (.aload_n 2, 1) := by decide +kernel
theorem dX1_divide_9 : decode cX1_divide 9 = .ok (.invokevirtual 55, 3) := by decide +kernel
theorem dX1_divide_12 : decode cX1_divide 12 = .ok (.ifCond .ne 11, 3) := by decide +kernel
theorem dX1_divide_15 : decode cX1_divide 15 = .ok (.aload_n 1, 1) := by decide +kernel
theorem dX1_divide_16 : decode cX1_divide 16 = .ok (.aload_n 2, 1) := by decide +kernel
theorem dX1_divide_17 : decode cX1_divide 17 = .ok (.invokevirtual 59, 3) := by decide +kernel
theorem dX1_divide_20 : decode cX1_divide 20 = .ok (.ifCond .ge 4, 3) := by decide +kernel
theorem dX1_divide_23 : decode cX1_divide 23 = .ok (.return_, 1) := by decide +kernel
theorem dX1_divide_24 : decode cX1_divide 24 = .ok (.aload_n 2, 1) := by decide +kernel
theorem dX1_divide_25 : decode cX1_divide 25 = .ok (.getfield 63, 3) := by decide +kernel
theorem dX1_divide_28 : decode cX1_divide 28 = .ok (.iconst 1, 1) := by decide +kernel
theorem dX1_divide_29 : decode cX1_divide 29 = .ok (.if_icmp .ne 30, 3) := by decide +kernel
theorem dX1_divide_32 : decode cX1_divide 32 = .ok (.aload_n 0, 1) := by decide +kernel
theorem dX1_divide_33 : decode cX1_divide 33 = .ok (.getfield 10, 3) := by decide +kernel
theorem dX1_divide_36 : decode cX1_divide 36 = .ok (.aload_n 1, 1) := by decide +kernel
theorem dX1_divide_37 : decode cX1_divide 37 = .ok (.invokevirtual 44, 3) := by decide +kernel
theorem dX1_divide_40 : decode cX1_divide 40 = .ok (.aload_n 1, 1) := by decide +kernel
theorem dX1_divide_41 : decode cX1_divide 41 = .ok (.aload_n 0, 1) := by decide +kernel
theorem dX1_divide_42 : decode cX1_divide 42 = .ok (.getfield 10, 3) := by decide +kernel
theorem dX1_divide_45 : decode cX1_divide 45 = .ok (.aload_n 2, 1) := by decide +kernel
theorem dX1_divide_46 : decode cX1_divide 46 = .ok (.getfield 67, 3) := by decide +kernel
theorem dX1_divide_49 : decode cX1_divide 49 = .ok (.iconst 0, 1) := by decide +kernel
theorem dX1_divide_50 : decode cX1_divide 50 = .ok (.iaload, 1) := by decide +kernel
theorem dX1_divide_51 : decode cX1_divide 51 = .ok (.invokevirtual 71, 3) := by decide +kernel
theorem dX1_divide_54 : decode cX1_divide 54 = .ok (.i2l, 1) := by decide +kernel
theorem dX1_divide_55 : decode cX1_divide 55 = .ok (.invokevirtual 48, 3) := by decide +kernel
theorem dX1_divide_58 : decode cX1_divide 58 = .ok (.return_, 1) := by decide +kernel
theorem dX1_divide_59 : decode cX1_divide 59 = .ok (.aload_n 2, 1) := by decide +kernel
theorem dX1_divide_60 : decode cX1_divide 60 = .ok (.invokevirtual 75, 3) := by decide +kernel
theorem dX1_divide_63 : decode cX1_divide 63 = .ok (.istore_n 3, 1) := by decide +kernel
theorem dX1_divide_64 : decode cX1_divide 64 = .ok (.aload_n 0, 1) := by decide +kernel
theorem dX1_divide_65 : decode cX1_divide 65 = .ok (.getfield 31, 3) := by decide +kernel
theorem dX1_divide_68 : decode cX1_divide 68 = .ok (.aload_n 2, 1) := by decide +kernel
theorem dX1_divide_69 : decode cX1_divide 69 = .ok (.invokevirtual 44, 3) := by decide +kernel
theorem dX1_divide_72 : decode cX1_divide 72 = .ok (.aload_n 0, 1) := by decide +kernel
theorem dX1_divide_73 : decode cX1_divide 73 = .ok (.getfield 31, 3) := by decide +kernel
theorem dX1_divide_76 : decode cX1_divide 76 = .ok (.iload_n 3, 1) := by decide +kernel
theorem dX1_divide_77 : decode cX1_divide 77 = .ok (.invokevirtual 79, 3) := by decide +kernel
theorem dX1_divide_80 : decode cX1_divide 80 = .ok (.aload_n 1, 1) := by decide +kernel
theorem dX1_divide_81 : decode cX1_divide 81 = .ok (.iload_n 3, 1) := by decide +kernel
theorem dX1_divide_82 : decode cX1_divide 82 = .ok (.invokevirtual 79, 3) := by decide +kernel
theorem dX1_divide_85 : decode cX1_divide 85 = .ok (.aload_n 1, 1) := by decide +kernel
theorem dX1_divide_86 : decode cX1_divide 86 = .ok (.getfield 63, 3) := by decide +kernel
theorem dX1_divide_89 : decode cX1_divide 89 = .ok (.aload_n 0, 1) := by decide +kernel
theorem dX1_divide_90 : decode cX1_divide 90 = .ok (.getfield 31, 3) := by decide +kernel
theorem dX1_divide_93 : decode cX1_divide 93 = .ok (.getfield 63, 3) := by decide +kernel
theorem dX1_divide_96 : decode cX1_divide 96 = .ok (.isub, 1) := by decide +kernel
theorem dX1_divide_97 : decode cX1_divide 97 = .ok (.istore 4, 2) := by decide +kernel
theorem dX1_divide_99 : decode cX1_divide 99 = .ok (.iload 4, 2) := by decide +kernel
theorem dX1_divide_101 : decode cX1_divide 101 = .ok (.istore 5, 2) := by decide +kernel
theorem dX1_divide_103 : decode cX1_divide 103 = .ok (.iload 5, 2) := by decide +kernel
theorem dX1_divide_105 : decode cX1_divide 105 = .ok (.ifCond .lt 61, 3) := by decide +kernel
theorem dX1_divide_108 : decode cX1_divide 108 = .ok (.aload_n 1, 1) := by decide +kernel
theorem dX1_divide_109 : decode cX1_divide 109 = .ok (.aload_n 0, 1) := by decide +kernel
theorem dX1_divide_110 : decode cX1_divide 110 = .ok (.getfield 31, 3) := by decide +kernel
theorem dX1_divide_113 : decode cX1_divide 113 = .ok (.iload 5, 2) := by decide +kernel
theorem dX1_divide_115 : decode cX1_divide 115 = .ok (.invokevirtual 83, 3) := by decide +kernel
theorem dX1_divide_118 : decode cX1_divide 118 = .ok (.istore 6, 2) := by decide +kernel
theorem dX1_divide_120 : decode cX1_divide 120 = .ok (.aload_n 1, 1) := by decide +kernel
theorem dX1_divide_121 : decode cX1_divide 121 = .ok (.iload 5, 2) := by decide +kernel
theorem dX1_divide_123 : decode cX1_divide 123 = .ok (.aload_n 0, 1) := by decide +kernel
theorem dX1_divide_124 : decode cX1_divide 124 = .ok (.getfield 31, 3) := by decide +kernel
theorem dX1_divide_127 : decode cX1_divide 127 = .ok (.iload 6, 2) := by decide +kernel
theorem dX1_divide_129 : decode cX1_divide 129 = .ok (.invokevirtual 87, 3) := by decide +kernel
theorem dX1_divide_132 : decode cX1_divide 132 = .ok (.ifCond .eq 16, 3) := by decide +kernel
theorem dX1_divide_135 : decode cX1_divide 135 = .ok (.aload_n 1, 1) := by decide +kernel
theorem dX1_divide_136 : decode cX1_divide 136 = .ok (.iload 5, 2) := by decide +kernel
theorem dX1_divide_138 : decode cX1_divide 138 = .ok (.aload_n 0, 1) := by decide +kernel
theorem dX1_divide_139 : decode cX1_divide 139 = .ok (.getfield 31, 3) := by decide +kernel
theorem dX1_divide_142 : decode cX1_divide 142 = .ok (.invokevirtual 91, 3) := by decide +kernel
theorem dX1_divide_145 : decode cX1_divide 145 = .ok (.iinc 6 (-1), 3) := by decide +kernel
theorem dX1_divide_148 : decode cX1_divide 148 = .ok (.aload_n 0, 1) := by decide +kernel
theorem dX1_divide_149 : decode cX1_divide 149 = .ok (.getfield 10, 3) := by decide +kernel
theorem dX1_divide_152 : decode cX1_divide 152 = .ok (.getfield 67, 3) := by decide +kernel
theorem dX1_divide_155 : decode cX1_divide 155 = .ok (.iload 5, 2) := by decide +kernel
theorem dX1_divide_157 : decode cX1_divide 157 = .ok (.iload 6, 2) := by decide +kernel
theorem dX1_divide_159 : decode cX1_divide 159 = .ok (.iastore, 1) := by decide +kernel
theorem dX1_divide_160 : decode cX1_divide 160 = .ok (.iinc 5 (-1), 3) := by decide +kernel
theorem dX1_divide_163 : decode cX1_divide 163 = .ok (.goto (-60), 3) := by decide +kernel
theorem dX1_divide_166 : decode cX1_divide 166 = .ok (.aload_n 0, 1) := by decide +kernel
theorem dX1_divide_167 : decode cX1_divide 167 = .ok (.getfield 10, 3) := by decide +kernel
theorem dX1_divide_170 : decode cX1_divide 170 = .ok (.iload 4, 2) := by decide +kernel
theorem dX1_divide_172 : decode cX1_divide 172 = .ok (.iconst 1, 1) := by decide +kernel
theorem dX1_divide_173 : decode cX1_divide 173 = .ok (.iadd, 1) := by decide +kernel
theorem dX1_divide_174 : decode cX1_divide 174 = .ok (.invokevirtual 95, 3) := by decide +kernel
theorem dX1_divide_177 : decode cX1_divide 177 = .ok (.aload_n 1, 1) := by decide +kernel
theorem dX1_divide_178 : decode cX1_divide 178 = .ok (.aload_n 1, 1) := by decide +kernel
theorem dX1_divide_179 : decode cX1_divide 179 = .ok (.getfield 63, 3) := by decide +kernel
theorem dX1_divide_182 : decode cX1_divide 182 = .ok (.invokevirtual 95, 3) := by decide +kernel
theorem dX1_divide_185 : decode cX1_divide 185 = .ok (.aload_n 1, 1) := by decide +kernel
theorem dX1_divide_186 : decode cX1_divide 186 = .ok (.iload_n 3, 1) := by decide +kernel
theorem dX1_divide_187 : decode cX1_divide 187 = .ok (.invokevirtual 98, 3) := by decide +kernel
theorem dX1_divide_190 : decode cX1_divide 190 = .ok (.return_, 1) := by decide +kernel
theorem dX1_cancel_0 : decode cX1_cancel 0 = .ok (.aload_n 0, 1) := by decide +kernel
theorem dX1_cancel_1 : decode cX1_cancel 1 = .ok (.getfield 34, 3) := by decide +kernel
theorem dX1_cancel_4 : decode cX1_cancel 4 = .ok (.astore_n 3, 1) := by decide +kernel
theorem dX1_cancel_5 : decode cX1_cancel 5 = .ok (.aload_n 0, 1) := by decide +kernel
theorem dX1_cancel_6 : decode cX1_cancel 6 = .ok (.getfield 37, 3) := by decide +kernel
theorem dX1_cancel_9 : decode cX1_cancel 9 = .ok (.astore 4, 2) := by decide +kernel
theorem dX1_cancel_11 : decode cX1_cancel 11 = .ok (.aload_n 3, 1) := by decide +kernel
theorem dX1_cancel_12 : decode cX1_cancel 12 = .ok (.aload_n 1, 1) := by decide +kernel
theorem dX1_cancel_13 : decode cX1_cancel 13 = .ok (.invokevirtual 44, 3) := by decide +kernel
theorem dX1_cancel_16 : decode cX1_cancel 16 = .ok (.aload 4, 2) := by decide +kernel
theorem dX1_cancel_18 : decode cX1_cancel 18 = .ok (.aload_n 2, 1) := by decide +kernel
theorem dX1_cancel_19 : decode cX1_cancel 19 = .ok (.invokevirtual 44, 3) := by decide +kernel
theorem dX1_cancel_22 : decode cX1_cancel 22 = .ok (.iconst 0, 1) := by decide +kernel
theorem dX1_cancel_23 : decode cX1_cancel 23 = .ok (.istore 5, 2) := by decide +kernel
theorem dX1_cancel_25 : decode cX1_cancel 25 = .ok (.iload 5, 2) := by decide +kernel
theorem dX1_cancel_27 : decode cX1_cancel 27 = .ok (.sipush 10000, 3) := by decide +kernel
theorem dX1_cancel_30 : decode cX1_cancel 30 = .ok (.if_icmp .ge 34, 3) := by decide +kernel
theorem dX1_cancel_33 : decode cX1_cancel 33 = .ok (.aload 4, 2) := by decide +kernel
theorem dX1_cancel_35 : decode cX1_cancel 35 = .ok (.invokevirtual 101, 3) := by decide +kernel
theorem dX1_cancel_38 : decode cX1_cancel 38 = .ok (.ifCond .ne 26, 3) := by decide +kernel
theorem dX1_cancel_41 : decode cX1_cancel 41 = .ok (.aload_n 0, 1) := by decide +kernel
theorem dX1_cancel_42 : decode cX1_cancel 42 = .ok (.aload_n 3, 1) := by decide +kernel
theorem dX1_cancel_43 : decode cX1_cancel 43 = .ok (.aload 4, 2) := by decide +kernel
theorem dX1_cancel_45 : decode cX1_cancel 45 = .ok (.invokevirtual 104, 3) := by decide +kernel
theorem dX1_cancel_48 : decode cX1_cancel 48 = .ok (.aload_n 3, 1) := by decide +kernel
theorem dX1_cancel_49 : decode cX1_cancel 49 = .ok (.astore 6, 2) := by decide +kernel
theorem dX1_cancel_51 : decode cX1_cancel 51 = .ok (.aload 4, 2) := by decide +kernel
theorem dX1_cancel_53 : decode cX1_cancel 53 = .ok (.astore_n 3, 1) := by decide +kernel
theorem dX1_cancel_54 : decode cX1_cancel 54 = .ok (.aload 6, 2) := by decide +kernel
theorem dX1_cancel_56 : decode cX1_cancel 56 = .ok (.astore 4, 2) := by decide +kernel
theorem dX1_cancel_58 : decode cX1_cancel 58 = .ok (.iinc 5 1, 3) := by decide +kernel
theorem dX1_cancel_61 : decode cX1_cancel 61 = .ok (.goto (-36), 3) := by decide +kernel
theorem dX1_cancel_64 : decode cX1_cancel 64 = .ok (.aload 4, 2) := by decide +kernel
theorem dX1_cancel_66 : decode cX1_cancel 66 = .ok (.invokevirtual 55, 3) := by decide +kernel
theorem dX1_cancel_69 : decode cX1_cancel 69 = .ok (.ifCond .ne 26, 3) := by decide +kernel
theorem dX1_cancel_72 : decode cX1_cancel 72 = .ok (.aload_n 0, 1) := by decide +kernel
theorem dX1_cancel_73 : decode cX1_cancel 73 = .ok (.aload_n 3, 1) := by decide +kernel
theorem dX1_cancel_74 : decode cX1_cancel 74 = .ok (.aload 4, 2) := by decide +kernel
theorem dX1_cancel_76 : decode cX1_cancel 76 = .ok (.invokevirtual 104, 3) := by decide +kernel
theorem dX1_cancel_79 : decode cX1_cancel 79 = .ok (.aload_n 3, 1) := by decide +kernel
theorem dX1_cancel_80 : decode cX1_cancel 80 = .ok (.aload 4, 2) := by decide +kernel
theorem dX1_cancel_82 : decode cX1_cancel 82 = .ok (.invokevirtual 107, 3) := by decide +kernel
theorem dX1_cancel_85 : decode cX1_cancel 85 = .ok (.aload_n 3, 1) := by decide +kernel
theorem dX1_cancel_86 : decode cX1_cancel 86 = .ok (.invokevirtual 107, 3) := by decide +kernel
theorem dX1_cancel_89 : decode cX1_cancel 89 = .ok (.invokestatic 111, 3) := by decide +kernel
theorem dX1_cancel_92 : decode cX1_cancel 92 = .ok (.invokevirtual 48, 3) := by decide +kernel
theorem dX1_cancel_95 : decode cX1_cancel 95 = .ok (.aload_n 3, 1) := by decide +kernel
theorem dX1_cancel_96 : decode cX1_cancel 96 = .ok (.invokevirtual 55, 3) := by decide +kernel
theorem dX1_cancel_99 : decode cX1_cancel 99 = .ok (.ifCond .ne 10, 3) := by decide +kernel
theorem dX1_cancel_102 : decode cX1_cancel 102 = .ok (.aload_n 3, 1) := by decide +kernel
theorem dX1_cancel_103 : decode cX1_cancel 103 = .ok (.invokevirtual 115, 3) := by decide +kernel
theorem dX1_cancel_106 : decode cX1_cancel 106 = .ok (.ifCond .eq 4, 3) := by decide +kernel
theorem dX1_cancel_109 : decode cX1_cancel 109 = .ok (.return_, 1) := by decide +kernel
theorem dX1_cancel_110 : decode cX1_cancel 110 = .ok (.aload_n 0, 1) := by decide +kernel
theorem dX1_cancel_111 : decode cX1_cancel 111 = .ok (.aload_n 1, 1) := by decide +kernel
theorem dX1_cancel_112 : decode cX1_cancel 112 = .ok (.aload_n 3, 1) := by decide +kernel
theorem dX1_cancel_113 : decode cX1_cancel 113 = .ok (.invokevirtual 104, 3) := by decide +kernel
theorem dX1_cancel_116 : decode cX1_cancel 116 = .ok (.aload_n 1, 1) := by decide +kernel
theorem dX1_cancel_117 : decode cX1_cancel 117 = .ok (.aload_n 0, 1) := by decide +kernel
theorem dX1_cancel_118 : decode cX1_cancel 118 = .ok (.getfield 10, 3) := by decide +kernel
theorem dX1_cancel_121 : decode cX1_cancel 121 = .ok (.invokevirtual 44, 3) := by decide +kernel
theorem dX1_cancel_124 : decode cX1_cancel 124 = .ok (.aload_n 0, 1) := by decide +kernel
theorem dX1_cancel_125 : decode cX1_cancel 125 = .ok (.aload_n 2, 1) := by decide +kernel
theorem dX1_cancel_126 : decode cX1_cancel 126 = .ok (.aload_n 3, 1) := by decide +kernel
theorem dX1_cancel_127 : decode cX1_cancel 127 = .ok (.invokevirtual 104, 3) := by decide +kernel
theorem dX1_cancel_130 : decode cX1_cancel 130 = .ok (.aload_n 2, 1) := by decide +kernel
theorem dX1_cancel_131 : decode cX1_cancel 131 = .ok (.aload_n 0, 1) := by decide +kernel
theorem dX1_cancel_132 : decode cX1_cancel 132 = .ok (.getfield 10, 3) := by decide +kernel
theorem dX1_cancel_135 : decode cX1_cancel 135 = .ok (.invokevirtual 44, 3) := by decide +kernel
theorem dX1_cancel_138 : decode cX1_cancel 138 = .ok (.return_, 1) := by decide +kernel
theorem dX1_addUp_0 : decode cX1_addUp 0 = .ok (.aload_n 2, 1) := by decide +kernel
theorem dX1_addUp_1 : decode cX1_addUp 1 = .ok (.lconst 0, 1) := by decide +kernel
theorem dX1_addUp_2 : decode cX1_addUp 2 = .ok (.lconst 1, 1) := by decide +kernel
theorem dX1_addUp_3 : decode cX1_addUp 3 = .ok (.invokevirtual 118, 3) := by decide +kernel
theorem dX1_addUp_6 : decode cX1_addUp 6 = .ok (.iconst 0, 1) := by decide +kernel
theorem dX1_addUp_7 : decode cX1_addUp 7 = .ok (.istore_n 3, 1) := by decide +kernel
theorem dX1_addUp_8 : decode cX1_addUp 8 = .ok (.iload_n 3, 1) := by decide +kernel
theorem dX1_addUp_9 : decode cX1_addUp 9 = .ok (.bipush 8, 2) := by decide +kernel
theorem dX1_addUp_11 : decode cX1_addUp 11 = .ok (.if_icmp .ge 39, 3) := by decide +kernel
theorem dX1_addUp_14 : decode cX1_addUp 14 = .ok (.aload_n 1, 1) := by decide +kernel
theorem dX1_addUp_15 : decode cX1_addUp 15 = .ok (.iload_n 3, 1) := by decide +kernel
theorem dX1_addUp_16 : decode cX1_addUp 16 = .ok (.invokevirtual 125, 3) := by decide +kernel
theorem dX1_addUp_19 : decode cX1_addUp 19 = .ok (.ifCond .eq 25, 3) := by decide +kernel
theorem dX1_addUp_22 : decode cX1_addUp 22 = .ok (.aload_n 0, 1) := by decide +kernel
theorem dX1_addUp_23 : decode cX1_addUp 23 = .ok (.aload_n 2, 1) := by decide +kernel
theorem dX1_addUp_24 : decode cX1_addUp 24 = .ok (.aload_n 1, 1) := by decide +kernel
theorem dX1_addUp_25 : decode cX1_addUp 25 = .ok (.iload_n 3, 1) := by decide +kernel
theorem dX1_addUp_26 : decode cX1_addUp 26 = .ok (.invokevirtual 129, 3) := by decide +kernel
theorem dX1_addUp_29 : decode cX1_addUp 29 = .ok (.aload_n 1, 1) := by decide +kernel
theorem dX1_addUp_30 : decode cX1_addUp 30 = .ok (.getfield 133, 3) := by decide +kernel
theorem dX1_addUp_33 : decode cX1_addUp 33 = .ok (.iload_n 3, 1) := by decide +kernel
theorem dX1_addUp_34 : decode cX1_addUp 34 = .ok (.laload, 1) := by decide +kernel
theorem dX1_addUp_35 : decode cX1_addUp 35 = .ok (.aload_n 1, 1) := by decide +kernel
theorem dX1_addUp_36 : decode cX1_addUp 36 = .ok (.getfield 137, 3) := by decide +kernel
theorem dX1_addUp_39 : decode cX1_addUp 39 = .ok (.iload_n 3, 1) := by decide +kernel
theorem dX1_addUp_40 : decode cX1_addUp 40 = .ok (.laload, 1) := by decide +kernel
theorem dX1_addUp_41 : decode cX1_addUp 41 = .ok (.invokevirtual 140, 3) := by decide +kernel
theorem dX1_addUp_44 : decode cX1_addUp 44 = .ok (.iinc 3 1, 3) := by decide +kernel
theorem dX1_addUp_47 : decode cX1_addUp 47 = .ok (.goto (-39), 3) := by decide +kernel
theorem dX1_addUp_50 : decode cX1_addUp 50 = .ok (.return_, 1) := by decide +kernel
theorem dX1_addTo_0 : decode cX1_addTo 0 = .ok (.lconst 1, 1) := by decide +kernel
theorem dX1_addTo_1 : decode cX1_addTo 1 = .ok (.lload_n 2, 1) := by decide +kernel
theorem dX1_addTo_2 : decode cX1_addTo 2 = .ok (.lload 6, 2) := by decide +kernel
theorem dX1_addTo_4 : decode cX1_addTo 4 = .ok (.invokestatic 111, 3) := by decide +kernel
theorem dX1_addTo_7 : decode cX1_addTo 7 = .ok (.invokestatic 144, 3) := by decide +kernel
theorem dX1_addTo_10 : decode cX1_addTo 10 = .ok (.lstore 8, 2) := by decide +kernel
theorem dX1_addTo_12 : decode cX1_addTo 12 = .ok (.lload 6, 2) := by decide +kernel
theorem dX1_addTo_14 : decode cX1_addTo 14 = .ok (.lload 8, 2) := by decide +kernel
theorem dX1_addTo_16 : decode cX1_addTo 16 = .ok (.ldiv, 1) := by decide +kernel
theorem dX1_addTo_17 : decode cX1_addTo 17 = .ok (.lstore 10, 2) := by decide +kernel
theorem dX1_addTo_19 : decode cX1_addTo 19 = .ok (.aload_n 0, 1) := by decide +kernel
theorem dX1_addTo_20 : decode cX1_addTo 20 = .ok (.getfield 28, 3) := by decide +kernel
theorem dX1_addTo_23 : decode cX1_addTo 23 = .ok (.lload_n 2, 1) := by decide +kernel
theorem dX1_addTo_24 : decode cX1_addTo 24 = .ok (.lload 8, 2) := by decide +kernel
theorem dX1_addTo_26 : decode cX1_addTo 26 = .ok (.ldiv, 1) := by decide +kernel
theorem dX1_addTo_27 : decode cX1_addTo 27 = .ok (.invokevirtual 48, 3) := by decide +kernel
theorem dX1_addTo_30 : decode cX1_addTo 30 = .ok (.aload_n 0, 1) := by decide +kernel
theorem dX1_addTo_31 : decode cX1_addTo 31 = .ok (.aload_n 0, 1) := by decide +kernel
theorem dX1_addTo_32 : decode cX1_addTo 32 = .ok (.getfield 28, 3) := by decide +kernel
theorem dX1_addTo_35 : decode cX1_addTo 35 = .ok (.lload 4, 2) := by decide +kernel
theorem dX1_addTo_37 : decode cX1_addTo 37 = .ok (.invokevirtual 149, 3) := by decide +kernel
theorem dX1_addTo_40 : decode cX1_addTo 40 = .ok (.aload_n 0, 1) := by decide +kernel
theorem dX1_addTo_41 : decode cX1_addTo 41 = .ok (.aload_n 0, 1) := by decide +kernel
theorem dX1_addTo_42 : decode cX1_addTo 42 = .ok (.getfield 28, 3) := by decide +kernel
theorem dX1_addTo_45 : decode cX1_addTo 45 = .ok (.aload_n 1, 1) := by decide +kernel
theorem dX1_addTo_46 : decode cX1_addTo 46 = .ok (.getfield 153, 3) := by decide +kernel
theorem dX1_addTo_49 : decode cX1_addTo 49 = .ok (.invokevirtual 52, 3) := by decide +kernel
theorem dX1_addTo_52 : decode cX1_addTo 52 = .ok (.aload_n 0, 1) := by decide +kernel
theorem dX1_addTo_53 : decode cX1_addTo 53 = .ok (.aload_n 1, 1) := by decide +kernel
theorem dX1_addTo_54 : decode cX1_addTo 54 = .ok (.getfield 156, 3) := by decide +kernel
theorem dX1_addTo_57 : decode cX1_addTo 57 = .ok (.lload 10, 2) := by decide +kernel
theorem dX1_addTo_59 : decode cX1_addTo 59 = .ok (.invokevirtual 149, 3) := by decide +kernel
theorem dX1_addTo_62 : decode cX1_addTo 62 = .ok (.aload_n 0, 1) := by decide +kernel
theorem dX1_addTo_63 : decode cX1_addTo 63 = .ok (.aload_n 1, 1) := by decide +kernel
theorem dX1_addTo_64 : decode cX1_addTo 64 = .ok (.getfield 153, 3) := by decide +kernel
theorem dX1_addTo_67 : decode cX1_addTo 67 = .ok (.lload 10, 2) := by decide +kernel
theorem dX1_addTo_69 : decode cX1_addTo 69 = .ok (.invokevirtual 149, 3) := by decide +kernel
theorem dX1_addTo_72 : decode cX1_addTo 72 = .ok (.aload_n 1, 1) := by decide +kernel
theorem dX1_addTo_73 : decode cX1_addTo 73 = .ok (.getfield 156, 3) := by decide +kernel
theorem dX1_addTo_76 : decode cX1_addTo 76 = .ok (.aload_n 0, 1) := by decide +kernel
theorem dX1_addTo_77 : decode cX1_addTo 77 = .ok (.getfield 28, 3) := by decide +kernel
theorem dX1_addTo_80 : decode cX1_addTo 80 = .ok (.invokevirtual 159, 3) := by decide +kernel
theorem dX1_addTo_83 : decode cX1_addTo 83 = .ok (.return_, 1) := by decide +kernel
theorem dX1_weigh_0 : decode cX1_weigh 0 = .ok (.aload_n 0, 1) := by decide +kernel
theorem dX1_weigh_1 : decode cX1_weigh 1 = .ok (.getfield 16, 3) := by decide +kernel
theorem dX1_weigh_4 : decode cX1_weigh 4 = .ok (.aload 4, 2) := by decide +kernel
theorem dX1_weigh_6 : decode cX1_weigh 6 = .ok (.getfield 153, 3) := by decide +kernel
theorem dX1_weigh_9 : decode cX1_weigh 9 = .ok (.invokevirtual 44, 3) := by decide +kernel
theorem dX1_weigh_12 : decode cX1_weigh 12 = .ok (.aload_n 0, 1) := by decide +kernel
theorem dX1_weigh_13 : decode cX1_weigh 13 = .ok (.aload_n 0, 1) := by decide +kernel
theorem dX1_weigh_14 : decode cX1_weigh 14 = .ok (.getfield 16, 3) := by decide +kernel
theorem dX1_weigh_17 : decode cX1_weigh 17 = .ok (.aload_n 1, 1) := by decide +kernel
theorem dX1_weigh_18 : decode cX1_weigh 18 = .ok (.iload_n 2, 1) := by decide +kernel
theorem dX1_weigh_19 : decode cX1_weigh 19 = .ok (.invokevirtual 129, 3) := by decide +kernel
theorem dX1_weigh_22 : decode cX1_weigh 22 = .ok (.invokevirtual 149, 3) := by decide +kernel
theorem dX1_weigh_25 : decode cX1_weigh 25 = .ok (.aload_n 0, 1) := by decide +kernel
theorem dX1_weigh_26 : decode cX1_weigh 26 = .ok (.aload_n 0, 1) := by decide +kernel
theorem dX1_weigh_27 : decode cX1_weigh 27 = .ok (.getfield 16, 3) := by decide +kernel
theorem dX1_weigh_30 : decode cX1_weigh 30 = .ok (.aload_n 1, 1) := by decide +kernel
theorem dX1_weigh_31 : decode cX1_weigh 31 = .ok (.getfield 133, 3) := by decide +kernel
theorem dX1_weigh_34 : decode cX1_weigh 34 = .ok (.iload_n 2, 1) := by decide +kernel
theorem dX1_weigh_35 : decode cX1_weigh 35 = .ok (.laload, 1) := by decide +kernel
theorem dX1_weigh_36 : decode cX1_weigh 36 = .ok (.invokevirtual 149, 3) := by decide +kernel
theorem dX1_weigh_39 : decode cX1_weigh 39 = .ok (.aload_n 0, 1) := by decide +kernel
theorem dX1_weigh_40 : decode cX1_weigh 40 = .ok (.aload_n 0, 1) := by decide +kernel
theorem dX1_weigh_41 : decode cX1_weigh 41 = .ok (.getfield 16, 3) := by decide +kernel
theorem dX1_weigh_44 : decode cX1_weigh 44 = .ok (.iload_n 3, 1) := by decide +kernel
theorem dX1_weigh_45 : decode cX1_weigh 45 = .ok (.i2l, 1) := by decide +kernel
theorem dX1_weigh_46 : decode cX1_weigh 46 = .ok (.invokevirtual 149, 3) := by decide +kernel
theorem dX1_weigh_49 : decode cX1_weigh 49 = .ok (.aload_n 0, 1) := by decide +kernel
theorem dX1_weigh_50 : decode cX1_weigh 50 = .ok (.getfield 19, 3) := by decide +kernel
theorem dX1_weigh_53 : decode cX1_weigh 53 = .ok (.aload 4, 2) := by decide +kernel
theorem dX1_weigh_55 : decode cX1_weigh 55 = .ok (.getfield 156, 3) := by decide +kernel
theorem dX1_weigh_58 : decode cX1_weigh 58 = .ok (.invokevirtual 44, 3) := by decide +kernel
theorem dX1_weigh_61 : decode cX1_weigh 61 = .ok (.aload_n 0, 1) := by decide +kernel
theorem dX1_weigh_62 : decode cX1_weigh 62 = .ok (.aload_n 0, 1) := by decide +kernel
theorem dX1_weigh_63 : decode cX1_weigh 63 = .ok (.getfield 19, 3) := by decide +kernel
theorem dX1_weigh_66 : decode cX1_weigh 66 = .ok (.aload_n 1, 1) := by decide +kernel
theorem dX1_weigh_67 : decode cX1_weigh 67 = .ok (.getfield 137, 3) := by decide +kernel
theorem dX1_weigh_70 : decode cX1_weigh 70 = .ok (.iload_n 2, 1) := by decide +kernel
theorem dX1_weigh_71 : decode cX1_weigh 71 = .ok (.laload, 1) := by decide +kernel
theorem dX1_weigh_72 : decode cX1_weigh 72 = .ok (.invokevirtual 149, 3) := by decide +kernel
theorem dX1_weigh_75 : decode cX1_weigh 75 = .ok (.aload_n 0, 1) := by decide +kernel
theorem dX1_weigh_76 : decode cX1_weigh 76 = .ok (.aload_n 0, 1) := by decide +kernel
theorem dX1_weigh_77 : decode cX1_weigh 77 = .ok (.getfield 19, 3) := by decide +kernel
theorem dX1_weigh_80 : decode cX1_weigh 80 = .ok (.iload 5, 2) := by decide +kernel
theorem dX1_weigh_82 : decode cX1_weigh 82 = .ok (.i2l, 1) := by decide +kernel
theorem dX1_weigh_83 : decode cX1_weigh 83 = .ok (.invokevirtual 149, 3) := by decide +kernel
theorem dX1_weigh_86 : decode cX1_weigh 86 = .ok (.return_, 1) := by decide +kernel
theorem dX1_sameLevel_0 : decode cX1_sameLevel 0 = .ok (.aload_n 0, 1) := by decide +kernel
theorem dX1_sameLevel_1 : decode cX1_sameLevel 1 = .ok (.getfield 16, 3) := by decide +kernel
theorem dX1_sameLevel_4 : decode cX1_sameLevel 4 = .ok (.aload_n 1, 1) := by decide +kernel
theorem dX1_sameLevel_5 : decode cX1_sameLevel 5 = .ok (.getfield 156, 3) := by decide +kernel
theorem dX1_sameLevel_8 : decode cX1_sameLevel 8 = .ok (.invokevirtual 44, 3) := by decide +kernel
theorem dX1_sameLevel_11 : decode cX1_sameLevel 11 = .ok (.aload_n 0, 1) := by decide +kernel
theorem dX1_sameLevel_12 : decode cX1_sameLevel 12 = .ok (.aload_n 0, 1) := by decide +kernel
theorem dX1_sameLevel_13 : decode cX1_sameLevel 13 = .ok (.getfield 16, 3) := by decide +kernel
theorem dX1_sameLevel_16 : decode cX1_sameLevel 16 = .ok (.aload_n 2, 1) := by decide +kernel
theorem dX1_sameLevel_17 : decode cX1_sameLevel 17 = .ok (.getfield 153, 3) := by decide +kernel
theorem dX1_sameLevel_20 : decode cX1_sameLevel 20 = .ok (.invokevirtual 52, 3) := by decide +kernel
theorem dX1_sameLevel_23 : decode cX1_sameLevel 23 = .ok (.aload_n 0, 1) := by decide +kernel
theorem dX1_sameLevel_24 : decode cX1_sameLevel 24 = .ok (.aload_n 0, 1) := by decide +kernel
theorem dX1_sameLevel_25 : decode cX1_sameLevel 25 = .ok (.getfield 16, 3) := by decide +kernel
theorem dX1_sameLevel_28 : decode cX1_sameLevel 28 = .ok (.aload_n 3, 1) := by decide +kernel
theorem dX1_sameLevel_29 : decode cX1_sameLevel 29 = .ok (.getfield 153, 3) := by decide +kernel
theorem dX1_sameLevel_32 : decode cX1_sameLevel 32 = .ok (.invokevirtual 52, 3) := by decide +kernel
theorem dX1_sameLevel_35 : decode cX1_sameLevel 35 = .ok (.aload_n 0, 1) := by decide +kernel
theorem dX1_sameLevel_36 : decode cX1_sameLevel 36 = .ok (.aload_n 0, 1) := by decide +kernel
theorem dX1_sameLevel_37 : decode cX1_sameLevel 37 = .ok (.getfield 16, 3) := by decide +kernel
theorem dX1_sameLevel_40 : decode cX1_sameLevel 40 = .ok (.aload 4, 2) := by decide +kernel
theorem dX1_sameLevel_42 : decode cX1_sameLevel 42 = .ok (.getfield 156, 3) := by decide +kernel
theorem dX1_sameLevel_45 : decode cX1_sameLevel 45 = .ok (.invokevirtual 52, 3) := by decide +kernel
theorem dX1_sameLevel_48 : decode cX1_sameLevel 48 = .ok (.aload_n 0, 1) := by decide +kernel
theorem dX1_sameLevel_49 : decode cX1_sameLevel 49 = .ok (.getfield 19, 3) := by decide +kernel
theorem dX1_sameLevel_52 : decode cX1_sameLevel 52 = .ok (.aload_n 3, 1) := by decide +kernel
theorem dX1_sameLevel_53 : decode cX1_sameLevel 53 = .ok (.getfield 156, 3) := by decide +kernel
theorem dX1_sameLevel_56 : decode cX1_sameLevel 56 = .ok (.invokevirtual 44, 3) := by decide +kernel
theorem dX1_sameLevel_59 : decode cX1_sameLevel 59 = .ok (.aload_n 0, 1) := by decide +kernel
theorem dX1_sameLevel_60 : decode cX1_sameLevel 60 = .ok (.aload_n 0, 1) := by decide +kernel
theorem dX1_sameLevel_61 : decode cX1_sameLevel 61 = .ok (.getfield 19, 3) := by decide +kernel
theorem dX1_sameLevel_64 : decode cX1_sameLevel 64 = .ok (.aload 4, 2) := by decide +kernel
theorem dX1_sameLevel_66 : decode cX1_sameLevel 66 = .ok (.getfield 153, 3) := by decide +kernel
theorem dX1_sameLevel_69 : decode cX1_sameLevel 69 = .ok (.invokevirtual 52, 3) := by decide +kernel
theorem dX1_sameLevel_72 : decode cX1_sameLevel 72 = .ok (.aload_n 0, 1) := by decide +kernel
theorem dX1_sameLevel_73 : decode cX1_sameLevel 73 = .ok (.aload_n 0, 1) := by decide +kernel
theorem dX1_sameLevel_74 : decode cX1_sameLevel 74 = .ok (.getfield 19, 3) := by decide +kernel
theorem dX1_sameLevel_77 : decode cX1_sameLevel 77 = .ok (.aload_n 1, 1) := by decide +kernel
theorem dX1_sameLevel_78 : decode cX1_sameLevel 78 = .ok (.getfield 153, 3) := by decide +kernel
theorem dX1_sameLevel_81 : decode cX1_sameLevel 81 = .ok (.invokevirtual 52, 3) := by decide +kernel
theorem dX1_sameLevel_84 : decode cX1_sameLevel 84 = .ok (.aload_n 0, 1) := by decide +kernel
theorem dX1_sameLevel_85 : decode cX1_sameLevel 85 = .ok (.aload_n 0, 1) := by decide +kernel
theorem dX1_sameLevel_86 : decode cX1_sameLevel 86 = .ok (.getfield 19, 3) := by decide +kernel
theorem dX1_sameLevel_89 : decode cX1_sameLevel 89 = .ok (.aload_n 2, 1) := by decide +kernel
theorem dX1_sameLevel_90 : decode cX1_sameLevel 90 = .ok (.getfield 156, 3) := by decide +kernel
theorem dX1_sameLevel_93 : decode cX1_sameLevel 93 = .ok (.invokevirtual 52, 3) := by decide +kernel
theorem dX1_sameLevel_96 : decode cX1_sameLevel 96 = .ok (.aload_n 0, 1) := by decide +kernel
theorem dX1_sameLevel_97 : decode cX1_sameLevel 97 = .ok (.getfield 16, 3) := by decide +kernel
theorem dX1_sameLevel_100 : decode cX1_sameLevel 100 = .ok (.aload_n 0, 1) := by decide +kernel
theorem dX1_sameLevel_101 : decode cX1_sameLevel 101 = .ok (.getfield 19, 3) := by decide +kernel
theorem dX1_sameLevel_104 : decode cX1_sameLevel 104 = .ok (.invokevirtual 59, 3) := by decide +kernel
theorem dX1_sameLevel_107 : decode cX1_sameLevel 107 = .ok (.ifCond .ne 7, 3) := by decide +kernel
theorem dX1_sameLevel_110 : decode cX1_sameLevel 110 = .ok (.iconst 1, 1) := by decide +kernel
theorem dX1_sameLevel_111 : decode cX1_sameLevel 111 = .ok (.goto 4, 3) := by decide +kernel
theorem dX1_sameLevel_114 : decode cX1_sameLevel 114 = .ok (.iconst 0, 1) := by decide +kernel
theorem dX1_sameLevel_115 : decode cX1_sameLevel 115 = .ok (.ireturn, 1) := by decide +kernel
theorem dX2_init_0 : decode cX2_init 0 = .ok (.aload_n 0, 1) := by decide +kernel
theorem dX2_init_1 : decode cX2_init 1 = .ok (.invokespecial 1, 3) := by decide +kernel
theorem dX2_init_4 : decode cX2_init 4 = .ok (.aload_n 0, 1) := by decide +kernel
theorem dX2_init_5 : decode cX2_init 5 = .ok (.new 7, 3) := by decide +kernel
theorem dX2_init_8 : decode cX2_init 8 = .ok (.dup, 1) := by decide +kernel
theorem dX2_init_9 : decode cX2_init 9 = .ok (.invokespecial 9, 3) := by decide +kernel
theorem dX2_init_12 : decode cX2_init 12 = .ok (.putfield 10, 3) := by decide +kernel
theorem dX2_init_15 : decode cX2_init 15 = .ok (.aload_n 0, 1) := by decide +kernel
theorem dX2_init_16 : decode cX2_init 16 = .ok (.new 7, 3) := by decide +kernel
theorem dX2_init_19 : decode cX2_init 19 = .ok (.dup, 1) := by decide +kernel
theorem dX2_init_20 : decode cX2_init 20 = .ok (.invokespecial 9, 3) := by decide +kernel
theorem dX2_init_23 : decode cX2_init 23 = .ok (.putfield 16, 3) := by decide +kernel
theorem dX2_init_26 : decode cX2_init 26 = .ok (.return_, 1) := by decide +kernel
theorem dX2_become_0 : decode cX2_become 0 = .ok (.aload_n 0, 1) := by decide +kernel
theorem dX2_become_1 : decode cX2_become 1 = .ok (.getfield 10, 3) := by decide +kernel
theorem dX2_become_4 : decode cX2_become 4 = .ok (.lload_n 1, 1) := by decide +kernel
theorem dX2_become_5 : decode cX2_become 5 = .ok (.invokevirtual 19, 3) := by decide +kernel
theorem dX2_become_8 : decode cX2_become 8 = .ok (.aload_n 0, 1) := by decide +kernel
theorem dX2_become_9 : decode cX2_become 9 = .ok (.getfield 16, 3) := by decide +kernel
theorem dX2_become_12 : decode cX2_become 12 = .ok (.lload_n 3, 1) := by decide +kernel
theorem dX2_become_13 : decode cX2_become 13 = .ok (.invokevirtual 19, 3) := by decide +kernel
theorem dX2_become_16 : decode cX2_become 16 = .ok (.return_, 1) := by decide +kernel
theorem dX2_copy_0 : decode cX2_copy 0 = .ok (.aload_n 0, 1) := by decide +kernel
theorem dX2_copy_1 : decode cX2_copy 1 = .ok (.getfield 10, 3) := by decide +kernel
theorem dX2_copy_4 : decode cX2_copy 4 = .ok (.aload_n 1, 1) := by decide +kernel
theorem dX2_copy_5 : decode cX2_copy 5 = .ok (.getfield 10, 3) := by decide +kernel
theorem dX2_copy_8 : decode cX2_copy 8 = .ok (.invokevirtual 23, 3) := by decide +kernel
theorem dX2_copy_11 : decode cX2_copy 11 = .ok (.aload_n 0, 1) := by decide +kernel
theorem dX2_copy_12 : decode cX2_copy 12 = .ok (.getfield 16, 3) := by decide +kernel
theorem dX2_copy_15 : decode cX2_copy 15 = .ok (.aload_n 1, 1) := by decide +kernel
theorem dX2_copy_16 : decode cX2_copy 16 = .ok (.getfield 16, 3) := by decide +kernel
theorem dX2_copy_19 : decode cX2_copy 19 = .ok (.invokevirtual 23, 3) := by decide +kernel
theorem dX2_copy_22 : decode cX2_copy 22 = .ok (.return_, 1) := by decide +kernel
theorem dX2_mostDigits_0 : decode cX2_mostDigits 0 = .ok (.aload_n 0, 1) := by decide +kernel
theorem dX2_mostDigits_1 : decode cX2_mostDigits 1 = .ok (.getfield 10, 3) := by decide +kernel
theorem dX2_mostDigits_4 : decode cX2_mostDigits 4 = .ok (.invokevirtual 27, 3) := by decide +kernel
theorem dX2_mostDigits_7 : decode cX2_mostDigits 7 = .ok (.aload_n 0, 1) := by decide +kernel
theorem dX2_mostDigits_8 : decode cX2_mostDigits 8 = .ok (.getfield 16, 3) := by decide +kernel
theorem dX2_mostDigits_11 : decode cX2_mostDigits 11 = .ok (.invokevirtual 27, 3) := by decide +kernel
theorem dX2_mostDigits_14 : decode cX2_mostDigits 14 = .ok (.invokestatic 31, 3) := by decide +kernel
theorem dX2_mostDigits_17 : decode cX2_mostDigits 17 = .ok (.ireturn, 1) := by decide +kernel
theorem dX5_init_0 : decode cX5_init 0 = .ok (.aload_n 0, 1) := by decide +kernel
theorem dX5_init_1 : decode cX5_init 1 = .ok (.invokespecial 1, 3) := by decide +kernel
theorem dX5_init_4 : decode cX5_init 4 = .ok (.aload_n 0, 1) := by decide +kernel
theorem dX5_init_5 : decode cX5_init 5 = .ok (.iconst 3, 1) := by decide +kernel
theorem dX5_init_6 : decode cX5_init 6 = .ok (.bipush 8, 2) := by decide +kernel
theorem dX5_init_8 : decode cX5_init 8 = .ok (.multianewarray 9 2, 4) := by decide +kernel
theorem dX5_init_12 : decode cX5_init 12 = .ok (.putfield 11, 3) := by decide +kernel
theorem dX5_init_15 : decode cX5_init 15 = .ok (.aload_n 0, 1) := by decide +kernel
theorem dX5_init_16 : decode cX5_init 16 = .ok (.bipush 8, 2) := by decide +kernel
theorem dX5_init_18 : decode cX5_init 18 = .ok (.newarray .long, 2) := by decide +kernel
theorem dX5_init_20 : decode cX5_init 20 = .ok (.putfield 14, 3) := by decide +kernel
theorem dX5_init_23 : decode cX5_init 23 = .ok (.aload_n 0, 1) := by decide +kernel
theorem dX5_init_24 : decode cX5_init 24 = .ok (.bipush 8, 2) := by decide +kernel
theorem dX5_init_26 : decode cX5_init 26 = .ok (.newarray .long, 2) := by decide +kernel
theorem dX5_init_28 : decode cX5_init 28 = .ok (.putfield 18, 3) := by decide +kernel
theorem dX5_init_31 : decode cX5_init 31 = .ok (.iconst 0, 1) := by decide +kernel
theorem dX5_init_32 : decode cX5_init 32 = .ok (.istore_n 1, 1) := by decide +kernel
theorem dX5_init_33 : decode cX5_init 33 = .ok (.iload_n 1, 1) := by decide +kernel
theorem dX5_init_34 : decode cX5_init 34 = .ok (.iconst 3, 1) := by decide +kernel
theorem dX5_init_35 : decode cX5_init 35 = .ok (.if_icmp .ge 19, 3) := by decide +kernel
theorem dX5_init_38 : decode cX5_init 38 = .ok (.aload_n 0, 1) := by decide +kernel
theorem dX5_init_39 : decode cX5_init 39 = .ok (.getfield 11, 3) := by decide +kernel
theorem dX5_init_42 : decode cX5_init 42 = .ok (.iload_n 1, 1) := by decide +kernel
theorem dX5_init_43 : decode cX5_init 43 = .ok (.aaload, 1) := by decide +kernel
theorem dX5_init_44 : decode cX5_init 44 = .ok (.iconst 1, 1) := by decide +kernel
theorem dX5_init_45 : decode cX5_init 45 = .ok (.invokestatic 21, 3) := by decide +kernel
theorem dX5_init_48 : decode cX5_init 48 = .ok (.iinc 1 1, 3) := by decide +kernel
theorem dX5_init_51 : decode cX5_init 51 = .ok (.goto (-18), 3) := by decide +kernel
theorem dX5_init_54 : decode cX5_init 54 = .ok (.aload_n 0, 1) := by decide +kernel
theorem dX5_init_55 : decode cX5_init 55 = .ok (.invokevirtual 27, 3) := by decide +kernel
theorem dX5_init_58 : decode cX5_init 58 = .ok (.aload_n 0, 1) := by decide +kernel
theorem dX5_init_59 : decode cX5_init 59 = .ok (.iconst 0, 1) := by decide +kernel
theorem dX5_init_60 : decode cX5_init 60 = .ok (.putfield 30, 3) := by decide +kernel
theorem dX5_init_63 : decode cX5_init 63 = .ok (.return_, 1) := by decide +kernel
theorem dX5_has_0 : decode cX5_has 0 = .ok (.iload_n 0, 1) := by decide +kernel
theorem dX5_has_1 : decode cX5_has 1 = .ok (.ifCond .lt 13, 3) := by decide +kernel
theorem dX5_has_4 : decode cX5_has 4 = .ok (.iload_n 0, 1) := by decide +kernel
theorem dX5_has_5 : decode cX5_has 5 = .ok (.bipush 8, 2) := by decide +kernel
theorem dX5_has_7 : decode cX5_has 7 = .ok (.if_icmp .ge 7, 3) := by decide +kernel
theorem dX5_has_10 : decode cX5_has 10 = .ok (.iconst 1, 1) := by decide +kernel
theorem dX5_has_11 : decode cX5_has 11 = .ok (.goto 4, 3) := by decide +kernel
theorem dX5_has_14 : decode cX5_has 14 = .ok (.iconst 0, 1) := by decide +kernel
theorem dX5_has_15 : decode cX5_has 15 = .ok (.ireturn, 1) := by decide +kernel
theorem dX5_fits_0 : decode cX5_fits 0 = .ok (.lload_n 1, 1) := by decide +kernel
theorem dX5_fits_1 : decode cX5_fits 1 = .ok (.lconst 1, 1) := by decide +kernel
theorem dX5_fits_2 : decode cX5_fits 2 = .ok (.lcmp, 1) := by decide +kernel
theorem dX5_fits_3 : decode cX5_fits 3 = .ok (.ifCond .lt 18, 3) := by decide +kernel
theorem dX5_fits_6 : decode cX5_fits 6 = .ok (.lload_n 1, 1) := by decide +kernel
theorem dX5_fits_7 : decode cX5_fits 7 = .ok (.getstatic 34, 3) := by decide +kernel
theorem dX5_fits_10 : decode cX5_fits 10 = .ok (.iload_n 0, 1) := by decide +kernel
theorem dX5_fits_11 : decode cX5_fits 11 = .ok (.iaload, 1) := by decide +kernel
theorem dX5_fits_12 : decode cX5_fits 12 = .ok (.i2l, 1) := by decide +kernel
theorem dX5_fits_13 : decode cX5_fits 13 = .ok (.lcmp, 1) := by decide +kernel
theorem dX5_fits_14 : decode cX5_fits 14 = .ok (.ifCond .gt 7, 3) := by decide +kernel
theorem dX5_fits_17 : decode cX5_fits 17 = .ok (.iconst 1, 1) := by decide +kernel
theorem dX5_fits_18 : decode cX5_fits 18 = .ok (.goto 4, 3) := by decide +kernel
theorem dX5_fits_21 : decode cX5_fits 21 = .ok (.iconst 0, 1) := by decide +kernel
theorem dX5_fits_22 : decode cX5_fits 22 = .ok (.ireturn, 1) := by decide +kernel
theorem dX5_isMember_0 : decode cX5_isMember 0 = .ok (.aload_n 0, 1) := by decide +kernel
theorem dX5_isMember_1 : decode cX5_isMember 1 = .ok (.getfield 30, 3) := by decide +kernel
theorem dX5_isMember_4 : decode cX5_isMember 4 = .ok (.iload_n 1, 1) := by decide +kernel
theorem dX5_isMember_5 : decode cX5_isMember 5 = .ok (.ishr, 1) := by decide +kernel
theorem dX5_isMember_6 : decode cX5_isMember 6 = .ok (.iconst 1, 1) := by decide +kernel
theorem dX5_isMember_7 : decode cX5_isMember 7 = .ok (.iand, 1) := by decide +kernel
theorem dX5_isMember_8 : decode cX5_isMember 8 = .ok (.iconst 1, 1) := by decide +kernel
theorem dX5_isMember_9 : decode cX5_isMember 9 = .ok (.if_icmp .ne 7, 3) := by decide +kernel
theorem dX5_isMember_12 : decode cX5_isMember 12 = .ok (.iconst 1, 1) := by decide +kernel
theorem dX5_isMember_13 : decode cX5_isMember 13 = .ok (.goto 4, 3) := by decide +kernel
theorem dX5_isMember_16 : decode cX5_isMember 16 = .ok (.iconst 0, 1) := by decide +kernel
theorem dX5_isMember_17 : decode cX5_isMember 17 = .ok (.ireturn, 1) := by decide +kernel
theorem dX5_hasFactorOne_0 : decode cX5_hasFactorOne 0 = .ok (.aload_n 0, 1) := by decide +kernel
theorem dX5_hasFactorOne_1 : decode cX5_hasFactorOne 1 = .ok (.getfield 14, 3) := by decide +kernel
theorem dX5_hasFactorOne_4 : decode cX5_hasFactorOne 4 = .ok (.iload_n 1, 1) := by decide +kernel
theorem dX5_hasFactorOne_5 : decode cX5_hasFactorOne 5 = .ok (.laload, 1) := by decide +kernel
theorem dX5_hasFactorOne_6 : decode cX5_hasFactorOne 6 = .ok (.aload_n 0, 1) := by decide +kernel
theorem dX5_hasFactorOne_7 : decode cX5_hasFactorOne 7 = .ok (.getfield 18, 3) := by decide +kernel
theorem dX5_hasFactorOne_10 : decode cX5_hasFactorOne 10 = .ok (.iload_n 1, 1) := by decide +kernel
theorem dX5_hasFactorOne_11 : decode cX5_hasFactorOne 11 = .ok (.laload, 1) := by decide +kernel
theorem dX5_hasFactorOne_12 : decode cX5_hasFactorOne 12 = .ok (.lcmp, 1) := by decide +kernel
theorem dX5_hasFactorOne_13 : decode cX5_hasFactorOne 13 = .ok (.ifCond .ne 7, 3) := by decide +kernel
theorem dX5_hasFactorOne_16 : decode cX5_hasFactorOne 16 = .ok (.iconst 1, 1) := by decide +kernel
theorem dX5_hasFactorOne_17 : decode cX5_hasFactorOne 17 = .ok (.goto 4, 3) := by decide +kernel
theorem dX5_hasFactorOne_20 : decode cX5_hasFactorOne 20 = .ok (.iconst 0, 1) := by decide +kernel
theorem dX5_hasFactorOne_21 : decode cX5_hasFactorOne 21 = .ok (.ireturn, 1) := by decide +kernel
theorem dX5_plainWorth_0 : decode cX5_plainWorth 0 = .ok (.aload_n 0, 1) := by decide +kernel
theorem dX5_plainWorth_1 : decode cX5_plainWorth 1 = .ok (.getfield 11, 3) := by decide +kernel
theorem dX5_plainWorth_4 : decode cX5_plainWorth 4 = .ok (.iconst 0, 1) := by decide +kernel
theorem dX5_plainWorth_5 : decode cX5_plainWorth 5 = .ok (.aaload, 1) := by decide +kernel
theorem dX5_plainWorth_6 : decode cX5_plainWorth 6 = .ok (.iload_n 1, 1) := by decide +kernel
theorem dX5_plainWorth_7 : decode cX5_plainWorth 7 = .ok (.iaload, 1) := by decide +kernel
theorem dX5_plainWorth_8 : decode cX5_plainWorth 8 = .ok (.i2l, 1) := by decide +kernel
theorem dX5_plainWorth_9 : decode cX5_plainWorth 9 = .ok (.aload_n 0, 1) := by decide +kernel
theorem dX5_plainWorth_10 : decode cX5_plainWorth 10 = .ok (.getfield 11, 3) := by decide +kernel
theorem dX5_plainWorth_13 : decode cX5_plainWorth 13 = .ok (.iconst 1, 1) := by decide +kernel
theorem dX5_plainWorth_14 : decode cX5_plainWorth 14 = .ok (.aaload, 1) := by decide +kernel
theorem dX5_plainWorth_15 : decode cX5_plainWorth 15 = .ok (.iload_n 1, 1) := by decide +kernel
theorem dX5_plainWorth_16 : decode cX5_plainWorth 16 = .ok (.iaload, 1) := by decide +kernel
theorem dX5_plainWorth_17 : decode cX5_plainWorth 17 = .ok (.i2l, 1) := by decide +kernel
theorem dX5_plainWorth_18 : decode cX5_plainWorth 18 = .ok (.lmul, 1) := by decide +kernel
theorem dX5_plainWorth_19 : decode cX5_plainWorth 19 = .ok (.aload_n 0, 1) := by decide +kernel
theorem dX5_plainWorth_20 : decode cX5_plainWorth 20 = .ok (.getfield 11, 3) := by decide +kernel
theorem dX5_plainWorth_23 : decode cX5_plainWorth 23 = .ok (.iconst 2, 1) := by decide +kernel
theorem dX5_plainWorth_24 : decode cX5_plainWorth 24 = .ok (.aaload, 1) := by decide +kernel
theorem dX5_plainWorth_25 : decode cX5_plainWorth 25 = .ok (.iload_n 1, 1) := by decide +kernel
theorem dX5_plainWorth_26 : decode cX5_plainWorth 26 = .ok (.iaload, 1) := by decide +kernel
theorem dX5_plainWorth_27 : decode cX5_plainWorth 27 = .ok (.i2l, 1) := by decide +kernel
theorem dX5_plainWorth_28 : decode cX5_plainWorth 28 = .ok (.lmul, 1) := by decide +kernel
theorem dX5_plainWorth_29 : decode cX5_plainWorth 29 = .ok (.lreturn, 1) := by decide +kernel
theorem dX5_copy_0 : decode cX5_copy 0 = .ok (.iconst 0, 1) := by decide +kernel
theorem dX5_copy_1 : decode cX5_copy 1 = .ok (.istore_n 2, 1) := by decide +kernel
theorem dX5_copy_2 : decode cX5_copy 2 = .ok (.iload_n 2, 1) := by decide +kernel
theorem dX5_copy_3 : decode cX5_copy 3 = .ok (.iconst 3, 1) := by decide +kernel
theorem dX5_copy_4 : decode cX5_copy 4 = .ok (.if_icmp .ge 28, 3) := by decide +kernel
theorem dX5_copy_7 : decode cX5_copy 7 = .ok (.aload_n 1, 1) := by decide +kernel
theorem dX5_copy_8 : decode cX5_copy 8 = .ok (.getfield 11, 3) := by decide +kernel
theorem dX5_copy_11 : decode cX5_copy 11 = .ok (.iload_n 2, 1) := by decide +kernel
theorem dX5_copy_12 : decode cX5_copy 12 = .ok (.aaload, 1) := by decide +kernel
theorem dX5_copy_13 : decode cX5_copy 13 = .ok (.iconst 0, 1) := by decide +kernel
theorem dX5_copy_14 : decode cX5_copy 14 = .ok (.aload_n 0, 1) := by decide +kernel
theorem dX5_copy_15 : decode cX5_copy 15 = .ok (.getfield 11, 3) := by decide +kernel
theorem dX5_copy_18 : decode cX5_copy 18 = .ok (.iload_n 2, 1) := by decide +kernel
theorem dX5_copy_19 : decode cX5_copy 19 = .ok (.aaload, 1) := by decide +kernel
theorem dX5_copy_20 : decode cX5_copy 20 = .ok (.iconst 0, 1) := by decide +kernel
theorem dX5_copy_21 : decode cX5_copy 21 = .ok (.bipush 8, 2) := by decide +kernel
theorem dX5_copy_23 : decode cX5_copy 23 = .ok (.invokestatic 38, 3) := by decide +kernel
theorem dX5_copy_26 : decode cX5_copy 26 = .ok (.iinc 2 1, 3) := by decide +kernel
theorem dX5_copy_29 : decode cX5_copy 29 = .ok (.goto (-27), 3) := by decide +kernel
theorem dX5_copy_32 : decode cX5_copy 32 = .ok (.aload_n 1, 1) := by decide +kernel
theorem dX5_copy_33 : decode cX5_copy 33 = .ok (.getfield 14, 3) := by decide +kernel
theorem dX5_copy_36 : decode cX5_copy 36 = .ok (.iconst 0, 1) := by decide +kernel
theorem dX5_copy_37 : decode cX5_copy 37 = .ok (.aload_n 0, 1) := by decide +kernel
theorem dX5_copy_38 : decode cX5_copy 38 = .ok (.getfield 14, 3) := by decide +kernel
theorem dX5_copy_41 : decode cX5_copy 41 = .ok (.iconst 0, 1) := by decide +kernel
theorem dX5_copy_42 : decode cX5_copy 42 = .ok (.bipush 8, 2) := by decide +kernel
theorem dX5_copy_44 : decode cX5_copy 44 = .ok (.invokestatic 38, 3) := by decide +kernel
theorem dX5_copy_47 : decode cX5_copy 47 = .ok (.aload_n 1, 1) := by decide +kernel
theorem dX5_copy_48 : decode cX5_copy 48 = .ok (.getfield 18, 3) := by decide +kernel
theorem dX5_copy_51 : decode cX5_copy 51 = .ok (.iconst 0, 1) := by decide +kernel
theorem dX5_copy_52 : decode cX5_copy 52 = .ok (.aload_n 0, 1) := by decide +kernel
theorem dX5_copy_53 : decode cX5_copy 53 = .ok (.getfield 18, 3) := by decide +kernel
theorem dX5_copy_56 : decode cX5_copy 56 = .ok (.iconst 0, 1) := by decide +kernel
theorem dX5_copy_57 : decode cX5_copy 57 = .ok (.bipush 8, 2) := by decide +kernel
theorem dX5_copy_59 : decode cX5_copy 59 = .ok (.invokestatic 38, 3) := by decide +kernel
theorem dX5_copy_62 : decode cX5_copy 62 = .ok (.aload_n 0, 1) := by decide +kernel
theorem dX5_copy_63 : decode cX5_copy 63 = .ok (.aload_n 1, 1) := by decide +kernel
theorem dX5_copy_64 : decode cX5_copy 64 = .ok (.getfield 30, 3) := by decide +kernel
theorem dX5_copy_67 : decode cX5_copy 67 = .ok (.putfield 30, 3) := by decide +kernel
theorem dX5_copy_70 : decode cX5_copy 70 = .ok (.return_, 1) := by decide +kernel
theorem dX5_resetFactors_0 : decode cX5_resetFactors 0 = .ok (.aload_n 0, 1) := by decide +kernel
theorem dX5_resetFactors_1 : decode cX5_resetFactors 1 = .ok (.getfield 14, 3) := by decide +kernel
theorem dX5_resetFactors_4 : decode cX5_resetFactors 4 = .ok (.lconst 1, 1) := by decide +kernel
theorem dX5_resetFactors_5 : decode cX5_resetFactors 5 = .ok (.invokestatic 44, 3) := by decide +kernel
theorem dX5_resetFactors_8 : decode cX5_resetFactors 8 = .ok (.aload_n 0, 1) := by decide +kernel
theorem dX5_resetFactors_9 : decode cX5_resetFactors 9 = .ok (.getfield 18, 3) := by decide +kernel
theorem dX5_resetFactors_12 : decode cX5_resetFactors 12 = .ok (.lconst 1, 1) := by decide +kernel
theorem dX5_resetFactors_13 : decode cX5_resetFactors 13 = .ok (.invokestatic 44, 3) := by decide +kernel
theorem dX5_resetFactors_16 : decode cX5_resetFactors 16 = .ok (.return_, 1) := by decide +kernel
theorem dX5_change_0 : decode cX5_change 0 = .ok (.iload_n 1, 1) := by decide +kernel
theorem dX5_change_1 : decode cX5_change 1 = .ok (.tableswitch 102 0 7 #[47, 56, 67, 67, 74, 80, 86, 94], 47) := by decide +kernel
theorem dX5_change_48 : decode cX5_change 48 = .ok (.aload_n 0, 1) := by decide +kernel
theorem dX5_change_49 : decode cX5_change 49 = .ok (.iload_n 2, 1) := by decide +kernel
theorem dX5_change_50 : decode cX5_change 50 = .ok (.iload_n 3, 1) := by decide +kernel
theorem dX5_change_51 : decode cX5_change 51 = .ok (.iload 4, 2) := by decide +kernel
theorem dX5_change_53 : decode cX5_change 53 = .ok (.invokevirtual 47, 3) := by decide +kernel
theorem dX5_change_56 : decode cX5_change 56 = .ok (.ireturn, 1) := by decide +kernel
theorem dX5_change_57 : decode cX5_change 57 = .ok (.aload_n 0, 1) := by decide +kernel
theorem dX5_change_58 : decode cX5_change 58 = .ok (.iload_n 2, 1) := by decide +kernel
theorem dX5_change_59 : decode cX5_change 59 = .ok (.iload_n 3, 1) := by decide +kernel
theorem dX5_change_60 : decode cX5_change 60 = .ok (.iload 4, 2) := by decide +kernel
theorem dX5_change_62 : decode cX5_change 62 = .ok (.iload 5, 2) := by decide +kernel
theorem dX5_change_64 : decode cX5_change 64 = .ok (.invokevirtual 51, 3) := by decide +kernel
theorem dX5_change_67 : decode cX5_change 67 = .ok (.ireturn, 1) := by decide +kernel
theorem dX5_change_68 : decode cX5_change 68 = .ok (.aload_n 0, 1) := by decide +kernel
theorem dX5_change_69 : decode cX5_change 69 = .ok (.iload_n 2, 1) := by decide +kernel
theorem dX5_change_70 : decode cX5_change 70 = .ok (.iload_n 3, 1) := by decide +kernel
theorem dX5_change_71 : decode cX5_change 71 = .ok (.invokevirtual 55, 3) := by decide +kernel
theorem dX5_change_74 : decode cX5_change 74 = .ok (.ireturn, 1) := by decide +kernel
theorem dX5_change_75 : decode cX5_change 75 = .ok (.aload_n 0, 1) := by decide +kernel
theorem dX5_change_76 : decode cX5_change 76 = .ok (.iload_n 2, 1) := by decide +kernel
theorem dX5_change_77 : decode cX5_change 77 = .ok (.invokevirtual 59, 3) := by decide +kernel
theorem dX5_change_80 : decode cX5_change 80 = .ok (.ireturn, 1) := by decide +kernel
theorem dX5_change_81 : decode cX5_change 81 = .ok (.aload_n 0, 1) := by decide +kernel
theorem dX5_change_82 : decode cX5_change 82 = .ok (.iload_n 2, 1) := by decide +kernel
theorem dX5_change_83 : decode cX5_change 83 = .ok (.invokevirtual 63, 3) := by decide +kernel
theorem dX5_change_86 : decode cX5_change 86 = .ok (.ireturn, 1) := by decide +kernel
theorem dX5_change_87 : decode cX5_change 87 = .ok (.aload_n 0, 1) := by decide +kernel
theorem dX5_change_88 : decode cX5_change 88 = .ok (.iload_n 2, 1) := by decide +kernel
theorem dX5_change_89 : decode cX5_change 89 = .ok (.iconst 1, 1) := by decide +kernel
theorem dX5_change_90 : decode cX5_change 90 = .ok (.iload_n 3, 1) := by decide +kernel
theorem dX5_change_91 : decode cX5_change 91 = .ok (.invokevirtual 66, 3) := by decide +kernel
theorem dX5_change_94 : decode cX5_change 94 = .ok (.ireturn, 1) := by decide +kernel
theorem dX5_change_95 : decode cX5_change 95 = .ok (.aload_n 0, 1) := by decide +kernel
theorem dX5_change_96 : decode cX5_change 96 = .ok (.iload_n 2, 1) := by decide +kernel
theorem dX5_change_97 : decode cX5_change 97 = .ok (.iconst 2, 1) := by decide +kernel
theorem dX5_change_98 : decode cX5_change 98 = .ok (.iload_n 3, 1) := by decide +kernel
theorem dX5_change_99 : decode cX5_change 99 = .ok (.invokevirtual 66, 3) := by decide +kernel
theorem dX5_change_102 : decode cX5_change 102 = .ok (.ireturn, 1) := by decide +kernel
theorem dX5_change_103 : decode cX5_change 103 = .ok (.aload_n 0, 1) := by decide +kernel
theorem dX5_change_104 : decode cX5_change 104 = .ok (.iload_n 3, 1) := by decide +kernel
theorem dX5_change_105 : decode cX5_change 105 = .ok (.invokevirtual 69, 3) := by decide +kernel
theorem dX5_change_108 : decode cX5_change 108 = .ok (.ireturn, 1) := by decide +kernel
theorem dX5_split_0 : decode cX5_split 0 = .ok (.iload_n 2, 1) := by decide +kernel
theorem dX5_split_1 : decode cX5_split 1 = .ok (.iload_n 3, 1) := by decide +kernel
theorem dX5_split_2 : decode cX5_split 2 = .ok (.invokestatic 72, 3) := by decide +kernel
theorem dX5_split_5 : decode cX5_split 5 = .ok (.ifCond .ne 5, 3) := by decide +kernel
theorem dX5_split_8 : decode cX5_split 8 = .ok (.iconst 1, 1) := by decide +kernel
theorem dX5_split_9 : decode cX5_split 9 = .ok (.ireturn, 1) := by decide +kernel
theorem dX5_split_10 : decode cX5_split 10 = .ok (.aload_n 0, 1) := by decide +kernel
theorem dX5_split_11 : decode cX5_split 11 = .ok (.getfield 11, 3) := by decide +kernel
theorem dX5_split_14 : decode cX5_split 14 = .ok (.iconst 1, 1) := by decide +kernel
theorem dX5_split_15 : decode cX5_split 15 = .ok (.aaload, 1) := by decide +kernel
theorem dX5_split_16 : decode cX5_split 16 = .ok (.iload_n 1, 1) := by decide +kernel
theorem dX5_split_17 : decode cX5_split 17 = .ok (.iaload, 1) := by decide +kernel
theorem dX5_split_18 : decode cX5_split 18 = .ok (.i2l, 1) := by decide +kernel
theorem dX5_split_19 : decode cX5_split 19 = .ok (.iload_n 2, 1) := by decide +kernel
theorem dX5_split_20 : decode cX5_split 20 = .ok (.i2l, 1) := by decide +kernel
theorem dX5_split_21 : decode cX5_split 21 = .ok (.lmul, 1) := by decide +kernel
theorem dX5_split_22 : decode cX5_split 22 = .ok (.lstore 4, 2) := by decide +kernel
theorem dX5_split_24 : decode cX5_split 24 = .ok (.aload_n 0, 1) := by decide +kernel
theorem dX5_split_25 : decode cX5_split 25 = .ok (.getfield 11, 3) := by decide +kernel
theorem dX5_split_28 : decode cX5_split 28 = .ok (.iconst 0, 1) := by decide +kernel
theorem dX5_split_29 : decode cX5_split 29 = .ok (.aaload, 1) := by decide +kernel
theorem dX5_split_30 : decode cX5_split 30 = .ok (.iload_n 1, 1) := by decide +kernel
theorem dX5_split_31 : decode cX5_split 31 = .ok (.iaload, 1) := by decide +kernel
theorem dX5_split_32 : decode cX5_split 32 = .ok (.i2l, 1) := by decide +kernel
theorem dX5_split_33 : decode cX5_split 33 = .ok (.iload_n 3, 1) := by decide +kernel
theorem dX5_split_34 : decode cX5_split 34 = .ok (.i2l, 1) := by decide +kernel
theorem dX5_split_35 : decode cX5_split 35 = .ok (.lmul, 1) := by decide +kernel
theorem dX5_split_36 : decode cX5_split 36 = .ok (.lstore 6, 2) := by decide +kernel
theorem dX5_split_38 : decode cX5_split 38 = .ok (.aload_n 0, 1) := by decide +kernel
theorem dX5_split_39 : decode cX5_split 39 = .ok (.iload_n 1, 1) := by decide +kernel
theorem dX5_split_40 : decode cX5_split 40 = .ok (.lload 4, 2) := by decide +kernel
theorem dX5_split_42 : decode cX5_split 42 = .ok (.iload_n 3, 1) := by decide +kernel
theorem dX5_split_43 : decode cX5_split 43 = .ok (.lload 6, 2) := by decide +kernel
theorem dX5_split_45 : decode cX5_split 45 = .ok (.iload_n 2, 1) := by decide +kernel
theorem dX5_split_46 : decode cX5_split 46 = .ok (.invokevirtual 78, 3) := by decide +kernel
theorem dX5_split_49 : decode cX5_split 49 = .ok (.ireturn, 1) := by decide +kernel
theorem dX5_offerRights_0 : decode cX5_offerRights 0 = .ok (.iload_n 2, 1) := by decide +kernel
theorem dX5_offerRights_1 : decode cX5_offerRights 1 = .ok (.iload_n 3, 1) := by decide +kernel
theorem dX5_offerRights_2 : decode cX5_offerRights 2 = .ok (.invokestatic 72, 3) := by decide +kernel
theorem dX5_offerRights_5 : decode cX5_offerRights 5 = .ok (.ifCond .eq 13, 3) := by decide +kernel
theorem dX5_offerRights_8 : decode cX5_offerRights 8 = .ok (.iconst 0, 1) := by decide +kernel
theorem dX5_offerRights_9 : decode cX5_offerRights 9 = .ok (.iload 4, 2) := by decide +kernel
theorem dX5_offerRights_11 : decode cX5_offerRights 11 = .ok (.i2l, 1) := by decide +kernel
theorem dX5_offerRights_12 : decode cX5_offerRights 12 = .ok (.invokestatic 82, 3) := by decide +kernel
theorem dX5_offerRights_15 : decode cX5_offerRights 15 = .ok (.ifCond .ne 5, 3) := by decide +kernel
theorem dX5_offerRights_18 : decode cX5_offerRights 18 = .ok (.iconst 1, 1) := by decide +kernel
theorem dX5_offerRights_19 : decode cX5_offerRights 19 = .ok (.ireturn, 1) := by decide +kernel
theorem dX5_offerRights_20 : decode cX5_offerRights 20 = .ok (.aload_n 0, 1) := by decide +kernel
theorem dX5_offerRights_21 : decode cX5_offerRights 21 = .ok (.getfield 11, 3) := by decide +kernel
theorem dX5_offerRights_24 : decode cX5_offerRights 24 = .ok (.iconst 0, 1) := by decide +kernel
theorem dX5_offerRights_25 : decode cX5_offerRights 25 = .ok (.aaload, 1) := by decide +kernel
theorem dX5_offerRights_26 : decode cX5_offerRights 26 = .ok (.iload_n 1, 1) := by decide +kernel
theorem dX5_offerRights_27 : decode cX5_offerRights 27 = .ok (.iaload, 1) := by decide +kernel
theorem dX5_offerRights_28 : decode cX5_offerRights 28 = .ok (.istore 5, 2) := by decide +kernel
theorem dX5_offerRights_30 : decode cX5_offerRights 30 = .ok (.iload 4, 2) := by decide +kernel
theorem dX5_offerRights_32 : decode cX5_offerRights 32 = .ok (.iload 5, 2) := by decide +kernel
theorem dX5_offerRights_34 : decode cX5_offerRights 34 = .ok (.if_icmp .lt 5, 3) := by decide +kernel
theorem dX5_offerRights_37 : decode cX5_offerRights 37 = .ok (.iconst 0, 1) := by decide +kernel
theorem dX5_offerRights_38 : decode cX5_offerRights 38 = .ok (.ireturn, 1) := by decide +kernel
theorem dX5_offerRights_39 : decode cX5_offerRights 39 = .ok (.iload_n 2, 1) := by decide +kernel
theorem dX5_offerRights_40 : decode cX5_offerRights 40 = .ok (.iload_n 3, 1) := by decide +kernel
theorem dX5_offerRights_41 : decode cX5_offerRights 41 = .ok (.iadd, 1) := by decide +kernel
theorem dX5_offerRights_42 : decode cX5_offerRights 42 = .ok (.istore 6, 2) := by decide +kernel
theorem dX5_offerRights_44 : decode cX5_offerRights 44 = .ok (.aload_n 0, 1) := by decide +kernel
theorem dX5_offerRights_45 : decode cX5_offerRights 45 = .ok (.getfield 11, 3) := by decide +kernel
theorem dX5_offerRights_48 : decode cX5_offerRights 48 = .ok (.iconst 1, 1) := by decide +kernel
theorem dX5_offerRights_49 : decode cX5_offerRights 49 = .ok (.aaload, 1) := by decide +kernel
theorem dX5_offerRights_50 : decode cX5_offerRights 50 = .ok (.iload_n 1, 1) := by decide +kernel
theorem dX5_offerRights_51 : decode cX5_offerRights 51 = .ok (.iaload, 1) := by decide +kernel
theorem dX5_offerRights_52 : decode cX5_offerRights 52 = .ok (.i2l, 1) := by decide +kernel
theorem dX5_offerRights_53 : decode cX5_offerRights 53 = .ok (.iload 6, 2) := by decide +kernel
theorem dX5_offerRights_55 : decode cX5_offerRights 55 = .ok (.i2l, 1) := by decide +kernel
theorem dX5_offerRights_56 : decode cX5_offerRights 56 = .ok (.lmul, 1) := by decide +kernel
theorem dX5_offerRights_57 : decode cX5_offerRights 57 = .ok (.lstore 7, 2) := by decide +kernel
theorem dX5_offerRights_59 : decode cX5_offerRights 59 = .ok (.iload 5, 2) := by decide +kernel
theorem dX5_offerRights_61 : decode cX5_offerRights 61 = .ok (.i2l, 1) := by decide +kernel
theorem dX5_offerRights_62 : decode cX5_offerRights 62 = .ok (.iload_n 3, 1) := by decide +kernel
theorem dX5_offerRights_63 : decode cX5_offerRights 63 = .ok (.i2l, 1) := by decide +kernel
theorem dX5_offerRights_64 : decode cX5_offerRights 64 = .ok (.lmul, 1) := by decide +kernel
theorem dX5_offerRights_65 : decode cX5_offerRights 65 = .ok (.iload 4, 2) := by decide +kernel
theorem dX5_offerRights_67 : decode cX5_offerRights 67 = .ok (.i2l, 1) := by decide +kernel
theorem dX5_offerRights_68 : decode cX5_offerRights 68 = .ok (.iload_n 2, 1) := by decide +kernel
theorem dX5_offerRights_69 : decode cX5_offerRights 69 = .ok (.i2l, 1) := by decide +kernel
theorem dX5_offerRights_70 : decode cX5_offerRights 70 = .ok (.lmul, 1) := by decide +kernel
theorem dX5_offerRights_71 : decode cX5_offerRights 71 = .ok (.ladd, 1) := by decide +kernel
theorem dX5_offerRights_72 : decode cX5_offerRights 72 = .ok (.lstore 9, 2) := by decide +kernel
theorem dX5_offerRights_74 : decode cX5_offerRights 74 = .ok (.aload_n 0, 1) := by decide +kernel
theorem dX5_offerRights_75 : decode cX5_offerRights 75 = .ok (.iload_n 1, 1) := by decide +kernel
theorem dX5_offerRights_76 : decode cX5_offerRights 76 = .ok (.lload 7, 2) := by decide +kernel
theorem dX5_offerRights_78 : decode cX5_offerRights 78 = .ok (.iload_n 3, 1) := by decide +kernel
theorem dX5_offerRights_79 : decode cX5_offerRights 79 = .ok (.lload 9, 2) := by decide +kernel
theorem dX5_offerRights_81 : decode cX5_offerRights 81 = .ok (.iload 6, 2) := by decide +kernel
theorem dX5_offerRights_83 : decode cX5_offerRights 83 = .ok (.invokevirtual 78, 3) := by decide +kernel
theorem dX5_offerRights_86 : decode cX5_offerRights 86 = .ok (.ireturn, 1) := by decide +kernel
theorem dX5_isRatio_0 : decode cX5_isRatio 0 = .ok (.iload_n 0, 1) := by decide +kernel
theorem dX5_isRatio_1 : decode cX5_isRatio 1 = .ok (.iconst 1, 1) := by decide +kernel
theorem dX5_isRatio_2 : decode cX5_isRatio 2 = .ok (.if_icmp .lt 26, 3) := by decide +kernel
theorem dX5_isRatio_5 : decode cX5_isRatio 5 = .ok (.iload_n 0, 1) := by decide +kernel
theorem dX5_isRatio_6 : decode cX5_isRatio 6 = .ok (.sipush 1000, 3) := by decide +kernel
theorem dX5_isRatio_9 : decode cX5_isRatio 9 = .ok (.if_icmp .gt 19, 3) := by decide +kernel
theorem dX5_isRatio_12 : decode cX5_isRatio 12 = .ok (.iload_n 1, 1) := by decide +kernel
theorem dX5_isRatio_13 : decode cX5_isRatio 13 = .ok (.iconst 1, 1) := by decide +kernel
theorem dX5_isRatio_14 : decode cX5_isRatio 14 = .ok (.if_icmp .lt 14, 3) := by decide +kernel
theorem dX5_isRatio_17 : decode cX5_isRatio 17 = .ok (.iload_n 1, 1) := by decide +kernel
theorem dX5_isRatio_18 : decode cX5_isRatio 18 = .ok (.sipush 1000, 3) := by decide +kernel
theorem dX5_isRatio_21 : decode cX5_isRatio 21 = .ok (.if_icmp .gt 7, 3) := by decide +kernel
theorem dX5_isRatio_24 : decode cX5_isRatio 24 = .ok (.iconst 1, 1) := by decide +kernel
theorem dX5_isRatio_25 : decode cX5_isRatio 25 = .ok (.goto 4, 3) := by decide +kernel
theorem dX5_isRatio_28 : decode cX5_isRatio 28 = .ok (.iconst 0, 1) := by decide +kernel
theorem dX5_isRatio_29 : decode cX5_isRatio 29 = .ok (.ireturn, 1) := by decide +kernel
theorem dX5_exchange_0 : decode cX5_exchange 0 = .ok (.lload_n 2, 1) := by decide +kernel
theorem dX5_exchange_1 : decode cX5_exchange 1 = .ok (.iload 4, 2) := by decide +kernel
theorem dX5_exchange_3 : decode cX5_exchange 3 = .ok (.i2l, 1) := by decide +kernel
theorem dX5_exchange_4 : decode cX5_exchange 4 = .ok (.lrem, 1) := by decide +kernel
theorem dX5_exchange_5 : decode cX5_exchange 5 = .ok (.lconst 0, 1) := by decide +kernel
theorem dX5_exchange_6 : decode cX5_exchange 6 = .ok (.lcmp, 1) := by decide +kernel
theorem dX5_exchange_7 : decode cX5_exchange 7 = .ok (.ifCond .eq 5, 3) := by decide +kernel
theorem dX5_exchange_10 : decode cX5_exchange 10 = .ok (.iconst 1, 1) := by decide +kernel
theorem dX5_exchange_11 : decode cX5_exchange 11 = .ok (.ireturn, 1) := by decide +kernel
theorem dX5_exchange_12 : decode cX5_exchange 12 = .ok (.lload_n 2, 1) := by decide +kernel
theorem dX5_exchange_13 : decode cX5_exchange 13 = .ok (.iload 4, 2) := by decide +kernel
theorem dX5_exchange_15 : decode cX5_exchange 15 = .ok (.i2l, 1) := by decide +kernel
theorem dX5_exchange_16 : decode cX5_exchange 16 = .ok (.ldiv, 1) := by decide +kernel
theorem dX5_exchange_17 : decode cX5_exchange 17 = .ok (.lstore 8, 2) := by decide +kernel
theorem dX5_exchange_19 : decode cX5_exchange 19 = .ok (.ldc2_w 86, 3) := by decide +kernel
theorem dX5_exchange_22 : decode cX5_exchange 22 = .ok (.lload 5, 2) := by decide +kernel
theorem dX5_exchange_24 : decode cX5_exchange 24 = .ok (.lmul, 1) := by decide +kernel
theorem dX5_exchange_25 : decode cX5_exchange 25 = .ok (.iload 7, 2) := by decide +kernel
theorem dX5_exchange_27 : decode cX5_exchange 27 = .ok (.i2l, 1) := by decide +kernel
theorem dX5_exchange_28 : decode cX5_exchange 28 = .ok (.ladd, 1) := by decide +kernel
theorem dX5_exchange_29 : decode cX5_exchange 29 = .ok (.ldc2_w 86, 3) := by decide +kernel
theorem dX5_exchange_32 : decode cX5_exchange 32 = .ok (.iload 7, 2) := by decide +kernel
theorem dX5_exchange_34 : decode cX5_exchange 34 = .ok (.i2l, 1) := by decide +kernel
theorem dX5_exchange_35 : decode cX5_exchange 35 = .ok (.lmul, 1) := by decide +kernel
theorem dX5_exchange_36 : decode cX5_exchange 36 = .ok (.ldiv, 1) := by decide +kernel
theorem dX5_exchange_37 : decode cX5_exchange 37 = .ok (.lstore 10, 2) := by decide +kernel
theorem dX5_exchange_39 : decode cX5_exchange 39 = .ok (.iconst 1, 1) := by decide +kernel
theorem dX5_exchange_40 : decode cX5_exchange 40 = .ok (.lload 8, 2) := by decide +kernel
theorem dX5_exchange_42 : decode cX5_exchange 42 = .ok (.invokestatic 82, 3) := by decide +kernel
theorem dX5_exchange_45 : decode cX5_exchange 45 = .ok (.ifCond .eq 12, 3) := by decide +kernel
theorem dX5_exchange_48 : decode cX5_exchange 48 = .ok (.iconst 0, 1) := by decide +kernel
theorem dX5_exchange_49 : decode cX5_exchange 49 = .ok (.lload 10, 2) := by decide +kernel
theorem dX5_exchange_51 : decode cX5_exchange 51 = .ok (.invokestatic 82, 3) := by decide +kernel
theorem dX5_exchange_54 : decode cX5_exchange 54 = .ok (.ifCond .ne 5, 3) := by decide +kernel
theorem dX5_exchange_57 : decode cX5_exchange 57 = .ok (.iconst 1, 1) := by decide +kernel
theorem dX5_exchange_58 : decode cX5_exchange 58 = .ok (.ireturn, 1) := by decide +kernel
theorem dX5_exchange_59 : decode cX5_exchange 59 = .ok (.aload_n 0, 1) := by decide +kernel
theorem dX5_exchange_60 : decode cX5_exchange 60 = .ok (.getfield 11, 3) := by decide +kernel
theorem dX5_exchange_63 : decode cX5_exchange 63 = .ok (.iconst 1, 1) := by decide +kernel
theorem dX5_exchange_64 : decode cX5_exchange 64 = .ok (.aaload, 1) := by decide +kernel
theorem dX5_exchange_65 : decode cX5_exchange 65 = .ok (.iload_n 1, 1) := by decide +kernel
theorem dX5_exchange_66 : decode cX5_exchange 66 = .ok (.lload 8, 2) := by decide +kernel
theorem dX5_exchange_68 : decode cX5_exchange 68 = .ok (.l2i, 1) := by decide +kernel
theorem dX5_exchange_69 : decode cX5_exchange 69 = .ok (.iastore, 1) := by decide +kernel
theorem dX5_exchange_70 : decode cX5_exchange 70 = .ok (.aload_n 0, 1) := by decide +kernel
theorem dX5_exchange_71 : decode cX5_exchange 71 = .ok (.getfield 11, 3) := by decide +kernel
theorem dX5_exchange_74 : decode cX5_exchange 74 = .ok (.iconst 0, 1) := by decide +kernel
theorem dX5_exchange_75 : decode cX5_exchange 75 = .ok (.aaload, 1) := by decide +kernel
theorem dX5_exchange_76 : decode cX5_exchange 76 = .ok (.iload_n 1, 1) := by decide +kernel
theorem dX5_exchange_77 : decode cX5_exchange 77 = .ok (.lload 10, 2) := by decide +kernel
theorem dX5_exchange_79 : decode cX5_exchange 79 = .ok (.l2i, 1) := by decide +kernel
theorem dX5_exchange_80 : decode cX5_exchange 80 = .ok (.iastore, 1) := by decide +kernel
theorem dX5_exchange_81 : decode cX5_exchange 81 = .ok (.iconst 0, 1) := by decide +kernel
theorem dX5_exchange_82 : decode cX5_exchange 82 = .ok (.ireturn, 1) := by decide +kernel
theorem dX5_payDividend_0 : decode cX5_payDividend 0 = .ok (.aload_n 0, 1) := by decide +kernel
theorem dX5_payDividend_1 : decode cX5_payDividend 1 = .ok (.getfield 11, 3) := by decide +kernel
theorem dX5_payDividend_4 : decode cX5_payDividend 4 = .ok (.iconst 0, 1) := by decide +kernel
theorem dX5_payDividend_5 : decode cX5_payDividend 5 = .ok (.aaload, 1) := by decide +kernel
theorem dX5_payDividend_6 : decode cX5_payDividend 6 = .ok (.iload_n 1, 1) := by decide +kernel
theorem dX5_payDividend_7 : decode cX5_payDividend 7 = .ok (.iaload, 1) := by decide +kernel
theorem dX5_payDividend_8 : decode cX5_payDividend 8 = .ok (.i2l, 1) := by decide +kernel
theorem dX5_payDividend_9 : decode cX5_payDividend 9 = .ok (.iload_n 2, 1) := by decide +kernel
theorem dX5_payDividend_10 : decode cX5_payDividend 10 = .ok (.i2l, 1) := by decide +kernel
theorem dX5_payDividend_11 : decode cX5_payDividend 11 = .ok (.lsub, 1) := by decide +kernel
theorem dX5_payDividend_12 : decode cX5_payDividend 12 = .ok (.lstore_n 3, 1) := by decide +kernel
theorem dX5_payDividend_13 : decode cX5_payDividend 13 = .ok (.iload_n 2, 1) := by decide +kernel
theorem dX5_payDividend_14 : decode cX5_payDividend 14 = .ok (.iconst 1, 1) := by decide +kernel
theorem dX5_payDividend_15 : decode cX5_payDividend 15 = .ok (.if_icmp .lt 11, 3) := by decide +kernel
theorem dX5_payDividend_18 : decode cX5_payDividend 18 = .ok (.iconst 0, 1) := by decide +kernel
theorem dX5_payDividend_19 : decode cX5_payDividend 19 = .ok (.lload_n 3, 1) := by decide +kernel
theorem dX5_payDividend_20 : decode cX5_payDividend 20 = .ok (.invokestatic 82, 3) := by decide +kernel
theorem dX5_payDividend_23 : decode cX5_payDividend 23 = .ok (.ifCond .ne 5, 3) := by decide +kernel
theorem dX5_payDividend_26 : decode cX5_payDividend 26 = .ok (.iconst 1, 1) := by decide +kernel
theorem dX5_payDividend_27 : decode cX5_payDividend 27 = .ok (.ireturn, 1) := by decide +kernel
theorem dX5_payDividend_28 : decode cX5_payDividend 28 = .ok (.aload_n 0, 1) := by decide +kernel
theorem dX5_payDividend_29 : decode cX5_payDividend 29 = .ok (.getfield 11, 3) := by decide +kernel
theorem dX5_payDividend_32 : decode cX5_payDividend 32 = .ok (.iconst 0, 1) := by decide +kernel
theorem dX5_payDividend_33 : decode cX5_payDividend 33 = .ok (.aaload, 1) := by decide +kernel
theorem dX5_payDividend_34 : decode cX5_payDividend 34 = .ok (.iload_n 1, 1) := by decide +kernel
theorem dX5_payDividend_35 : decode cX5_payDividend 35 = .ok (.lload_n 3, 1) := by decide +kernel
theorem dX5_payDividend_36 : decode cX5_payDividend 36 = .ok (.l2i, 1) := by decide +kernel
theorem dX5_payDividend_37 : decode cX5_payDividend 37 = .ok (.iastore, 1) := by decide +kernel
theorem dX5_payDividend_38 : decode cX5_payDividend 38 = .ok (.iconst 0, 1) := by decide +kernel
theorem dX5_payDividend_39 : decode cX5_payDividend 39 = .ok (.ireturn, 1) := by decide +kernel
theorem dX5_leave_0 : decode cX5_leave 0 = .ok (.aload_n 0, 1) := by decide +kernel
theorem dX5_leave_1 : decode cX5_leave 1 = .ok (.iload_n 1, 1) := by decide +kernel
theorem dX5_leave_2 : decode cX5_leave 2 = .ok (.invokevirtual 88, 3) := by decide +kernel
theorem dX5_leave_5 : decode cX5_leave 5 = .ok (.ifCond .eq 14, 3) := by decide +kernel
theorem dX5_leave_8 : decode cX5_leave 8 = .ok (.aload_n 0, 1) := by decide +kernel
theorem dX5_leave_9 : decode cX5_leave 9 = .ok (.getfield 30, 3) := by decide +kernel
theorem dX5_leave_12 : decode cX5_leave 12 = .ok (.invokestatic 92, 3) := by decide +kernel
theorem dX5_leave_15 : decode cX5_leave 15 = .ok (.iconst 1, 1) := by decide +kernel
theorem dX5_leave_16 : decode cX5_leave 16 = .ok (.if_icmp .ne 5, 3) := by decide +kernel
theorem dX5_leave_19 : decode cX5_leave 19 = .ok (.iconst 2, 1) := by decide +kernel
theorem dX5_leave_20 : decode cX5_leave 20 = .ok (.ireturn, 1) := by decide +kernel
theorem dX5_leave_21 : decode cX5_leave 21 = .ok (.aload_n 0, 1) := by decide +kernel
theorem dX5_leave_22 : decode cX5_leave 22 = .ok (.aload_n 0, 1) := by decide +kernel
theorem dX5_leave_23 : decode cX5_leave 23 = .ok (.getfield 30, 3) := by decide +kernel
theorem dX5_leave_26 : decode cX5_leave 26 = .ok (.iconst 1, 1) := by decide +kernel
theorem dX5_leave_27 : decode cX5_leave 27 = .ok (.iload_n 1, 1) := by decide +kernel
theorem dX5_leave_28 : decode cX5_leave 28 = .ok (.ishl, 1) := by decide +kernel
theorem dX5_leave_29 : decode cX5_leave 29 = .ok (.iconst (-1), 1) := by decide +kernel
theorem dX5_leave_30 : decode cX5_leave 30 = .ok (.ixor, 1) := by decide +kernel
theorem dX5_leave_31 : decode cX5_leave 31 = .ok (.iand, 1) := by decide +kernel
theorem dX5_leave_32 : decode cX5_leave 32 = .ok (.putfield 30, 3) := by decide +kernel
theorem dX5_leave_35 : decode cX5_leave 35 = .ok (.iconst 0, 1) := by decide +kernel
theorem dX5_leave_36 : decode cX5_leave 36 = .ok (.ireturn, 1) := by decide +kernel
theorem dX5_join_0 : decode cX5_join 0 = .ok (.aload_n 0, 1) := by decide +kernel
theorem dX5_join_1 : decode cX5_join 1 = .ok (.iload_n 1, 1) := by decide +kernel
theorem dX5_join_2 : decode cX5_join 2 = .ok (.invokevirtual 88, 3) := by decide +kernel
theorem dX5_join_5 : decode cX5_join 5 = .ok (.ifCond .eq 5, 3) := by decide +kernel
theorem dX5_join_8 : decode cX5_join 8 = .ok (.iconst 2, 1) := by decide +kernel
theorem dX5_join_9 : decode cX5_join 9 = .ok (.ireturn, 1) := by decide +kernel
theorem dX5_join_10 : decode cX5_join 10 = .ok (.aload_n 0, 1) := by decide +kernel
theorem dX5_join_11 : decode cX5_join 11 = .ok (.aload_n 0, 1) := by decide +kernel
theorem dX5_join_12 : decode cX5_join 12 = .ok (.getfield 30, 3) := by decide +kernel
theorem dX5_join_15 : decode cX5_join 15 = .ok (.iconst 1, 1) := by decide +kernel
theorem dX5_join_16 : decode cX5_join 16 = .ok (.iload_n 1, 1) := by decide +kernel
theorem dX5_join_17 : decode cX5_join 17 = .ok (.ishl, 1) := by decide +kernel
theorem dX5_join_18 : decode cX5_join 18 = .ok (.ior, 1) := by decide +kernel
theorem dX5_join_19 : decode cX5_join 19 = .ok (.putfield 30, 3) := by decide +kernel
theorem dX5_join_22 : decode cX5_join 22 = .ok (.aload_n 0, 1) := by decide +kernel
theorem dX5_join_23 : decode cX5_join 23 = .ok (.getfield 14, 3) := by decide +kernel
theorem dX5_join_26 : decode cX5_join 26 = .ok (.iload_n 1, 1) := by decide +kernel
theorem dX5_join_27 : decode cX5_join 27 = .ok (.lconst 1, 1) := by decide +kernel
theorem dX5_join_28 : decode cX5_join 28 = .ok (.lastore, 1) := by decide +kernel
theorem dX5_join_29 : decode cX5_join 29 = .ok (.aload_n 0, 1) := by decide +kernel
theorem dX5_join_30 : decode cX5_join 30 = .ok (.getfield 18, 3) := by decide +kernel
theorem dX5_join_33 : decode cX5_join 33 = .ok (.iload_n 1, 1) := by decide +kernel
theorem dX5_join_34 : decode cX5_join 34 = .ok (.lconst 1, 1) := by decide +kernel
theorem dX5_join_35 : decode cX5_join 35 = .ok (.lastore, 1) := by decide +kernel
theorem dX5_join_36 : decode cX5_join 36 = .ok (.iconst 0, 1) := by decide +kernel
theorem dX5_join_37 : decode cX5_join 37 = .ok (.ireturn, 1) := by decide +kernel
theorem dX5_replace_0 : decode cX5_replace 0 = .ok (.iload_n 2, 1) := by decide +kernel
theorem dX5_replace_1 : decode cX5_replace 1 = .ok (.iload_n 3, 1) := by decide +kernel
theorem dX5_replace_2 : decode cX5_replace 2 = .ok (.i2l, 1) := by decide +kernel
theorem dX5_replace_3 : decode cX5_replace 3 = .ok (.invokestatic 82, 3) := by decide +kernel
theorem dX5_replace_6 : decode cX5_replace 6 = .ok (.ifCond .ne 5, 3) := by decide +kernel
theorem dX5_replace_9 : decode cX5_replace 9 = .ok (.iconst 1, 1) := by decide +kernel
theorem dX5_replace_10 : decode cX5_replace 10 = .ok (.ireturn, 1) := by decide +kernel
theorem dX5_replace_11 : decode cX5_replace 11 = .ok (.aload_n 0, 1) := by decide +kernel
theorem dX5_replace_12 : decode cX5_replace 12 = .ok (.getfield 11, 3) := by decide +kernel
theorem dX5_replace_15 : decode cX5_replace 15 = .ok (.iload_n 2, 1) := by decide +kernel
theorem dX5_replace_16 : decode cX5_replace 16 = .ok (.aaload, 1) := by decide +kernel
theorem dX5_replace_17 : decode cX5_replace 17 = .ok (.iload_n 1, 1) := by decide +kernel
theorem dX5_replace_18 : decode cX5_replace 18 = .ok (.iload_n 3, 1) := by decide +kernel
theorem dX5_replace_19 : decode cX5_replace 19 = .ok (.iastore, 1) := by decide +kernel
theorem dX5_replace_20 : decode cX5_replace 20 = .ok (.iconst 0, 1) := by decide +kernel
theorem dX5_replace_21 : decode cX5_replace 21 = .ok (.ireturn, 1) := by decide +kernel
theorem dX5_cap_0 : decode cX5_cap 0 = .ok (.iload_n 1, 1) := by decide +kernel
theorem dX5_cap_1 : decode cX5_cap 1 = .ok (.iconst 1, 1) := by decide +kernel
theorem dX5_cap_2 : decode cX5_cap 2 = .ok (.if_icmp .lt 13, 3) := by decide +kernel
theorem dX5_cap_5 : decode cX5_cap 5 = .ok (.iload_n 1, 1) := by decide +kernel
theorem dX5_cap_6 : decode cX5_cap 6 = .ok (.bipush 100, 2) := by decide +kernel
theorem dX5_cap_8 : decode cX5_cap 8 = .ok (.if_icmp .gt 7, 3) := by decide +kernel
theorem dX5_cap_11 : decode cX5_cap 11 = .ok (.iconst 1, 1) := by decide +kernel
theorem dX5_cap_12 : decode cX5_cap 12 = .ok (.goto 4, 3) := by decide +kernel
theorem dX5_cap_15 : decode cX5_cap 15 = .ok (.iconst 0, 1) := by decide +kernel
theorem dX5_cap_16 : decode cX5_cap 16 = .ok (.istore_n 2, 1) := by decide +kernel
theorem dX5_cap_17 : decode cX5_cap 17 = .ok (.iload_n 2, 1) := by decide +kernel
theorem dX5_cap_18 : decode cX5_cap 18 = .ok (.ifCond .eq 17, 3) := by decide +kernel
theorem dX5_cap_21 : decode cX5_cap 21 = .ok (.iload_n 1, 1) := by decide +kernel
theorem dX5_cap_22 : decode cX5_cap 22 = .ok (.aload_n 0, 1) := by decide +kernel
theorem dX5_cap_23 : decode cX5_cap 23 = .ok (.getfield 30, 3) := by decide +kernel
theorem dX5_cap_26 : decode cX5_cap 26 = .ok (.invokestatic 92, 3) := by decide +kernel
theorem dX5_cap_29 : decode cX5_cap 29 = .ok (.imul, 1) := by decide +kernel
theorem dX5_cap_30 : decode cX5_cap 30 = .ok (.bipush 100, 2) := by decide +kernel
theorem dX5_cap_32 : decode cX5_cap 32 = .ok (.if_icmp .ge 5, 3) := by decide +kernel
theorem dX5_cap_35 : decode cX5_cap 35 = .ok (.iconst 2, 1) := by decide +kernel
theorem dX5_cap_36 : decode cX5_cap 36 = .ok (.ireturn, 1) := by decide +kernel
theorem dX5_cap_37 : decode cX5_cap 37 = .ok (.aload_n 0, 1) := by decide +kernel
theorem dX5_cap_38 : decode cX5_cap 38 = .ok (.iload_n 1, 1) := by decide +kernel
theorem dX5_cap_39 : decode cX5_cap 39 = .ok (.invokevirtual 97, 3) := by decide +kernel
theorem dX5_cap_42 : decode cX5_cap 42 = .ok (.istore_n 3, 1) := by decide +kernel
theorem dX5_cap_43 : decode cX5_cap 43 = .ok (.iload_n 1, 1) := by decide +kernel
theorem dX5_cap_44 : decode cX5_cap 44 = .ok (.i2l, 1) := by decide +kernel
theorem dX5_cap_45 : decode cX5_cap 45 = .ok (.aload_n 0, 1) := by decide +kernel
theorem dX5_cap_46 : decode cX5_cap 46 = .ok (.aload_n 0, 1) := by decide +kernel
theorem dX5_cap_47 : decode cX5_cap 47 = .ok (.getfield 30, 3) := by decide +kernel
theorem dX5_cap_50 : decode cX5_cap 50 = .ok (.iload_n 3, 1) := by decide +kernel
theorem dX5_cap_51 : decode cX5_cap 51 = .ok (.iconst (-1), 1) := by decide +kernel
theorem dX5_cap_52 : decode cX5_cap 52 = .ok (.ixor, 1) := by decide +kernel
theorem dX5_cap_53 : decode cX5_cap 53 = .ok (.iand, 1) := by decide +kernel
theorem dX5_cap_54 : decode cX5_cap 54 = .ok (.invokevirtual 100, 3) := by decide +kernel
theorem dX5_cap_57 : decode cX5_cap 57 = .ok (.lmul, 1) := by decide +kernel
theorem dX5_cap_58 : decode cX5_cap 58 = .ok (.lstore 4, 2) := by decide +kernel
theorem dX5_cap_60 : decode cX5_cap 60 = .ok (.ldc2_w 104, 3) := by decide +kernel
theorem dX5_cap_63 : decode cX5_cap 63 = .ok (.iload_n 1, 1) := by decide +kernel
theorem dX5_cap_64 : decode cX5_cap 64 = .ok (.iload_n 3, 1) := by decide +kernel
theorem dX5_cap_65 : decode cX5_cap 65 = .ok (.invokestatic 92, 3) := by decide +kernel
theorem dX5_cap_68 : decode cX5_cap 68 = .ok (.imul, 1) := by decide +kernel
theorem dX5_cap_69 : decode cX5_cap 69 = .ok (.i2l, 1) := by decide +kernel
theorem dX5_cap_70 : decode cX5_cap 70 = .ok (.lsub, 1) := by decide +kernel
theorem dX5_cap_71 : decode cX5_cap 71 = .ok (.lstore 6, 2) := by decide +kernel
theorem dX5_cap_73 : decode cX5_cap 73 = .ok (.aload_n 0, 1) := by decide +kernel
theorem dX5_cap_74 : decode cX5_cap 74 = .ok (.invokevirtual 27, 3) := by decide +kernel
theorem dX5_cap_77 : decode cX5_cap 77 = .ok (.iconst 0, 1) := by decide +kernel
theorem dX5_cap_78 : decode cX5_cap 78 = .ok (.istore 8, 2) := by decide +kernel
theorem dX5_cap_80 : decode cX5_cap 80 = .ok (.iload 8, 2) := by decide +kernel
theorem dX5_cap_82 : decode cX5_cap 82 = .ok (.bipush 8, 2) := by decide +kernel
theorem dX5_cap_84 : decode cX5_cap 84 = .ok (.if_icmp .ge 36, 3) := by decide +kernel
theorem dX5_cap_87 : decode cX5_cap 87 = .ok (.iload_n 3, 1) := by decide +kernel
theorem dX5_cap_88 : decode cX5_cap 88 = .ok (.iload 8, 2) := by decide +kernel
theorem dX5_cap_90 : decode cX5_cap 90 = .ok (.ishr, 1) := by decide +kernel
theorem dX5_cap_91 : decode cX5_cap 91 = .ok (.iconst 1, 1) := by decide +kernel
theorem dX5_cap_92 : decode cX5_cap 92 = .ok (.iand, 1) := by decide +kernel
theorem dX5_cap_93 : decode cX5_cap 93 = .ok (.iconst 1, 1) := by decide +kernel
theorem dX5_cap_94 : decode cX5_cap 94 = .ok (.if_icmp .ne 20, 3) := by decide +kernel
theorem dX5_cap_97 : decode cX5_cap 97 = .ok (.aload_n 0, 1) := by decide +kernel
theorem dX5_cap_98 : decode cX5_cap 98 = .ok (.iload 8, 2) := by decide +kernel
theorem dX5_cap_100 : decode cX5_cap 100 = .ok (.lload 4, 2) := by decide +kernel
theorem dX5_cap_102 : decode cX5_cap 102 = .ok (.lload 6, 2) := by decide +kernel
theorem dX5_cap_104 : decode cX5_cap 104 = .ok (.aload_n 0, 1) := by decide +kernel
theorem dX5_cap_105 : decode cX5_cap 105 = .ok (.iload 8, 2) := by decide +kernel
theorem dX5_cap_107 : decode cX5_cap 107 = .ok (.invokevirtual 106, 3) := by decide +kernel
theorem dX5_cap_110 : decode cX5_cap 110 = .ok (.lmul, 1) := by decide +kernel
theorem dX5_cap_111 : decode cX5_cap 111 = .ok (.invokevirtual 109, 3) := by decide +kernel
theorem dX5_cap_114 : decode cX5_cap 114 = .ok (.iinc 8 1, 3) := by decide +kernel
theorem dX5_cap_117 : decode cX5_cap 117 = .ok (.goto (-37), 3) := by decide +kernel
theorem dX5_cap_120 : decode cX5_cap 120 = .ok (.iconst 0, 1) := by decide +kernel
theorem dX5_cap_121 : decode cX5_cap 121 = .ok (.ireturn, 1) := by decide +kernel
theorem dX5_findLarge_0 : decode cX5_findLarge 0 = .ok (.iconst 0, 1) := by decide +kernel
theorem dX5_findLarge_1 : decode cX5_findLarge 1 = .ok (.istore_n 2, 1) := by decide +kernel
theorem dX5_findLarge_2 : decode cX5_findLarge 2 = .ok (.aload_n 0, 1) := by decide +kernel
theorem dX5_findLarge_3 : decode cX5_findLarge 3 = .ok (.getfield 30, 3) := by decide +kernel
theorem dX5_findLarge_6 : decode cX5_findLarge 6 = .ok (.istore_n 3, 1) := by decide +kernel
theorem dX5_findLarge_7 : decode cX5_findLarge 7 = .ok (.iconst 0, 1) := by decide +kernel
theorem dX5_findLarge_8 : decode cX5_findLarge 8 = .ok (.istore 4, 2) := by decide +kernel
theorem dX5_findLarge_10 : decode cX5_findLarge 10 = .ok (.iload 4, 2) := by decide +kernel
theorem dX5_findLarge_12 : decode cX5_findLarge 12 = .ok (.bipush 8, 2) := by decide +kernel
theorem dX5_findLarge_14 : decode cX5_findLarge 14 = .ok (.if_icmp .gt 116, 3) := by decide +kernel
theorem dX5_findLarge_17 : decode cX5_findLarge 17 = .ok (.iload_n 3, 1) := by decide +kernel
theorem dX5_findLarge_18 : decode cX5_findLarge 18 = .ok (.ifCond .eq 112, 3) := by decide +kernel
theorem dX5_findLarge_21 : decode cX5_findLarge 21 = .ok (.iload_n 1, 1) := by decide +kernel
theorem dX5_findLarge_22 : decode cX5_findLarge 22 = .ok (.i2l, 1) := by decide +kernel
theorem dX5_findLarge_23 : decode cX5_findLarge 23 = .ok (.aload_n 0, 1) := by decide +kernel
theorem dX5_findLarge_24 : decode cX5_findLarge 24 = .ok (.aload_n 0, 1) := by decide +kernel
theorem dX5_findLarge_25 : decode cX5_findLarge 25 = .ok (.getfield 30, 3) := by decide +kernel
theorem dX5_findLarge_28 : decode cX5_findLarge 28 = .ok (.iload_n 2, 1) := by decide +kernel
theorem dX5_findLarge_29 : decode cX5_findLarge 29 = .ok (.iconst (-1), 1) := by decide +kernel
theorem dX5_findLarge_30 : decode cX5_findLarge 30 = .ok (.ixor, 1) := by decide +kernel
theorem dX5_findLarge_31 : decode cX5_findLarge 31 = .ok (.iand, 1) := by decide +kernel
theorem dX5_findLarge_32 : decode cX5_findLarge 32 = .ok (.invokevirtual 100, 3) := by decide +kernel
theorem dX5_findLarge_35 : decode cX5_findLarge 35 = .ok (.lmul, 1) := by decide +kernel
theorem dX5_findLarge_36 : decode cX5_findLarge 36 = .ok (.lstore 5, 2) := by decide +kernel
theorem dX5_findLarge_38 : decode cX5_findLarge 38 = .ok (.ldc2_w 104, 3) := by decide +kernel
theorem dX5_findLarge_41 : decode cX5_findLarge 41 = .ok (.iload_n 1, 1) := by decide +kernel
theorem dX5_findLarge_42 : decode cX5_findLarge 42 = .ok (.iload_n 2, 1) := by decide +kernel
theorem dX5_findLarge_43 : decode cX5_findLarge 43 = .ok (.invokestatic 92, 3) := by decide +kernel
theorem dX5_findLarge_46 : decode cX5_findLarge 46 = .ok (.imul, 1) := by decide +kernel
theorem dX5_findLarge_47 : decode cX5_findLarge 47 = .ok (.i2l, 1) := by decide +kernel
theorem dX5_findLarge_48 : decode cX5_findLarge 48 = .ok (.lsub, 1) := by decide +kernel
theorem dX5_findLarge_49 : decode cX5_findLarge 49 = .ok (.lstore 7, 2) := by decide +kernel
theorem dX5_findLarge_51 : decode cX5_findLarge 51 = .ok (.iconst 0, 1) := by decide +kernel
theorem dX5_findLarge_52 : decode cX5_findLarge 52 = .ok (.istore_n 3, 1) := by decide +kernel
theorem dX5_findLarge_53 : decode cX5_findLarge 53 = .ok (.iconst 0, 1) := by decide +kernel
theorem dX5_findLarge_54 : decode cX5_findLarge 54 = .ok (.istore 9, 2) := by decide +kernel
theorem dX5_findLarge_56 : decode cX5_findLarge 56 = .ok (.iload 9, 2) := by decide +kernel
theorem dX5_findLarge_58 : decode cX5_findLarge 58 = .ok (.bipush 8, 2) := by decide +kernel
theorem dX5_findLarge_60 : decode cX5_findLarge 60 = .ok (.if_icmp .ge 60, 3) := by decide +kernel
theorem dX5_findLarge_63 : decode cX5_findLarge 63 = .ok (.aload_n 0, 1) := by decide +kernel
theorem dX5_findLarge_64 : decode cX5_findLarge 64 = .ok (.getfield 30, 3) := by decide +kernel
theorem dX5_findLarge_67 : decode cX5_findLarge 67 = .ok (.iload_n 2, 1) := by decide +kernel
theorem dX5_findLarge_68 : decode cX5_findLarge 68 = .ok (.iconst (-1), 1) := by decide +kernel
theorem dX5_findLarge_69 : decode cX5_findLarge 69 = .ok (.ixor, 1) := by decide +kernel
theorem dX5_findLarge_70 : decode cX5_findLarge 70 = .ok (.iand, 1) := by decide +kernel
theorem dX5_findLarge_71 : decode cX5_findLarge 71 = .ok (.iload 9, 2) := by decide +kernel
theorem dX5_findLarge_73 : decode cX5_findLarge 73 = .ok (.ishr, 1) := by decide +kernel
theorem dX5_findLarge_74 : decode cX5_findLarge 74 = .ok (.iconst 1, 1) := by decide +kernel
theorem dX5_findLarge_75 : decode cX5_findLarge 75 = .ok (.iand, 1) := by decide +kernel
theorem dX5_findLarge_76 : decode cX5_findLarge 76 = .ok (.iconst 1, 1) := by decide +kernel
theorem dX5_findLarge_77 : decode cX5_findLarge 77 = .ok (.if_icmp .ne 7, 3) := by decide +kernel
theorem dX5_findLarge_80 : decode cX5_findLarge 80 = .ok (.iconst 1, 1) := by decide +kernel
theorem dX5_findLarge_81 : decode cX5_findLarge 81 = .ok (.goto 4, 3) := by decide +kernel
theorem dX5_findLarge_84 : decode cX5_findLarge 84 = .ok (.iconst 0, 1) := by decide +kernel
theorem dX5_findLarge_85 : decode cX5_findLarge 85 = .ok (.istore 10, 2) := by decide +kernel
theorem dX5_findLarge_87 : decode cX5_findLarge 87 = .ok (.iload 10, 2) := by decide +kernel
theorem dX5_findLarge_89 : decode cX5_findLarge 89 = .ok (.ifCond .eq 25, 3) := by decide +kernel
theorem dX5_findLarge_92 : decode cX5_findLarge 92 = .ok (.aload_n 0, 1) := by decide +kernel
theorem dX5_findLarge_93 : decode cX5_findLarge 93 = .ok (.iload 9, 2) := by decide +kernel
theorem dX5_findLarge_95 : decode cX5_findLarge 95 = .ok (.invokevirtual 106, 3) := by decide +kernel
theorem dX5_findLarge_98 : decode cX5_findLarge 98 = .ok (.lload 7, 2) := by decide +kernel
theorem dX5_findLarge_100 : decode cX5_findLarge 100 = .ok (.lmul, 1) := by decide +kernel
theorem dX5_findLarge_101 : decode cX5_findLarge 101 = .ok (.lload 5, 2) := by decide +kernel
theorem dX5_findLarge_103 : decode cX5_findLarge 103 = .ok (.lcmp, 1) := by decide +kernel
theorem dX5_findLarge_104 : decode cX5_findLarge 104 = .ok (.ifCond .le 10, 3) := by decide +kernel
theorem dX5_findLarge_107 : decode cX5_findLarge 107 = .ok (.iload_n 3, 1) := by decide +kernel
theorem dX5_findLarge_108 : decode cX5_findLarge 108 = .ok (.iconst 1, 1) := by decide +kernel
theorem dX5_findLarge_109 : decode cX5_findLarge 109 = .ok (.iload 9, 2) := by decide +kernel
theorem dX5_findLarge_111 : decode cX5_findLarge 111 = .ok (.ishl, 1) := by decide +kernel
theorem dX5_findLarge_112 : decode cX5_findLarge 112 = .ok (.ior, 1) := by decide +kernel
theorem dX5_findLarge_113 : decode cX5_findLarge 113 = .ok (.istore_n 3, 1) := by decide +kernel
theorem dX5_findLarge_114 : decode cX5_findLarge 114 = .ok (.iinc 9 1, 3) := by decide +kernel
theorem dX5_findLarge_117 : decode cX5_findLarge 117 = .ok (.goto (-61), 3) := by decide +kernel
theorem dX5_findLarge_120 : decode cX5_findLarge 120 = .ok (.iload_n 2, 1) := by decide +kernel
theorem dX5_findLarge_121 : decode cX5_findLarge 121 = .ok (.iload_n 3, 1) := by decide +kernel
theorem dX5_findLarge_122 : decode cX5_findLarge 122 = .ok (.ior, 1) := by decide +kernel
theorem dX5_findLarge_123 : decode cX5_findLarge 123 = .ok (.istore_n 2, 1) := by decide +kernel
theorem dX5_findLarge_124 : decode cX5_findLarge 124 = .ok (.iinc 4 1, 3) := by decide +kernel
theorem dX5_findLarge_127 : decode cX5_findLarge 127 = .ok (.goto (-117), 3) := by decide +kernel
theorem dX5_findLarge_130 : decode cX5_findLarge 130 = .ok (.iload_n 2, 1) := by decide +kernel
theorem dX5_findLarge_131 : decode cX5_findLarge 131 = .ok (.ireturn, 1) := by decide +kernel
theorem dX5_plainWorthOf_0 : decode cX5_plainWorthOf 0 = .ok (.lconst 0, 1) := by decide +kernel
theorem dX5_plainWorthOf_1 : decode cX5_plainWorthOf 1 = .ok (.lstore_n 2, 1) := by decide +kernel
theorem dX5_plainWorthOf_2 : decode cX5_plainWorthOf 2 = .ok (.iconst 0, 1) := by decide +kernel
theorem dX5_plainWorthOf_3 : decode cX5_plainWorthOf 3 = .ok (.istore 4, 2) := by decide +kernel
theorem dX5_plainWorthOf_5 : decode cX5_plainWorthOf 5 = .ok (.iload 4, 2) := by decide +kernel
theorem dX5_plainWorthOf_7 : decode cX5_plainWorthOf 7 = .ok (.bipush 8, 2) := by decide +kernel
theorem dX5_plainWorthOf_9 : decode cX5_plainWorthOf 9 = .ok (.if_icmp .ge 28, 3) := by decide +kernel
theorem dX5_plainWorthOf_12 : decode cX5_plainWorthOf 12 = .ok (.iload_n 1, 1) := by decide +kernel
theorem dX5_plainWorthOf_13 : decode cX5_plainWorthOf 13 = .ok (.iload 4, 2) := by decide +kernel
theorem dX5_plainWorthOf_15 : decode cX5_plainWorthOf 15 = .ok (.ishr, 1) := by decide +kernel
theorem dX5_plainWorthOf_16 : decode cX5_plainWorthOf 16 = .ok (.iconst 1, 1) := by decide +kernel
theorem dX5_plainWorthOf_17 : decode cX5_plainWorthOf 17 = .ok (.iand, 1) := by decide +kernel
theorem dX5_plainWorthOf_18 : decode cX5_plainWorthOf 18 = .ok (.iconst 1, 1) := by decide +kernel
theorem dX5_plainWorthOf_19 : decode cX5_plainWorthOf 19 = .ok (.if_icmp .ne 12, 3) := by decide +kernel
theorem dX5_plainWorthOf_22 : decode cX5_plainWorthOf 22 = .ok (.lload_n 2, 1) := by decide +kernel
theorem dX5_plainWorthOf_23 : decode cX5_plainWorthOf 23 = .ok (.aload_n 0, 1) := by decide +kernel
theorem dX5_plainWorthOf_24 : decode cX5_plainWorthOf 24 = .ok (.iload 4, 2) := by decide +kernel
theorem dX5_plainWorthOf_26 : decode cX5_plainWorthOf 26 = .ok (.invokevirtual 106, 3) := by decide +kernel
theorem dX5_plainWorthOf_29 : decode cX5_plainWorthOf 29 = .ok (.ladd, 1) := by decide +kernel
theorem dX5_plainWorthOf_30 : decode cX5_plainWorthOf 30 = .ok (.lstore_n 2, 1) := by decide +kernel
theorem dX5_plainWorthOf_31 : decode cX5_plainWorthOf 31 = .ok (.iinc 4 1, 3) := by decide +kernel
theorem dX5_plainWorthOf_34 : decode cX5_plainWorthOf 34 = .ok (.goto (-29), 3) := by decide +kernel
theorem dX5_plainWorthOf_37 : decode cX5_plainWorthOf 37 = .ok (.lload_n 2, 1) := by decide +kernel
theorem dX5_plainWorthOf_38 : decode cX5_plainWorthOf 38 = .ok (.lreturn, 1) := by decide +kernel
theorem dX5_putFactor_0 : decode cX5_putFactor 0 = .ok (.lload_n 2, 1) := by decide +kernel
theorem dX5_putFactor_1 : decode cX5_putFactor 1 = .ok (.lload 4, 2) := by decide +kernel
theorem dX5_putFactor_3 : decode cX5_putFactor 3 = .ok (.invokestatic 113, 3) := by decide +kernel
theorem dX5_putFactor_6 : decode cX5_putFactor 6 = .ok (.lstore 6, 2) := by decide +kernel
theorem dX5_putFactor_8 : decode cX5_putFactor 8 = .ok (.lload 6, 2) := by decide +kernel
theorem dX5_putFactor_10 : decode cX5_putFactor 10 = .ok (.lconst 0, 1) := by decide +kernel
theorem dX5_putFactor_11 : decode cX5_putFactor 11 = .ok (.lcmp, 1) := by decide +kernel
theorem dX5_putFactor_12 : decode cX5_putFactor 12 = .ok (.ifCond .le 24, 3) := by decide +kernel
theorem dX5_putFactor_15 : decode cX5_putFactor 15 = .ok (.aload_n 0, 1) := by decide +kernel
theorem dX5_putFactor_16 : decode cX5_putFactor 16 = .ok (.getfield 14, 3) := by decide +kernel
theorem dX5_putFactor_19 : decode cX5_putFactor 19 = .ok (.iload_n 1, 1) := by decide +kernel
theorem dX5_putFactor_20 : decode cX5_putFactor 20 = .ok (.lload_n 2, 1) := by decide +kernel
theorem dX5_putFactor_21 : decode cX5_putFactor 21 = .ok (.lload 6, 2) := by decide +kernel
theorem dX5_putFactor_23 : decode cX5_putFactor 23 = .ok (.ldiv, 1) := by decide +kernel
theorem dX5_putFactor_24 : decode cX5_putFactor 24 = .ok (.lastore, 1) := by decide +kernel
theorem dX5_putFactor_25 : decode cX5_putFactor 25 = .ok (.aload_n 0, 1) := by decide +kernel
theorem dX5_putFactor_26 : decode cX5_putFactor 26 = .ok (.getfield 18, 3) := by decide +kernel
theorem dX5_putFactor_29 : decode cX5_putFactor 29 = .ok (.iload_n 1, 1) := by decide +kernel
theorem dX5_putFactor_30 : decode cX5_putFactor 30 = .ok (.lload 4, 2) := by decide +kernel
theorem dX5_putFactor_32 : decode cX5_putFactor 32 = .ok (.lload 6, 2) := by decide +kernel
theorem dX5_putFactor_34 : decode cX5_putFactor 34 = .ok (.ldiv, 1) := by decide +kernel
theorem dX5_putFactor_35 : decode cX5_putFactor 35 = .ok (.lastore, 1) := by decide +kernel
theorem dX5_putFactor_36 : decode cX5_putFactor 36 = .ok (.return_, 1) := by decide +kernel
theorem dX6_init_0 : decode cX6_init 0 = .ok (.aload_n 0, 1) := by decide +kernel
theorem dX6_init_1 : decode cX6_init 1 = .ok (.invokespecial 3, 3) := by decide +kernel
theorem dX6_init_4 : decode cX6_init 4 = .ok (.aload_n 0, 1) := by decide +kernel
theorem dX6_init_5 : decode cX6_init 5 = .ok (.sipush 640, 3) := by decide +kernel
theorem dX6_init_8 : decode cX6_init 8 = .ok (.newarray .char, 2) := by decide +kernel
theorem dX6_init_10 : decode cX6_init 10 = .ok (.putfield 11, 3) := by decide +kernel
theorem dX6_init_13 : decode cX6_init 13 = .ok (.aload_n 0, 1) := by decide +kernel
theorem dX6_init_14 : decode cX6_init 14 = .ok (.new 15, 3) := by decide +kernel
theorem dX6_init_17 : decode cX6_init 17 = .ok (.dup, 1) := by decide +kernel
theorem dX6_init_18 : decode cX6_init 18 = .ok (.invokespecial 17, 3) := by decide +kernel
theorem dX6_init_21 : decode cX6_init 21 = .ok (.putfield 18, 3) := by decide +kernel
theorem dX6_init_24 : decode cX6_init 24 = .ok (.return_, 1) := by decide +kernel
theorem dX6_write_0 : decode cX6_write 0 = .ok (.aload_n 0, 1) := by decide +kernel
theorem dX6_write_1 : decode cX6_write 1 = .ok (.iconst 0, 1) := by decide +kernel
theorem dX6_write_2 : decode cX6_write 2 = .ok (.putfield 22, 3) := by decide +kernel
theorem dX6_write_5 : decode cX6_write 5 = .ok (.aload_n 0, 1) := by decide +kernel
theorem dX6_write_6 : decode cX6_write 6 = .ok (.aload_n 1, 1) := by decide +kernel
theorem dX6_write_7 : decode cX6_write 7 = .ok (.getfield 26, 3) := by decide +kernel
theorem dX6_write_10 : decode cX6_write 10 = .ok (.invokevirtual 31, 3) := by decide +kernel
theorem dX6_write_13 : decode cX6_write 13 = .ok (.aload_n 1, 1) := by decide +kernel
theorem dX6_write_14 : decode cX6_write 14 = .ok (.getfield 35, 3) := by decide +kernel
theorem dX6_write_17 : decode cX6_write 17 = .ok (.invokevirtual 38, 3) := by decide +kernel
theorem dX6_write_20 : decode cX6_write 20 = .ok (.ifCond .ne 17, 3) := by decide +kernel
theorem dX6_write_23 : decode cX6_write 23 = .ok (.aload_n 0, 1) := by decide +kernel
theorem dX6_write_24 : decode cX6_write 24 = .ok (.bipush 47, 2) := by decide +kernel
theorem dX6_write_26 : decode cX6_write 26 = .ok (.invokevirtual 42, 3) := by decide +kernel
theorem dX6_write_29 : decode cX6_write 29 = .ok (.aload_n 0, 1) := by decide +kernel
theorem dX6_write_30 : decode cX6_write 30 = .ok (.aload_n 1, 1) := by decide +kernel
theorem dX6_write_31 : decode cX6_write 31 = .ok (.getfield 35, 3) := by decide +kernel
theorem dX6_write_34 : decode cX6_write 34 = .ok (.invokevirtual 31, 3) := by decide +kernel
theorem dX6_write_37 : decode cX6_write 37 = .ok (.return_, 1) := by decide +kernel
theorem dX6_writeWhole_0 : decode cX6_writeWhole 0 = .ok (.aload_n 0, 1) := by decide +kernel
theorem dX6_writeWhole_1 : decode cX6_writeWhole 1 = .ok (.getfield 22, 3) := by decide +kernel
theorem dX6_writeWhole_4 : decode cX6_writeWhole 4 = .ok (.istore_n 2, 1) := by decide +kernel
theorem dX6_writeWhole_5 : decode cX6_writeWhole 5 = .ok (.aload_n 0, 1) := by decide +kernel
theorem dX6_writeWhole_6 : decode cX6_writeWhole 6 = .ok (.getfield 18, 3) := by decide +kernel
theorem dX6_writeWhole_9 : decode cX6_writeWhole 9 = .ok (.aload_n 1, 1) := by decide +kernel
theorem dX6_writeWhole_10 : decode cX6_writeWhole 10 = .ok (.invokevirtual 46, 3) := by decide +kernel
theorem dX6_writeWhole_13 : decode cX6_writeWhole 13 = .ok (.iconst 0, 1) := by decide +kernel
theorem dX6_writeWhole_14 : decode cX6_writeWhole 14 = .ok (.istore_n 3, 1) := by decide +kernel
theorem dX6_writeWhole_15 : decode cX6_writeWhole 15 = .ok (.iload_n 3, 1) := by decide +kernel
theorem dX6_writeWhole_16 : decode cX6_writeWhole 16 = .ok (.bipush 80, 2) := by decide +kernel
theorem dX6_writeWhole_18 : decode cX6_writeWhole 18 = .ok (.if_icmp .ge 43, 3) := by decide +kernel
theorem dX6_writeWhole_21 : decode cX6_writeWhole 21 = .ok (.aload_n 0, 1) := by decide +kernel
theorem dX6_writeWhole_22 : decode cX6_writeWhole 22 = .ok (.getfield 18, 3) := by decide +kernel
theorem dX6_writeWhole_25 : decode cX6_writeWhole 25 = .ok (.invokevirtual 49, 3) := by decide +kernel
theorem dX6_writeWhole_28 : decode cX6_writeWhole 28 = .ok (.ifCond .ne 33, 3) := by decide +kernel
theorem dX6_writeWhole_31 : decode cX6_writeWhole 31 = .ok (.aload_n 0, 1) := by decide +kernel
theorem dX6_writeWhole_32 : decode cX6_writeWhole 32 = .ok (.getfield 18, 3) := by decide +kernel
theorem dX6_writeWhole_35 : decode cX6_writeWhole 35 = .ok (.ldc 52, 2) := by decide +kernel
theorem dX6_writeWhole_37 : decode cX6_writeWhole 37 = .ok (.invokevirtual 53, 3) := by decide +kernel
theorem dX6_writeWhole_40 : decode cX6_writeWhole 40 = .ok (.istore 4, 2) := by decide +kernel
theorem dX6_writeWhole_42 : decode cX6_writeWhole 42 = .ok (.aload_n 0, 1) := by decide +kernel
theorem dX6_writeWhole_43 : decode cX6_writeWhole 43 = .ok (.iload 4, 2) := by decide +kernel
theorem dX6_writeWhole_45 : decode cX6_writeWhole 45 = .ok (.aload_n 0, 1) := by decide +kernel
theorem dX6_writeWhole_46 : decode cX6_writeWhole 46 = .ok (.getfield 18, 3) := by decide +kernel
theorem dX6_writeWhole_49 : decode cX6_writeWhole 49 = .ok (.invokevirtual 49, 3) := by decide +kernel
theorem dX6_writeWhole_52 : decode cX6_writeWhole 52 = .ok (.invokevirtual 57, 3) := by decide +kernel
theorem dX6_writeWhole_55 : decode cX6_writeWhole 55 = .ok (.iinc 3 1, 3) := by decide +kernel
theorem dX6_writeWhole_58 : decode cX6_writeWhole 58 = .ok (.goto (-43), 3) := by decide +kernel
theorem dX6_writeWhole_61 : decode cX6_writeWhole 61 = .ok (.aload_n 0, 1) := by decide +kernel
theorem dX6_writeWhole_62 : decode cX6_writeWhole 62 = .ok (.iload_n 2, 1) := by decide +kernel
theorem dX6_writeWhole_63 : decode cX6_writeWhole 63 = .ok (.invokevirtual 61, 3) := by decide +kernel
theorem dX6_writeWhole_66 : decode cX6_writeWhole 66 = .ok (.return_, 1) := by decide +kernel
theorem dX6_writeBackwards_0 : decode cX6_writeBackwards 0 = .ok (.iload_n 1, 1) := by decide +kernel
theorem dX6_writeBackwards_1 : decode cX6_writeBackwards 1 = .ok (.istore_n 3, 1) := by decide +kernel
theorem dX6_writeBackwards_2 : decode cX6_writeBackwards 2 = .ok (.iconst 0, 1) := by decide +kernel
theorem dX6_writeBackwards_3 : decode cX6_writeBackwards 3 = .ok (.istore 4, 2) := by decide +kernel
theorem dX6_writeBackwards_5 : decode cX6_writeBackwards 5 = .ok (.iload 4, 2) := by decide +kernel
theorem dX6_writeBackwards_7 : decode cX6_writeBackwards 7 = .ok (.bipush 9, 2) := by decide +kernel
theorem dX6_writeBackwards_9 : decode cX6_writeBackwards 9 = .ok (.if_icmp .ge 34, 3) := by decide +kernel
theorem dX6_writeBackwards_12 : decode cX6_writeBackwards 12 = .ok (.iload_n 3, 1) := by decide +kernel
theorem dX6_writeBackwards_13 : decode cX6_writeBackwards 13 = .ok (.ifCond .gt 7, 3) := by decide +kernel
theorem dX6_writeBackwards_16 : decode cX6_writeBackwards 16 = .ok (.iload_n 2, 1) := by decide +kernel
theorem dX6_writeBackwards_17 : decode cX6_writeBackwards 17 = .ok (.ifCond .ne 26, 3) := by decide +kernel
theorem dX6_writeBackwards_20 : decode cX6_writeBackwards 20 = .ok (.aload_n 0, 1) := by decide +kernel
theorem dX6_writeBackwards_21 : decode cX6_writeBackwards 21 = .ok (.bipush 48, 2) := by decide +kernel
theorem dX6_writeBackwards_23 : decode cX6_writeBackwards 23 = .ok (.iload_n 3, 1) := by decide +kernel
theorem dX6_writeBackwards_24 : decode cX6_writeBackwards 24 = .ok (.bipush 10, 2) := by decide +kernel
theorem dX6_writeBackwards_26 : decode cX6_writeBackwards 26 = .ok (.irem, 1) := by decide +kernel
theorem dX6_writeBackwards_27 : decode cX6_writeBackwards 27 = .ok (.iadd, 1) := by decide +kernel
theorem dX6_writeBackwards_28 : decode cX6_writeBackwards 28 = .ok (.i2c, 1) := by decide +kernel
theorem dX6_writeBackwards_29 : decode cX6_writeBackwards 29 = .ok (.invokevirtual 42, 3) := by decide +kernel
theorem dX6_writeBackwards_32 : decode cX6_writeBackwards 32 = .ok (.iload_n 3, 1) := by decide +kernel
theorem dX6_writeBackwards_33 : decode cX6_writeBackwards 33 = .ok (.bipush 10, 2) := by decide +kernel
theorem dX6_writeBackwards_35 : decode cX6_writeBackwards 35 = .ok (.idiv, 1) := by decide +kernel
theorem dX6_writeBackwards_36 : decode cX6_writeBackwards 36 = .ok (.istore_n 3, 1) := by decide +kernel
theorem dX6_writeBackwards_37 : decode cX6_writeBackwards 37 = .ok (.iinc 4 1, 3) := by decide +kernel
theorem dX6_writeBackwards_40 : decode cX6_writeBackwards 40 = .ok (.goto (-35), 3) := by decide +kernel
theorem dX6_writeBackwards_43 : decode cX6_writeBackwards 43 = .ok (.return_, 1) := by decide +kernel
theorem dX6_append_0 : decode cX6_append 0 = .ok (.aload_n 0, 1) := by decide +kernel
theorem dX6_append_1 : decode cX6_append 1 = .ok (.getfield 22, 3) := by decide +kernel
theorem dX6_append_4 : decode cX6_append 4 = .ok (.sipush 640, 3) := by decide +kernel
theorem dX6_append_7 : decode cX6_append 7 = .ok (.if_icmp .ge 23, 3) := by decide +kernel
theorem dX6_append_10 : decode cX6_append 10 = .ok (.aload_n 0, 1) := by decide +kernel
theorem dX6_append_11 : decode cX6_append 11 = .ok (.getfield 11, 3) := by decide +kernel
theorem dX6_append_14 : decode cX6_append 14 = .ok (.aload_n 0, 1) := by decide +kernel
theorem dX6_append_15 : decode cX6_append 15 = .ok (.getfield 22, 3) := by decide +kernel
theorem dX6_append_18 : decode cX6_append 18 = .ok (.iload_n 1, 1) := by decide +kernel
theorem dX6_append_19 : decode cX6_append 19 = .ok (.castore, 1) := by decide +kernel
theorem dX6_append_20 : decode cX6_append 20 = .ok (.aload_n 0, 1) := by decide +kernel
theorem dX6_append_21 : decode cX6_append 21 = .ok (.dup, 1) := by decide +kernel
theorem dX6_append_22 : decode cX6_append 22 = .ok (.getfield 22, 3) := by decide +kernel
theorem dX6_append_25 : decode cX6_append 25 = .ok (.iconst 1, 1) := by decide +kernel
theorem dX6_append_26 : decode cX6_append 26 = .ok (.iadd, 1) := by decide +kernel
theorem dX6_append_27 : decode cX6_append 27 = .ok (.putfield 22, 3) := by decide +kernel
theorem dX6_append_30 : decode cX6_append 30 = .ok (.return_, 1) := by decide +kernel
theorem dX6_turnRound_0 : decode cX6_turnRound 0 = .ok (.aload_n 0, 1) := by decide +kernel
theorem dX6_turnRound_1 : decode cX6_turnRound 1 = .ok (.getfield 22, 3) := by decide +kernel
theorem dX6_turnRound_4 : decode cX6_turnRound 4 = .ok (.iconst 1, 1) := by decide +kernel
theorem dX6_turnRound_5 : decode cX6_turnRound 5 = .ok (.isub, 1) := by decide +kernel
theorem dX6_turnRound_6 : decode cX6_turnRound 6 = .ok (.istore_n 2, 1) := by decide +kernel
theorem dX6_turnRound_7 : decode cX6_turnRound 7 = .ok (.iload_n 1, 1) := by decide +kernel
theorem dX6_turnRound_8 : decode cX6_turnRound 8 = .ok (.istore_n 3, 1) := by decide +kernel
theorem dX6_turnRound_9 : decode cX6_turnRound 9 = .ok (.iload_n 3, 1) := by decide +kernel
theorem dX6_turnRound_10 : decode cX6_turnRound 10 = .ok (.iload_n 2, 1) := by decide +kernel
theorem dX6_turnRound_11 : decode cX6_turnRound 11 = .ok (.if_icmp .ge 40, 3) := by decide +kernel
theorem dX6_turnRound_14 : decode cX6_turnRound 14 = .ok (.aload_n 0, 1) := by decide +kernel
theorem dX6_turnRound_15 : decode cX6_turnRound 15 = .ok (.getfield 11, 3) := by decide +kernel
theorem dX6_turnRound_18 : decode cX6_turnRound 18 = .ok (.iload_n 3, 1) := by decide +kernel
theorem dX6_turnRound_19 : decode cX6_turnRound 19 = .ok (.caload, 1) := by decide +kernel
theorem dX6_turnRound_20 : decode cX6_turnRound 20 = .ok (.istore 4, 2) := by decide +kernel
theorem dX6_turnRound_22 : decode cX6_turnRound 22 = .ok (.aload_n 0, 1) := by decide +kernel
theorem dX6_turnRound_23 : decode cX6_turnRound 23 = .ok (.getfield 11, 3) := by decide +kernel
theorem dX6_turnRound_26 : decode cX6_turnRound 26 = .ok (.iload_n 3, 1) := by decide +kernel
theorem dX6_turnRound_27 : decode cX6_turnRound 27 = .ok (.aload_n 0, 1) := by decide +kernel
theorem dX6_turnRound_28 : decode cX6_turnRound 28 = .ok (.getfield 11, 3) := by decide +kernel
theorem dX6_turnRound_31 : decode cX6_turnRound 31 = .ok (.iload_n 2, 1) := by decide +kernel
theorem dX6_turnRound_32 : decode cX6_turnRound 32 = .ok (.caload, 1) := by decide +kernel
theorem dX6_turnRound_33 : decode cX6_turnRound 33 = .ok (.castore, 1) := by decide +kernel
theorem dX6_turnRound_34 : decode cX6_turnRound 34 = .ok (.aload_n 0, 1) := by decide +kernel
theorem dX6_turnRound_35 : decode cX6_turnRound 35 = .ok (.getfield 11, 3) := by decide +kernel
theorem dX6_turnRound_38 : decode cX6_turnRound 38 = .ok (.iload_n 2, 1) := by decide +kernel
theorem dX6_turnRound_39 : decode cX6_turnRound 39 = .ok (.iload 4, 2) := by decide +kernel
theorem dX6_turnRound_41 : decode cX6_turnRound 41 = .ok (.castore, 1) := by decide +kernel
theorem dX6_turnRound_42 : decode cX6_turnRound 42 = .ok (.iinc 2 (-1), 3) := by decide +kernel
theorem dX6_turnRound_45 : decode cX6_turnRound 45 = .ok (.iinc 3 1, 3) := by decide +kernel
theorem dX6_turnRound_48 : decode cX6_turnRound 48 = .ok (.goto (-39), 3) := by decide +kernel
theorem dX6_turnRound_51 : decode cX6_turnRound 51 = .ok (.return_, 1) := by decide +kernel
theorem dX7_init_0 : decode cX7_init 0 = .ok (.aload_n 0, 1) := by decide +kernel
theorem dX7_init_1 : decode cX7_init 1 = .ok (.invokespecial 3, 3) := by decide +kernel
theorem dX7_init_4 : decode cX7_init 4 = .ok (.aload_n 0, 1) := by decide +kernel
theorem dX7_init_5 : decode cX7_init 5 = .ok (.bipush 72, 2) := by decide +kernel
theorem dX7_init_7 : decode cX7_init 7 = .ok (.newarray .int, 2) := by decide +kernel
theorem dX7_init_9 : decode cX7_init 9 = .ok (.putfield 9, 3) := by decide +kernel
theorem dX7_init_12 : decode cX7_init 12 = .ok (.return_, 1) := by decide +kernel
theorem dX7_become_0 : decode cX7_become 0 = .ok (.aload_n 0, 1) := by decide +kernel
theorem dX7_become_1 : decode cX7_become 1 = .ok (.invokevirtual 13, 3) := by decide +kernel
theorem dX7_become_4 : decode cX7_become 4 = .ok (.aload_n 0, 1) := by decide +kernel
theorem dX7_become_5 : decode cX7_become 5 = .ok (.getfield 9, 3) := by decide +kernel
theorem dX7_become_8 : decode cX7_become 8 = .ok (.iconst 0, 1) := by decide +kernel
theorem dX7_become_9 : decode cX7_become 9 = .ok (.lload_n 1, 1) := by decide +kernel
theorem dX7_become_10 : decode cX7_become 10 = .ok (.ldc2_w 16, 3) := by decide +kernel
theorem dX7_become_13 : decode cX7_become 13 = .ok (.land, 1) := by decide +kernel
theorem dX7_become_14 : decode cX7_become 14 = .ok (.l2i, 1) := by decide +kernel
theorem dX7_become_15 : decode cX7_become 15 = .ok (.iastore, 1) := by decide +kernel
theorem dX7_become_16 : decode cX7_become 16 = .ok (.aload_n 0, 1) := by decide +kernel
theorem dX7_become_17 : decode cX7_become 17 = .ok (.getfield 9, 3) := by decide +kernel
theorem dX7_become_20 : decode cX7_become 20 = .ok (.iconst 1, 1) := by decide +kernel
theorem dX7_become_21 : decode cX7_become 21 = .ok (.lload_n 1, 1) := by decide +kernel
theorem dX7_become_22 : decode cX7_become 22 = .ok (.bipush 30, 2) := by decide +kernel
theorem dX7_become_24 : decode cX7_become 24 = .ok (.lshr, 1) := by decide +kernel
theorem dX7_become_25 : decode cX7_become 25 = .ok (.ldc2_w 16, 3) := by decide +kernel
theorem dX7_become_28 : decode cX7_become 28 = .ok (.land, 1) := by decide +kernel
theorem dX7_become_29 : decode cX7_become 29 = .ok (.l2i, 1) := by decide +kernel
theorem dX7_become_30 : decode cX7_become 30 = .ok (.iastore, 1) := by decide +kernel
theorem dX7_become_31 : decode cX7_become 31 = .ok (.aload_n 0, 1) := by decide +kernel
theorem dX7_become_32 : decode cX7_become 32 = .ok (.getfield 9, 3) := by decide +kernel
theorem dX7_become_35 : decode cX7_become 35 = .ok (.iconst 2, 1) := by decide +kernel
theorem dX7_become_36 : decode cX7_become 36 = .ok (.lload_n 1, 1) := by decide +kernel
theorem dX7_become_37 : decode cX7_become 37 = .ok (.bipush 60, 2) := by decide +kernel
theorem dX7_become_39 : decode cX7_become 39 = .ok (.lshr, 1) := by decide +kernel
theorem dX7_become_40 : decode cX7_become 40 = .ok (.ldc2_w 16, 3) := by decide +kernel
theorem dX7_become_43 : decode cX7_become 43 = .ok (.land, 1) := by decide +kernel
theorem dX7_become_44 : decode cX7_become 44 = .ok (.l2i, 1) := by decide +kernel
theorem dX7_become_45 : decode cX7_become 45 = .ok (.iastore, 1) := by decide +kernel
theorem dX7_become_46 : decode cX7_become 46 = .ok (.aload_n 0, 1) := by decide +kernel
theorem dX7_become_47 : decode cX7_become 47 = .ok (.iconst 3, 1) := by decide +kernel
theorem dX7_become_48 : decode cX7_become 48 = .ok (.invokevirtual 18, 3) := by decide +kernel
theorem dX7_become_51 : decode cX7_become 51 = .ok (.return_, 1) := by decide +kernel
theorem dX7_copy_0 : decode cX7_copy 0 = .ok (.aload_n 1, 1) := by decide +kernel
theorem dX7_copy_1 : decode cX7_copy 1 = .ok (.getfield 9, 3) := by decide +kernel
theorem dX7_copy_4 : decode cX7_copy 4 = .ok (.iconst 0, 1) := by decide +kernel
theorem dX7_copy_5 : decode cX7_copy 5 = .ok (.aload_n 0, 1) := by decide +kernel
theorem dX7_copy_6 : decode cX7_copy 6 = .ok (.getfield 9, 3) := by decide +kernel
theorem dX7_copy_9 : decode cX7_copy 9 = .ok (.iconst 0, 1) := by decide +kernel
theorem dX7_copy_10 : decode cX7_copy 10 = .ok (.aload_n 0, 1) := by decide +kernel
theorem dX7_copy_11 : decode cX7_copy 11 = .ok (.getfield 22, 3) := by decide +kernel
theorem dX7_copy_14 : decode cX7_copy 14 = .ok (.aload_n 1, 1) := by decide +kernel
theorem dX7_copy_15 : decode cX7_copy 15 = .ok (.getfield 22, 3) := by decide +kernel
theorem dX7_copy_18 : decode cX7_copy 18 = .ok (.invokestatic 26, 3) := by decide +kernel
theorem dX7_copy_21 : decode cX7_copy 21 = .ok (.invokestatic 32, 3) := by decide +kernel
theorem dX7_copy_24 : decode cX7_copy 24 = .ok (.aload_n 0, 1) := by decide +kernel
theorem dX7_copy_25 : decode cX7_copy 25 = .ok (.aload_n 1, 1) := by decide +kernel
theorem dX7_copy_26 : decode cX7_copy 26 = .ok (.getfield 22, 3) := by decide +kernel
theorem dX7_copy_29 : decode cX7_copy 29 = .ok (.putfield 22, 3) := by decide +kernel
theorem dX7_copy_32 : decode cX7_copy 32 = .ok (.return_, 1) := by decide +kernel
theorem dX7_clear_0 : decode cX7_clear 0 = .ok (.iconst 0, 1) := by decide +kernel
theorem dX7_clear_1 : decode cX7_clear 1 = .ok (.istore_n 1, 1) := by decide +kernel
theorem dX7_clear_2 : decode cX7_clear 2 = .ok (.iload_n 1, 1) := by decide +kernel
theorem dX7_clear_3 : decode cX7_clear 3 = .ok (.aload_n 0, 1) := by decide +kernel
theorem dX7_clear_4 : decode cX7_clear 4 = .ok (.getfield 22, 3) := by decide +kernel
theorem dX7_clear_7 : decode cX7_clear 7 = .ok (.if_icmp .ge 16, 3) := by decide +kernel
theorem dX7_clear_10 : decode cX7_clear 10 = .ok (.aload_n 0, 1) := by decide +kernel
theorem dX7_clear_11 : decode cX7_clear 11 = .ok (.getfield 9, 3) := by decide +kernel
theorem dX7_clear_14 : decode cX7_clear 14 = .ok (.iload_n 1, 1) := by decide +kernel
theorem dX7_clear_15 : decode cX7_clear 15 = .ok (.iconst 0, 1) := by decide +kernel
theorem dX7_clear_16 : decode cX7_clear 16 = .ok (.iastore, 1) := by decide +kernel
theorem dX7_clear_17 : decode cX7_clear 17 = .ok (.iinc 1 1, 3) := by decide +kernel
theorem dX7_clear_20 : decode cX7_clear 20 = .ok (.goto (-18), 3) := by decide +kernel
theorem dX7_clear_23 : decode cX7_clear 23 = .ok (.aload_n 0, 1) := by decide +kernel
theorem dX7_clear_24 : decode cX7_clear 24 = .ok (.iconst 0, 1) := by decide +kernel
theorem dX7_clear_25 : decode cX7_clear 25 = .ok (.putfield 22, 3) := by decide +kernel
theorem dX7_clear_28 : decode cX7_clear 28 = .ok (.return_, 1) := by decide +kernel
theorem dX7_trim_0 : decode cX7_trim 0 = .ok (.aload_n 0, 1) := by decide +kernel
theorem dX7_trim_1 : decode cX7_trim 1 = .ok (.iload_n 1, 1) := by decide +kernel
theorem dX7_trim_2 : decode cX7_trim 2 = .ok (.bipush 72, 2) := by decide +kernel
theorem dX7_trim_4 : decode cX7_trim 4 = .ok (.if_icmp .ge 7, 3) := by decide +kernel
theorem dX7_trim_7 : decode cX7_trim 7 = .ok (.iload_n 1, 1) := by decide +kernel
theorem dX7_trim_8 : decode cX7_trim 8 = .ok (.goto 5, 3) := by decide +kernel
theorem dX7_trim_11 : decode cX7_trim 11 = .ok (.bipush 72, 2) := by decide +kernel
theorem dX7_trim_13 : decode cX7_trim 13 = .ok (.putfield 22, 3) := by decide +kernel
theorem dX7_trim_16 : decode cX7_trim 16 = .ok (.aload_n 0, 1) := by decide +kernel
theorem dX7_trim_17 : decode cX7_trim 17 = .ok (.getfield 22, 3) := by decide +kernel
theorem dX7_trim_20 : decode cX7_trim 20 = .ok (.ifCond .le 30, 3) := by decide +kernel
theorem dX7_trim_23 : decode cX7_trim 23 = .ok (.aload_n 0, 1) := by decide +kernel
theorem dX7_trim_24 : decode cX7_trim 24 = .ok (.getfield 9, 3) := by decide +kernel
theorem dX7_trim_27 : decode cX7_trim 27 = .ok (.aload_n 0, 1) := by decide +kernel
theorem dX7_trim_28 : decode cX7_trim 28 = .ok (.getfield 22, 3) := by decide +kernel
theorem dX7_trim_31 : decode cX7_trim 31 = .ok (.iconst 1, 1) := by decide +kernel
theorem dX7_trim_32 : decode cX7_trim 32 = .ok (.isub, 1) := by decide +kernel
theorem dX7_trim_33 : decode cX7_trim 33 = .ok (.iaload, 1) := by decide +kernel
theorem dX7_trim_34 : decode cX7_trim 34 = .ok (.ifCond .ne 16, 3) := by decide +kernel
theorem dX7_trim_37 : decode cX7_trim 37 = .ok (.aload_n 0, 1) := by decide +kernel
theorem dX7_trim_38 : decode cX7_trim 38 = .ok (.dup, 1) := by decide +kernel
theorem dX7_trim_39 : decode cX7_trim 39 = .ok (.getfield 22, 3) := by decide +kernel
theorem dX7_trim_42 : decode cX7_trim 42 = .ok (.iconst 1, 1) := by decide +kernel
theorem dX7_trim_43 : decode cX7_trim 43 = .ok (.isub, 1) := by decide +kernel
theorem dX7_trim_44 : decode cX7_trim 44 = .ok (.putfield 22, 3) := by decide +kernel
theorem dX7_trim_47 : decode cX7_trim 47 = .ok (.goto (-31), 3) := by decide +kernel
theorem dX7_trim_50 : decode cX7_trim 50 = .ok (.return_, 1) := by decide +kernel
theorem dX7_isZero_0 : decode cX7_isZero 0 = .ok (.aload_n 0, 1) := by decide +kernel
theorem dX7_isZero_1 : decode cX7_isZero 1 = .ok (.getfield 22, 3) := by decide +kernel
theorem dX7_isZero_4 : decode cX7_isZero 4 = .ok (.ifCond .ne 7, 3) := by decide +kernel
theorem dX7_isZero_7 : decode cX7_isZero 7 = .ok (.iconst 1, 1) := by decide +kernel
theorem dX7_isZero_8 : decode cX7_isZero 8 = .ok (.goto 4, 3) := by decide +kernel
theorem dX7_isZero_11 : decode cX7_isZero 11 = .ok (.iconst 0, 1) := by decide +kernel
theorem dX7_isZero_12 : decode cX7_isZero 12 = .ok (.ireturn, 1) := by decide +kernel
theorem dX7_isOne_0 : decode cX7_isOne 0 = .ok (.aload_n 0, 1) := by decide +kernel
theorem dX7_isOne_1 : decode cX7_isOne 1 = .ok (.getfield 22, 3) := by decide +kernel
theorem dX7_isOne_4 : decode cX7_isOne 4 = .ok (.iconst 1, 1) := by decide +kernel
theorem dX7_isOne_5 : decode cX7_isOne 5 = .ok (.if_icmp .ne 17, 3) := by decide +kernel
theorem dX7_isOne_8 : decode cX7_isOne 8 = .ok (.aload_n 0, 1) := by decide +kernel
theorem dX7_isOne_9 : decode cX7_isOne 9 = .ok (.getfield 9, 3) := by decide +kernel
theorem dX7_isOne_12 : decode cX7_isOne 12 = .ok (.iconst 0, 1) := by decide +kernel
theorem dX7_isOne_13 : decode cX7_isOne 13 = .ok (.iaload, 1) := by decide +kernel
theorem dX7_isOne_14 : decode cX7_isOne 14 = .ok (.iconst 1, 1) := by decide +kernel
theorem dX7_isOne_15 : decode cX7_isOne 15 = .ok (.if_icmp .ne 7, 3) := by decide +kernel
theorem dX7_isOne_18 : decode cX7_isOne 18 = .ok (.iconst 1, 1) := by decide +kernel
theorem dX7_isOne_19 : decode cX7_isOne 19 = .ok (.goto 4, 3) := by decide +kernel
theorem dX7_isOne_22 : decode cX7_isOne 22 = .ok (.iconst 0, 1) := by decide +kernel
theorem dX7_isOne_23 : decode cX7_isOne 23 = .ok (.ireturn, 1) := by decide +kernel
theorem dX7_isShort_0 : decode cX7_isShort 0 = .ok (.aload_n 0, 1) := by decide +kernel
theorem dX7_isShort_1 : decode cX7_isShort 1 = .ok (.getfield 22, 3) := by decide +kernel
theorem dX7_isShort_4 : decode cX7_isShort 4 = .ok (.iconst 2, 1) := by decide +kernel
theorem dX7_isShort_5 : decode cX7_isShort 5 = .ok (.if_icmp .gt 7, 3) := by decide +kernel
theorem dX7_isShort_8 : decode cX7_isShort 8 = .ok (.iconst 1, 1) := by decide +kernel
theorem dX7_isShort_9 : decode cX7_isShort 9 = .ok (.goto 4, 3) := by decide +kernel
theorem dX7_isShort_12 : decode cX7_isShort 12 = .ok (.iconst 0, 1) := by decide +kernel
theorem dX7_isShort_13 : decode cX7_isShort 13 = .ok (.ireturn, 1) := by decide +kernel
theorem dX7_asLong_0 : decode cX7_asLong 0 = .ok (.aload_n 0, 1) := by decide +kernel
theorem dX7_asLong_1 : decode cX7_asLong 1 = .ok (.getfield 9, 3) := by decide +kernel
theorem dX7_asLong_4 : decode cX7_asLong 4 = .ok (.iconst 1, 1) := by decide +kernel
theorem dX7_asLong_5 : decode cX7_asLong 5 = .ok (.iaload, 1) := by decide +kernel
theorem dX7_asLong_6 : decode cX7_asLong 6 = .ok (.i2l, 1) := by decide +kernel
theorem dX7_asLong_7 : decode cX7_asLong 7 = .ok (.bipush 30, 2) := by decide +kernel
theorem dX7_asLong_9 : decode cX7_asLong 9 = .ok (.lshl, 1) := by decide +kernel
theorem dX7_asLong_10 : decode cX7_asLong 10 = .ok (.aload_n 0, 1) := by decide +kernel
theorem dX7_asLong_11 : decode cX7_asLong 11 = .ok (.getfield 9, 3) := by decide +kernel
theorem dX7_asLong_14 : decode cX7_asLong 14 = .ok (.iconst 0, 1) := by decide +kernel
theorem dX7_asLong_15 : decode cX7_asLong 15 = .ok (.iaload, 1) := by decide +kernel
theorem dX7_asLong_16 : decode cX7_asLong 16 = .ok (.i2l, 1) := by decide +kernel
theorem dX7_asLong_17 : decode cX7_asLong 17 = .ok (.lor, 1) := by decide +kernel
theorem dX7_asLong_18 : decode cX7_asLong 18 = .ok (.lreturn, 1) := by decide +kernel
theorem dX7_binaryDigits_0 : decode cX7_binaryDigits 0 = .ok (.aload_n 0, 1) := by decide +kernel
theorem dX7_binaryDigits_1 : decode cX7_binaryDigits 1 = .ok (.getfield 22, 3) := by decide +kernel
theorem dX7_binaryDigits_4 : decode cX7_binaryDigits 4 = .ok (.bipush 30, 2) := by decide +kernel
theorem dX7_binaryDigits_6 : decode cX7_binaryDigits 6 = .ok (.imul, 1) := by decide +kernel
theorem dX7_binaryDigits_7 : decode cX7_binaryDigits 7 = .ok (.aload_n 0, 1) := by decide +kernel
theorem dX7_binaryDigits_8 : decode cX7_binaryDigits 8 = .ok (.invokevirtual 38, 3) := by decide +kernel
theorem dX7_binaryDigits_11 : decode cX7_binaryDigits 11 = .ok (.isub, 1) := by decide +kernel
theorem dX7_binaryDigits_12 : decode cX7_binaryDigits 12 = .ok (.ireturn, 1) := by decide +kernel
theorem dX7_freeBits_0 : decode cX7_freeBits 0 = .ok (.iconst 0, 1) := by decide +kernel
theorem dX7_freeBits_1 : decode cX7_freeBits 1 = .ok (.istore_n 1, 1) := by decide +kernel
theorem dX7_freeBits_2 : decode cX7_freeBits 2 = .ok (.aload_n 0, 1) := by decide +kernel
theorem dX7_freeBits_3 : decode cX7_freeBits 3 = .ok (.getfield 22, 3) := by decide +kernel
theorem dX7_freeBits_6 : decode cX7_freeBits 6 = .ok (.ifCond .le 34, 3) := by decide +kernel
theorem dX7_freeBits_9 : decode cX7_freeBits 9 = .ok (.iload_n 1, 1) := by decide +kernel
theorem dX7_freeBits_10 : decode cX7_freeBits 10 = .ok (.bipush 30, 2) := by decide +kernel
theorem dX7_freeBits_12 : decode cX7_freeBits 12 = .ok (.if_icmp .ge 28, 3) := by decide +kernel
theorem dX7_freeBits_15 : decode cX7_freeBits 15 = .ok (.aload_n 0, 1) := by decide +kernel
theorem dX7_freeBits_16 : decode cX7_freeBits 16 = .ok (.getfield 9, 3) := by decide +kernel
theorem dX7_freeBits_19 : decode cX7_freeBits 19 = .ok (.aload_n 0, 1) := by decide +kernel
theorem dX7_freeBits_20 : decode cX7_freeBits 20 = .ok (.getfield 22, 3) := by decide +kernel
theorem dX7_freeBits_23 : decode cX7_freeBits 23 = .ok (.iconst 1, 1) := by decide +kernel
theorem dX7_freeBits_24 : decode cX7_freeBits 24 = .ok (.isub, 1) := by decide +kernel
theorem dX7_freeBits_25 : decode cX7_freeBits 25 = .ok (.iaload, 1) := by decide +kernel
theorem dX7_freeBits_26 : decode cX7_freeBits 26 = .ok (.bipush 29, 2) := by decide +kernel
theorem dX7_freeBits_28 : decode cX7_freeBits 28 = .ok (.iload_n 1, 1) := by decide +kernel
theorem dX7_freeBits_29 : decode cX7_freeBits 29 = .ok (.isub, 1) := by decide +kernel
theorem dX7_freeBits_30 : decode cX7_freeBits 30 = .ok (.ishr, 1) := by decide +kernel
theorem dX7_freeBits_31 : decode cX7_freeBits 31 = .ok (.ifCond .ne 9, 3) := by decide +kernel
theorem dX7_freeBits_34 : decode cX7_freeBits 34 = .ok (.iinc 1 1, 3) := by decide +kernel
theorem dX7_freeBits_37 : decode cX7_freeBits 37 = .ok (.goto (-35), 3) := by decide +kernel
theorem dX7_freeBits_40 : decode cX7_freeBits 40 = .ok (.iload_n 1, 1) := by decide +kernel
theorem dX7_freeBits_41 : decode cX7_freeBits 41 = .ok (.ireturn, 1) := by decide +kernel
theorem dX7_compareWith_0 : decode cX7_compareWith 0 = .ok (.aload_n 0, 1) := by decide +kernel
theorem dX7_compareWith_1 : decode cX7_compareWith 1 = .ok (.getfield 22, 3) := by decide +kernel
theorem dX7_compareWith_4 : decode cX7_compareWith 4 = .ok (.aload_n 1, 1) := by decide +kernel
theorem dX7_compareWith_5 : decode cX7_compareWith 5 = .ok (.getfield 22, 3) := by decide +kernel
theorem dX7_compareWith_8 : decode cX7_compareWith 8 = .ok (.invokestatic 26, 3) := by decide +kernel
theorem dX7_compareWith_11 : decode cX7_compareWith 11 = .ok (.iconst 1, 1) := by decide +kernel
theorem dX7_compareWith_12 : decode cX7_compareWith 12 = .ok (.isub, 1) := by decide +kernel
theorem dX7_compareWith_13 : decode cX7_compareWith 13 = .ok (.istore_n 2, 1) := by decide +kernel
theorem dX7_compareWith_14 : decode cX7_compareWith 14 = .ok (.iload_n 2, 1) := by decide +kernel
theorem dX7_compareWith_15 : decode cX7_compareWith 15 = .ok (.ifCond .lt 40, 3) := by decide +kernel
theorem dX7_compareWith_18 : decode cX7_compareWith 18 = .ok (.aload_n 0, 1) := by decide +kernel
theorem dX7_compareWith_19 : decode cX7_compareWith 19 = .ok (.getfield 9, 3) := by decide +kernel
theorem dX7_compareWith_22 : decode cX7_compareWith 22 = .ok (.iload_n 2, 1) := by decide +kernel
theorem dX7_compareWith_23 : decode cX7_compareWith 23 = .ok (.iaload, 1) := by decide +kernel
theorem dX7_compareWith_24 : decode cX7_compareWith 24 = .ok (.aload_n 1, 1) := by decide +kernel
theorem dX7_compareWith_25 : decode cX7_compareWith 25 = .ok (.getfield 9, 3) := by decide +kernel
theorem dX7_compareWith_28 : decode cX7_compareWith 28 = .ok (.iload_n 2, 1) := by decide +kernel
theorem dX7_compareWith_29 : decode cX7_compareWith 29 = .ok (.iaload, 1) := by decide +kernel
theorem dX7_compareWith_30 : decode cX7_compareWith 30 = .ok (.if_icmp .eq 19, 3) := by decide +kernel
theorem dX7_compareWith_33 : decode cX7_compareWith 33 = .ok (.aload_n 0, 1) := by decide +kernel
theorem dX7_compareWith_34 : decode cX7_compareWith 34 = .ok (.getfield 9, 3) := by decide +kernel
theorem dX7_compareWith_37 : decode cX7_compareWith 37 = .ok (.iload_n 2, 1) := by decide +kernel
theorem dX7_compareWith_38 : decode cX7_compareWith 38 = .ok (.iaload, 1) := by decide +kernel
theorem dX7_compareWith_39 : decode cX7_compareWith 39 = .ok (.aload_n 1, 1) := by decide +kernel
theorem dX7_compareWith_40 : decode cX7_compareWith 40 = .ok (.getfield 9, 3) := by decide +kernel
theorem dX7_compareWith_43 : decode cX7_compareWith 43 = .ok (.iload_n 2, 1) := by decide +kernel
theorem dX7_compareWith_44 : decode cX7_compareWith 44 = .ok (.iaload, 1) := by decide +kernel
theorem dX7_compareWith_45 : decode cX7_compareWith 45 = .ok (.invokestatic 42, 3) := by decide +kernel
theorem dX7_compareWith_48 : decode cX7_compareWith 48 = .ok (.ireturn, 1) := by decide +kernel
theorem dX7_compareWith_49 : decode cX7_compareWith 49 = .ok (.iinc 2 (-1), 3) := by decide +kernel
theorem dX7_compareWith_52 : decode cX7_compareWith 52 = .ok (.goto (-38), 3) := by decide +kernel
theorem dX7_compareWith_55 : decode cX7_compareWith 55 = .ok (.iconst 0, 1) := by decide +kernel
theorem dX7_compareWith_56 : decode cX7_compareWith 56 = .ok (.ireturn, 1) := by decide +kernel
theorem dX7_add_0 : decode cX7_add 0 = .ok (.aload_n 0, 1) := by decide +kernel
theorem dX7_add_1 : decode cX7_add 1 = .ok (.getfield 22, 3) := by decide +kernel
theorem dX7_add_4 : decode cX7_add 4 = .ok (.aload_n 1, 1) := by decide +kernel
theorem dX7_add_5 : decode cX7_add 5 = .ok (.getfield 22, 3) := by decide +kernel
theorem dX7_add_8 : decode cX7_add 8 = .ok (.invokestatic 26, 3) := by decide +kernel
theorem dX7_add_11 : decode cX7_add 11 = .ok (.iconst 1, 1) := by decide +kernel
theorem dX7_add_12 : decode cX7_add 12 = .ok (.iadd, 1) := by decide +kernel
theorem dX7_add_13 : decode cX7_add 13 = .ok (.bipush 72, 2) := by decide +kernel
theorem dX7_add_15 : decode cX7_add 15 = .ok (.invokestatic 47, 3) := by decide +kernel
theorem dX7_add_18 : decode cX7_add 18 = .ok (.istore_n 2, 1) := by decide +kernel
theorem dX7_add_19 : decode cX7_add 19 = .ok (.iconst 0, 1) := by decide +kernel
theorem dX7_add_20 : decode cX7_add 20 = .ok (.istore_n 3, 1) := by decide +kernel
theorem dX7_add_21 : decode cX7_add 21 = .ok (.iconst 0, 1) := by decide +kernel
theorem dX7_add_22 : decode cX7_add 22 = .ok (.istore 4, 2) := by decide +kernel
theorem dX7_add_24 : decode cX7_add 24 = .ok (.iload 4, 2) := by decide +kernel
theorem dX7_add_26 : decode cX7_add 26 = .ok (.iload_n 2, 1) := by decide +kernel
theorem dX7_add_27 : decode cX7_add 27 = .ok (.if_icmp .ge 46, 3) := by decide +kernel
theorem dX7_add_30 : decode cX7_add 30 = .ok (.aload_n 0, 1) := by decide +kernel
theorem dX7_add_31 : decode cX7_add 31 = .ok (.getfield 9, 3) := by decide +kernel
theorem dX7_add_34 : decode cX7_add 34 = .ok (.iload 4, 2) := by decide +kernel
theorem dX7_add_36 : decode cX7_add 36 = .ok (.iaload, 1) := by decide +kernel
theorem dX7_add_37 : decode cX7_add 37 = .ok (.aload_n 1, 1) := by decide +kernel
theorem dX7_add_38 : decode cX7_add 38 = .ok (.getfield 9, 3) := by decide +kernel
theorem dX7_add_41 : decode cX7_add 41 = .ok (.iload 4, 2) := by decide +kernel
theorem dX7_add_43 : decode cX7_add 43 = .ok (.iaload, 1) := by decide +kernel
theorem dX7_add_44 : decode cX7_add 44 = .ok (.iadd, 1) := by decide +kernel
theorem dX7_add_45 : decode cX7_add 45 = .ok (.iload_n 3, 1) := by decide +kernel
theorem dX7_add_46 : decode cX7_add 46 = .ok (.iadd, 1) := by decide +kernel
theorem dX7_add_47 : decode cX7_add 47 = .ok (.istore 5, 2) := by decide +kernel
theorem dX7_add_49 : decode cX7_add 49 = .ok (.aload_n 0, 1) := by decide +kernel
theorem dX7_add_50 : decode cX7_add 50 = .ok (.getfield 9, 3) := by decide +kernel
theorem dX7_add_53 : decode cX7_add 53 = .ok (.iload 4, 2) := by decide +kernel
theorem dX7_add_55 : decode cX7_add 55 = .ok (.iload 5, 2) := by decide +kernel
theorem dX7_add_57 : decode cX7_add 57 = .ok (.ldc 50, 2) := by decide +kernel
theorem dX7_add_59 : decode cX7_add 59 = .ok (.iand, 1) := by decide +kernel
theorem dX7_add_60 : decode cX7_add 60 = .ok (.iastore, 1) := by decide +kernel
theorem dX7_add_61 : decode cX7_add 61 = .ok (.iload 5, 2) := by decide +kernel
theorem dX7_add_63 : decode cX7_add 63 = .ok (.bipush 30, 2) := by decide +kernel
theorem dX7_add_65 : decode cX7_add 65 = .ok (.iushr, 1) := by decide +kernel
theorem dX7_add_66 : decode cX7_add 66 = .ok (.istore_n 3, 1) := by decide +kernel
theorem dX7_add_67 : decode cX7_add 67 = .ok (.iinc 4 1, 3) := by decide +kernel
theorem dX7_add_70 : decode cX7_add 70 = .ok (.goto (-46), 3) := by decide +kernel
theorem dX7_add_73 : decode cX7_add 73 = .ok (.aload_n 0, 1) := by decide +kernel
theorem dX7_add_74 : decode cX7_add 74 = .ok (.iload_n 2, 1) := by decide +kernel
theorem dX7_add_75 : decode cX7_add 75 = .ok (.invokevirtual 18, 3) := by decide +kernel
theorem dX7_add_78 : decode cX7_add 78 = .ok (.return_, 1) := by decide +kernel
theorem dX7_setProduct_0 : decode cX7_setProduct 0 = .ok (.aload_n 0, 1) := by decide +kernel
theorem dX7_setProduct_1 : decode cX7_setProduct 1 = .ok (.invokevirtual 13, 3) := by decide +kernel
theorem dX7_setProduct_4 : decode cX7_setProduct 4 = .ok (.iconst 0, 1) := by decide +kernel
theorem dX7_setProduct_5 : decode cX7_setProduct 5 = .ok (.istore_n 3, 1) := by decide +kernel
theorem dX7_setProduct_6 : decode cX7_setProduct 6 = .ok (.iload_n 3, 1) := by decide +kernel
theorem dX7_setProduct_7 : decode cX7_setProduct 7 = .ok (.aload_n 1, 1) := by decide +kernel
theorem dX7_setProduct_8 : decode cX7_setProduct 8 = .ok (.getfield 22, 3) := by decide +kernel
theorem dX7_setProduct_11 : decode cX7_setProduct 11 = .ok (.if_icmp .ge 110, 3) := by decide +kernel
theorem dX7_setProduct_14 : decode cX7_setProduct 14 = .ok (.iload_n 3, 1) := by decide +kernel
theorem dX7_setProduct_15 : decode cX7_setProduct 15 = .ok (.aload_n 2, 1) := by decide +kernel
theorem dX7_setProduct_16 : decode cX7_setProduct 16 = .ok (.getfield 22, 3) := by decide +kernel
theorem dX7_setProduct_19 : decode cX7_setProduct 19 = .ok (.iadd, 1) := by decide +kernel
theorem dX7_setProduct_20 : decode cX7_setProduct 20 = .ok (.bipush 72, 2) := by decide +kernel
theorem dX7_setProduct_22 : decode cX7_setProduct 22 = .ok (.if_icmp .ge 99, 3) := by decide +kernel
theorem dX7_setProduct_25 : decode cX7_setProduct 25 = .ok (.lconst 0, 1) := by decide +kernel
theorem dX7_setProduct_26 : decode cX7_setProduct 26 = .ok (.lstore 4, 2) := by decide +kernel
theorem dX7_setProduct_28 : decode cX7_setProduct 28 = .ok (.iconst 0, 1) := by decide +kernel
theorem dX7_setProduct_29 : decode cX7_setProduct 29 = .ok (.istore 6, 2) := by decide +kernel
theorem dX7_setProduct_31 : decode cX7_setProduct 31 = .ok (.iload 6, 2) := by decide +kernel
theorem dX7_setProduct_33 : decode cX7_setProduct 33 = .ok (.aload_n 2, 1) := by decide +kernel
theorem dX7_setProduct_34 : decode cX7_setProduct 34 = .ok (.getfield 22, 3) := by decide +kernel
theorem dX7_setProduct_37 : decode cX7_setProduct 37 = .ok (.if_icmp .ge 64, 3) := by decide +kernel
theorem dX7_setProduct_40 : decode cX7_setProduct 40 = .ok (.aload_n 1, 1) := by decide +kernel
theorem dX7_setProduct_41 : decode cX7_setProduct 41 = .ok (.getfield 9, 3) := by decide +kernel
theorem dX7_setProduct_44 : decode cX7_setProduct 44 = .ok (.iload_n 3, 1) := by decide +kernel
theorem dX7_setProduct_45 : decode cX7_setProduct 45 = .ok (.iaload, 1) := by decide +kernel
theorem dX7_setProduct_46 : decode cX7_setProduct 46 = .ok (.i2l, 1) := by decide +kernel
theorem dX7_setProduct_47 : decode cX7_setProduct 47 = .ok (.aload_n 2, 1) := by decide +kernel
theorem dX7_setProduct_48 : decode cX7_setProduct 48 = .ok (.getfield 9, 3) := by decide +kernel
theorem dX7_setProduct_51 : decode cX7_setProduct 51 = .ok (.iload 6, 2) := by decide +kernel
theorem dX7_setProduct_53 : decode cX7_setProduct 53 = .ok (.iaload, 1) := by decide +kernel
theorem dX7_setProduct_54 : decode cX7_setProduct 54 = .ok (.i2l, 1) := by decide +kernel
theorem dX7_setProduct_55 : decode cX7_setProduct 55 = .ok (.lmul, 1) := by decide +kernel
theorem dX7_setProduct_56 : decode cX7_setProduct 56 = .ok (.aload_n 0, 1) := by decide +kernel
theorem dX7_setProduct_57 : decode cX7_setProduct 57 = .ok (.getfield 9, 3) := by decide +kernel
theorem dX7_setProduct_60 : decode cX7_setProduct 60 = .ok (.iload_n 3, 1) := by decide +kernel
theorem dX7_setProduct_61 : decode cX7_setProduct 61 = .ok (.iload 6, 2) := by decide +kernel
theorem dX7_setProduct_63 : decode cX7_setProduct 63 = .ok (.iadd, 1) := by decide +kernel
theorem dX7_setProduct_64 : decode cX7_setProduct 64 = .ok (.iaload, 1) := by decide +kernel
theorem dX7_setProduct_65 : decode cX7_setProduct 65 = .ok (.i2l, 1) := by decide +kernel
theorem dX7_setProduct_66 : decode cX7_setProduct 66 = .ok (.ladd, 1) := by decide +kernel
theorem dX7_setProduct_67 : decode cX7_setProduct 67 = .ok (.lload 4, 2) := by decide +kernel
theorem dX7_setProduct_69 : decode cX7_setProduct 69 = .ok (.ladd, 1) := by decide +kernel
theorem dX7_setProduct_70 : decode cX7_setProduct 70 = .ok (.lstore 7, 2) := by decide +kernel
theorem dX7_setProduct_72 : decode cX7_setProduct 72 = .ok (.aload_n 0, 1) := by decide +kernel
theorem dX7_setProduct_73 : decode cX7_setProduct 73 = .ok (.getfield 9, 3) := by decide +kernel
theorem dX7_setProduct_76 : decode cX7_setProduct 76 = .ok (.iload_n 3, 1) := by decide +kernel
theorem dX7_setProduct_77 : decode cX7_setProduct 77 = .ok (.iload 6, 2) := by decide +kernel
theorem dX7_setProduct_79 : decode cX7_setProduct 79 = .ok (.iadd, 1) := by decide +kernel
theorem dX7_setProduct_80 : decode cX7_setProduct 80 = .ok (.lload 7, 2) := by decide +kernel
theorem dX7_setProduct_82 : decode cX7_setProduct 82 = .ok (.ldc2_w 16, 3) := by decide +kernel
theorem dX7_setProduct_85 : decode cX7_setProduct 85 = .ok (.land, 1) := by decide +kernel
theorem dX7_setProduct_86 : decode cX7_setProduct 86 = .ok (.l2i, 1) := by decide +kernel
theorem dX7_setProduct_87 : decode cX7_setProduct 87 = .ok (.iastore, 1) := by decide +kernel
theorem dX7_setProduct_88 : decode cX7_setProduct 88 = .ok (.lload 7, 2) := by decide +kernel
theorem dX7_setProduct_90 : decode cX7_setProduct 90 = .ok (.bipush 30, 2) := by decide +kernel
theorem dX7_setProduct_92 : decode cX7_setProduct 92 = .ok (.lshr, 1) := by decide +kernel
theorem dX7_setProduct_93 : decode cX7_setProduct 93 = .ok (.lstore 4, 2) := by decide +kernel
theorem dX7_setProduct_95 : decode cX7_setProduct 95 = .ok (.iinc 6 1, 3) := by decide +kernel
theorem dX7_setProduct_98 : decode cX7_setProduct 98 = .ok (.goto (-67), 3) := by decide +kernel
theorem dX7_setProduct_101 : decode cX7_setProduct 101 = .ok (.aload_n 0, 1) := by decide +kernel
theorem dX7_setProduct_102 : decode cX7_setProduct 102 = .ok (.getfield 9, 3) := by decide +kernel
theorem dX7_setProduct_105 : decode cX7_setProduct 105 = .ok (.iload_n 3, 1) := by decide +kernel
theorem dX7_setProduct_106 : decode cX7_setProduct 106 = .ok (.aload_n 2, 1) := by decide +kernel
theorem dX7_setProduct_107 : decode cX7_setProduct 107 = .ok (.getfield 22, 3) := by decide +kernel
theorem dX7_setProduct_110 : decode cX7_setProduct 110 = .ok (.iadd, 1) := by decide +kernel
theorem dX7_setProduct_111 : decode cX7_setProduct 111 = .ok (.lload 4, 2) := by decide +kernel
theorem dX7_setProduct_113 : decode cX7_setProduct 113 = .ok (.l2i, 1) := by decide +kernel
theorem dX7_setProduct_114 : decode cX7_setProduct 114 = .ok (.iastore, 1) := by decide +kernel
theorem dX7_setProduct_115 : decode cX7_setProduct 115 = .ok (.iinc 3 1, 3) := by decide +kernel
theorem dX7_setProduct_118 : decode cX7_setProduct 118 = .ok (.goto (-112), 3) := by decide +kernel
theorem dX7_setProduct_121 : decode cX7_setProduct 121 = .ok (.aload_n 0, 1) := by decide +kernel
theorem dX7_setProduct_122 : decode cX7_setProduct 122 = .ok (.aload_n 1, 1) := by decide +kernel
theorem dX7_setProduct_123 : decode cX7_setProduct 123 = .ok (.getfield 22, 3) := by decide +kernel
theorem dX7_setProduct_126 : decode cX7_setProduct 126 = .ok (.aload_n 2, 1) := by decide +kernel
theorem dX7_setProduct_127 : decode cX7_setProduct 127 = .ok (.getfield 22, 3) := by decide +kernel
theorem dX7_setProduct_130 : decode cX7_setProduct 130 = .ok (.iadd, 1) := by decide +kernel
theorem dX7_setProduct_131 : decode cX7_setProduct 131 = .ok (.invokevirtual 18, 3) := by decide +kernel
theorem dX7_setProduct_134 : decode cX7_setProduct 134 = .ok (.return_, 1) := by decide +kernel
theorem dX7_divideBySmall_0 : decode cX7_divideBySmall 0 = .ok (.iload_n 1, 1) := by decide +kernel
theorem dX7_divideBySmall_1 : decode cX7_divideBySmall 1 = .ok (.ifCond .gt 5, 3) := by decide +kernel
theorem dX7_divideBySmall_4 : decode cX7_divideBySmall 4 = .ok (.iconst 0, 1) := by decide +kernel
theorem dX7_divideBySmall_5 : decode cX7_divideBySmall 5 = .ok (.ireturn, 1) := by decide +kernel
theorem dX7_divideBySmall_6 : decode cX7_divideBySmall 6 = .ok (.lconst 0, 1) := by decide +kernel
theorem dX7_divideBySmall_7 : decode cX7_divideBySmall 7 = .ok (.lstore_n 2, 1) := by decide +kernel
theorem dX7_divideBySmall_8 : decode cX7_divideBySmall 8 = .ok (.aload_n 0, 1) := by decide +kernel
theorem dX7_divideBySmall_9 : decode cX7_divideBySmall 9 = .ok (.getfield 22, 3) := by decide +kernel
theorem dX7_divideBySmall_12 : decode cX7_divideBySmall 12 = .ok (.iconst 1, 1) := by decide +kernel
theorem dX7_divideBySmall_13 : decode cX7_divideBySmall 13 = .ok (.isub, 1) := by decide +kernel
theorem dX7_divideBySmall_14 : decode cX7_divideBySmall 14 = .ok (.istore 4, 2) := by decide +kernel
theorem dX7_divideBySmall_16 : decode cX7_divideBySmall 16 = .ok (.iload 4, 2) := by decide +kernel
theorem dX7_divideBySmall_18 : decode cX7_divideBySmall 18 = .ok (.ifCond .lt 43, 3) := by decide +kernel
theorem dX7_divideBySmall_21 : decode cX7_divideBySmall 21 = .ok (.lload_n 2, 1) := by decide +kernel
theorem dX7_divideBySmall_22 : decode cX7_divideBySmall 22 = .ok (.bipush 30, 2) := by decide +kernel
theorem dX7_divideBySmall_24 : decode cX7_divideBySmall 24 = .ok (.lshl, 1) := by decide +kernel
theorem dX7_divideBySmall_25 : decode cX7_divideBySmall 25 = .ok (.aload_n 0, 1) := by decide +kernel
theorem dX7_divideBySmall_26 : decode cX7_divideBySmall 26 = .ok (.getfield 9, 3) := by decide +kernel
theorem dX7_divideBySmall_29 : decode cX7_divideBySmall 29 = .ok (.iload 4, 2) := by decide +kernel
theorem dX7_divideBySmall_31 : decode cX7_divideBySmall 31 = .ok (.iaload, 1) := by decide +kernel
theorem dX7_divideBySmall_32 : decode cX7_divideBySmall 32 = .ok (.i2l, 1) := by decide +kernel
theorem dX7_divideBySmall_33 : decode cX7_divideBySmall 33 = .ok (.lor, 1) := by decide +kernel
theorem dX7_divideBySmall_34 : decode cX7_divideBySmall 34 = .ok (.lstore 5, 2) := by decide +kernel
theorem dX7_divideBySmall_36 : decode cX7_divideBySmall 36 = .ok (.aload_n 0, 1) := by decide +kernel
theorem dX7_divideBySmall_37 : decode cX7_divideBySmall 37 = .ok (.getfield 9, 3) := by decide +kernel
theorem dX7_divideBySmall_40 : decode cX7_divideBySmall 40 = .ok (.iload 4, 2) := by decide +kernel
theorem dX7_divideBySmall_42 : decode cX7_divideBySmall 42 = .ok (.lload 5, 2) := by decide +kernel
theorem dX7_divideBySmall_44 : decode cX7_divideBySmall 44 = .ok (.iload_n 1, 1) := by decide +kernel
theorem dX7_divideBySmall_45 : decode cX7_divideBySmall 45 = .ok (.i2l, 1) := by decide +kernel
theorem dX7_divideBySmall_46 : decode cX7_divideBySmall 46 = .ok (.ldiv, 1) := by decide +kernel
theorem dX7_divideBySmall_47 : decode cX7_divideBySmall 47 = .ok (.l2i, 1) := by decide +kernel
theorem dX7_divideBySmall_48 : decode cX7_divideBySmall 48 = .ok (.iastore, 1) := by decide +kernel
theorem dX7_divideBySmall_49 : decode cX7_divideBySmall 49 = .ok (.lload 5, 2) := by decide +kernel
theorem dX7_divideBySmall_51 : decode cX7_divideBySmall 51 = .ok (.iload_n 1, 1) := by decide +kernel
theorem dX7_divideBySmall_52 : decode cX7_divideBySmall 52 = .ok (.i2l, 1) := by decide +kernel
theorem dX7_divideBySmall_53 : decode cX7_divideBySmall 53 = .ok (.lrem, 1) := by decide +kernel
theorem dX7_divideBySmall_54 : decode cX7_divideBySmall 54 = .ok (.lstore_n 2, 1) := by decide +kernel
theorem dX7_divideBySmall_55 : decode cX7_divideBySmall 55 = .ok (.iinc 4 (-1), 3) := by decide +kernel
theorem dX7_divideBySmall_58 : decode cX7_divideBySmall 58 = .ok (.goto (-42), 3) := by decide +kernel
theorem dX7_divideBySmall_61 : decode cX7_divideBySmall 61 = .ok (.aload_n 0, 1) := by decide +kernel
theorem dX7_divideBySmall_62 : decode cX7_divideBySmall 62 = .ok (.aload_n 0, 1) := by decide +kernel
theorem dX7_divideBySmall_63 : decode cX7_divideBySmall 63 = .ok (.getfield 22, 3) := by decide +kernel
theorem dX7_divideBySmall_66 : decode cX7_divideBySmall 66 = .ok (.invokevirtual 18, 3) := by decide +kernel
theorem dX7_divideBySmall_69 : decode cX7_divideBySmall 69 = .ok (.lload_n 2, 1) := by decide +kernel
theorem dX7_divideBySmall_70 : decode cX7_divideBySmall 70 = .ok (.l2i, 1) := by decide +kernel
theorem dX7_divideBySmall_71 : decode cX7_divideBySmall 71 = .ok (.ireturn, 1) := by decide +kernel
theorem dX7_shiftUp_0 : decode cX7_shiftUp 0 = .ok (.aload_n 0, 1) := by decide +kernel
theorem dX7_shiftUp_1 : decode cX7_shiftUp 1 = .ok (.getfield 22, 3) := by decide +kernel
theorem dX7_shiftUp_4 : decode cX7_shiftUp 4 = .ok (.iconst 1, 1) := by decide +kernel
theorem dX7_shiftUp_5 : decode cX7_shiftUp 5 = .ok (.iadd, 1) := by decide +kernel
theorem dX7_shiftUp_6 : decode cX7_shiftUp 6 = .ok (.bipush 72, 2) := by decide +kernel
theorem dX7_shiftUp_8 : decode cX7_shiftUp 8 = .ok (.invokestatic 47, 3) := by decide +kernel
theorem dX7_shiftUp_11 : decode cX7_shiftUp 11 = .ok (.istore_n 2, 1) := by decide +kernel
theorem dX7_shiftUp_12 : decode cX7_shiftUp 12 = .ok (.lconst 0, 1) := by decide +kernel
theorem dX7_shiftUp_13 : decode cX7_shiftUp 13 = .ok (.lstore_n 3, 1) := by decide +kernel
theorem dX7_shiftUp_14 : decode cX7_shiftUp 14 = .ok (.iconst 0, 1) := by decide +kernel
theorem dX7_shiftUp_15 : decode cX7_shiftUp 15 = .ok (.istore 5, 2) := by decide +kernel
theorem dX7_shiftUp_17 : decode cX7_shiftUp 17 = .ok (.iload 5, 2) := by decide +kernel
theorem dX7_shiftUp_19 : decode cX7_shiftUp 19 = .ok (.iload_n 2, 1) := by decide +kernel
theorem dX7_shiftUp_20 : decode cX7_shiftUp 20 = .ok (.if_icmp .ge 43, 3) := by decide +kernel
theorem dX7_shiftUp_23 : decode cX7_shiftUp 23 = .ok (.aload_n 0, 1) := by decide +kernel
theorem dX7_shiftUp_24 : decode cX7_shiftUp 24 = .ok (.getfield 9, 3) := by decide +kernel
theorem dX7_shiftUp_27 : decode cX7_shiftUp 27 = .ok (.iload 5, 2) := by decide +kernel
theorem dX7_shiftUp_29 : decode cX7_shiftUp 29 = .ok (.iaload, 1) := by decide +kernel
theorem dX7_shiftUp_30 : decode cX7_shiftUp 30 = .ok (.i2l, 1) := by decide +kernel
theorem dX7_shiftUp_31 : decode cX7_shiftUp 31 = .ok (.iload_n 1, 1) := by decide +kernel
theorem dX7_shiftUp_32 : decode cX7_shiftUp 32 = .ok (.lshl, 1) := by decide +kernel
theorem dX7_shiftUp_33 : decode cX7_shiftUp 33 = .ok (.lload_n 3, 1) := by decide +kernel
theorem dX7_shiftUp_34 : decode cX7_shiftUp 34 = .ok (.lor, 1) := by decide +kernel
theorem dX7_shiftUp_35 : decode cX7_shiftUp 35 = .ok (.lstore 6, 2) := by decide +kernel
theorem dX7_shiftUp_37 : decode cX7_shiftUp 37 = .ok (.aload_n 0, 1) := by decide +kernel
theorem dX7_shiftUp_38 : decode cX7_shiftUp 38 = .ok (.getfield 9, 3) := by decide +kernel
theorem dX7_shiftUp_41 : decode cX7_shiftUp 41 = .ok (.iload 5, 2) := by decide +kernel
theorem dX7_shiftUp_43 : decode cX7_shiftUp 43 = .ok (.lload 6, 2) := by decide +kernel
theorem dX7_shiftUp_45 : decode cX7_shiftUp 45 = .ok (.ldc2_w 16, 3) := by decide +kernel
theorem dX7_shiftUp_48 : decode cX7_shiftUp 48 = .ok (.land, 1) := by decide +kernel
theorem dX7_shiftUp_49 : decode cX7_shiftUp 49 = .ok (.l2i, 1) := by decide +kernel
theorem dX7_shiftUp_50 : decode cX7_shiftUp 50 = .ok (.iastore, 1) := by decide +kernel
theorem dX7_shiftUp_51 : decode cX7_shiftUp 51 = .ok (.lload 6, 2) := by decide +kernel
theorem dX7_shiftUp_53 : decode cX7_shiftUp 53 = .ok (.bipush 30, 2) := by decide +kernel
theorem dX7_shiftUp_55 : decode cX7_shiftUp 55 = .ok (.lshr, 1) := by decide +kernel
theorem dX7_shiftUp_56 : decode cX7_shiftUp 56 = .ok (.lstore_n 3, 1) := by decide +kernel
theorem dX7_shiftUp_57 : decode cX7_shiftUp 57 = .ok (.iinc 5 1, 3) := by decide +kernel
theorem dX7_shiftUp_60 : decode cX7_shiftUp 60 = .ok (.goto (-43), 3) := by decide +kernel
theorem dX7_shiftUp_63 : decode cX7_shiftUp 63 = .ok (.aload_n 0, 1) := by decide +kernel
theorem dX7_shiftUp_64 : decode cX7_shiftUp 64 = .ok (.iload_n 2, 1) := by decide +kernel
theorem dX7_shiftUp_65 : decode cX7_shiftUp 65 = .ok (.invokevirtual 18, 3) := by decide +kernel
theorem dX7_shiftUp_68 : decode cX7_shiftUp 68 = .ok (.return_, 1) := by decide +kernel
theorem dX7_shiftDown_0 : decode cX7_shiftDown 0 = .ok (.lconst 1, 1) := by decide +kernel
theorem dX7_shiftDown_1 : decode cX7_shiftDown 1 = .ok (.iload_n 1, 1) := by decide +kernel
theorem dX7_shiftDown_2 : decode cX7_shiftDown 2 = .ok (.lshl, 1) := by decide +kernel
theorem dX7_shiftDown_3 : decode cX7_shiftDown 3 = .ok (.lconst 1, 1) := by decide +kernel
theorem dX7_shiftDown_4 : decode cX7_shiftDown 4 = .ok (.lsub, 1) := by decide +kernel
theorem dX7_shiftDown_5 : decode cX7_shiftDown 5 = .ok (.lstore_n 2, 1) := by decide +kernel
theorem dX7_shiftDown_6 : decode cX7_shiftDown 6 = .ok (.lconst 0, 1) := by decide +kernel
theorem dX7_shiftDown_7 : decode cX7_shiftDown 7 = .ok (.lstore 4, 2) := by decide +kernel
theorem dX7_shiftDown_9 : decode cX7_shiftDown 9 = .ok (.aload_n 0, 1) := by decide +kernel
theorem dX7_shiftDown_10 : decode cX7_shiftDown 10 = .ok (.getfield 22, 3) := by decide +kernel
theorem dX7_shiftDown_13 : decode cX7_shiftDown 13 = .ok (.iconst 1, 1) := by decide +kernel
theorem dX7_shiftDown_14 : decode cX7_shiftDown 14 = .ok (.isub, 1) := by decide +kernel
theorem dX7_shiftDown_15 : decode cX7_shiftDown 15 = .ok (.istore 6, 2) := by decide +kernel
theorem dX7_shiftDown_17 : decode cX7_shiftDown 17 = .ok (.iload 6, 2) := by decide +kernel
theorem dX7_shiftDown_19 : decode cX7_shiftDown 19 = .ok (.ifCond .lt 43, 3) := by decide +kernel
theorem dX7_shiftDown_22 : decode cX7_shiftDown 22 = .ok (.lload 4, 2) := by decide +kernel
theorem dX7_shiftDown_24 : decode cX7_shiftDown 24 = .ok (.bipush 30, 2) := by decide +kernel
theorem dX7_shiftDown_26 : decode cX7_shiftDown 26 = .ok (.lshl, 1) := by decide +kernel
theorem dX7_shiftDown_27 : decode cX7_shiftDown 27 = .ok (.aload_n 0, 1) := by decide +kernel
theorem dX7_shiftDown_28 : decode cX7_shiftDown 28 = .ok (.getfield 9, 3) := by decide +kernel
theorem dX7_shiftDown_31 : decode cX7_shiftDown 31 = .ok (.iload 6, 2) := by decide +kernel
theorem dX7_shiftDown_33 : decode cX7_shiftDown 33 = .ok (.iaload, 1) := by decide +kernel
theorem dX7_shiftDown_34 : decode cX7_shiftDown 34 = .ok (.i2l, 1) := by decide +kernel
theorem dX7_shiftDown_35 : decode cX7_shiftDown 35 = .ok (.lor, 1) := by decide +kernel
theorem dX7_shiftDown_36 : decode cX7_shiftDown 36 = .ok (.lstore 7, 2) := by decide +kernel
theorem dX7_shiftDown_38 : decode cX7_shiftDown 38 = .ok (.aload_n 0, 1) := by decide +kernel
theorem dX7_shiftDown_39 : decode cX7_shiftDown 39 = .ok (.getfield 9, 3) := by decide +kernel
theorem dX7_shiftDown_42 : decode cX7_shiftDown 42 = .ok (.iload 6, 2) := by decide +kernel
theorem dX7_shiftDown_44 : decode cX7_shiftDown 44 = .ok (.lload 7, 2) := by decide +kernel
theorem dX7_shiftDown_46 : decode cX7_shiftDown 46 = .ok (.iload_n 1, 1) := by decide +kernel
theorem dX7_shiftDown_47 : decode cX7_shiftDown 47 = .ok (.lshr, 1) := by decide +kernel
theorem dX7_shiftDown_48 : decode cX7_shiftDown 48 = .ok (.l2i, 1) := by decide +kernel
theorem dX7_shiftDown_49 : decode cX7_shiftDown 49 = .ok (.iastore, 1) := by decide +kernel
theorem dX7_shiftDown_50 : decode cX7_shiftDown 50 = .ok (.lload 7, 2) := by decide +kernel
theorem dX7_shiftDown_52 : decode cX7_shiftDown 52 = .ok (.lload_n 2, 1) := by decide +kernel
theorem dX7_shiftDown_53 : decode cX7_shiftDown 53 = .ok (.land, 1) := by decide +kernel
theorem dX7_shiftDown_54 : decode cX7_shiftDown 54 = .ok (.lstore 4, 2) := by decide +kernel
theorem dX7_shiftDown_56 : decode cX7_shiftDown 56 = .ok (.iinc 6 (-1), 3) := by decide +kernel
theorem dX7_shiftDown_59 : decode cX7_shiftDown 59 = .ok (.goto (-42), 3) := by decide +kernel
theorem dX7_shiftDown_62 : decode cX7_shiftDown 62 = .ok (.aload_n 0, 1) := by decide +kernel
theorem dX7_shiftDown_63 : decode cX7_shiftDown 63 = .ok (.aload_n 0, 1) := by decide +kernel
theorem dX7_shiftDown_64 : decode cX7_shiftDown 64 = .ok (.getfield 22, 3) := by decide +kernel
theorem dX7_shiftDown_67 : decode cX7_shiftDown 67 = .ok (.invokevirtual 18, 3) := by decide +kernel
theorem dX7_shiftDown_70 : decode cX7_shiftDown 70 = .ok (.return_, 1) := by decide +kernel
theorem dX7_digitAt_0 : decode cX7_digitAt 0 = .ok (.iload_n 1, 1) := by decide +kernel
theorem dX7_digitAt_1 : decode cX7_digitAt 1 = .ok (.ifCond .lt 18, 3) := by decide +kernel
theorem dX7_digitAt_4 : decode cX7_digitAt 4 = .ok (.iload_n 1, 1) := by decide +kernel
theorem dX7_digitAt_5 : decode cX7_digitAt 5 = .ok (.bipush 72, 2) := by decide +kernel
theorem dX7_digitAt_7 : decode cX7_digitAt 7 = .ok (.if_icmp .ge 12, 3) := by decide +kernel
theorem dX7_digitAt_10 : decode cX7_digitAt 10 = .ok (.aload_n 0, 1) := by decide +kernel
theorem dX7_digitAt_11 : decode cX7_digitAt 11 = .ok (.getfield 9, 3) := by decide +kernel
theorem dX7_digitAt_14 : decode cX7_digitAt 14 = .ok (.iload_n 1, 1) := by decide +kernel
theorem dX7_digitAt_15 : decode cX7_digitAt 15 = .ok (.iaload, 1) := by decide +kernel
theorem dX7_digitAt_16 : decode cX7_digitAt 16 = .ok (.goto 4, 3) := by decide +kernel
theorem dX7_digitAt_19 : decode cX7_digitAt 19 = .ok (.iconst 0, 1) := by decide +kernel
theorem dX7_digitAt_20 : decode cX7_digitAt 20 = .ok (.ireturn, 1) := by decide +kernel
theorem dX7_guessDigit_0 : decode cX7_guessDigit 0 = .ok (.aload_n 1, 1) := by decide +kernel
theorem dX7_guessDigit_1 : decode cX7_guessDigit 1 = .ok (.aload_n 1, 1) := by decide +kernel
theorem dX7_guessDigit_2 : decode cX7_guessDigit 2 = .ok (.getfield 22, 3) := by decide +kernel
theorem dX7_guessDigit_5 : decode cX7_guessDigit 5 = .ok (.iconst 1, 1) := by decide +kernel
theorem dX7_guessDigit_6 : decode cX7_guessDigit 6 = .ok (.isub, 1) := by decide +kernel
theorem dX7_guessDigit_7 : decode cX7_guessDigit 7 = .ok (.invokevirtual 51, 3) := by decide +kernel
theorem dX7_guessDigit_10 : decode cX7_guessDigit 10 = .ok (.istore_n 3, 1) := by decide +kernel
theorem dX7_guessDigit_11 : decode cX7_guessDigit 11 = .ok (.aload_n 1, 1) := by decide +kernel
theorem dX7_guessDigit_12 : decode cX7_guessDigit 12 = .ok (.aload_n 1, 1) := by decide +kernel
theorem dX7_guessDigit_13 : decode cX7_guessDigit 13 = .ok (.getfield 22, 3) := by decide +kernel
theorem dX7_guessDigit_16 : decode cX7_guessDigit 16 = .ok (.iconst 2, 1) := by decide +kernel
theorem dX7_guessDigit_17 : decode cX7_guessDigit 17 = .ok (.isub, 1) := by decide +kernel
theorem dX7_guessDigit_18 : decode cX7_guessDigit 18 = .ok (.invokevirtual 51, 3) := by decide +kernel
theorem dX7_guessDigit_21 : decode cX7_guessDigit 21 = .ok (.istore 4, 2) := by decide +kernel
theorem dX7_guessDigit_23 : decode cX7_guessDigit 23 = .ok (.iload_n 3, 1) := by decide +kernel
theorem dX7_guessDigit_24 : decode cX7_guessDigit 24 = .ok (.ifCond .ne 5, 3) := by decide +kernel
theorem dX7_guessDigit_27 : decode cX7_guessDigit 27 = .ok (.iconst 0, 1) := by decide +kernel
theorem dX7_guessDigit_28 : decode cX7_guessDigit 28 = .ok (.ireturn, 1) := by decide +kernel
theorem dX7_guessDigit_29 : decode cX7_guessDigit 29 = .ok (.iload_n 2, 1) := by decide +kernel
theorem dX7_guessDigit_30 : decode cX7_guessDigit 30 = .ok (.aload_n 1, 1) := by decide +kernel
theorem dX7_guessDigit_31 : decode cX7_guessDigit 31 = .ok (.getfield 22, 3) := by decide +kernel
theorem dX7_guessDigit_34 : decode cX7_guessDigit 34 = .ok (.iadd, 1) := by decide +kernel
theorem dX7_guessDigit_35 : decode cX7_guessDigit 35 = .ok (.istore 5, 2) := by decide +kernel
theorem dX7_guessDigit_37 : decode cX7_guessDigit 37 = .ok (.aload_n 0, 1) := by decide +kernel
theorem dX7_guessDigit_38 : decode cX7_guessDigit 38 = .ok (.iload 5, 2) := by decide +kernel
theorem dX7_guessDigit_40 : decode cX7_guessDigit 40 = .ok (.invokevirtual 51, 3) := by decide +kernel
theorem dX7_guessDigit_43 : decode cX7_guessDigit 43 = .ok (.i2l, 1) := by decide +kernel
theorem dX7_guessDigit_44 : decode cX7_guessDigit 44 = .ok (.bipush 30, 2) := by decide +kernel
theorem dX7_guessDigit_46 : decode cX7_guessDigit 46 = .ok (.lshl, 1) := by decide +kernel
theorem dX7_guessDigit_47 : decode cX7_guessDigit 47 = .ok (.aload_n 0, 1) := by decide +kernel
theorem dX7_guessDigit_48 : decode cX7_guessDigit 48 = .ok (.iload 5, 2) := by decide +kernel
theorem dX7_guessDigit_50 : decode cX7_guessDigit 50 = .ok (.iconst 1, 1) := by decide +kernel
theorem dX7_guessDigit_51 : decode cX7_guessDigit 51 = .ok (.isub, 1) := by decide +kernel
theorem dX7_guessDigit_52 : decode cX7_guessDigit 52 = .ok (.invokevirtual 51, 3) := by decide +kernel
theorem dX7_guessDigit_55 : decode cX7_guessDigit 55 = .ok (.i2l, 1) := by decide +kernel
theorem dX7_guessDigit_56 : decode cX7_guessDigit 56 = .ok (.lor, 1) := by decide +kernel
theorem dX7_guessDigit_57 : decode cX7_guessDigit 57 = .ok (.lstore 6, 2) := by decide +kernel
theorem dX7_guessDigit_59 : decode cX7_guessDigit 59 = .ok (.lload 6, 2) := by decide +kernel
theorem dX7_guessDigit_61 : decode cX7_guessDigit 61 = .ok (.iload_n 3, 1) := by decide +kernel
theorem dX7_guessDigit_62 : decode cX7_guessDigit 62 = .ok (.i2l, 1) := by decide +kernel
theorem dX7_guessDigit_63 : decode cX7_guessDigit 63 = .ok (.ldiv, 1) := by decide +kernel
theorem dX7_guessDigit_64 : decode cX7_guessDigit 64 = .ok (.lstore 8, 2) := by decide +kernel
theorem dX7_guessDigit_66 : decode cX7_guessDigit 66 = .ok (.lload 6, 2) := by decide +kernel
theorem dX7_guessDigit_68 : decode cX7_guessDigit 68 = .ok (.iload_n 3, 1) := by decide +kernel
theorem dX7_guessDigit_69 : decode cX7_guessDigit 69 = .ok (.i2l, 1) := by decide +kernel
theorem dX7_guessDigit_70 : decode cX7_guessDigit 70 = .ok (.lrem, 1) := by decide +kernel
theorem dX7_guessDigit_71 : decode cX7_guessDigit 71 = .ok (.lstore 10, 2) := by decide +kernel
theorem dX7_guessDigit_73 : decode cX7_guessDigit 73 = .ok (.iconst 0, 1) := by decide +kernel
theorem dX7_guessDigit_74 : decode cX7_guessDigit 74 = .ok (.istore 12, 2) := by decide +kernel
theorem dX7_guessDigit_76 : decode cX7_guessDigit 76 = .ok (.iload 12, 2) := by decide +kernel
theorem dX7_guessDigit_78 : decode cX7_guessDigit 78 = .ok (.iconst 2, 1) := by decide +kernel
theorem dX7_guessDigit_79 : decode cX7_guessDigit 79 = .ok (.if_icmp .ge 65, 3) := by decide +kernel
theorem dX7_guessDigit_82 : decode cX7_guessDigit 82 = .ok (.lload 10, 2) := by decide +kernel
theorem dX7_guessDigit_84 : decode cX7_guessDigit 84 = .ok (.ldc2_w 16, 3) := by decide +kernel
theorem dX7_guessDigit_87 : decode cX7_guessDigit 87 = .ok (.lcmp, 1) := by decide +kernel
theorem dX7_guessDigit_88 : decode cX7_guessDigit 88 = .ok (.ifCond .gt 56, 3) := by decide +kernel
theorem dX7_guessDigit_91 : decode cX7_guessDigit 91 = .ok (.lload 8, 2) := by decide +kernel
theorem dX7_guessDigit_93 : decode cX7_guessDigit 93 = .ok (.ldc2_w 16, 3) := by decide +kernel
theorem dX7_guessDigit_96 : decode cX7_guessDigit 96 = .ok (.lcmp, 1) := by decide +kernel
theorem dX7_guessDigit_97 : decode cX7_guessDigit 97 = .ok (.ifCond .gt 28, 3) := by decide +kernel
theorem dX7_guessDigit_100 : decode cX7_guessDigit 100 = .ok (.lload 8, 2) := by decide +kernel
theorem dX7_guessDigit_102 : decode cX7_guessDigit 102 = .ok (.iload 4, 2) := by decide +kernel
theorem dX7_guessDigit_104 : decode cX7_guessDigit 104 = .ok (.i2l, 1) := by decide +kernel
theorem dX7_guessDigit_105 : decode cX7_guessDigit 105 = .ok (.lmul, 1) := by decide +kernel
theorem dX7_guessDigit_106 : decode cX7_guessDigit 106 = .ok (.lload 10, 2) := by decide +kernel
theorem dX7_guessDigit_108 : decode cX7_guessDigit 108 = .ok (.bipush 30, 2) := by decide +kernel
theorem dX7_guessDigit_110 : decode cX7_guessDigit 110 = .ok (.lshl, 1) := by decide +kernel
theorem dX7_guessDigit_111 : decode cX7_guessDigit 111 = .ok (.aload_n 0, 1) := by decide +kernel
theorem dX7_guessDigit_112 : decode cX7_guessDigit 112 = .ok (.iload 5, 2) := by decide +kernel
theorem dX7_guessDigit_114 : decode cX7_guessDigit 114 = .ok (.iconst 2, 1) := by decide +kernel
theorem dX7_guessDigit_115 : decode cX7_guessDigit 115 = .ok (.isub, 1) := by decide +kernel
theorem dX7_guessDigit_116 : decode cX7_guessDigit 116 = .ok (.invokevirtual 51, 3) := by decide +kernel
theorem dX7_guessDigit_119 : decode cX7_guessDigit 119 = .ok (.i2l, 1) := by decide +kernel
theorem dX7_guessDigit_120 : decode cX7_guessDigit 120 = .ok (.lor, 1) := by decide +kernel
theorem dX7_guessDigit_121 : decode cX7_guessDigit 121 = .ok (.lcmp, 1) := by decide +kernel
theorem dX7_guessDigit_122 : decode cX7_guessDigit 122 = .ok (.ifCond .le 16, 3) := by decide +kernel
theorem dX7_guessDigit_125 : decode cX7_guessDigit 125 = .ok (.lload 8, 2) := by decide +kernel
theorem dX7_guessDigit_127 : decode cX7_guessDigit 127 = .ok (.lconst 1, 1) := by decide +kernel
theorem dX7_guessDigit_128 : decode cX7_guessDigit 128 = .ok (.lsub, 1) := by decide +kernel
theorem dX7_guessDigit_129 : decode cX7_guessDigit 129 = .ok (.lstore 8, 2) := by decide +kernel
theorem dX7_guessDigit_131 : decode cX7_guessDigit 131 = .ok (.lload 10, 2) := by decide +kernel
theorem dX7_guessDigit_133 : decode cX7_guessDigit 133 = .ok (.iload_n 3, 1) := by decide +kernel
theorem dX7_guessDigit_134 : decode cX7_guessDigit 134 = .ok (.i2l, 1) := by decide +kernel
theorem dX7_guessDigit_135 : decode cX7_guessDigit 135 = .ok (.ladd, 1) := by decide +kernel
theorem dX7_guessDigit_136 : decode cX7_guessDigit 136 = .ok (.lstore 10, 2) := by decide +kernel
theorem dX7_guessDigit_138 : decode cX7_guessDigit 138 = .ok (.iinc 12 1, 3) := by decide +kernel
theorem dX7_guessDigit_141 : decode cX7_guessDigit 141 = .ok (.goto (-65), 3) := by decide +kernel
theorem dX7_guessDigit_144 : decode cX7_guessDigit 144 = .ok (.lload 8, 2) := by decide +kernel
theorem dX7_guessDigit_146 : decode cX7_guessDigit 146 = .ok (.l2i, 1) := by decide +kernel
theorem dX7_guessDigit_147 : decode cX7_guessDigit 147 = .ok (.ireturn, 1) := by decide +kernel
theorem dX7_subtractAt_0 : decode cX7_subtractAt 0 = .ok (.lconst 0, 1) := by decide +kernel
theorem dX7_subtractAt_1 : decode cX7_subtractAt 1 = .ok (.lstore 4, 2) := by decide +kernel
theorem dX7_subtractAt_3 : decode cX7_subtractAt 3 = .ok (.iload_n 1, 1) := by decide +kernel
theorem dX7_subtractAt_4 : decode cX7_subtractAt 4 = .ok (.aload_n 2, 1) := by decide +kernel
theorem dX7_subtractAt_5 : decode cX7_subtractAt 5 = .ok (.getfield 22, 3) := by decide +kernel
theorem dX7_subtractAt_8 : decode cX7_subtractAt 8 = .ok (.iadd, 1) := by decide +kernel
theorem dX7_subtractAt_9 : decode cX7_subtractAt 9 = .ok (.bipush 71, 2) := by decide +kernel
theorem dX7_subtractAt_11 : decode cX7_subtractAt 11 = .ok (.invokestatic 47, 3) := by decide +kernel
theorem dX7_subtractAt_14 : decode cX7_subtractAt 14 = .ok (.istore 6, 2) := by decide +kernel
theorem dX7_subtractAt_16 : decode cX7_subtractAt 16 = .ok (.iload_n 1, 1) := by decide +kernel
theorem dX7_subtractAt_17 : decode cX7_subtractAt 17 = .ok (.istore 7, 2) := by decide +kernel
theorem dX7_subtractAt_19 : decode cX7_subtractAt 19 = .ok (.iload 7, 2) := by decide +kernel
theorem dX7_subtractAt_21 : decode cX7_subtractAt 21 = .ok (.iload 6, 2) := by decide +kernel
theorem dX7_subtractAt_23 : decode cX7_subtractAt 23 = .ok (.if_icmp .ge 57, 3) := by decide +kernel
theorem dX7_subtractAt_26 : decode cX7_subtractAt 26 = .ok (.aload_n 0, 1) := by decide +kernel
theorem dX7_subtractAt_27 : decode cX7_subtractAt 27 = .ok (.getfield 9, 3) := by decide +kernel
theorem dX7_subtractAt_30 : decode cX7_subtractAt 30 = .ok (.iload 7, 2) := by decide +kernel
theorem dX7_subtractAt_32 : decode cX7_subtractAt 32 = .ok (.iaload, 1) := by decide +kernel
theorem dX7_subtractAt_33 : decode cX7_subtractAt 33 = .ok (.i2l, 1) := by decide +kernel
theorem dX7_subtractAt_34 : decode cX7_subtractAt 34 = .ok (.aload_n 2, 1) := by decide +kernel
theorem dX7_subtractAt_35 : decode cX7_subtractAt 35 = .ok (.getfield 9, 3) := by decide +kernel
theorem dX7_subtractAt_38 : decode cX7_subtractAt 38 = .ok (.iload 7, 2) := by decide +kernel
theorem dX7_subtractAt_40 : decode cX7_subtractAt 40 = .ok (.iload_n 1, 1) := by decide +kernel
theorem dX7_subtractAt_41 : decode cX7_subtractAt 41 = .ok (.isub, 1) := by decide +kernel
theorem dX7_subtractAt_42 : decode cX7_subtractAt 42 = .ok (.iaload, 1) := by decide +kernel
theorem dX7_subtractAt_43 : decode cX7_subtractAt 43 = .ok (.i2l, 1) := by decide +kernel
theorem dX7_subtractAt_44 : decode cX7_subtractAt 44 = .ok (.iload_n 3, 1) := by decide +kernel
theorem dX7_subtractAt_45 : decode cX7_subtractAt 45 = .ok (.i2l, 1) := by decide +kernel
theorem dX7_subtractAt_46 : decode cX7_subtractAt 46 = .ok (.lmul, 1) := by decide +kernel
theorem dX7_subtractAt_47 : decode cX7_subtractAt 47 = .ok (.lsub, 1) := by decide +kernel
theorem dX7_subtractAt_48 : decode cX7_subtractAt 48 = .ok (.lload 4, 2) := by decide +kernel
theorem dX7_subtractAt_50 : decode cX7_subtractAt 50 = .ok (.ladd, 1) := by decide +kernel
theorem dX7_subtractAt_51 : decode cX7_subtractAt 51 = .ok (.lstore 8, 2) := by decide +kernel
theorem dX7_subtractAt_53 : decode cX7_subtractAt 53 = .ok (.aload_n 0, 1) := by decide +kernel
theorem dX7_subtractAt_54 : decode cX7_subtractAt 54 = .ok (.getfield 9, 3) := by decide +kernel
theorem dX7_subtractAt_57 : decode cX7_subtractAt 57 = .ok (.iload 7, 2) := by decide +kernel
theorem dX7_subtractAt_59 : decode cX7_subtractAt 59 = .ok (.lload 8, 2) := by decide +kernel
theorem dX7_subtractAt_61 : decode cX7_subtractAt 61 = .ok (.ldc2_w 16, 3) := by decide +kernel
theorem dX7_subtractAt_64 : decode cX7_subtractAt 64 = .ok (.land, 1) := by decide +kernel
theorem dX7_subtractAt_65 : decode cX7_subtractAt 65 = .ok (.l2i, 1) := by decide +kernel
theorem dX7_subtractAt_66 : decode cX7_subtractAt 66 = .ok (.iastore, 1) := by decide +kernel
theorem dX7_subtractAt_67 : decode cX7_subtractAt 67 = .ok (.lload 8, 2) := by decide +kernel
theorem dX7_subtractAt_69 : decode cX7_subtractAt 69 = .ok (.bipush 30, 2) := by decide +kernel
theorem dX7_subtractAt_71 : decode cX7_subtractAt 71 = .ok (.lshr, 1) := by decide +kernel
theorem dX7_subtractAt_72 : decode cX7_subtractAt 72 = .ok (.lstore 4, 2) := by decide +kernel
theorem dX7_subtractAt_74 : decode cX7_subtractAt 74 = .ok (.iinc 7 1, 3) := by decide +kernel
theorem dX7_subtractAt_77 : decode cX7_subtractAt 77 = .ok (.goto (-58), 3) := by decide +kernel
theorem dX7_subtractAt_80 : decode cX7_subtractAt 80 = .ok (.aload_n 0, 1) := by decide +kernel
theorem dX7_subtractAt_81 : decode cX7_subtractAt 81 = .ok (.getfield 9, 3) := by decide +kernel
theorem dX7_subtractAt_84 : decode cX7_subtractAt 84 = .ok (.iload 6, 2) := by decide +kernel
theorem dX7_subtractAt_86 : decode cX7_subtractAt 86 = .ok (.iaload, 1) := by decide +kernel
theorem dX7_subtractAt_87 : decode cX7_subtractAt 87 = .ok (.i2l, 1) := by decide +kernel
theorem dX7_subtractAt_88 : decode cX7_subtractAt 88 = .ok (.lload 4, 2) := by decide +kernel
theorem dX7_subtractAt_90 : decode cX7_subtractAt 90 = .ok (.ladd, 1) := by decide +kernel
theorem dX7_subtractAt_91 : decode cX7_subtractAt 91 = .ok (.lstore 7, 2) := by decide +kernel
theorem dX7_subtractAt_93 : decode cX7_subtractAt 93 = .ok (.aload_n 0, 1) := by decide +kernel
theorem dX7_subtractAt_94 : decode cX7_subtractAt 94 = .ok (.getfield 9, 3) := by decide +kernel
theorem dX7_subtractAt_97 : decode cX7_subtractAt 97 = .ok (.iload 6, 2) := by decide +kernel
theorem dX7_subtractAt_99 : decode cX7_subtractAt 99 = .ok (.lload 7, 2) := by decide +kernel
theorem dX7_subtractAt_101 : decode cX7_subtractAt 101 = .ok (.ldc2_w 16, 3) := by decide +kernel
theorem dX7_subtractAt_104 : decode cX7_subtractAt 104 = .ok (.land, 1) := by decide +kernel
theorem dX7_subtractAt_105 : decode cX7_subtractAt 105 = .ok (.l2i, 1) := by decide +kernel
theorem dX7_subtractAt_106 : decode cX7_subtractAt 106 = .ok (.iastore, 1) := by decide +kernel
theorem dX7_subtractAt_107 : decode cX7_subtractAt 107 = .ok (.lload 7, 2) := by decide +kernel
theorem dX7_subtractAt_109 : decode cX7_subtractAt 109 = .ok (.lconst 0, 1) := by decide +kernel
theorem dX7_subtractAt_110 : decode cX7_subtractAt 110 = .ok (.lcmp, 1) := by decide +kernel
theorem dX7_subtractAt_111 : decode cX7_subtractAt 111 = .ok (.ifCond .ge 7, 3) := by decide +kernel
theorem dX7_subtractAt_114 : decode cX7_subtractAt 114 = .ok (.iconst 1, 1) := by decide +kernel
theorem dX7_subtractAt_115 : decode cX7_subtractAt 115 = .ok (.goto 4, 3) := by decide +kernel
theorem dX7_subtractAt_118 : decode cX7_subtractAt 118 = .ok (.iconst 0, 1) := by decide +kernel
theorem dX7_subtractAt_119 : decode cX7_subtractAt 119 = .ok (.ireturn, 1) := by decide +kernel
theorem dX7_addAt_0 : decode cX7_addAt 0 = .ok (.iconst 0, 1) := by decide +kernel
theorem dX7_addAt_1 : decode cX7_addAt 1 = .ok (.istore_n 3, 1) := by decide +kernel
theorem dX7_addAt_2 : decode cX7_addAt 2 = .ok (.iload_n 1, 1) := by decide +kernel
theorem dX7_addAt_3 : decode cX7_addAt 3 = .ok (.aload_n 2, 1) := by decide +kernel
theorem dX7_addAt_4 : decode cX7_addAt 4 = .ok (.getfield 22, 3) := by decide +kernel
theorem dX7_addAt_7 : decode cX7_addAt 7 = .ok (.iadd, 1) := by decide +kernel
theorem dX7_addAt_8 : decode cX7_addAt 8 = .ok (.bipush 71, 2) := by decide +kernel
theorem dX7_addAt_10 : decode cX7_addAt 10 = .ok (.invokestatic 47, 3) := by decide +kernel
theorem dX7_addAt_13 : decode cX7_addAt 13 = .ok (.istore 4, 2) := by decide +kernel
theorem dX7_addAt_15 : decode cX7_addAt 15 = .ok (.iload_n 1, 1) := by decide +kernel
theorem dX7_addAt_16 : decode cX7_addAt 16 = .ok (.istore 5, 2) := by decide +kernel
theorem dX7_addAt_18 : decode cX7_addAt 18 = .ok (.iload 5, 2) := by decide +kernel
theorem dX7_addAt_20 : decode cX7_addAt 20 = .ok (.iload 4, 2) := by decide +kernel
theorem dX7_addAt_22 : decode cX7_addAt 22 = .ok (.if_icmp .ge 48, 3) := by decide +kernel
theorem dX7_addAt_25 : decode cX7_addAt 25 = .ok (.aload_n 0, 1) := by decide +kernel
theorem dX7_addAt_26 : decode cX7_addAt 26 = .ok (.getfield 9, 3) := by decide +kernel
theorem dX7_addAt_29 : decode cX7_addAt 29 = .ok (.iload 5, 2) := by decide +kernel
theorem dX7_addAt_31 : decode cX7_addAt 31 = .ok (.iaload, 1) := by decide +kernel
theorem dX7_addAt_32 : decode cX7_addAt 32 = .ok (.aload_n 2, 1) := by decide +kernel
theorem dX7_addAt_33 : decode cX7_addAt 33 = .ok (.getfield 9, 3) := by decide +kernel
theorem dX7_addAt_36 : decode cX7_addAt 36 = .ok (.iload 5, 2) := by decide +kernel
theorem dX7_addAt_38 : decode cX7_addAt 38 = .ok (.iload_n 1, 1) := by decide +kernel
theorem dX7_addAt_39 : decode cX7_addAt 39 = .ok (.isub, 1) := by decide +kernel
theorem dX7_addAt_40 : decode cX7_addAt 40 = .ok (.iaload, 1) := by decide +kernel
theorem dX7_addAt_41 : decode cX7_addAt 41 = .ok (.iadd, 1) := by decide +kernel
theorem dX7_addAt_42 : decode cX7_addAt 42 = .ok (.iload_n 3, 1) := by decide +kernel
theorem dX7_addAt_43 : decode cX7_addAt 43 = .ok (.iadd, 1) := by decide +kernel
theorem dX7_addAt_44 : decode cX7_addAt 44 = .ok (.istore 6, 2) := by decide +kernel
theorem dX7_addAt_46 : decode cX7_addAt 46 = .ok (.aload_n 0, 1) := by decide +kernel
theorem dX7_addAt_47 : decode cX7_addAt 47 = .ok (.getfield 9, 3) := by decide +kernel
theorem dX7_addAt_50 : decode cX7_addAt 50 = .ok (.iload 5, 2) := by decide +kernel
theorem dX7_addAt_52 : decode cX7_addAt 52 = .ok (.iload 6, 2) := by decide +kernel
theorem dX7_addAt_54 : decode cX7_addAt 54 = .ok (.ldc 50, 2) := by decide +kernel
theorem dX7_addAt_56 : decode cX7_addAt 56 = .ok (.iand, 1) := by decide +kernel
theorem dX7_addAt_57 : decode cX7_addAt 57 = .ok (.iastore, 1) := by decide +kernel
theorem dX7_addAt_58 : decode cX7_addAt 58 = .ok (.iload 6, 2) := by decide +kernel
theorem dX7_addAt_60 : decode cX7_addAt 60 = .ok (.bipush 30, 2) := by decide +kernel
theorem dX7_addAt_62 : decode cX7_addAt 62 = .ok (.iushr, 1) := by decide +kernel
theorem dX7_addAt_63 : decode cX7_addAt 63 = .ok (.istore_n 3, 1) := by decide +kernel
theorem dX7_addAt_64 : decode cX7_addAt 64 = .ok (.iinc 5 1, 3) := by decide +kernel
theorem dX7_addAt_67 : decode cX7_addAt 67 = .ok (.goto (-49), 3) := by decide +kernel
theorem dX7_addAt_70 : decode cX7_addAt 70 = .ok (.aload_n 0, 1) := by decide +kernel
theorem dX7_addAt_71 : decode cX7_addAt 71 = .ok (.getfield 9, 3) := by decide +kernel
theorem dX7_addAt_74 : decode cX7_addAt 74 = .ok (.iload 4, 2) := by decide +kernel
theorem dX7_addAt_76 : decode cX7_addAt 76 = .ok (.aload_n 0, 1) := by decide +kernel
theorem dX7_addAt_77 : decode cX7_addAt 77 = .ok (.getfield 9, 3) := by decide +kernel
theorem dX7_addAt_80 : decode cX7_addAt 80 = .ok (.iload 4, 2) := by decide +kernel
theorem dX7_addAt_82 : decode cX7_addAt 82 = .ok (.iaload, 1) := by decide +kernel
theorem dX7_addAt_83 : decode cX7_addAt 83 = .ok (.iload_n 3, 1) := by decide +kernel
theorem dX7_addAt_84 : decode cX7_addAt 84 = .ok (.iadd, 1) := by decide +kernel
theorem dX7_addAt_85 : decode cX7_addAt 85 = .ok (.ldc 50, 2) := by decide +kernel
theorem dX7_addAt_87 : decode cX7_addAt 87 = .ok (.iand, 1) := by decide +kernel
theorem dX7_addAt_88 : decode cX7_addAt 88 = .ok (.iastore, 1) := by decide +kernel
theorem dX7_addAt_89 : decode cX7_addAt 89 = .ok (.return_, 1) := by decide +kernel
theorem dJ6_compare_7cf53_0 : decode cJ6_compare_7cf53 0 = .ok (.iload_n 0, 1) := by decide +kernel
theorem dJ6_compare_7cf53_1 : decode cJ6_compare_7cf53 1 = .ok (.iload_n 1, 1) := by decide +kernel
theorem dJ6_compare_7cf53_2 : decode cJ6_compare_7cf53 2 = .ok (.if_icmp .ge 7, 3) := by decide +kernel
theorem dJ6_compare_7cf53_5 : decode cJ6_compare_7cf53 5 = .ok (.iconst (-1), 1) := by decide +kernel
theorem dJ6_compare_7cf53_6 : decode cJ6_compare_7cf53 6 = .ok (.goto 13, 3) := by decide +kernel
theorem dJ6_compare_7cf53_9 : decode cJ6_compare_7cf53 9 = .ok (.iload_n 0, 1) := by decide +kernel
theorem dJ6_compare_7cf53_10 : decode cJ6_compare_7cf53 10 = .ok (.iload_n 1, 1) := by decide +kernel
theorem dJ6_compare_7cf53_11 : decode cJ6_compare_7cf53 11 = .ok (.if_icmp .ne 7, 3) := by decide +kernel
theorem dJ6_compare_7cf53_14 : decode cJ6_compare_7cf53 14 = .ok (.iconst 0, 1) := by decide +kernel
theorem dJ6_compare_7cf53_15 : decode cJ6_compare_7cf53 15 = .ok (.goto 4, 3) := by decide +kernel
theorem dJ6_compare_7cf53_18 : decode cJ6_compare_7cf53 18 = .ok (.iconst 1, 1) := by decide +kernel
theorem dJ6_compare_7cf53_19 : decode cJ6_compare_7cf53 19 = .ok (.ireturn, 1) := by decide +kernel
theorem dJ6_bitCount_0f7a4_0 : decode cJ6_bitCount_0f7a4 0 = .ok (.iload_n 0, 1) := by decide +kernel
theorem dJ6_bitCount_0f7a4_1 : decode cJ6_bitCount_0f7a4 1 = .ok (.iload_n 0, 1) := by decide +kernel
theorem dJ6_bitCount_0f7a4_2 : decode cJ6_bitCount_0f7a4 2 = .ok (.iconst 1, 1) := by decide +kernel
theorem dJ6_bitCount_0f7a4_3 : decode cJ6_bitCount_0f7a4 3 = .ok (.iushr, 1) := by decide +kernel
theorem dJ6_bitCount_0f7a4_4 : decode cJ6_bitCount_0f7a4 4 = .ok (.ldc_w 265, 3) := by decide +kernel
theorem dJ6_bitCount_0f7a4_7 : decode cJ6_bitCount_0f7a4 7 = .ok (.iand, 1) := by decide +kernel
theorem dJ6_bitCount_0f7a4_8 : decode cJ6_bitCount_0f7a4 8 = .ok (.isub, 1) := by decide +kernel
theorem dJ6_bitCount_0f7a4_9 : decode cJ6_bitCount_0f7a4 9 = .ok (.istore_n 0, 1) := by decide +kernel
theorem dJ6_bitCount_0f7a4_10 : decode cJ6_bitCount_0f7a4 10 = .ok (.iload_n 0, 1) := by decide +kernel
theorem dJ6_bitCount_0f7a4_11 : decode cJ6_bitCount_0f7a4 11 = .ok (.ldc_w 266, 3) := by decide +kernel
theorem dJ6_bitCount_0f7a4_14 : decode cJ6_bitCount_0f7a4 14 = .ok (.iand, 1) := by decide +kernel
theorem dJ6_bitCount_0f7a4_15 : decode cJ6_bitCount_0f7a4 15 = .ok (.iload_n 0, 1) := by decide +kernel
theorem dJ6_bitCount_0f7a4_16 : decode cJ6_bitCount_0f7a4 16 = .ok (.iconst 2, 1) := by decide +kernel
theorem dJ6_bitCount_0f7a4_17 : decode cJ6_bitCount_0f7a4 17 = .ok (.iushr, 1) := by decide +kernel
theorem dJ6_bitCount_0f7a4_18 : decode cJ6_bitCount_0f7a4 18 = .ok (.ldc_w 266, 3) := by decide +kernel
theorem dJ6_bitCount_0f7a4_21 : decode cJ6_bitCount_0f7a4 21 = .ok (.iand, 1) := by decide +kernel
theorem dJ6_bitCount_0f7a4_22 : decode cJ6_bitCount_0f7a4 22 = .ok (.iadd, 1) := by decide +kernel
theorem dJ6_bitCount_0f7a4_23 : decode cJ6_bitCount_0f7a4 23 = .ok (.istore_n 0, 1) := by decide +kernel
theorem dJ6_bitCount_0f7a4_24 : decode cJ6_bitCount_0f7a4 24 = .ok (.iload_n 0, 1) := by decide +kernel
theorem dJ6_bitCount_0f7a4_25 : decode cJ6_bitCount_0f7a4 25 = .ok (.iload_n 0, 1) := by decide +kernel
theorem dJ6_bitCount_0f7a4_26 : decode cJ6_bitCount_0f7a4 26 = .ok (.iconst 4, 1) := by decide +kernel
theorem dJ6_bitCount_0f7a4_27 : decode cJ6_bitCount_0f7a4 27 = .ok (.iushr, 1) := by decide +kernel
theorem dJ6_bitCount_0f7a4_28 : decode cJ6_bitCount_0f7a4 28 = .ok (.iadd, 1) := by decide +kernel
theorem dJ6_bitCount_0f7a4_29 : decode cJ6_bitCount_0f7a4 29 = .ok (.ldc_w 267, 3) := by decide +kernel
theorem dJ6_bitCount_0f7a4_32 : decode cJ6_bitCount_0f7a4 32 = .ok (.iand, 1) := by decide +kernel
theorem dJ6_bitCount_0f7a4_33 : decode cJ6_bitCount_0f7a4 33 = .ok (.istore_n 0, 1) := by decide +kernel
theorem dJ6_bitCount_0f7a4_34 : decode cJ6_bitCount_0f7a4 34 = .ok (.iload_n 0, 1) := by decide +kernel
theorem dJ6_bitCount_0f7a4_35 : decode cJ6_bitCount_0f7a4 35 = .ok (.iload_n 0, 1) := by decide +kernel
theorem dJ6_bitCount_0f7a4_36 : decode cJ6_bitCount_0f7a4 36 = .ok (.bipush 8, 2) := by decide +kernel
theorem dJ6_bitCount_0f7a4_38 : decode cJ6_bitCount_0f7a4 38 = .ok (.iushr, 1) := by decide +kernel
theorem dJ6_bitCount_0f7a4_39 : decode cJ6_bitCount_0f7a4 39 = .ok (.iadd, 1) := by decide +kernel
theorem dJ6_bitCount_0f7a4_40 : decode cJ6_bitCount_0f7a4 40 = .ok (.istore_n 0, 1) := by decide +kernel
theorem dJ6_bitCount_0f7a4_41 : decode cJ6_bitCount_0f7a4 41 = .ok (.iload_n 0, 1) := by decide +kernel
theorem dJ6_bitCount_0f7a4_42 : decode cJ6_bitCount_0f7a4 42 = .ok (.iload_n 0, 1) := by decide +kernel
theorem dJ6_bitCount_0f7a4_43 : decode cJ6_bitCount_0f7a4 43 = .ok (.bipush 16, 2) := by decide +kernel
theorem dJ6_bitCount_0f7a4_45 : decode cJ6_bitCount_0f7a4 45 = .ok (.iushr, 1) := by decide +kernel
theorem dJ6_bitCount_0f7a4_46 : decode cJ6_bitCount_0f7a4 46 = .ok (.iadd, 1) := by decide +kernel
theorem dJ6_bitCount_0f7a4_47 : decode cJ6_bitCount_0f7a4 47 = .ok (.istore_n 0, 1) := by decide +kernel
theorem dJ6_bitCount_0f7a4_48 : decode cJ6_bitCount_0f7a4 48 = .ok (.iload_n 0, 1) := by decide +kernel
theorem dJ6_bitCount_0f7a4_49 : decode cJ6_bitCount_0f7a4 49 = .ok (.bipush 63, 2) := by decide +kernel
theorem dJ6_bitCount_0f7a4_51 : decode cJ6_bitCount_0f7a4 51 = .ok (.iand, 1) := by decide +kernel
theorem dJ6_bitCount_0f7a4_52 : decode cJ6_bitCount_0f7a4 52 = .ok (.ireturn, 1) := by decide +kernel
theorem dJ7_fill_d0a16_0 : decode cJ7_fill_d0a16 0 = .ok (.iconst 0, 1) := by decide +kernel
theorem dJ7_fill_d0a16_1 : decode cJ7_fill_d0a16 1 = .ok (.istore_n 3, 1) := by decide +kernel
theorem dJ7_fill_d0a16_2 : decode cJ7_fill_d0a16 2 = .ok (.aload_n 0, 1) := by decide +kernel
theorem dJ7_fill_d0a16_3 : decode cJ7_fill_d0a16 3 = .ok (.arraylength, 1) := by decide +kernel
theorem dJ7_fill_d0a16_4 : decode cJ7_fill_d0a16 4 = .ok (.istore 4, 2) := by decide +kernel
theorem dJ7_fill_d0a16_6 : decode cJ7_fill_d0a16 6 = .ok (.iload_n 3, 1) := by decide +kernel
theorem dJ7_fill_d0a16_7 : decode cJ7_fill_d0a16 7 = .ok (.iload 4, 2) := by decide +kernel
theorem dJ7_fill_d0a16_9 : decode cJ7_fill_d0a16 9 = .ok (.if_icmp .ge 13, 3) := by decide +kernel
theorem dJ7_fill_d0a16_12 : decode cJ7_fill_d0a16 12 = .ok (.aload_n 0, 1) := by decide +kernel
theorem dJ7_fill_d0a16_13 : decode cJ7_fill_d0a16 13 = .ok (.iload_n 3, 1) := by decide +kernel
theorem dJ7_fill_d0a16_14 : decode cJ7_fill_d0a16 14 = .ok (.lload_n 1, 1) := by decide +kernel
theorem dJ7_fill_d0a16_15 : decode cJ7_fill_d0a16 15 = .ok (.lastore, 1) := by decide +kernel
theorem dJ7_fill_d0a16_16 : decode cJ7_fill_d0a16 16 = .ok (.iinc 3 1, 3) := by decide +kernel
theorem dJ7_fill_d0a16_19 : decode cJ7_fill_d0a16 19 = .ok (.goto (-13), 3) := by decide +kernel
theorem dJ7_fill_d0a16_22 : decode cJ7_fill_d0a16 22 = .ok (.return_, 1) := by decide +kernel
theorem dJ7_fill_53178_0 : decode cJ7_fill_53178 0 = .ok (.iconst 0, 1) := by decide +kernel
theorem dJ7_fill_53178_1 : decode cJ7_fill_53178 1 = .ok (.istore_n 2, 1) := by decide +kernel
theorem dJ7_fill_53178_2 : decode cJ7_fill_53178 2 = .ok (.aload_n 0, 1) := by decide +kernel
theorem dJ7_fill_53178_3 : decode cJ7_fill_53178 3 = .ok (.arraylength, 1) := by decide +kernel
theorem dJ7_fill_53178_4 : decode cJ7_fill_53178 4 = .ok (.istore_n 3, 1) := by decide +kernel
theorem dJ7_fill_53178_5 : decode cJ7_fill_53178 5 = .ok (.iload_n 2, 1) := by decide +kernel
theorem dJ7_fill_53178_6 : decode cJ7_fill_53178 6 = .ok (.iload_n 3, 1) := by decide +kernel
theorem dJ7_fill_53178_7 : decode cJ7_fill_53178 7 = .ok (.if_icmp .ge 13, 3) := by decide +kernel
theorem dJ7_fill_53178_10 : decode cJ7_fill_53178 10 = .ok (.aload_n 0, 1) := by decide +kernel
theorem dJ7_fill_53178_11 : decode cJ7_fill_53178 11 = .ok (.iload_n 2, 1) := by decide +kernel
theorem dJ7_fill_53178_12 : decode cJ7_fill_53178 12 = .ok (.iload_n 1, 1) := by decide +kernel
theorem dJ7_fill_53178_13 : decode cJ7_fill_53178 13 = .ok (.iastore, 1) := by decide +kernel
theorem dJ7_fill_53178_14 : decode cJ7_fill_53178 14 = .ok (.iinc 2 1, 3) := by decide +kernel
theorem dJ7_fill_53178_17 : decode cJ7_fill_53178 17 = .ok (.goto (-12), 3) := by decide +kernel
theorem dJ7_fill_53178_20 : decode cJ7_fill_53178 20 = .ok (.return_, 1) := by decide +kernel
end
section
/-! small rows over the light judgement -/
section EVL
variable {G : ev_G} {C : ev_L} {w : Nat} {M : ev_M} {K : ev_K} {pc : Nat} {L : ev_V} {st : List Value} {h : ev_H} {c z : Nat}
theorem ev_ti {x y : Int32} (e : x = y) (k : ev_J G C w M K (pc, L, .int y :: st, h, c, z)) : ev_J G C w M K (pc, L, .int x :: st, h, c, z) := by rw [e]; exact k
theorem ev_tl {x y : Int64} (e : x = y) (k : ev_J G C w M K (pc, L, .long y :: st, h, c, z)) : ev_J G C w M K (pc, L, .long x :: st, h, c, z) := by rw [e]; exact k
theorem ev_th {h2 : ev_H} (e : h = h2) (k : ev_J G C w M K (pc, L, st, h2, c, z)) : ev_J G C w M K (pc, L, st, h, c, z) := by rw [e]; exact k
def ev_hs (L : ev_V) : List (Nat × Value) → Prop
  | [] => True
  | q :: t => L q.1 = some q.2 ∧ ev_hs L t
theorem ev_hsm {L : ev_V} : ∀ {vs : List (Nat × Value)}, ev_hs L vs → ∀ q ∈ vs, L q.1 = some q.2
  | [], _, q, hq => nomatch hq
  | v :: t, h, q, hq => by
    rcases List.mem_cons.mp hq with e | e
    · rw [e]; exact h.1
    · exact ev_hsm h.2 q e
theorem ev_vs (vs : List (Nat × Value)) (hv : ev_hs L vs) (k : ev_J G C w M K (pc, ev_lf vs, st, h, c, z)) : ev_J G C w M K (pc, L, st, h, c, z) := ev_wk (fun i v e => ev_hsm hv (i, v) (ev_lfm e)) k
end EVL
theorem ev_eqq {h : ev_H} {a : Nat} {c : ev_C} : ev_up h a c a = some c := if_pos rfl
theorem ev_nee {h : ev_H} {a q : Nat} {c : ev_C} {x : Option ev_C} (hne : q ≠ a) (e : h q = x) : ev_up h a c q = x := (if_neg hne).trans e
theorem ev_p1 (i : Nat) : nI i + Int32.ofInt 1 = nI (i + 1) := nI_1 i
theorem ev_m1 {i : Nat} (h : 0 < i) : nI i + Int32.ofInt (-1) = nI (i - 1) := by
  obtain ⟨k, rfl⟩ : ∃ k, i = k + 1 := ⟨i - 1, by omega⟩
  exact pk_m1 k
theorem ev_s1e {x y : Int32} (e : x = y) : some (Value.int x) = some (Value.int y) := by rw [e]
theorem ev_s2e {x y : Int64} (e : x = y) : some (Value.long x) = some (Value.long y) := by rw [e]
/-! a Whole: its object q, its row of digits d -/
def wh_p (h : ev_H) (q d n : Nat) (g : Nat → Nat) : ev_H := ev_up (ev_up h d (.inl (.int, 72, .inl (fun j => nI (g j))))) q (.inr (5, [.ref d, .int (nI n)]))
theorem wh_q {h : ev_H} {q d n : Nat} {g : Nat → Nat} : wh_p h q d n g q = some (.inr (5, [.ref d, .int (nI n)])) := if_pos rfl
theorem wh_d {h : ev_H} {q d n : Nat} {g : Nat → Nat} (hqd : q ≠ d) : wh_p h q d n g d = some (.inl (.int, 72, .inl (fun j => nI (g j)))) := (if_neg (Ne.symm hqd)).trans (if_pos rfl)
theorem wh_n {h : ev_H} {q d n : Nat} {g : Nat → Nat} {a : Nat} (h1 : a ≠ q) (h2 : a ≠ d) : wh_p h q d n g a = h a := (if_neg h1).trans (if_neg h2)
theorem wh_upd (g : Nat → Nat) (i x : Nat) (hi : i < 2 ^ 31) : upd (fun j => nI (g j)) (nI i).toNatClampNeg (nI x) = fun j => nI (va_up g i x j) := by
  rw [nI_clamp hi]
  funext j
  unfold upd va_up
  by_cases e : j = i
  · rw [if_pos e, if_pos e]
  · rw [if_neg e, if_neg e]
theorem wh_st {h : ev_H} {q d n i x : Nat} {g : Nat → Nat} (hqd : q ≠ d) (hi : i < 2 ^ 31) : ev_up (wh_p h q d n g) d (.inl (.int, 72, .inl (upd (fun j => nI (g j)) (nI i).toNatClampNeg (nI x)))) = wh_p h q d n (va_up g i x) := by
  rw [wh_upd g i x hi]
  funext a
  unfold wh_p ev_up
  by_cases e : a = d
  · rw [if_pos e, if_neg (by rw [e]; exact Ne.symm hqd), if_pos e]
  · rw [if_neg e]
    by_cases e2 : a = q
    · rw [if_pos e2, if_pos e2]
    · rw [if_neg e2, if_neg e, if_neg e2, if_neg e]
theorem wh_sz {h : ev_H} {q d n m : Nat} {g : Nat → Nat} : ev_up (wh_p h q d n g) q (.inr (5, [Value.ref d, Value.int (nI n)].set 1 (Value.int (nI m)))) = wh_p h q d m g := by
  funext a
  show ev_up (wh_p h q d n g) q (.inr (5, [Value.ref d, Value.int (nI m)])) a = _
  unfold wh_p ev_up
  by_cases e : a = q
  · rw [if_pos e, if_pos e]
  · rw [if_neg e, if_neg e, if_neg e]
theorem wh_id {h : ev_H} {q d n : Nat} {g : Nat → Nat} (h1 : h q = some (.inr (5, [.ref d, .int (nI n)]))) (h2 : h d = some (.inl (.int, 72, .inl (fun j => nI (g j))))) : wh_p h q d n g = h := by
  funext a
  unfold wh_p ev_up
  by_cases e : a = q
  · rw [if_pos e, e, h1]
  · rw [if_neg e]
    by_cases e2 : a = d
    · rw [if_pos e2, e2, h2]
    · rw [if_neg e2]
theorem wh_pp {h : ev_H} {q d n m : Nat} {g f : Nat → Nat} : wh_p (wh_p h q d n g) q d m f = wh_p h q d m f := by
  funext a
  unfold wh_p ev_up
  by_cases e : a = q
  · simp only [if_pos e]
  · by_cases e2 : a = d
    · simp only [if_neg e, if_pos e2]
    · simp only [if_neg e, if_neg e2]
end
section
/-! ===== lN n to 2^64: shifts, and, or, masks, one bit ===== -/
theorem wb_tb (n : Nat) : (lN n).toBitVec = BitVec.ofNat 64 n := rfl
theorem wb_inj {a b : Int64} (h : a.toBitVec = b.toBitVec) : a = b := Int64.toBitVec_inj.mp h
theorem wb_tn {n : Nat} (h : n < 2 ^ 64) : (lN n).toBitVec.toNat = n := by rw [wb_tb, BitVec.toNat_ofNat, Nat.mod_eq_of_lt h]
theorem wb_of (x : Int64) : ∃ n, n < 2 ^ 64 ∧ x = lN n := ⟨x.toBitVec.toNat, x.toBitVec.isLt, wb_inj (by rw [wb_tb]; simp)⟩
theorem wb_of32 (x : Int32) : ∃ n, n < 2 ^ 32 ∧ x = nI n := ⟨x.toBitVec.toNat, x.toBitVec.isLt, Int32.toBitVec_inj.mp (by show _ = BitVec.ofNat 32 _; simp)⟩
theorem wb_c : ∀ k, k < 64 → ((nI k).toInt64 &&& 63) = lN k := by decide +kernel
theorem wb_cu : ∀ k, k < 64 → ((nI k).toInt64.toUInt64 &&& Int64.toUInt64 63) = UInt64.ofNat k := by decide +kernel
theorem wb_sm : ∀ k, k < 64 → (BitVec.ofNat 64 k).smod 64 = BitVec.ofNat 64 k := by decide +kernel
theorem wb_pw {a b : Nat} (h : a ≤ b) : 2 ^ b = 2 ^ a * 2 ^ (b - a) := by rw [← Nat.pow_add]; congr 1; omega
theorem wb_lt2 {a b : Nat} (h : a < b) : 2 ^ a < 2 ^ b := Nat.pow_lt_pow_right (by decide) h
theorem wb_mod (n : Nat) : lN n = lN (n % 2 ^ 64) := wb_inj (by rw [wb_tb, wb_tb]; apply BitVec.eq_of_toNat_eq; rw [BitVec.toNat_ofNat, BitVec.toNat_ofNat, Nat.mod_mod])
theorem wb_shr {n k : Nat} (hn : n < 2 ^ 64) (hk : k < 64) : ((lN n).toUInt64 >>> ((nI k).toInt64.toUInt64 &&& Int64.toUInt64 63)).toInt64 = lN (n / 2 ^ k) := by
  rw [wb_cu k hk]
  apply wb_inj
  apply BitVec.eq_of_toNat_eq
  show ((lN n).toUInt64 >>> UInt64.ofNat k).toNat = (BitVec.ofNat 64 _).toNat
  have h1 : (UInt64.ofNat k).toNat = k := by
    show (BitVec.ofNat 64 k).toNat = k
    rw [BitVec.toNat_ofNat, Nat.mod_eq_of_lt (by omega)]
  have h2 : (lN n).toUInt64.toNat = n := wb_tn hn
  rw [UInt64.toNat_shiftRight, h1, h2, Nat.mod_eq_of_lt hk, Nat.shiftRight_eq_div_pow, BitVec.toNat_ofNat, Nat.mod_eq_of_lt (Nat.lt_of_le_of_lt (Nat.div_le_self _ _) hn)]
theorem wb_shl (n : Nat) {k : Nat} (hk : k < 64) : lN n <<< ((nI k).toInt64 &&& 63) = lN (n * 2 ^ k) := by
  rw [wb_c k hk]
  apply wb_inj
  rw [Int64.toBitVec_shiftLeft, wb_tb, wb_tb, wb_tb, wb_sm k hk]
  apply BitVec.eq_of_toNat_eq
  rw [BitVec.shiftLeft_eq', BitVec.toNat_shiftLeft, BitVec.toNat_ofNat, BitVec.toNat_ofNat, BitVec.toNat_ofNat, Nat.mod_eq_of_lt (show k < 2 ^ 64 by omega), Nat.shiftLeft_eq, Nat.mul_mod, Nat.mod_mod, ← Nat.mul_mod]
theorem wb_and {a b : Nat} (ha : a < 2 ^ 64) (hb : b < 2 ^ 64) : lN a &&& lN b = lN (a &&& b) := by
  apply wb_inj
  rw [Int64.toBitVec_and, wb_tb, wb_tb, wb_tb]
  apply BitVec.eq_of_toNat_eq
  rw [BitVec.toNat_and, BitVec.toNat_ofNat, BitVec.toNat_ofNat, BitVec.toNat_ofNat, Nat.mod_eq_of_lt ha, Nat.mod_eq_of_lt hb, Nat.mod_eq_of_lt (Nat.and_lt_two_pow _ hb)]
theorem wb_or {a b : Nat} (ha : a < 2 ^ 64) (hb : b < 2 ^ 64) : lN a ||| lN b = lN (a ||| b) := by
  apply wb_inj
  rw [Int64.toBitVec_or, wb_tb, wb_tb, wb_tb]
  apply BitVec.eq_of_toNat_eq
  rw [BitVec.toNat_or, BitVec.toNat_ofNat, BitVec.toNat_ofNat, BitVec.toNat_ofNat, Nat.mod_eq_of_lt ha, Nat.mod_eq_of_lt hb, Nat.mod_eq_of_lt (Nat.or_lt_two_pow ha hb)]
theorem wb_mask {n k : Nat} (hn : n < 2 ^ 64) (hk : k < 64) : lN n &&& lN (2 ^ k - 1) = lN (n % 2 ^ k) := by
  rw [wb_and hn (by have := wb_lt2 hk; omega), Nat.and_two_pow_sub_one_eq_mod]
theorem wb_a1 {n : Nat} (hn : n < 2 ^ 64) : lN n &&& 1 = lN (n % 2) := wb_mask (k := 1) hn (by decide)
theorem wb_bit {n k : Nat} (hn : n < 2 ^ 64) (hk : k < 64) : ((lN n).toUInt64 >>> ((nI k).toInt64.toUInt64 &&& Int64.toUInt64 63)).toInt64 &&& 1 = lN (n / 2 ^ k % 2) := by
  rw [wb_shr hn hk, wb_a1 (Nat.lt_of_le_of_lt (Nat.div_le_self _ _) hn)]
theorem wb_xor {q k : Nat} (hk : k < 63) (h : 2 ^ k ≤ q) (h2 : q < 2 ^ (k + 1)) : lN q ^^^ lN (2 ^ k) = lN (q - 2 ^ k) := by
  obtain ⟨r, rfl⟩ : ∃ r, q = 2 ^ k + r := ⟨q - 2 ^ k, by omega⟩
  have hr : r < 2 ^ k := by rw [Nat.pow_succ] at h2; omega
  have hx : (2 ^ k + r) ^^^ 2 ^ k = r := by
    apply Nat.eq_of_testBit_eq
    intro i
    rw [Nat.testBit_xor, Nat.testBit_two_pow]
    rcases Nat.lt_trichotomy i k with h | h | h
    · rw [Nat.testBit_two_pow_add_gt h]
      simp [show ¬ k = i by omega]
    · subst h
      rw [Nat.testBit_two_pow_add_eq]
      simp
    · have a1 : 2 ^ (k + 1) ≤ 2 ^ i := Nat.pow_le_pow_right (by decide) h
      rw [Nat.testBit_lt_two_pow (show 2 ^ k + r < 2 ^ i by omega), Nat.testBit_lt_two_pow (show r < 2 ^ i by omega)]
      simp [show ¬ k = i by omega]
  have b1 := wb_lt2 (show k + 1 < 64 by omega)
  have b2 := wb_lt2 (show k < 64 by omega)
  apply wb_inj
  rw [Int64.toBitVec_xor, wb_tb, wb_tb, wb_tb]
  apply BitVec.eq_of_toNat_eq
  rw [BitVec.toNat_xor, BitVec.toNat_ofNat, BitVec.toNat_ofNat, BitVec.toNat_ofNat, Nat.mod_eq_of_lt (by omega : 2 ^ k + r < 2 ^ 64), Nat.mod_eq_of_lt b2, hx, Nat.add_sub_cancel_left, Nat.mod_eq_of_lt (by omega)]
/-! ===== lN: masks, 'or' of parts that don't overlap is a sum ===== -/
theorem u_tn {n : Nat} (h : n < 2 ^ 64) : (UInt64.ofNat n).toNat = n := Nat.mod_eq_of_lt h
theorem g_and {a b c : Nat} (ha : a < 2 ^ 64) (hb : b < 2 ^ 64) (hc : a &&& b = c) : lN a &&& lN b = lN c := by
  subst hc
  have h : UInt64.ofNat a &&& UInt64.ofNat b = UInt64.ofNat (a &&& b) := UInt64.toNat_inj.mp (by rw [UInt64.toNat_and, u_tn ha, u_tn hb, u_tn (Nat.and_lt_two_pow a hb)])
  have h2 := congrArg UInt64.toInt64 h
  exact h2
theorem g_and1 {a : Nat} (ha : a < 2 ^ 64) : lN a &&& 1 = lN (a % 2) := g_and (b := 1) ha (by decide) (Nat.and_two_pow_sub_one_eq_mod a 1)
theorem g_mask {a s p : Nat} (hp : 2 ^ s = p) (hs : s < 64) (ha : a < 2 ^ 64) : lN a &&& lN (p - 1) = lN (a % p) := by
  subst hp
  have := Nat.pow_lt_pow_right (show 1 < 2 by decide) hs
  exact g_and ha (by omega) (Nat.and_two_pow_sub_one_eq_mod a s)
theorem g_or {k p a b : Nat} (hp : 2 ^ k = p) (ha : a < p) (h : b * p + a < 2 ^ 64) : lN (b * p) ||| lN a = lN (b * p + a) := by
  subst hp
  have h1 : b * 2 ^ k ||| a = b * 2 ^ k + a := by rw [← Nat.shiftLeft_eq, Nat.shiftLeft_add_eq_or_of_lt ha]
  have h3 : UInt64.ofNat (b * 2 ^ k) ||| UInt64.ofNat a = UInt64.ofNat (b * 2 ^ k + a) := UInt64.toNat_inj.mp (by rw [UInt64.toNat_or, u_tn (by omega), u_tn (by omega), u_tn h, h1])
  have h2 := congrArg UInt64.toInt64 h3
  exact h2
theorem g_or' {k p a b : Nat} (hp : 2 ^ k = p) (ha : a < p) (h : a + b * p < 2 ^ 64) : lN a ||| lN (b * p) = lN (a + b * p) := by
  rw [Int64.or_comm, g_or hp ha (by omega), Nat.add_comm]
theorem g_ushr {a k p : Nat} {y : UInt64} (hy : y = UInt64.ofNat k) (hk : k < 64) (hp : 2 ^ k = p) (ha : a < 2 ^ 64) : ((lN a).toUInt64 >>> y).toInt64 = lN (a / p) := by
  subst hy hp
  have h : UInt64.ofNat a >>> UInt64.ofNat k = UInt64.ofNat (a / 2 ^ k) := UInt64.toNat_inj.mp (by rw [UInt64.toNat_shiftRight, u_tn ha, u_tn (by omega), u_tn (Nat.lt_of_le_of_lt (Nat.div_le_self _ _) ha), Nat.mod_eq_of_lt hk, Nat.shiftRight_eq_div_pow])
  have h2 := congrArg UInt64.toInt64 h
  exact h2
theorem g_shl {a k p : Nat} {y : Int64} (hy : y.toBitVec.smod 64 = BitVec.ofNat 64 k) (hk : k < 64) (hp : 2 ^ k = p) (ha : a < 2 ^ 64) : lN a <<< y = lN (a * p) := by
  subst hp
  apply Int64.toBitVec_inj.mp
  rw [Int64.toBitVec_shiftLeft, hy]
  apply BitVec.eq_of_toNat_eq
  have hb : (lN a).toBitVec.toNat = a := Nat.mod_eq_of_lt ha
  have hk' : (BitVec.ofNat 64 k).toNat = k := Nat.mod_eq_of_lt (by omega)
  have h : ((lN a).toBitVec <<< BitVec.ofNat 64 k).toNat = (a * 2 ^ k) % 2 ^ 64 := by simp only [BitVec.shiftLeft_eq', BitVec.toNat_shiftLeft, hb, hk', Nat.shiftLeft_eq]
  exact h
/-! ===== lN to 2^62 under >> and >>> ===== -/
theorem pf_lI {a : Nat} (h : a < 2 ^ 63) : (lN a).toInt = (a : Int) := lg_ofNat_toInt h
theorem pf_shr {a d : Nat} {D : Int64} (hD : (D.toBitVec.smod 64).toNat = d) (h : a < 2 ^ 62) : lN a >>> D = lN (a / 2 ^ d) := by
  have hd : a / 2 ^ d ≤ a := Nat.div_le_self _ _
  apply Int64.toInt_inj.mp
  have e : (lN a >>> D).toInt = (lN a).toInt >>> d := by
    rw [← hD]
    exact BitVec.toInt_sshiftRight ..
  rw [e, Int.shiftRight_eq_div_pow, pf_lI (by omega), pf_lI (by omega)]
  rfl
theorem pf_ushr {a d : Nat} {D : UInt64} (hD : D.toNat % 64 = d) (h : a < 2 ^ 62) : ((lN a).toUInt64 >>> D).toInt64 = lN (a / 2 ^ d) := by
  have hd : a / 2 ^ d ≤ a := Nat.div_le_self _ _
  have e : (lN a).toUInt64 >>> D = UInt64.ofNat (a / 2 ^ d) := UInt64.toNat_inj.mp (by
    rw [UInt64.toNat_shiftRight, hD, Nat.shiftRight_eq_div_pow, UInt64.toNat_ofNat']
    show (UInt64.ofNat a).toNat / 2 ^ d = _
    rw [UInt64.toNat_ofNat', Nat.mod_eq_of_lt (by omega), Nat.mod_eq_of_lt (by omega)])
  rw [e]
  rfl
theorem pf_andw (x : Int64) : ∃ m, m < 2 ^ 32 ∧ x &&& 4294967295 = lN m := ⟨x.toBitVec.toNat % 2 ^ 32, Nat.mod_lt _ (by decide), Int64.toBitVec_inj.mp (BitVec.eq_of_toNat_eq (by
  show (x.toBitVec &&& 4294967295#64).toNat = (BitVec.ofNat 64 (x.toBitVec.toNat % 2 ^ 32)).toNat
  rw [BitVec.toNat_and, show (4294967295#64).toNat = 2 ^ 32 - 1 from by decide, Nat.and_two_pow_sub_one_eq_mod, BitVec.toNat_ofNat]
  omega))⟩
end
section
/-! PURE ROWS: numbers in digits of 30 bits (B = 1073741824), the lowest first -/
/-- the value of the first n digits -/
def mb_v (g : Nat → Nat) : Nat → Nat
  | 0 => 0
  | n + 1 => mb_v g n + g n * 1073741824 ^ n
theorem mb_v0 (g : Nat → Nat) : mb_v g 0 = 0 := rfl
theorem mb_vs (g : Nat → Nat) (n : Nat) : mb_v g (n + 1) = mb_v g n + g n * 1073741824 ^ n := rfl
theorem mb_pw (n : Nat) : 1073741824 ^ (n + 1) = 1073741824 ^ n * 1073741824 := Nat.pow_succ ..
theorem mb_pp (n : Nat) : 0 < 1073741824 ^ n := Nat.pow_pos (by decide)
theorem mb_congr {g h : Nat → Nat} : ∀ {n : Nat}, (∀ j, j < n → g j = h j) → mb_v g n = mb_v h n
  | 0, _ => rfl
  | n + 1, e => by rw [mb_vs, mb_vs, mb_congr (n := n) (fun j hj => e j (by omega)), e n (by omega)]
theorem mb_lt {g : Nat → Nat} : ∀ {n : Nat}, (∀ j, j < n → g j < 1073741824) → mb_v g n < 1073741824 ^ n
  | 0, _ => by show 0 < 1; decide
  | n + 1, e => by
    have h1 := mb_lt (n := n) (fun j hj => e j (by omega))
    have h2 : g n * 1073741824 ^ n ≤ 1073741823 * 1073741824 ^ n := Nat.mul_le_mul_right _ (by have := e n (by omega); omega)
    rw [mb_vs, mb_pw]
    omega
theorem mb_top {g : Nat → Nat} {n : Nat} : ∀ {m : Nat}, n ≤ m → (∀ j, n ≤ j → j < m → g j = 0) → mb_v g m = mb_v g n
  | 0, h, _ => by rw [Nat.le_zero.mp h]
  | m + 1, h, hz => by
    rcases Nat.lt_or_ge m n with q | q
    · rw [show n = m + 1 by omega]
    · rw [mb_vs, mb_top (m := m) q (fun j h1 h2 => hz j h1 (by omega)), hz m q (by omega)]; omega
theorem mb_zero {g : Nat → Nat} {n : Nat} (h : ∀ j, j < n → g j = 0) : mb_v g n = 0 := by
  rw [mb_top (n := 0) (Nat.zero_le n) (fun j _ h2 => h j h2)]; rfl
/-- one digit changed -/
theorem mb_up {g : Nat → Nat} {k x : Nat} : ∀ {n : Nat}, k < n → mb_v (va_up g k x) n + g k * 1073741824 ^ k = mb_v g n + x * 1073741824 ^ k
  | 0, h => absurd h (Nat.not_lt_zero _)
  | n + 1, h => by
    rw [mb_vs, mb_vs]
    rcases Nat.lt_or_ge k n with q | q
    · have e := mb_up (g := g) (k := k) (x := x) (n := n) q
      rw [va_up_ne g x (show n ≠ k by omega)]
      omega
    · have hk : n = k := by omega
      subst hk
      rw [va_up_self, mb_congr (g := va_up g n x) (h := g) (fun j hj => va_up_ne g x (by omega))]
      omega
theorem mb_upo {g : Nat → Nat} {k x n : Nat} (h : n ≤ k) : mb_v (va_up g k x) n = mb_v g n := mb_congr (fun j hj => va_up_ne g x (by omega))
/-- a sum in one digit's place and what is carried -/
theorem mb_cy (s p : Nat) : s % 1073741824 * p + s / 1073741824 * (p * 1073741824) = s * p := by
  have h := Nat.div_add_mod s 1073741824
  calc s % 1073741824 * p + s / 1073741824 * (p * 1073741824) = (1073741824 * (s / 1073741824) + s % 1073741824) * p := by grind
    _ = s * p := by rw [h]
/-- the first n + m digits: the lower n and the upper m -/
theorem mb_cut (g : Nat → Nat) (n : Nat) : ∀ m : Nat, mb_v g (n + m) = mb_v g n + 1073741824 ^ n * mb_v (fun j => g (n + j)) m
  | 0 => by simp [mb_v0]
  | m + 1 => by
    rw [← Nat.add_assoc, mb_vs, mb_cut g n m, mb_vs, Nat.pow_add]
    grind
theorem mb_le {g : Nat → Nat} {n m : Nat} (h : n ≤ m) : mb_v g n ≤ mb_v g m := by
  obtain ⟨k, rfl⟩ := Nat.exists_eq_add_of_le h
  rw [mb_cut]; omega
/-- the highest digit in which two numbers differ decides -/
theorem mb_cmp {g h : Nat → Nat} {i n : Nat} (hi : i < n) (hg : ∀ j, j < n → g j < 1073741824) (e : ∀ j, i < j → j < n → g j = h j) (lt : g i < h i) : mb_v g n < mb_v h n := by
  obtain ⟨k, rfl⟩ := Nat.exists_eq_add_of_le (show i + 1 ≤ n by omega)
  rw [mb_cut g (i + 1) k, mb_cut h (i + 1) k, mb_congr (g := fun j => g (i + 1 + j)) (h := fun j => h (i + 1 + j)) (fun j hj => e _ (by omega) (by omega)), mb_vs, mb_vs]
  have h1 := mb_lt (g := g) (n := i) (fun j hj => hg j (by omega))
  have h2 : (g i + 1) * 1073741824 ^ i ≤ h i * 1073741824 ^ i := Nat.mul_le_mul_right _ lt
  have h3 : (g i + 1) * 1073741824 ^ i = g i * 1073741824 ^ i + 1073741824 ^ i := by grind
  omega
theorem mb_ge {g : Nat → Nat} {n : Nat} (h : g n ≠ 0) : 1073741824 ^ n ≤ mb_v g (n + 1) := by
  rw [mb_vs]
  have h2 : 1 * 1073741824 ^ n ≤ g n * 1073741824 ^ n := Nat.mul_le_mul_right _ (by omega)
  omega
/-- digits g, of which n count, are the number v -/
def mb_is (g : Nat → Nat) (n v : Nat) : Prop := (∀ j, g j < 1073741824) ∧ (∀ j, n ≤ j → g j = 0) ∧ (0 < n → g (n - 1) ≠ 0) ∧ n ≤ 72 ∧ mb_v g n = v
theorem mb_is0 {g : Nat → Nat} (h : ∀ j, g j = 0) : mb_is g 0 0 := ⟨fun j => by rw [h]; decide, fun j _ => h j, fun h => absurd h (Nat.lt_irrefl 0), by decide, rfl⟩
theorem mb_is_lt {g : Nat → Nat} {n v : Nat} (h : mb_is g n v) : v < 1073741824 ^ n := by
  rw [← h.2.2.2.2]; exact mb_lt (fun j _ => h.1 j)
theorem mb_is_ge {g : Nat → Nat} {n v : Nat} (h : mb_is g n v) (hn : 0 < n) : 1073741824 ^ (n - 1) ≤ v := by
  obtain ⟨h1, h2, h3, h4, h5⟩ := h
  obtain ⟨k, rfl⟩ : ∃ k, n = k + 1 := ⟨n - 1, by omega⟩
  rw [← h5]; exact mb_ge (h3 hn)
theorem mb_is_at {g : Nat → Nat} {n v m : Nat} (h : mb_is g n v) (hm : n ≤ m) : mb_v g m = v := by
  rw [mb_top hm (fun j h1 _ => h.2.1 j h1)]; exact h.2.2.2.2
/-- how many digits count is told by the value -/
theorem mb_is_n {g : Nat → Nat} {n v k : Nat} (h : mb_is g n v) (hv : v < 1073741824 ^ k) : n ≤ k := by
  rcases Nat.lt_or_ge k n with q | q
  · have h1 := mb_is_ge h (by omega)
    have h2 : 1073741824 ^ k ≤ 1073741824 ^ (n - 1) := Nat.pow_le_pow_right (by decide) (by omega)
    omega
  · exact q
theorem mb_is_z {g : Nat → Nat} {n v : Nat} (h : mb_is g n v) : n = 0 ↔ v = 0 := by
  constructor
  · intro e; subst e; exact h.2.2.2.2.symm
  · intro e
    rcases Nat.eq_zero_or_pos n with q | q
    · exact q
    · have h1 := mb_is_ge h q
      have h2 := mb_pp (n - 1)
      omega
/-- what is left when zeros are taken off the top -/
def mb_tr (g : Nat → Nat) : Nat → Nat
  | 0 => 0
  | n + 1 => if g n = 0 then mb_tr g n else n + 1
theorem mb_tr_le (g : Nat → Nat) : ∀ n, mb_tr g n ≤ n
  | 0 => Nat.le_refl 0
  | n + 1 => by
    unfold mb_tr
    split
    · exact Nat.le_trans (mb_tr_le g n) (by omega)
    · exact Nat.le_refl _
theorem mb_tr_z (g : Nat → Nat) : ∀ n j, mb_tr g n ≤ j → j < n → g j = 0
  | 0, j, _, h => absurd h (Nat.not_lt_zero j)
  | n + 1, j, h1, h2 => by
    unfold mb_tr at h1
    split at h1
    · rcases Nat.lt_or_ge j n with q | q
      · exact mb_tr_z g n j h1 q
      · rw [show j = n by omega]; assumption
    · omega
theorem mb_tr_t (g : Nat → Nat) : ∀ n, 0 < mb_tr g n → g (mb_tr g n - 1) ≠ 0
  | 0, h => absurd h (Nat.lt_irrefl 0)
  | n + 1, h => by
    unfold mb_tr at h ⊢
    split
    · rename_i e
      rw [if_pos e] at h
      exact mb_tr_t g n h
    · assumption
theorem mb_tr_is {g : Nat → Nat} {n v : Nat} (h1 : ∀ j, g j < 1073741824) (h2 : ∀ j, n ≤ j → g j = 0) (hn : n ≤ 72) (hv : mb_v g n = v) : mb_is g (mb_tr g n) v := by
  refine ⟨h1, fun j hj => ?_, mb_tr_t g n, Nat.le_trans (mb_tr_le g n) hn, ?_⟩
  · rcases Nat.lt_or_ge j n with q | q
    · exact mb_tr_z g n j hj q
    · exact h2 j q
  · rw [← hv]
    exact (mb_top (mb_tr_le g n) (fun j a b => mb_tr_z g n j a b)).symm
def mb_cl (g : Nat → Nat) (n : Nat) : Nat → Nat := fun j => if j < n then 0 else g j
theorem mb_cl0 (g : Nat → Nat) : mb_cl g 0 = g := by funext j; simp [mb_cl]
theorem mb_cls (g : Nat → Nat) (i : Nat) : va_up (mb_cl g i) i 0 = mb_cl g (i + 1) := by
  funext j
  unfold va_up mb_cl
  by_cases e : j = i
  · rw [if_pos e, if_pos (by omega)]
  · rw [if_neg e]
    by_cases e2 : j < i
    · rw [if_pos e2, if_pos (by omega)]
    · rw [if_neg e2, if_neg (by omega)]
theorem mb_clz {g : Nat → Nat} {n v : Nat} (h : mb_is g n v) : mb_cl g n = fun _ => 0 := by
  funext j
  unfold mb_cl
  by_cases e : j < n
  · rw [if_pos e]
  · rw [if_neg e]; exact h.2.1 j (by omega)
/-- arithmetic of longs: not below 0 -/
theorem ml_shr {a k : Nat} (hk : k < 64) (h : a < 2 ^ 63) : lN a >>> ((nI k).toInt64 &&& 63) = lN (a / 2 ^ k) := by
  rw [wb_c k hk]
  have hD : ((lN k).toBitVec.smod 64).toNat = k := by
    rw [wb_tb, wb_sm k hk, BitVec.toNat_ofNat]
    exact Nat.mod_eq_of_lt (by omega)
  apply Int64.toInt_inj.mp
  rw [show (lN a >>> lN k).toInt = (lN a).toInt >>> k by
    rw [← Int64.toInt_toBitVec, Int64.toBitVec_shiftRight, BitVec.toInt_sshiftRight', hD, Int64.toInt_toBitVec]]
  rw [pf_lI h, pf_lI (Nat.lt_of_le_of_lt (Nat.div_le_self a _) h), Int.shiftRight_eq_div_pow]
  simp
theorem ml_mask {a : Nat} (h : a < 2 ^ 64) : lN a &&& lN 1073741823 = lN (a % 1073741824) := wb_mask (k := 30) h (by decide)
theorem mi_mask {a : Nat} (h : a < 2 ^ 32) : nI a &&& nI 1073741823 = nI (a % 1073741824) := pk_andN h 30 (by decide)
theorem mi_ushr {a : Nat} (h : a < 2 ^ 32) : ((nI a).toUInt32 >>> ((nI 30).toUInt32 &&& Int32.toUInt32 31)).toInt32 = nI (a / 1073741824) := pk_ushrN h (nI 30) 30 (by decide)
theorem ml_or {a b : Nat} (ha : a < 1073741824) (h : b * 1073741824 + a < 2 ^ 64) : lN (b * 1073741824) ||| lN a = lN (b * 1073741824 + a) := g_or (k := 30) (by decide) ha h
theorem ml_shl (a : Nat) : lN a <<< ((nI 30).toInt64 &&& 63) = lN (a * 1073741824) := wb_shl a (k := 30) (by decide)
theorem mi_max {a b : Nat} (ha : a < 2 ^ 31) (hb : b < 2 ^ 31) : (if nI a < nI b then nI b else nI a) = nI (max a b) := by
  by_cases e : a < b
  · rw [if_pos ((nI_ltI ha hb).mpr e), Nat.max_eq_right (by omega)]
  · rw [if_neg (fun q => e ((nI_ltI ha hb).mp q)), Nat.max_eq_left (by omega)]
theorem mi_min {a b : Nat} (ha : a < 2 ^ 31) (hb : b < 2 ^ 31) : (if nI b < nI a then nI b else nI a) = nI (min a b) := by
  by_cases e : b < a
  · rw [if_pos ((nI_ltI hb ha).mpr e), Nat.min_eq_right (by omega)]
  · rw [if_neg (fun q => e ((nI_ltI hb ha).mp q)), Nat.min_eq_left (by omega)]
def mi_cmp (a b : Nat) : Int32 := if a < b then -1 else if a = b then 0 else 1
theorem mi_m1 (k : Nat) : nI k + Int32.ofInt (-1) = nI k - nI 1 := by rw [Int32.sub_eq_add_neg]; rfl
end
section
/-! the rules on numbers that are not below 0 -/
section EVN
variable {G : ev_G} {C : ev_L} {w : Nat} {M : ev_M} {K : ev_K} {pc : Nat} {L : ev_V} {st : List Value} {h : ev_H} {c z : Nat}
theorem ev_iaddN {x y : Nat} (hd : decode M.2.1 pc = .ok (.iadd, 1))  (k : ev_J G C w M K (pc + 1, L, .int (nI (x + y)) :: st, h, c, z)) : ev_J G C w M K (pc, L, .int (nI y) :: .int (nI x) :: st, h, c, z) := ev_iadd hd (ev_ti (nI_add x y) k)
theorem ev_isubN {x y : Nat} (hd : decode M.2.1 pc = .ok (.isub, 1)) (hl : y ≤ x) (k : ev_J G C w M K (pc + 1, L, .int (nI (x - y)) :: st, h, c, z)) : ev_J G C w M K (pc, L, .int (nI y) :: .int (nI x) :: st, h, c, z) := ev_isub hd (ev_ti (pk_sub hl) k)
theorem ev_imulN {x y : Nat} (hd : decode M.2.1 pc = .ok (.imul, 1))  (k : ev_J G C w M K (pc + 1, L, .int (nI (x * y)) :: st, h, c, z)) : ev_J G C w M K (pc, L, .int (nI y) :: .int (nI x) :: st, h, c, z) := ev_imul hd (ev_ti (pk_mul x y) k)
theorem ev_laddN {x y : Nat} (hd : decode M.2.1 pc = .ok (.ladd, 1))  (k : ev_J G C w M K (pc + 1, L, .long (lN (x + y)) :: st, h, c, z)) : ev_J G C w M K (pc, L, .long (lN y) :: .long (lN x) :: st, h, c, z) := ev_ladd hd (ev_tl (lN_add x y) k)
theorem ev_lsubN {x y : Nat} (hd : decode M.2.1 pc = .ok (.lsub, 1)) (hl : y ≤ x) (k : ev_J G C w M K (pc + 1, L, .long (lN (x - y)) :: st, h, c, z)) : ev_J G C w M K (pc, L, .long (lN y) :: .long (lN x) :: st, h, c, z) := ev_lsub hd (ev_tl (lN_sub hl) k)
theorem ev_lmulN {x y : Nat} (hd : decode M.2.1 pc = .ok (.lmul, 1))  (k : ev_J G C w M K (pc + 1, L, .long (lN (x * y)) :: st, h, c, z)) : ev_J G C w M K (pc, L, .long (lN y) :: .long (lN x) :: st, h, c, z) := ev_lmul hd (ev_tl (lN_mul x y) k)
theorem ev_i2lN {x : Nat} (hd : decode M.2.1 pc = .ok (.i2l, 1)) (hl : x < 2 ^ 31) (k : ev_J G C w M K (pc + 1, L, .long (lN x) :: st, h, c, z)) : ev_J G C w M K (pc, L, .int (nI x) :: st, h, c, z) := ev_i2l hd (ev_tl (nI_l hl) k)
theorem ev_l2iN {x : Nat} (hd : decode M.2.1 pc = .ok (.l2i, 1))  (k : ev_J G C w M K (pc + 1, L, .int (nI x) :: st, h, c, z)) : ev_J G C w M K (pc, L, .long (lN x) :: st, h, c, z) := ev_l2i hd (ev_ti (lN_i x) k)
theorem ev_landN {x : Nat} (hd : decode M.2.1 pc = .ok (.land, 1)) (hl : x < 2 ^ 64) (k : ev_J G C w M K (pc + 1, L, .long (lN (x % 1073741824)) :: st, h, c, z)) : ev_J G C w M K (pc, L, .long (lN 1073741823) :: .long (lN x) :: st, h, c, z) := ev_land hd (ev_tl (ml_mask hl) k)
theorem ev_iandN {x : Nat} (hd : decode M.2.1 pc = .ok (.iand, 1)) (hl : x < 2 ^ 32) (k : ev_J G C w M K (pc + 1, L, .int (nI (x % 1073741824)) :: st, h, c, z)) : ev_J G C w M K (pc, L, .int (nI 1073741823) :: .int (nI x) :: st, h, c, z) := ev_iand hd (ev_ti (mi_mask hl) k)
theorem ev_lshrN {x : Nat} (hd : decode M.2.1 pc = .ok (.lshr, 1)) (hl : x < 2 ^ 63) (k : ev_J G C w M K (pc + 1, L, .long (lN (x / 1073741824)) :: st, h, c, z)) : ev_J G C w M K (pc, L, .int (nI 30) :: .long (lN x) :: st, h, c, z) := ev_lshr hd (ev_tl (ml_shr (k := 30) (by decide) hl) k)
theorem ev_lshlN {x : Nat} (hd : decode M.2.1 pc = .ok (.lshl, 1))  (k : ev_J G C w M K (pc + 1, L, .long (lN (x * 1073741824)) :: st, h, c, z)) : ev_J G C w M K (pc, L, .int (nI 30) :: .long (lN x) :: st, h, c, z) := ev_lshl hd (ev_tl (ml_shl x) k)
theorem ev_iushrN {x : Nat} (hd : decode M.2.1 pc = .ok (.iushr, 1)) (hl : x < 2 ^ 32) (k : ev_J G C w M K (pc + 1, L, .int (nI (x / 1073741824)) :: st, h, c, z)) : ev_J G C w M K (pc, L, .int (nI 30) :: .int (nI x) :: st, h, c, z) := ev_iushr hd (ev_ti (mi_ushr hl) k)
theorem ev_lorN {x y : Nat} (hd : decode M.2.1 pc = .ok (.lor, 1)) (hl : y < 1073741824) (hl2 : x * 1073741824 + y < 2 ^ 64) (k : ev_J G C w M K (pc + 1, L, .long (lN (x * 1073741824 + y)) :: st, h, c, z)) : ev_J G C w M K (pc, L, .long (lN y) :: .long (lN (x * 1073741824)) :: st, h, c, z) := ev_lor hd (ev_tl (ml_or hl hl2) k)
theorem ev_ldivN {x y : Nat} (hd : decode M.2.1 pc = .ok (.ldiv, 1)) (h0 : 0 < y) (hl : x < 2 ^ 63) (hl2 : y < 2 ^ 63) (k : ev_J G C w M K (pc + 1, L, .long (lN (x / y)) :: st, h, c, z)) : ev_J G C w M K (pc, L, .long (lN y) :: .long (lN x) :: st, h, c, z) := ev_ldiv hd (fun e => by have := (pk_lEQ hl2 (show 0 < 2 ^ 63 by decide)).mp e; omega) (ev_tl (pk_lDiv hl h0 hl2) k)
theorem ev_lremN {x y : Nat} (hd : decode M.2.1 pc = .ok (.lrem, 1)) (h0 : 0 < y) (hl : x < 2 ^ 63) (hl2 : y < 2 ^ 63) (k : ev_J G C w M K (pc + 1, L, .long (lN (x % y)) :: st, h, c, z)) : ev_J G C w M K (pc, L, .long (lN y) :: .long (lN x) :: st, h, c, z) := ev_lrem hd (fun e => by have := (pk_lEQ hl2 (show 0 < 2 ^ 63 by decide)).mp e; omega) (ev_tl (pk_lRem hl h0 hl2) k)
theorem ev_idivN {x y : Nat} (hd : decode M.2.1 pc = .ok (.idiv, 1)) (h0 : 0 < y) (hl : x < 2 ^ 31) (hl2 : y < 2 ^ 31) (k : ev_J G C w M K (pc + 1, L, .int (nI (x / y)) :: st, h, c, z)) : ev_J G C w M K (pc, L, .int (nI y) :: .int (nI x) :: st, h, c, z) := ev_idiv hd (nI_ne0 h0 hl2) (ev_ti (pk_div hl h0 hl2) k)
theorem ev_iremN {x y : Nat} (hd : decode M.2.1 pc = .ok (.irem, 1)) (h0 : 0 < y) (hl : x < 2 ^ 31) (hl2 : y < 2 ^ 31) (k : ev_J G C w M K (pc + 1, L, .int (nI (x % y)) :: st, h, c, z)) : ev_J G C w M K (pc, L, .int (nI y) :: .int (nI x) :: st, h, c, z) := ev_irem hd (nI_ne0 h0 hl2) (ev_ti (pk_rem hl h0 hl2) k)
theorem ev_iincN {i x : Nat} (hd : decode M.2.1 pc = .ok (.iinc i 1, 3)) (hx1 : L i = some (.int (nI x))) (hn : Nat.blt i M.2.2.1 = true) (k : ev_J G C w M K (pc + 3, ev_s1 L i (.int (nI (x + 1))), st, h, c, z)) : ev_J G C w M K (pc, L, st, h, c, z) := ev_iinc hd hx1 hn (by rw [ev_p1]; exact k)
theorem ev_iincD {i x : Nat} (hd : decode M.2.1 pc = .ok (.iinc i (-1), 3)) (hx1 : L i = some (.int (nI x))) (hn : Nat.blt i M.2.2.1 = true) (h0 : 0 < x) (k : ev_J G C w M K (pc + 3, ev_s1 L i (.int (nI (x - 1))), st, h, c, z)) : ev_J G C w M K (pc, L, st, h, c, z) := ev_iinc hd hx1 hn (by rw [ev_m1 h0]; exact k)
theorem ev_iaN {i N a : Nat} {g : Nat → Nat} (hd : decode M.2.1 pc = .ok (.iaload, 1)) (ha : h a = some (.inl (.int, N, .inl (fun j => nI (g j))))) (hi : i < N) (hN : N < 2 ^ 31) (k : ev_J G C w M K (pc + 1, L, .int (nI (g i)) :: st, h, c, z)) : ev_J G C w M K (pc, L, .int (nI i) :: .ref a :: st, h, c, z) := ev_iald hd ha (vp_in_nI hi hN) (ev_ti (by rw [nI_clamp (by omega)]) k)
theorem ev_icmp_eqN {off : Int} {tgt x y : Nat} (hd : decode M.2.1 pc = .ok (.if_icmp .eq off, 3)) (ht : (pc : Int) + off = (tgt : Int)) (hx : x < 2 ^ 31) (hy : y < 2 ^ 31) (kt : x = y → ev_J G C w M K (tgt, L, st, h, c, z)) (kf : ¬ x = y → ev_J G C w M K (pc + 3, L, st, h, c, z)) : ev_J G C w M K (pc, L, .int (nI y) :: .int (nI x) :: st, h, c, z) := ev_icmp_eq hd ht (fun q => kt ((nI_eq hx hy).mp q)) (fun q => kf (fun e => q (by rw [e])))
theorem ev_icmp_neN {off : Int} {tgt x y : Nat} (hd : decode M.2.1 pc = .ok (.if_icmp .ne off, 3)) (ht : (pc : Int) + off = (tgt : Int)) (hx : x < 2 ^ 31) (hy : y < 2 ^ 31) (kt : ¬ x = y → ev_J G C w M K (tgt, L, st, h, c, z)) (kf : x = y → ev_J G C w M K (pc + 3, L, st, h, c, z)) : ev_J G C w M K (pc, L, .int (nI y) :: .int (nI x) :: st, h, c, z) := ev_icmp_ne hd ht (fun q => kt (fun e => q (by rw [e]))) (fun q => kf ((nI_eq hx hy).mp q))
theorem ev_icmp_ltN {off : Int} {tgt x y : Nat} (hd : decode M.2.1 pc = .ok (.if_icmp .lt off, 3)) (ht : (pc : Int) + off = (tgt : Int)) (hx : x < 2 ^ 31) (hy : y < 2 ^ 31) (kt : x < y → ev_J G C w M K (tgt, L, st, h, c, z)) (kf : y ≤ x → ev_J G C w M K (pc + 3, L, st, h, c, z)) : ev_J G C w M K (pc, L, .int (nI y) :: .int (nI x) :: st, h, c, z) := ev_icmp_lt hd ht (fun q => kt ((nI_ltI hx hy).mp q)) (fun q => kf (Nat.not_lt.mp (fun e => q ((nI_ltI hx hy).mpr e))))
theorem ev_icmp_geN {off : Int} {tgt x y : Nat} (hd : decode M.2.1 pc = .ok (.if_icmp .ge off, 3)) (ht : (pc : Int) + off = (tgt : Int)) (hx : x < 2 ^ 31) (hy : y < 2 ^ 31) (kt : y ≤ x → ev_J G C w M K (tgt, L, st, h, c, z)) (kf : x < y → ev_J G C w M K (pc + 3, L, st, h, c, z)) : ev_J G C w M K (pc, L, .int (nI y) :: .int (nI x) :: st, h, c, z) := ev_icmp_ge hd ht (fun q => kt ((nI_leI hy hx).mp q)) (fun q => kf (Nat.not_le.mp (fun e => q ((nI_leI hy hx).mpr e))))
theorem ev_icmp_gtN {off : Int} {tgt x y : Nat} (hd : decode M.2.1 pc = .ok (.if_icmp .gt off, 3)) (ht : (pc : Int) + off = (tgt : Int)) (hx : x < 2 ^ 31) (hy : y < 2 ^ 31) (kt : y < x → ev_J G C w M K (tgt, L, st, h, c, z)) (kf : x ≤ y → ev_J G C w M K (pc + 3, L, st, h, c, z)) : ev_J G C w M K (pc, L, .int (nI y) :: .int (nI x) :: st, h, c, z) := ev_icmp_gt hd ht (fun q => kt ((nI_ltI hy hx).mp q)) (fun q => kf (Nat.not_lt.mp (fun e => q ((nI_ltI hy hx).mpr e))))
theorem ev_icmp_leN {off : Int} {tgt x y : Nat} (hd : decode M.2.1 pc = .ok (.if_icmp .le off, 3)) (ht : (pc : Int) + off = (tgt : Int)) (hx : x < 2 ^ 31) (hy : y < 2 ^ 31) (kt : x ≤ y → ev_J G C w M K (tgt, L, st, h, c, z)) (kf : y < x → ev_J G C w M K (pc + 3, L, st, h, c, z)) : ev_J G C w M K (pc, L, .int (nI y) :: .int (nI x) :: st, h, c, z) := ev_icmp_le hd ht (fun q => kt ((nI_leI hx hy).mp q)) (fun q => kf (Nat.not_le.mp (fun e => q ((nI_leI hx hy).mpr e))))
theorem ev_if_eqN {off : Int} {tgt x : Nat} (hd : decode M.2.1 pc = .ok (.ifCond .eq off, 3)) (ht : (pc : Int) + off = (tgt : Int)) (hx : x < 2 ^ 31) (kt : x = 0 → ev_J G C w M K (tgt, L, st, h, c, z)) (kf : 0 < x → ev_J G C w M K (pc + 3, L, st, h, c, z)) : ev_J G C w M K (pc, L, .int (nI x) :: st, h, c, z) := ev_if_eq hd ht (fun q => kt ((nI_eq hx (show 0 < 2 ^ 31 by decide)).mp (q.trans nI_0.symm))) (fun q => kf (Nat.pos_of_ne_zero (fun e => q (by rw [e]; exact nI_0))))
theorem ev_if_neN {off : Int} {tgt x : Nat} (hd : decode M.2.1 pc = .ok (.ifCond .ne off, 3)) (ht : (pc : Int) + off = (tgt : Int)) (hx : x < 2 ^ 31) (kt : 0 < x → ev_J G C w M K (tgt, L, st, h, c, z)) (kf : x = 0 → ev_J G C w M K (pc + 3, L, st, h, c, z)) : ev_J G C w M K (pc, L, .int (nI x) :: st, h, c, z) := ev_if_ne hd ht (fun q => kt (Nat.pos_of_ne_zero (fun e => q (by rw [e]; exact nI_0)))) (fun q => kf ((nI_eq hx (show 0 < 2 ^ 31 by decide)).mp (q.trans nI_0.symm)))
theorem ev_if_leN {off : Int} {tgt x : Nat} (hd : decode M.2.1 pc = .ok (.ifCond .le off, 3)) (ht : (pc : Int) + off = (tgt : Int)) (hx : x < 2 ^ 31) (kt : x = 0 → ev_J G C w M K (tgt, L, st, h, c, z)) (kf : 0 < x → ev_J G C w M K (pc + 3, L, st, h, c, z)) : ev_J G C w M K (pc, L, .int (nI x) :: st, h, c, z) := ev_if_le hd ht (fun q => kt (Nat.eq_zero_of_not_pos (fun e => nI_nle e hx q))) (fun q => kf (Nat.pos_of_ne_zero (fun e => q (by rw [e, nI_0]; exact Int32.le_refl 0))))
theorem ev_if_gtN {off : Int} {tgt x : Nat} (hd : decode M.2.1 pc = .ok (.ifCond .gt off, 3)) (ht : (pc : Int) + off = (tgt : Int)) (hx : x < 2 ^ 31) (kt : 0 < x → ev_J G C w M K (tgt, L, st, h, c, z)) (kf : x = 0 → ev_J G C w M K (pc + 3, L, st, h, c, z)) : ev_J G C w M K (pc, L, .int (nI x) :: st, h, c, z) := ev_if_gt hd ht (fun q => kt (Nat.pos_of_ne_zero (fun e => by rw [e, nI_0] at q; exact Int32.lt_irrefl q))) (fun q => kf (Nat.eq_zero_of_not_pos (fun e => q (by rw [← nI_0]; exact nI_lt e hx))))
theorem ev_if_ltN {off : Int} {tgt x : Nat} (hd : decode M.2.1 pc = .ok (.ifCond .lt off, 3)) (ht : (pc : Int) + off = (tgt : Int)) (hx : x < 2 ^ 31) (kf : ev_J G C w M K (pc + 3, L, st, h, c, z)) : ev_J G C w M K (pc, L, .int (nI x) :: st, h, c, z) := ev_if_lt hd ht (fun q => absurd q (nI_pos hx)) (fun _ => kf)
theorem ev_if_geN {off : Int} {tgt x : Nat} (hd : decode M.2.1 pc = .ok (.ifCond .ge off, 3)) (ht : (pc : Int) + off = (tgt : Int)) (hx : x < 2 ^ 31) (kt : ev_J G C w M K (tgt, L, st, h, c, z)) : ev_J G C w M K (pc, L, .int (nI x) :: st, h, c, z) := ev_if_ge hd ht (fun _ => kt) (fun q => absurd (nI_pos' hx) q)
/-- a Whole's own digits, read and written -/
theorem wh_ld {q d n i : Nat} {g : Nat → Nat} (hd : decode M.2.1 pc = .ok (.iaload, 1)) (hqd : q ≠ d) (hi : i < 72) (k : ev_J G C w M K (pc + 1, L, .int (nI (g i)) :: st, wh_p h q d n g, c, z)) : ev_J G C w M K (pc, L, .int (nI i) :: .ref d :: st, wh_p h q d n g, c, z) := ev_iaN hd (wh_d hqd) hi (by decide) k
theorem wh_sd {q d n i x : Nat} {g : Nat → Nat} (hd : decode M.2.1 pc = .ok (.iastore, 1)) (hqd : q ≠ d) (hi : i < 72) (k : ev_J G C w M K (pc + 1, L, st, wh_p h q d n (va_up g i x), c, z)) : ev_J G C w M K (pc, L, .int (nI x) :: .int (nI i) :: .ref d :: st, wh_p h q d n g, c, z) := ev_iast hd (wh_d hqd) (vp_in_nI hi (by decide)) (ev_th (wh_st hqd (by omega)) k)
end EVN
end
section
/-! Whole: clear, trim and the questions -/
section WH1
variable {G : ev_G} {C : ev_L} {w : Nat} {K : ev_K} {h : ev_H} {q d n c z : Nat} {g : Nat → Nat}
theorem l_clear (hqd : q ≠ d) (hn : n ≤ 72) (hK : K (.inl none) (wh_p h q d 0 (mb_cl g n))) : ∀ (k i : Nat), i + k = n → ev_J G C w m_X7_clear K (2, ev_lf [(0, .ref q), (1, .int (nI i))], [], wh_p h q d n (mb_cl g i), c, z)
  | 0, i, e => by
    refine ev_iload_n (pc := 2) dX7_clear_2 rfl ?_
    refine ev_aload_n (pc := 3) dX7_clear_3 rfl ?_
    refine ev_getf (pc := 4) dX7_clear_4 f_X7_22 wh_q rfl ?_
    refine ev_icmp_ge (pc := 7) (tgt := 23) dX7_clear_7 (by decide) (fun c1 => ?_) (fun c1 => ?_)
    · refine ev_aload_n (pc := 23) dX7_clear_23 rfl ?_
      refine ev_iconst (pc := 24) (v := nI 0) dX7_clear_24 (by decide) ?_
      refine ev_putf (pc := 25) dX7_clear_25 p_X7_22 wh_q rfl rfl rfl ?_
      refine ev_th wh_sz ?_
      have e2 : i = n := by omega
      subst e2
      exact ev_vret (pc := 28) dX7_clear_28 rfl hK
    · exact absurd (nI_le (by omega) (by omega)) c1
  | k + 1, i, e => by
    refine ev_iload_n (pc := 2) dX7_clear_2 rfl ?_
    refine ev_aload_n (pc := 3) dX7_clear_3 rfl ?_
    refine ev_getf (pc := 4) dX7_clear_4 f_X7_22 wh_q rfl ?_
    refine ev_icmp_ge (pc := 7) (tgt := 23) dX7_clear_7 (by decide) (fun c1 => ?_) (fun c1 => ?_)
    · exact absurd c1 (nI_ge (by omega) (by omega))
    · refine ev_aload_n (pc := 10) dX7_clear_10 rfl ?_
      refine ev_getf (pc := 11) dX7_clear_11 f_X7_9 wh_q rfl ?_
      refine ev_iload_n (pc := 14) dX7_clear_14 rfl ?_
      refine ev_iconst (pc := 15) (v := nI 0) dX7_clear_15 (by decide) ?_
      refine ev_iast (pc := 16) dX7_clear_16 (wh_d hqd) (vp_in_nI (by omega) (by omega)) ?_
      refine ev_th ((wh_st hqd (by omega)).trans (by rw [mb_cls])) ?_
      refine ev_iinc (pc := 17) dX7_clear_17 rfl rfl ?_
      refine ev_goto (pc := 20) (tgt := 2) dX7_clear_20 (by decide) ?_
      refine ev_vs [(0, .ref q), (1, .int (nI (i + 1)))] ⟨rfl, ev_s1e (ev_p1 i), trivial⟩ ?_
      exact l_clear hqd hn hK k (i + 1) (by omega)
theorem k_clear {dd : Nat} (hd : 1 ≤ dd) (hqd : q ≠ d) (hn : n ≤ 72) : ev_Ca G dd w m_X7_clear [.ref q] (wh_p h q d n g) 0 0 (ev_ok (fun r h1 => r = none ∧ h1 = wh_p h q d 0 (mb_cl g n))) := by
  obtain ⟨dd, rfl⟩ : ∃ e, dd = e + 1 := ⟨dd - 1, by omega⟩
  refine ⟨by decide +kernel, rfl, ?_⟩
  refine ev_iconst (pc := 0) (v := nI 0) dX7_clear_0 (by decide) ?_
  refine ev_istore_n (pc := 1) dX7_clear_1 rfl ?_
  refine ev_vs [(0, .ref q), (1, .int (nI 0))] ⟨rfl, rfl, trivial⟩ ?_
  refine ev_th (congrArg (wh_p h q d n) (mb_cl0 g).symm) ?_
  exact l_clear hqd hn ⟨rfl, rfl⟩ n 0 (by omega)
theorem l_trim (hqd : q ≠ d) (hg : ∀ j, g j < 1073741824) : ∀ (k : Nat), k ≤ 72 → K (.inl none) (wh_p h q d (mb_tr g k) g) → ev_J G C w m_X7_trim K (16, ev_lf [(0, .ref q)], [], wh_p h q d k g, c, z)
  | 0, _, hK => by
    refine ev_aload_n (pc := 16) dX7_trim_16 rfl ?_
    refine ev_getf (pc := 17) dX7_trim_17 f_X7_22 wh_q rfl ?_
    refine ev_if_le (pc := 20) (tgt := 50) dX7_trim_20 (by decide) (fun c1 => ?_) (fun c1 => ?_)
    · exact ev_vret (pc := 50) dX7_trim_50 rfl hK
    · exact absurd (by rw [nI_0]; exact Int32.le_refl 0) c1
  | k + 1, hk, hK => by
    refine ev_aload_n (pc := 16) dX7_trim_16 rfl ?_
    refine ev_getf (pc := 17) dX7_trim_17 f_X7_22 wh_q rfl ?_
    refine ev_if_le (pc := 20) (tgt := 50) dX7_trim_20 (by decide) (fun c1 => ?_) (fun c1 => ?_)
    · exact absurd c1 (nI_nle (by omega) (by omega))
    · refine ev_aload_n (pc := 23) dX7_trim_23 rfl ?_
      refine ev_getf (pc := 24) dX7_trim_24 f_X7_9 wh_q rfl ?_
      refine ev_aload_n (pc := 27) dX7_trim_27 rfl ?_
      refine ev_getf (pc := 28) dX7_trim_28 f_X7_22 wh_q rfl ?_
      refine ev_iconst (pc := 31) (v := nI 1) dX7_trim_31 (by decide) ?_
      refine ev_isub (pc := 32) dX7_trim_32 ?_
      refine ev_ti (nI_pred k) ?_
      refine ev_iald (pc := 33) dX7_trim_33 (wh_d hqd) (vp_in_nI (by omega) (by omega)) ?_
      refine ev_ti (y := nI (g k)) (by rw [nI_clamp (by omega)]) ?_
      refine ev_if_ne (pc := 34) (tgt := 50) dX7_trim_34 (by decide) (fun c2 => ?_) (fun c2 => ?_)
      · have e : mb_tr g (k + 1) = k + 1 := if_neg (fun q => c2 (by rw [q]; exact nI_0))
        rw [e] at hK
        exact ev_vret (pc := 50) dX7_trim_50 rfl hK
      · have h0 : g k = 0 := by
          have h1 := hg k
          rcases Nat.eq_zero_or_pos (g k) with q | q
          · exact q
          · exact absurd c2 (nI_ne0 q (by omega))
        have e : mb_tr g (k + 1) = mb_tr g k := if_pos h0
        rw [e] at hK
        refine ev_aload_n (pc := 37) dX7_trim_37 rfl ?_
        refine ev_dup (pc := 38) dX7_trim_38 rfl ?_
        refine ev_getf (pc := 39) dX7_trim_39 f_X7_22 wh_q rfl ?_
        refine ev_iconst (pc := 42) (v := nI 1) dX7_trim_42 (by decide) ?_
        refine ev_isub (pc := 43) dX7_trim_43 ?_
        refine ev_ti (nI_pred k) ?_
        refine ev_putf (pc := 44) dX7_trim_44 p_X7_22 wh_q rfl rfl rfl ?_
        refine ev_th wh_sz ?_
        refine ev_goto (pc := 47) (tgt := 16) dX7_trim_47 (by decide) ?_
        refine ev_vs [(0, .ref q)] ⟨rfl, trivial⟩ ?_
        exact l_trim hqd hg k (by omega) hK
theorem k_trim {dd m : Nat} (hd : 1 ≤ dd) (hqd : q ≠ d) (hg : ∀ j, g j < 1073741824) (hm : m < 2 ^ 31) : ev_Ca G dd w m_X7_trim [.ref q, .int (nI m)] (wh_p h q d n g) 0 0 (ev_ok (fun r h1 => r = none ∧ h1 = wh_p h q d (mb_tr g (min m 72)) g)) := by
  obtain ⟨dd, rfl⟩ : ∃ e, dd = e + 1 := ⟨dd - 1, by omega⟩
  refine ⟨by decide +kernel, rfl, ?_⟩
  refine ev_aload_n (pc := 0) dX7_trim_0 rfl ?_
  refine ev_iload_n (pc := 1) dX7_trim_1 rfl ?_
  refine ev_bipush (pc := 2) (v := nI 72) dX7_trim_2 (by decide) ?_
  refine ev_icmp_ge (pc := 4) (tgt := 11) dX7_trim_4 (by decide) (fun c1 => ?_) (fun c1 => ?_)
  · refine ev_bipush (pc := 11) (v := nI 72) dX7_trim_11 (by decide) ?_
    refine ev_putf (pc := 13) dX7_trim_13 p_X7_22 wh_q rfl rfl rfl ?_
    refine ev_th wh_sz ?_
    refine ev_vs [(0, .ref q)] ⟨rfl, trivial⟩ ?_
    have h1 : 72 ≤ m := (nI_leI (by omega) (by omega)).mp c1
    refine l_trim hqd hg 72 (by omega) ?_
    rw [Nat.min_eq_right h1]
    exact ⟨rfl, rfl⟩
  · refine ev_iload_n (pc := 7) dX7_trim_7 rfl ?_
    refine ev_goto (pc := 8) (tgt := 13) dX7_trim_8 (by decide) ?_
    refine ev_putf (pc := 13) dX7_trim_13 p_X7_22 wh_q rfl rfl rfl ?_
    refine ev_th wh_sz ?_
    refine ev_vs [(0, .ref q)] ⟨rfl, trivial⟩ ?_
    have h1 : ¬ 72 ≤ m := fun q => c1 ((nI_leI (by omega) (by omega)).mpr q)
    refine l_trim hqd hg m (by omega) ?_
    rw [Nat.min_eq_left (by omega)]
    exact ⟨rfl, rfl⟩
theorem k_isZero {dd : Nat} (hd : 1 ≤ dd) (hn : n ≤ 72) : ev_Ca G dd w m_X7_isZero [.ref q] (wh_p h q d n g) 0 0 (ev_ok (fun r h1 => r = some (.int (if n = 0 then 1 else 0)) ∧ h1 = wh_p h q d n g)) := by
  obtain ⟨dd, rfl⟩ : ∃ e, dd = e + 1 := ⟨dd - 1, by omega⟩
  refine ⟨by decide +kernel, rfl, ?_⟩
  refine ev_aload_n (pc := 0) dX7_isZero_0 rfl ?_
  refine ev_getf (pc := 1) dX7_isZero_1 f_X7_22 wh_q rfl ?_
  refine ev_if_ne (pc := 4) (tgt := 11) dX7_isZero_4 (by decide) (fun c1 => ?_) (fun c1 => ?_)
  · refine ev_iconst (pc := 11) (v := nI 0) dX7_isZero_11 (by decide) ?_
    exact ev_iret (pc := 12) dX7_isZero_12 rfl rfl ⟨by rw [if_neg (fun q => c1 (by rw [q]; exact nI_0))]; rfl, rfl⟩
  · have h0 : n = 0 := by
      rcases Nat.eq_zero_or_pos n with q | q
      · exact q
      · exact absurd c1 (nI_ne0 q (by omega))
    refine ev_iconst (pc := 7) (v := nI 1) dX7_isZero_7 (by decide) ?_
    refine ev_goto (pc := 8) (tgt := 12) dX7_isZero_8 (by decide) ?_
    exact ev_iret (pc := 12) dX7_isZero_12 rfl rfl ⟨by rw [if_pos h0]; rfl, rfl⟩
end WH1
end
section
/-! Whole: isOne, isShort, asLong, copy, compareWith, add -/
/-- another Whole beside the one that is written -/
def wh_a (h : ev_H) (q d q2 d2 n2 : Nat) (g2 : Nat → Nat) : Prop := q2 ≠ q ∧ q2 ≠ d ∧ d2 ≠ q ∧ d2 ≠ d ∧ h q2 = some (.inr (5, [.ref d2, .int (nI n2)])) ∧ h d2 = some (.inl (.int, 72, .inl (fun j => nI (g2 j))))
theorem wh_aq {h : ev_H} {q d n q2 d2 n2 : Nat} {g g2 : Nat → Nat} (a : wh_a h q d q2 d2 n2 g2) : wh_p h q d n g q2 = some (.inr (5, [.ref d2, .int (nI n2)])) := (wh_n a.1 a.2.1).trans a.2.2.2.2.1
theorem wh_ad {h : ev_H} {q d n q2 d2 n2 : Nat} {g g2 : Nat → Nat} (a : wh_a h q d q2 d2 n2 g2) : wh_p h q d n g d2 = some (.inl (.int, 72, .inl (fun j => nI (g2 j)))) := (wh_n a.2.2.1 a.2.2.2.1).trans a.2.2.2.2.2
theorem wh_cp {h : ev_H} {q d n m : Nat} {g f : Nat → Nat} (hqd : q ≠ d) (hm : m < 2 ^ 31) : ev_up (wh_p h q d n g) d (.inl (.int, 72, .inl (va_cpy (fun j => nI (f j)) (fun j => nI (g j)) (nI 0).toNatClampNeg (nI 0).toNatClampNeg (nI m).toNatClampNeg))) = wh_p h q d n (va_cpy f g 0 0 m) := by
  rw [nI_clamp (show 0 < 2 ^ 31 by omega), nI_clamp hm]
  rw [show va_cpy (fun j => nI (f j)) (fun j => nI (g j)) 0 0 m = fun j => nI (va_cpy f g 0 0 m j) by
    funext j; unfold va_cpy; split <;> rfl]
  funext a
  unfold wh_p ev_up
  by_cases e : a = d
  · simp only [if_pos e, if_neg (show ¬ a = q by rw [e]; exact Ne.symm hqd)]
  · by_cases e2 : a = q
    · simp only [if_neg e, if_pos e2]
    · simp only [if_neg e, if_neg e2]
theorem mb_cpy {g f : Nat → Nat} {n m : Nat} (hg : ∀ j, n ≤ j → g j = 0) (hf : ∀ j, m ≤ j → f j = 0) : va_cpy f g 0 0 (max n m) = f := by
  funext j
  unfold va_cpy
  by_cases e : 0 ≤ j ∧ j < 0 + max n m
  · rw [if_pos e]; congr 1; omega
  · rw [if_neg e, hg j (by omega), hf j (by omega)]
section WH2
variable {G : ev_G} {C : ev_L} {w : Nat} {K : ev_K} {h : ev_H} {q d n c z q2 d2 n2 : Nat} {g g2 : Nat → Nat}
theorem k_isOne {dd : Nat} (hd : 1 ≤ dd) (hqd : q ≠ d) (hn : n ≤ 72) (hg : ∀ j, g j < 1073741824) : ev_Ca G dd w m_X7_isOne [.ref q] (wh_p h q d n g) 0 0 (ev_ok (fun r h1 => r = some (.int (if n = 1 ∧ g 0 = 1 then 1 else 0)) ∧ h1 = wh_p h q d n g)) := by
  obtain ⟨dd, rfl⟩ : ∃ e, dd = e + 1 := ⟨dd - 1, by omega⟩
  refine ⟨by decide +kernel, rfl, ?_⟩
  refine ev_aload_n (pc := 0) dX7_isOne_0 rfl ?_
  refine ev_getf (pc := 1) dX7_isOne_1 f_X7_22 wh_q rfl ?_
  refine ev_iconst (pc := 4) (v := nI 1) dX7_isOne_4 (by decide) ?_
  refine ev_icmp_ne (pc := 5) (tgt := 22) dX7_isOne_5 (by decide) (fun c1 => ?_) (fun c1 => ?_)
  · refine ev_iconst (pc := 22) (v := nI 0) dX7_isOne_22 (by decide) ?_
    exact ev_iret (pc := 23) dX7_isOne_23 rfl rfl ⟨by rw [if_neg (fun e => c1 (by rw [e.1]))]; rfl, rfl⟩
  · have e1 : n = 1 := (nI_eq (by omega) (by omega)).mp c1
    refine ev_aload_n (pc := 8) dX7_isOne_8 rfl ?_
    refine ev_getf (pc := 9) dX7_isOne_9 f_X7_9 wh_q rfl ?_
    refine ev_iconst (pc := 12) (v := nI 0) dX7_isOne_12 (by decide) ?_
    refine ev_iald (pc := 13) dX7_isOne_13 (wh_d hqd) (vp_in_nI (by omega) (by omega)) ?_
    refine ev_ti (y := nI (g 0)) (by rw [nI_clamp (by omega)]) ?_
    refine ev_iconst (pc := 14) (v := nI 1) dX7_isOne_14 (by decide) ?_
    have h0 := hg 0
    refine ev_icmp_ne (pc := 15) (tgt := 22) dX7_isOne_15 (by decide) (fun c2 => ?_) (fun c2 => ?_)
    · refine ev_iconst (pc := 22) (v := nI 0) dX7_isOne_22 (by decide) ?_
      exact ev_iret (pc := 23) dX7_isOne_23 rfl rfl ⟨by rw [if_neg (fun e => c2 (by rw [e.2]))]; rfl, rfl⟩
    · have e2 : g 0 = 1 := (nI_eq (by omega) (by omega)).mp c2
      refine ev_iconst (pc := 18) (v := nI 1) dX7_isOne_18 (by decide) ?_
      refine ev_goto (pc := 19) (tgt := 23) dX7_isOne_19 (by decide) ?_
      exact ev_iret (pc := 23) dX7_isOne_23 rfl rfl ⟨by rw [if_pos ⟨e1, e2⟩]; rfl, rfl⟩
theorem k_isShort {dd : Nat} (hd : 1 ≤ dd) (hn : n ≤ 72) : ev_Ca G dd w m_X7_isShort [.ref q] (wh_p h q d n g) 0 0 (ev_ok (fun r h1 => r = some (.int (if n ≤ 2 then 1 else 0)) ∧ h1 = wh_p h q d n g)) := by
  obtain ⟨dd, rfl⟩ : ∃ e, dd = e + 1 := ⟨dd - 1, by omega⟩
  refine ⟨by decide +kernel, rfl, ?_⟩
  refine ev_aload_n (pc := 0) dX7_isShort_0 rfl ?_
  refine ev_getf (pc := 1) dX7_isShort_1 f_X7_22 wh_q rfl ?_
  refine ev_iconst (pc := 4) (v := nI 2) dX7_isShort_4 (by decide) ?_
  refine ev_icmp_gt (pc := 5) (tgt := 12) dX7_isShort_5 (by decide) (fun c1 => ?_) (fun c1 => ?_)
  · refine ev_iconst (pc := 12) (v := nI 0) dX7_isShort_12 (by decide) ?_
    have e1 : 2 < n := (nI_ltI (by omega) (by omega)).mp c1
    exact ev_iret (pc := 13) dX7_isShort_13 rfl rfl ⟨by rw [if_neg (by omega)]; rfl, rfl⟩
  · have e1 : ¬ 2 < n := fun e => c1 ((nI_ltI (by omega) (by omega)).mpr e)
    refine ev_iconst (pc := 8) (v := nI 1) dX7_isShort_8 (by decide) ?_
    refine ev_goto (pc := 9) (tgt := 13) dX7_isShort_9 (by decide) ?_
    exact ev_iret (pc := 13) dX7_isShort_13 rfl rfl ⟨by rw [if_pos (by omega)]; rfl, rfl⟩
theorem k_asLong {dd : Nat} (hd : 1 ≤ dd) (hqd : q ≠ d) (hg : ∀ j, g j < 1073741824) : ev_Ca G dd w m_X7_asLong [.ref q] (wh_p h q d n g) 0 0 (ev_ok (fun r h1 => r = some (.long (lN (g 1 * 1073741824 + g 0))) ∧ h1 = wh_p h q d n g)) := by
  obtain ⟨dd, rfl⟩ : ∃ e, dd = e + 1 := ⟨dd - 1, by omega⟩
  refine ⟨by decide +kernel, rfl, ?_⟩
  have h0 := hg 0
  have h1 := hg 1
  refine ev_aload_n (pc := 0) dX7_asLong_0 rfl ?_
  refine ev_getf (pc := 1) dX7_asLong_1 f_X7_9 wh_q rfl ?_
  refine ev_iconst (pc := 4) (v := nI 1) dX7_asLong_4 (by decide) ?_
  refine ev_iald (pc := 5) dX7_asLong_5 (wh_d hqd) (vp_in_nI (by omega) (by omega)) ?_
  refine ev_ti (y := nI (g 1)) (by rw [nI_clamp (by omega)]) ?_
  refine ev_i2l (pc := 6) dX7_asLong_6 ?_
  refine ev_tl (nI_l (by omega)) ?_
  refine ev_bipush (pc := 7) (v := nI 30) dX7_asLong_7 (by decide) ?_
  refine ev_lshl (pc := 9) dX7_asLong_9 ?_
  refine ev_tl (ml_shl _) ?_
  refine ev_aload_n (pc := 10) dX7_asLong_10 rfl ?_
  refine ev_getf (pc := 11) dX7_asLong_11 f_X7_9 wh_q rfl ?_
  refine ev_iconst (pc := 14) (v := nI 0) dX7_asLong_14 (by decide) ?_
  refine ev_iald (pc := 15) dX7_asLong_15 (wh_d hqd) (vp_in_nI (by omega) (by omega)) ?_
  refine ev_ti (y := nI (g 0)) (by rw [nI_clamp (by omega)]) ?_
  refine ev_i2l (pc := 16) dX7_asLong_16 ?_
  refine ev_tl (nI_l (by omega)) ?_
  refine ev_lor (pc := 17) dX7_asLong_17 ?_
  refine ev_tl (ml_or h0 (by omega)) ?_
  exact ev_lret (pc := 18) dX7_asLong_18 rfl ⟨rfl, rfl⟩
theorem k_copy {dd : Nat} (hd : 1 ≤ dd) (hw : 26 ≤ w) (hqd : q ≠ d) (hn : n ≤ 72) (hn2 : n2 ≤ 72) (a : wh_a h q d q2 d2 n2 g2) (hz : ∀ j, n ≤ j → g j = 0) (hz2 : ∀ j, n2 ≤ j → g2 j = 0) : ev_Ca G dd w m_X7_copy [.ref q, .ref q2] (wh_p h q d n g) 0 0 (ev_ok (fun r h1 => r = none ∧ h1 = wh_p h q d n2 g2)) := by
  obtain ⟨dd, rfl⟩ : ∃ e, dd = e + 1 := ⟨dd - 1, by omega⟩
  refine ⟨by decide +kernel, rfl, ?_⟩
  refine ev_aload_n (pc := 0) dX7_copy_0 rfl ?_
  refine ev_getf (pc := 1) dX7_copy_1 f_X7_9 (wh_aq a) rfl ?_
  refine ev_iconst (pc := 4) (v := nI 0) dX7_copy_4 (by decide) ?_
  refine ev_aload_n (pc := 5) dX7_copy_5 rfl ?_
  refine ev_getf (pc := 6) dX7_copy_6 f_X7_9 wh_q rfl ?_
  refine ev_iconst (pc := 9) (v := nI 0) dX7_copy_9 (by decide) ?_
  refine ev_aload_n (pc := 10) dX7_copy_10 rfl ?_
  refine ev_getf (pc := 11) dX7_copy_11 f_X7_22 wh_q rfl ?_
  refine ev_aload_n (pc := 14) dX7_copy_14 rfl ?_
  refine ev_getf (pc := 15) dX7_copy_15 f_X7_22 (wh_aq a) rfl ?_
  refine ev_mmax (pc := 18) dX7_copy_18 mx_X7_26 rfl (by omega) ?_
  refine ev_ti (mi_max (by omega) (by omega)) ?_
  refine ev_copyi (pc := 21) dX7_copy_21 ac_X7_32 rfl (by omega) (wh_ad a) (wh_d hqd) (nI_pos (by omega)) (nI_pos (by omega)) (nI_pos (by omega)) (by rw [nI_clamp (by omega), nI_clamp (by omega)]; omega) (by rw [nI_clamp (by omega), nI_clamp (by omega)]; omega) ?_
  refine ev_th ((wh_cp hqd (by omega)).trans (by rw [mb_cpy hz hz2])) ?_
  refine ev_aload_n (pc := 24) dX7_copy_24 rfl ?_
  refine ev_aload_n (pc := 25) dX7_copy_25 rfl ?_
  refine ev_getf (pc := 26) dX7_copy_26 f_X7_22 (wh_aq a) rfl ?_
  refine ev_putf (pc := 29) dX7_copy_29 p_X7_22 wh_q rfl rfl rfl ?_
  refine ev_th wh_sz ?_
  exact ev_vret (pc := 32) dX7_copy_32 rfl ⟨rfl, rfl⟩
theorem k_cmp {dd a b : Nat} (hd : 1 ≤ dd) (ha : a < 2 ^ 31) (hb : b < 2 ^ 31) : ev_Ca G dd w m_J6_compare_7cf53 [.int (nI a), .int (nI b)] h 0 0 (ev_ok (fun r h1 => r = some (.int (mi_cmp a b)) ∧ h1 = h)) := by
  obtain ⟨dd, rfl⟩ : ∃ e, dd = e + 1 := ⟨dd - 1, by omega⟩
  refine ⟨by decide +kernel, rfl, ?_⟩
  refine ev_iload_n (pc := 0) dJ6_compare_7cf53_0 rfl ?_
  refine ev_iload_n (pc := 1) dJ6_compare_7cf53_1 rfl ?_
  refine ev_icmp_ge (pc := 2) (tgt := 9) dJ6_compare_7cf53_2 (by decide) (fun c1 => ?_) (fun c1 => ?_)
  · have e1 : b ≤ a := (nI_leI hb ha).mp c1
    refine ev_iload_n (pc := 9) dJ6_compare_7cf53_9 rfl ?_
    refine ev_iload_n (pc := 10) dJ6_compare_7cf53_10 rfl ?_
    refine ev_icmp_ne (pc := 11) (tgt := 18) dJ6_compare_7cf53_11 (by decide) (fun c2 => ?_) (fun c2 => ?_)
    · have e2 : ¬ a = b := fun e => c2 (by rw [e])
      refine ev_iconst (pc := 18) (v := nI 1) dJ6_compare_7cf53_18 (by decide) ?_
      exact ev_iret (pc := 19) dJ6_compare_7cf53_19 rfl rfl ⟨by unfold mi_cmp; rw [if_neg (by omega), if_neg e2]; rfl, rfl⟩
    · have e2 : a = b := (nI_eq ha hb).mp c2
      refine ev_iconst (pc := 14) (v := nI 0) dJ6_compare_7cf53_14 (by decide) ?_
      refine ev_goto (pc := 15) (tgt := 19) dJ6_compare_7cf53_15 (by decide) ?_
      exact ev_iret (pc := 19) dJ6_compare_7cf53_19 rfl rfl ⟨by unfold mi_cmp; rw [if_neg (by omega), if_pos e2]; rfl, rfl⟩
  · have e1 : ¬ b ≤ a := fun e => c1 ((nI_leI hb ha).mpr e)
    refine ev_iconst (pc := 5) (v := -1) dJ6_compare_7cf53_5 (by decide) ?_
    refine ev_goto (pc := 6) (tgt := 19) dJ6_compare_7cf53_6 (by decide) ?_
    exact ev_iret (pc := 19) dJ6_compare_7cf53_19 rfl rfl ⟨by unfold mi_cmp; rw [if_pos (by omega)], rfl⟩
theorem l_compareWith {dd : Nat} (hd : 1 ≤ dd) (hw : 23 ≤ w) (hqd : q ≠ d) (a : wh_a h q d q2 d2 n2 g2) (hg : ∀ j, g j < 1073741824) (hg2 : ∀ j, g2 j < 1073741824) {m : Nat} (hm : m ≤ 72) (hK : K (.inl (some (.int (mi_cmp (mb_v g m) (mb_v g2 m))))) (wh_p h q d n g)) : ∀ k, k ≤ m → (∀ j, k ≤ j → j < m → g j = g2 j) → ev_J G (fun N a2 h2 c2 z2 K2 => 19 + N.2.2.1 ≤ w ∧ ev_Ca G dd (w - (19 + N.2.2.1)) N a2 h2 c2 z2 K2) w m_X7_compareWith K (14, ev_lf [(0, .ref q), (1, .ref q2), (2, .int (nI k - nI 1))], [], wh_p h q d n g, c, z)
  | 0, _, he => by
    refine ev_iload_n (pc := 14) dX7_compareWith_14 rfl ?_
    refine ev_if_lt (pc := 15) (tgt := 55) dX7_compareWith_15 (by decide) (fun c1 => ?_) (fun c1 => ?_)
    · refine ev_iconst (pc := 55) (v := nI 0) dX7_compareWith_55 (by decide) ?_
      have e : mb_v g m = mb_v g2 m := mb_congr (fun j hj => he j (by omega) hj)
      have e2 : mi_cmp (mb_v g m) (mb_v g2 m) = nI 0 := by unfold mi_cmp; rw [if_neg (by omega), if_pos e]; rfl
      rw [e2] at hK
      exact ev_iret (pc := 56) dX7_compareWith_56 rfl rfl hK
    · exact absurd (by decide) c1
  | k + 1, hk, he => by
    have h1 := hg k
    have h2 := hg2 k
    refine ev_iload_n (pc := 14) dX7_compareWith_14 rfl ?_
    refine ev_ti (nI_pred k) ?_
    refine ev_if_lt (pc := 15) (tgt := 55) dX7_compareWith_15 (by decide) (fun c1 => ?_) (fun c1 => ?_)
    · exact absurd c1 (nI_pos (by omega))
    · refine ev_vs [(0, .ref q), (1, .ref q2), (2, .int (nI k))] ⟨rfl, rfl, ev_s1e (nI_pred k), trivial⟩ ?_
      refine ev_aload_n (pc := 18) dX7_compareWith_18 rfl ?_
      refine ev_getf (pc := 19) dX7_compareWith_19 f_X7_9 wh_q rfl ?_
      refine ev_iload_n (pc := 22) dX7_compareWith_22 rfl ?_
      refine ev_iald (pc := 23) dX7_compareWith_23 (wh_d hqd) (vp_in_nI (by omega) (by omega)) ?_
      refine ev_ti (y := nI (g k)) (by rw [nI_clamp (by omega)]) ?_
      refine ev_aload_n (pc := 24) dX7_compareWith_24 rfl ?_
      refine ev_getf (pc := 25) dX7_compareWith_25 f_X7_9 (wh_aq a) rfl ?_
      refine ev_iload_n (pc := 28) dX7_compareWith_28 rfl ?_
      refine ev_iald (pc := 29) dX7_compareWith_29 (wh_ad a) (vp_in_nI (by omega) (by omega)) ?_
      refine ev_ti (y := nI (g2 k)) (by rw [nI_clamp (by omega)]) ?_
      refine ev_icmp_eq (pc := 30) (tgt := 49) dX7_compareWith_30 (by decide) (fun c2 => ?_) (fun c2 => ?_)
      · have e : g k = g2 k := (nI_eq (by omega) (by omega)).mp c2
        refine ev_iinc (pc := 49) dX7_compareWith_49 rfl rfl ?_
        refine ev_goto (pc := 52) (tgt := 14) dX7_compareWith_52 (by decide) ?_
        refine ev_vs [(0, .ref q), (1, .ref q2), (2, .int (nI k - nI 1))] ⟨rfl, rfl, ev_s1e (mi_m1 k), trivial⟩ ?_
        refine l_compareWith hd hw hqd a hg hg2 hm hK k (by omega) (fun j h1 h2 => ?_)
        rcases Nat.lt_or_ge k j with q | q
        · exact he j (by omega) h2
        · rw [show j = k by omega]; exact e
      · have e : g k ≠ g2 k := fun e => c2 (by rw [e])
        refine ev_aload_n (pc := 33) dX7_compareWith_33 rfl ?_
        refine ev_getf (pc := 34) dX7_compareWith_34 f_X7_9 wh_q rfl ?_
        refine ev_iload_n (pc := 37) dX7_compareWith_37 rfl ?_
        refine ev_iald (pc := 38) dX7_compareWith_38 (wh_d hqd) (vp_in_nI (by omega) (by omega)) ?_
        refine ev_ti (y := nI (g k)) (by rw [nI_clamp (by omega)]) ?_
        refine ev_aload_n (pc := 39) dX7_compareWith_39 rfl ?_
        refine ev_getf (pc := 40) dX7_compareWith_40 f_X7_9 (wh_aq a) rfl ?_
        refine ev_iload_n (pc := 43) dX7_compareWith_43 rfl ?_
        refine ev_iald (pc := 44) dX7_compareWith_44 (wh_ad a) (vp_in_nI (by omega) (by omega)) ?_
        refine ev_ti (y := nI (g2 k)) (by rw [nI_clamp (by omega)]) ?_
        refine ev_callS (pc := 45) (As := [.int (nI (g k)), .int (nI (g2 k))]) dX7_compareWith_45 cs_X7_42 rfl rfl ⟨by show 19 + 2 ≤ w; omega, k_cmp hd (by omega) (by omega)⟩ rfl rfl (fun r h1 hp => ?_)
        obtain ⟨rfl, rfl⟩ := hp
        have e2 : mi_cmp (mb_v g m) (mb_v g2 m) = mi_cmp (g k) (g2 k) := by
          unfold mi_cmp
          rcases Nat.lt_or_ge (g k) (g2 k) with q | q
          · rw [if_pos q, if_pos (mb_cmp (i := k) (by omega) (fun j _ => hg j) (fun j a b => he j (by omega) b) q)]
          · have q2 : g2 k < g k := by omega
            have h3 := mb_cmp (i := k) (by omega) (fun j _ => hg2 j) (fun j a b => (he j (by omega) b).symm) q2
            rw [if_neg (by omega), if_neg (by omega), if_neg (by omega), if_neg (by omega)]
        rw [e2] at hK
        exact ev_iret (pc := 48) dX7_compareWith_48 rfl rfl hK
theorem k_compareWith {dd a b : Nat} (hd : 2 ≤ dd) (hw : 23 ≤ w) (hqd : q ≠ d) (ha : wh_a h q d q2 d2 n2 g2) (h1 : mb_is g n a) (h2 : mb_is g2 n2 b) : ev_Ca G dd w m_X7_compareWith [.ref q, .ref q2] (wh_p h q d n g) 0 0 (ev_ok (fun r h1 => r = some (.int (mi_cmp a b)) ∧ h1 = wh_p h q d n g)) := by
  obtain ⟨dd, rfl⟩ : ∃ e, dd = e + 1 := ⟨dd - 1, by omega⟩
  refine ⟨by decide +kernel, rfl, ?_⟩
  have hn := h1.2.2.2.1
  have hn2 := h2.2.2.2.1
  refine ev_aload_n (pc := 0) dX7_compareWith_0 rfl ?_
  refine ev_getf (pc := 1) dX7_compareWith_1 f_X7_22 wh_q rfl ?_
  refine ev_aload_n (pc := 4) dX7_compareWith_4 rfl ?_
  refine ev_getf (pc := 5) dX7_compareWith_5 f_X7_22 (wh_aq ha) rfl ?_
  refine ev_mmax (pc := 8) dX7_compareWith_8 mx_X7_26 rfl (by omega) ?_
  refine ev_ti (mi_max (by omega) (by omega)) ?_
  refine ev_iconst (pc := 11) (v := nI 1) dX7_compareWith_11 (by decide) ?_
  refine ev_isub (pc := 12) dX7_compareWith_12 ?_
  refine ev_istore_n (pc := 13) dX7_compareWith_13 rfl ?_
  refine ev_vs [(0, .ref q), (1, .ref q2), (2, .int (nI (max n n2) - nI 1))] ⟨rfl, rfl, rfl, trivial⟩ ?_
  refine l_compareWith (m := max n n2) (by omega) hw hqd ha h1.1 h2.1 (by omega) ?_ (max n n2) (Nat.le_refl _) (fun j a b => by omega)
  rw [mb_is_at h1 (Nat.le_max_left _ _), mb_is_at h2 (Nat.le_max_right _ _)]
  exact ⟨rfl, rfl⟩
end WH2
end
section
/-! Whole: add, become, divideBySmall, shiftUp, shiftDown -/
abbrev ev_cc (G : ev_G) (dd w : Nat) : ev_L := fun N a2 h2 c2 z2 K2 => 19 + N.2.2.1 ≤ w ∧ ev_Ca G dd (w - (19 + N.2.2.1)) N a2 h2 c2 z2 K2
/-- h1 is h, with the Whole q (its digits in d) at the value v -/
def wv (h : ev_H) (q d v : Nat) (h1 : ev_H) : Prop := ∃ (g : Nat → Nat) (n : Nat), mb_is g n v ∧ h1 = wh_p h q d n g
theorem mb_upb {f : Nat → Nat} {i x : Nat} (hf : ∀ j, f j < 1073741824) (hx : x < 1073741824) : ∀ j, va_up f i x j < 1073741824 := by
  intro j
  unfold va_up
  split
  · exact hx
  · exact hf j
theorem mb_add1 {f g g2 : Nat → Nat} {i cy : Nat} (hi : f i = g i) (e : mb_v f i + cy * 1073741824 ^ i = mb_v g i + mb_v g2 i) : mb_v (va_up f i ((f i + g2 i + cy) % 1073741824)) (i + 1) + (f i + g2 i + cy) / 1073741824 * 1073741824 ^ (i + 1) = mb_v g (i + 1) + mb_v g2 (i + 1) := by
  rw [mb_vs, mb_vs, mb_vs, mb_upo (Nat.le_refl i), va_up_self, mb_pw]
  have h1 := mb_cy (f i + g2 i + cy) (1073741824 ^ i)
  have h2 : (f i + g2 i + cy) * 1073741824 ^ i = g i * 1073741824 ^ i + g2 i * 1073741824 ^ i + cy * 1073741824 ^ i := by rw [hi, Nat.add_mul, Nat.add_mul]
  omega
theorem mb_up_ge {f g : Nat → Nat} {i x : Nat} (hf : ∀ j, i ≤ j → f j = g j) : ∀ j, i + 1 ≤ j → va_up f i x j = g j := fun j hj => by rw [va_up_ne f x (by omega)]; exact hf j (by omega)
/-- no carry is left where the number has room -/
theorem mb_cy0 {a m v cy : Nat} (e : v + cy * 1073741824 ^ m = a) (h : a < 1073741824 ^ m) : cy = 0 ∧ v = a := by
  rcases Nat.eq_zero_or_pos cy with q | q
  · subst q; exact ⟨rfl, by omega⟩
  · have : 1 * 1073741824 ^ m ≤ cy * 1073741824 ^ m := Nat.mul_le_mul_right _ q
    omega
/-- a digit off the low end -/
theorem mb_lo (g : Nat → Nat) (k m : Nat) : mb_v (fun j => g (k + j)) (m + 1) = g k + 1073741824 * mb_v (fun j => g (k + 1 + j)) m := by
  have h := mb_cut (fun j => g (k + j)) 1 m
  rw [Nat.add_comm 1 m] at h
  rw [h, mb_vs, mb_v0]
  have e : (fun j => g (k + (1 + j))) = fun j => g (k + 1 + j) := by funext j; rw [Nat.add_assoc]
  rw [e]
  simp
/-- a step of a division by one number, from the top -/
theorem mb_div1 {f g : Nat → Nat} {k m D rest : Nat} (hD : 0 < D) (e : mb_v (fun j => f (k + 1 + j)) m * D + rest = mb_v (fun j => g (k + 1 + j)) m) : mb_v (fun j => va_up f k ((rest * 1073741824 + g k) / D) (k + j)) (m + 1) * D + (rest * 1073741824 + g k) % D = mb_v (fun j => g (k + j)) (m + 1) := by
  rw [mb_lo, mb_lo, va_up_self, mb_congr (g := fun j => va_up f k ((rest * 1073741824 + g k) / D) (k + 1 + j)) (h := fun j => f (k + 1 + j)) (fun j _ => va_up_ne f _ (by omega))]
  have h1 := Nat.div_add_mod (rest * 1073741824 + g k) D
  have h2 : (((rest * 1073741824 + g k) / D) + 1073741824 * mb_v (fun j => f (k + 1 + j)) m) * D = D * ((rest * 1073741824 + g k) / D) + 1073741824 * (mb_v (fun j => f (k + 1 + j)) m * D) := by
    rw [Nat.add_mul, Nat.mul_comm _ D, Nat.mul_assoc]
  omega
section WH3
variable {G : ev_G} {C : ev_L} {w : Nat} {K : ev_K} {h : ev_H} {q d n c z q2 d2 n2 : Nat} {g g2 : Nat → Nat}
theorem l_add (hqd : q ≠ d) (a : wh_a h q d q2 d2 n2 g2) (hg2 : ∀ j, g2 j < 1073741824) {m : Nat} (hm : m ≤ 72)
    (hK : ∀ f cy, (∀ j, f j < 1073741824) → (∀ j, m ≤ j → f j = g j) → mb_v f m + cy * 1073741824 ^ m = mb_v g m + mb_v g2 m → ev_J G C w m_X7_add K (73, ev_lf [(0, .ref q), (2, .int (nI m))], [], wh_p h q d n f, c, z)) :
    ∀ k i f cy, i + k = m → (∀ j, f j < 1073741824) → (∀ j, i ≤ j → f j = g j) → cy ≤ 1 → mb_v f i + cy * 1073741824 ^ i = mb_v g i + mb_v g2 i → ev_J G C w m_X7_add K (24, ev_lf [(0, .ref q), (1, .ref q2), (2, .int (nI m)), (3, .int (nI cy)), (4, .int (nI i))], [], wh_p h q d n f, c, z)
  | 0, i, f, cy, e, hf, hfg, hcy, hv => by
    refine ev_iload (pc := 24) dX7_add_24 rfl ?_
    refine ev_iload_n (pc := 26) dX7_add_26 rfl ?_
    refine ev_icmp_geN (pc := 27) (tgt := 73) dX7_add_27 (by decide) (by omega) (by omega) (fun c1 => ?_) (fun c1 => ?_)
    · have e2 : i = m := by omega
      subst e2
      refine ev_vs [(0, .ref q), (2, .int (nI i))] ⟨rfl, rfl, trivial⟩ ?_
      exact hK f cy hf hfg hv
    · omega
  | k + 1, i, f, cy, e, hf, hfg, hcy, hv => by
    have h1 := hf i
    have h2 := hg2 i
    refine ev_iload (pc := 24) dX7_add_24 rfl ?_
    refine ev_iload_n (pc := 26) dX7_add_26 rfl ?_
    refine ev_icmp_geN (pc := 27) (tgt := 73) dX7_add_27 (by decide) (by omega) (by omega) (fun c1 => ?_) (fun c1 => ?_)
    · omega
    · refine ev_aload_n (pc := 30) dX7_add_30 rfl ?_
      refine ev_getf (pc := 31) dX7_add_31 f_X7_9 wh_q rfl ?_
      refine ev_iload (pc := 34) dX7_add_34 rfl ?_
      refine wh_ld (pc := 36) dX7_add_36 hqd (by omega) ?_
      refine ev_aload_n (pc := 37) dX7_add_37 rfl ?_
      refine ev_getf (pc := 38) dX7_add_38 f_X7_9 (wh_aq a) rfl ?_
      refine ev_iload (pc := 41) dX7_add_41 rfl ?_
      refine ev_iaN (pc := 43) dX7_add_43 (wh_ad a) (by omega) (by omega) ?_
      refine ev_iaddN (pc := 44) dX7_add_44 ?_
      refine ev_iload_n (pc := 45) dX7_add_45 rfl ?_
      refine ev_iaddN (pc := 46) dX7_add_46 ?_
      refine ev_istore (pc := 47) dX7_add_47 rfl ?_
      refine ev_aload_n (pc := 49) dX7_add_49 rfl ?_
      refine ev_getf (pc := 50) dX7_add_50 f_X7_9 wh_q rfl ?_
      refine ev_iload (pc := 53) dX7_add_53 rfl ?_
      refine ev_iload (pc := 55) dX7_add_55 rfl ?_
      refine ev_ldc (pc := 57) dX7_add_57 k_X7_50 ?_
      refine ev_iandN (pc := 59) dX7_add_59 (by omega) ?_
      refine wh_sd (pc := 60) dX7_add_60 hqd (by omega) ?_
      refine ev_iload (pc := 61) dX7_add_61 rfl ?_
      refine ev_bipush (pc := 63) (v := nI 30) dX7_add_63 (by decide) ?_
      refine ev_iushrN (pc := 65) dX7_add_65 (by omega) ?_
      refine ev_istore_n (pc := 66) dX7_add_66 rfl ?_
      refine ev_iincN (pc := 67) dX7_add_67 rfl rfl ?_
      refine ev_goto (pc := 70) (tgt := 24) dX7_add_70 (by decide) ?_
      refine ev_vs [(0, .ref q), (1, .ref q2), (2, .int (nI m)), (3, .int (nI ((f i + g2 i + cy) / 1073741824))), (4, .int (nI (i + 1)))] ⟨rfl, rfl, rfl, rfl, rfl, trivial⟩ ?_
      exact l_add hqd a hg2 hm hK k (i + 1) _ _ (by omega) (mb_upb hf (Nat.mod_lt _ (by decide))) (mb_up_ge hfg) (by omega) (mb_add1 (hfg i (Nat.le_refl i)) hv)
theorem k_add {dd a b : Nat} (hd : 2 ≤ dd) (hw : 23 ≤ w) (hqd : q ≠ d) (ha : wh_a h q d q2 d2 n2 g2) (h1 : mb_is g n a) (h2 : mb_is g2 n2 b) (hab : a + b < 1073741824 ^ 72) : ev_Ca G dd w m_X7_add [.ref q, .ref q2] (wh_p h q d n g) 0 0 (ev_ok (fun r h1 => r = none ∧ wv h q d (a + b) h1)) := by
  obtain ⟨dd, rfl⟩ : ∃ e, dd = e + 1 := ⟨dd - 1, by omega⟩
  refine ⟨by decide +kernel, rfl, ?_⟩
  have hn := h1.2.2.2.1
  have hn2 := h2.2.2.2.1
  refine ev_aload_n (pc := 0) dX7_add_0 rfl ?_
  refine ev_getf (pc := 1) dX7_add_1 f_X7_22 wh_q rfl ?_
  refine ev_aload_n (pc := 4) dX7_add_4 rfl ?_
  refine ev_getf (pc := 5) dX7_add_5 f_X7_22 (wh_aq ha) rfl ?_
  refine ev_mmax (pc := 8) dX7_add_8 mx_X7_26 rfl (by omega) (ev_ti (mi_max (by omega) (by omega)) ?_)
  refine ev_iconst (pc := 11) (v := nI 1) dX7_add_11 (by decide) ?_
  refine ev_iaddN (pc := 12) dX7_add_12 ?_
  refine ev_bipush (pc := 13) (v := nI 72) dX7_add_13 (by decide) ?_
  refine ev_mmin (pc := 15) dX7_add_15 mx_X7_47 rfl (by omega) (ev_ti (mi_min (by omega) (by omega)) ?_)
  refine ev_istore_n (pc := 18) dX7_add_18 rfl ?_
  refine ev_iconst (pc := 19) (v := nI 0) dX7_add_19 (by decide) ?_
  refine ev_istore_n (pc := 20) dX7_add_20 rfl ?_
  refine ev_iconst (pc := 21) (v := nI 0) dX7_add_21 (by decide) ?_
  refine ev_istore (pc := 22) dX7_add_22 rfl ?_
  obtain ⟨m, hm⟩ : ∃ m, m = min (max n n2 + 1) 72 := ⟨_, rfl⟩
  rw [← hm]
  refine ev_vs [(0, .ref q), (1, .ref q2), (2, .int (nI m)), (3, .int (nI 0)), (4, .int (nI 0))] ⟨rfl, rfl, rfl, rfl, rfl, trivial⟩ ?_
  have e1 : mb_v g m = a := mb_is_at h1 (by omega)
  have e2 : mb_v g2 m = b := mb_is_at h2 (by omega)
  have hlt : a + b < 1073741824 ^ m := by
    rcases Nat.lt_or_ge (max n n2) 72 with x | x
    · have h3 : a < 1073741824 ^ (max n n2) := Nat.lt_of_lt_of_le (mb_is_lt h1) (Nat.pow_le_pow_right (by decide) (Nat.le_max_left _ _))
      have h4 : b < 1073741824 ^ (max n n2) := Nat.lt_of_lt_of_le (mb_is_lt h2) (Nat.pow_le_pow_right (by decide) (Nat.le_max_right _ _))
      rw [show m = max n n2 + 1 by omega, mb_pw]
      omega
    · rw [show m = 72 by omega]; exact hab
  refine l_add hqd ha h2.1 (m := m) (by omega) (fun f cy hf hfg hv => ?_) m 0 g 0 (by omega) h1.1 (fun j _ => rfl) (by omega) (by simp [mb_v0])
  rw [e1, e2] at hv
  obtain ⟨-, hv⟩ := mb_cy0 hv hlt
  refine ev_aload_n (pc := 73) dX7_add_73 rfl ?_
  refine ev_iload_n (pc := 74) dX7_add_74 rfl ?_
  refine ev_callV (pc := 75) (As := [.int (nI m)]) dX7_add_75 cv_X7_18 rfl rfl wh_q rfl ⟨by show 19 + 2 ≤ w; omega, k_trim (by omega) hqd hf (by omega)⟩ rfl rfl (fun r h1 hp => ?_)
  obtain ⟨rfl, rfl⟩ := hp
  rw [Nat.min_eq_left (show m ≤ 72 by omega)]
  exact ev_vret (pc := 78) dX7_add_78 rfl ⟨rfl, f, _, mb_tr_is hf (fun j hj => by rw [hfg j hj]; exact h1.2.1 j (by omega)) (by omega) hv, rfl⟩
theorem k_become {dd a v : Nat} (hd : 2 ≤ dd) (hw : 21 ≤ w) (hqd : q ≠ d) (h1 : mb_is g n a) (hv : v < 2 ^ 63) : ev_Ca G dd w m_X7_become [.ref q, .long (lN v)] (wh_p h q d n g) 0 0 (ev_ok (fun r h1 => r = none ∧ wv h q d v h1)) := by
  obtain ⟨dd, rfl⟩ : ∃ e, dd = e + 1 := ⟨dd - 1, by omega⟩
  refine ⟨by decide +kernel, rfl, ?_⟩
  have hn := h1.2.2.2.1
  refine ev_aload_n (pc := 0) dX7_become_0 rfl ?_
  refine ev_callV (pc := 1) (As := []) dX7_become_1 cv_X7_13 rfl rfl wh_q rfl ⟨by show 19 + 2 ≤ w; omega, k_clear (by omega) hqd hn⟩ rfl rfl (fun r h1 hp => ?_)
  obtain ⟨rfl, rfl⟩ := hp
  rw [mb_clz h1]
  refine ev_aload_n (pc := 4) dX7_become_4 rfl ?_
  refine ev_getf (pc := 5) dX7_become_5 f_X7_9 wh_q rfl ?_
  refine ev_iconst (pc := 8) (v := nI 0) dX7_become_8 (by decide) ?_
  refine ev_lload_n (pc := 9) dX7_become_9 rfl ?_
  refine ev_ldc2 (pc := 10) dX7_become_10 k_X7_16 ?_
  refine ev_landN (pc := 13) dX7_become_13 (by omega) ?_
  refine ev_l2iN (pc := 14) dX7_become_14 ?_
  refine wh_sd (pc := 15) dX7_become_15 hqd (by omega) ?_
  refine ev_aload_n (pc := 16) dX7_become_16 rfl ?_
  refine ev_getf (pc := 17) dX7_become_17 f_X7_9 wh_q rfl ?_
  refine ev_iconst (pc := 20) (v := nI 1) dX7_become_20 (by decide) ?_
  refine ev_lload_n (pc := 21) dX7_become_21 rfl ?_
  refine ev_bipush (pc := 22) (v := nI 30) dX7_become_22 (by decide) ?_
  refine ev_lshrN (pc := 24) dX7_become_24 (by omega) ?_
  refine ev_ldc2 (pc := 25) dX7_become_25 k_X7_16 ?_
  refine ev_landN (pc := 28) dX7_become_28 (by omega) ?_
  refine ev_l2iN (pc := 29) dX7_become_29 ?_
  refine wh_sd (pc := 30) dX7_become_30 hqd (by omega) ?_
  refine ev_aload_n (pc := 31) dX7_become_31 rfl ?_
  refine ev_getf (pc := 32) dX7_become_32 f_X7_9 wh_q rfl ?_
  refine ev_iconst (pc := 35) (v := nI 2) dX7_become_35 (by decide) ?_
  refine ev_lload_n (pc := 36) dX7_become_36 rfl ?_
  refine ev_bipush (pc := 37) (v := nI 60) dX7_become_37 (by decide) ?_
  refine ev_lshr (pc := 39) dX7_become_39 ?_
  refine ev_tl (ml_shr (k := 60) (by decide) hv) ?_
  refine ev_ldc2 (pc := 40) dX7_become_40 k_X7_16 ?_
  refine ev_landN (pc := 43) dX7_become_43 (by omega) ?_
  refine ev_l2iN (pc := 44) dX7_become_44 ?_
  refine wh_sd (pc := 45) dX7_become_45 hqd (by omega) ?_
  obtain ⟨f, hf⟩ : ∃ f, f = va_up (va_up (va_up (fun _ => 0) 0 (v % 1073741824)) 1 (v / 1073741824 % 1073741824)) 2 (v / 2 ^ 60 % 1073741824) := ⟨_, rfl⟩
  rw [← hf]
  have hb : ∀ j, f j < 1073741824 := by
    rw [hf]
    exact mb_upb (mb_upb (mb_upb (fun _ => by decide) (Nat.mod_lt _ (by decide))) (Nat.mod_lt _ (by decide))) (Nat.mod_lt _ (by decide))
  refine ev_aload_n (pc := 46) dX7_become_46 rfl ?_
  refine ev_iconst (pc := 47) (v := nI 3) dX7_become_47 (by decide) ?_
  refine ev_callV (pc := 48) (As := [.int (nI 3)]) dX7_become_48 cv_X7_18 rfl rfl wh_q rfl ⟨by show 19 + 2 ≤ w; omega, k_trim (by omega) hqd hb (by omega)⟩ rfl rfl (fun r h1 hp => ?_)
  obtain ⟨rfl, rfl⟩ := hp
  refine ev_vret (pc := 51) dX7_become_51 rfl ⟨rfl, f, _, mb_tr_is hb (fun j hj => ?_) (by decide) ?_, rfl⟩
  · rw [hf, va_up_ne _ _ (by omega), va_up_ne _ _ (by omega), va_up_ne _ _ (by omega)]
  · have e0 : f 0 = v % 1073741824 := by rw [hf]; rfl
    have e1 : f 1 = v / 1073741824 % 1073741824 := by rw [hf]; rfl
    have e2 : f 2 = v / 2 ^ 60 % 1073741824 := by rw [hf]; rfl
    show ((0 + f 0 * 1073741824 ^ 0) + f 1 * 1073741824 ^ 1) + f 2 * 1073741824 ^ 2 = v
    rw [e0, e1, e2]
    omega
theorem l_dbs (hqd : q ≠ d) {by_ : Nat} (hb0 : 0 < by_) (hb : by_ < 2 ^ 31) (hn : n ≤ 72) (hg : ∀ j, g j < 1073741824)
    (hK : ∀ f rest, (∀ j, f j < 1073741824) → (∀ j, n ≤ j → f j = g j) → rest < by_ → mb_v f n * by_ + rest = mb_v g n → ev_J G C w m_X7_divideBySmall K (61, ev_lf [(0, .ref q), (2, .long (lN rest))], [], wh_p h q d n f, c, z)) :
    ∀ k m f rest, k + m = n → (∀ j, f j < 1073741824) → (∀ j, j < k → f j = g j) → (∀ j, n ≤ j → f j = g j) → rest < by_ → mb_v (fun j => f (k + j)) m * by_ + rest = mb_v (fun j => g (k + j)) m → ev_J G C w m_X7_divideBySmall K (16, ev_lf [(0, .ref q), (1, .int (nI by_)), (2, .long (lN rest)), (4, .int (nI k - nI 1))], [], wh_p h q d n f, c, z)
  | 0, m, f, rest, e, hf, hfl, hfh, hr, hv => by
    refine ev_iload (pc := 16) dX7_divideBySmall_16 rfl ?_
    refine ev_if_lt (pc := 18) (tgt := 61) dX7_divideBySmall_18 (by decide) (fun c1 => ?_) (fun c1 => ?_)
    · refine ev_vs [(0, .ref q), (2, .long (lN rest))] ⟨rfl, rfl, trivial⟩ ?_
      have e2 : m = n := by omega
      subst e2
      refine hK f rest hf hfh hr ?_
      simpa using hv
    · exact absurd (by decide) c1
  | k + 1, m, f, rest, e, hf, hfl, hfh, hr, hv => by
    have h1 := hf k
    have h2 := hfl k (by omega)
    refine ev_iload (pc := 16) dX7_divideBySmall_16 rfl ?_
    refine ev_ti (nI_pred k) ?_
    refine ev_if_ltN (pc := 18) (tgt := 61) dX7_divideBySmall_18 (by decide) (by omega) ?_
    refine ev_vs [(0, .ref q), (1, .int (nI by_)), (2, .long (lN rest)), (4, .int (nI k))] ⟨rfl, rfl, rfl, ev_s1e (nI_pred k), trivial⟩ ?_
    have h3 : (rest * 1073741824 + f k) / by_ < 1073741824 := Nat.div_lt_of_lt_mul (by
      have : (rest + 1) * 1073741824 ≤ by_ * 1073741824 := Nat.mul_le_mul_right _ hr
      omega)
    refine ev_lload_n (pc := 21) dX7_divideBySmall_21 rfl ?_
    refine ev_bipush (pc := 22) (v := nI 30) dX7_divideBySmall_22 (by decide) ?_
    refine ev_lshlN (pc := 24) dX7_divideBySmall_24 ?_
    refine ev_aload_n (pc := 25) dX7_divideBySmall_25 rfl ?_
    refine ev_getf (pc := 26) dX7_divideBySmall_26 f_X7_9 wh_q rfl ?_
    refine ev_iload (pc := 29) dX7_divideBySmall_29 rfl ?_
    refine wh_ld (pc := 31) dX7_divideBySmall_31 hqd (by omega) ?_
    refine ev_i2lN (pc := 32) dX7_divideBySmall_32 (by omega) ?_
    refine ev_lorN (pc := 33) dX7_divideBySmall_33 (by omega) (by omega) ?_
    refine ev_lstore (pc := 34) dX7_divideBySmall_34 rfl ?_
    refine ev_aload_n (pc := 36) dX7_divideBySmall_36 rfl ?_
    refine ev_getf (pc := 37) dX7_divideBySmall_37 f_X7_9 wh_q rfl ?_
    refine ev_iload (pc := 40) dX7_divideBySmall_40 rfl ?_
    refine ev_lload (pc := 42) dX7_divideBySmall_42 rfl ?_
    refine ev_iload_n (pc := 44) dX7_divideBySmall_44 rfl ?_
    refine ev_i2lN (pc := 45) dX7_divideBySmall_45 (by omega) ?_
    refine ev_ldivN (pc := 46) dX7_divideBySmall_46 (by omega) (by omega) (by omega) ?_
    refine ev_l2iN (pc := 47) dX7_divideBySmall_47 ?_
    refine wh_sd (pc := 48) dX7_divideBySmall_48 hqd (by omega) ?_
    refine ev_lload (pc := 49) dX7_divideBySmall_49 rfl ?_
    refine ev_iload_n (pc := 51) dX7_divideBySmall_51 rfl ?_
    refine ev_i2lN (pc := 52) dX7_divideBySmall_52 (by omega) ?_
    refine ev_lremN (pc := 53) dX7_divideBySmall_53 (by omega) (by omega) (by omega) ?_
    refine ev_lstore_n (pc := 54) dX7_divideBySmall_54 rfl ?_
    refine ev_iinc (pc := 55) dX7_divideBySmall_55 rfl rfl ?_
    refine ev_goto (pc := 58) (tgt := 16) dX7_divideBySmall_58 (by decide) ?_
    refine ev_vs [(0, .ref q), (1, .int (nI by_)), (2, .long (lN ((rest * 1073741824 + f k) % by_))), (4, .int (nI k - nI 1))] ⟨rfl, rfl, rfl, ev_s1e (mi_m1 k), trivial⟩ ?_
    refine l_dbs hqd hb0 hb hn hg hK k (m + 1) _ _ (by omega) (mb_upb hf h3) (fun j hj => by rw [va_up_ne _ _ (by omega)]; exact hfl j (by omega)) (fun j hj => by rw [va_up_ne _ _ (by omega)]; exact hfh j hj) (Nat.mod_lt _ hb0) ?_
    rw [h2]
    exact mb_div1 hb0 hv
theorem k_divideBySmall {dd a by_ : Nat} (hd : 2 ≤ dd) (hw : 21 ≤ w) (hqd : q ≠ d) (h1 : mb_is g n a) (hb0 : 0 < by_) (hb : by_ < 2 ^ 31) : ev_Ca G dd w m_X7_divideBySmall [.ref q, .int (nI by_)] (wh_p h q d n g) 0 0 (ev_ok (fun r h1 => r = some (.int (nI (a % by_))) ∧ wv h q d (a / by_) h1)) := by
  obtain ⟨dd, rfl⟩ : ∃ e, dd = e + 1 := ⟨dd - 1, by omega⟩
  refine ⟨by decide +kernel, rfl, ?_⟩
  have hn := h1.2.2.2.1
  refine ev_iload_n (pc := 0) dX7_divideBySmall_0 rfl ?_
  refine ev_if_gtN (pc := 1) (tgt := 6) dX7_divideBySmall_1 (by decide) (by omega) (fun c1 => ?_) (fun c1 => ?_)
  · refine ev_lconst (pc := 6) (v := lN 0) dX7_divideBySmall_6 (by decide) ?_
    refine ev_lstore_n (pc := 7) dX7_divideBySmall_7 rfl ?_
    refine ev_aload_n (pc := 8) dX7_divideBySmall_8 rfl ?_
    refine ev_getf (pc := 9) dX7_divideBySmall_9 f_X7_22 wh_q rfl ?_
    refine ev_iconst (pc := 12) (v := nI 1) dX7_divideBySmall_12 (by decide) ?_
    refine ev_isub (pc := 13) dX7_divideBySmall_13 ?_
    refine ev_istore (pc := 14) dX7_divideBySmall_14 rfl ?_
    refine ev_vs [(0, .ref q), (1, .int (nI by_)), (2, .long (lN 0)), (4, .int (nI n - nI 1))] ⟨rfl, rfl, rfl, rfl, trivial⟩ ?_
    refine l_dbs hqd hb0 hb hn h1.1 (fun f rest hf hfh hr hv => ?_) n 0 g 0 (by omega) h1.1 (fun _ _ => rfl) (fun _ _ => rfl) hb0 (by simp [mb_v0])
    rw [h1.2.2.2.2] at hv
    have e1 : a / by_ = mb_v f n ∧ a % by_ = rest := (Nat.div_mod_unique hb0).mpr ⟨by rw [Nat.mul_comm]; omega, hr⟩
    refine ev_aload_n (pc := 61) dX7_divideBySmall_61 rfl ?_
    refine ev_aload_n (pc := 62) dX7_divideBySmall_62 rfl ?_
    refine ev_getf (pc := 63) dX7_divideBySmall_63 f_X7_22 wh_q rfl ?_
    refine ev_callV (pc := 66) (As := [.int (nI n)]) dX7_divideBySmall_66 cv_X7_18 rfl rfl wh_q rfl ⟨by show 19 + 2 ≤ w; omega, k_trim (by omega) hqd hf (by omega)⟩ rfl rfl (fun r h1 hp => ?_)
    obtain ⟨rfl, rfl⟩ := hp
    rw [Nat.min_eq_left hn]
    refine ev_lload_n (pc := 69) dX7_divideBySmall_69 rfl ?_
    refine ev_l2iN (pc := 70) dX7_divideBySmall_70 ?_
    exact ev_iret (pc := 71) dX7_divideBySmall_71 rfl rfl ⟨by rw [e1.2], f, _, mb_tr_is hf (fun j hj => by rw [hfh j hj]; exact h1.2.1 j hj) hn e1.1.symm, rfl⟩
  · omega
end WH3
end
section
/-! Whole: shiftUp, shiftDown, setProduct, digitAt, freeBits, binaryDigits -/
theorem mi_sl : ∀ k, k < 32 → ((nI k &&& 31).toBitVec.smod 32).toNat = k := by decide +kernel
theorem mi_shr {x k : Nat} (hx : x < 2 ^ 31) (hk : k < 32) : nI x >>> (nI k &&& 31) = nI (x / 2 ^ k) := pk_shrN hx _ k (mi_sl k hk)
theorem mb_shl1 {f g : Nat → Nat} {i cy P : Nat} (hi : f i = g i) (e : mb_v f i + cy * 1073741824 ^ i = mb_v g i * P) : mb_v (va_up f i ((f i * P + cy) % 1073741824)) (i + 1) + (f i * P + cy) / 1073741824 * 1073741824 ^ (i + 1) = mb_v g (i + 1) * P := by
  rw [mb_vs, mb_vs, mb_upo (Nat.le_refl i), va_up_self, mb_pw]
  have h1 := mb_cy (f i * P + cy) (1073741824 ^ i)
  have h2 : (f i * P + cy) * 1073741824 ^ i = g i * 1073741824 ^ i * P + cy * 1073741824 ^ i := by
    rw [hi, Nat.add_mul, Nat.mul_assoc, Nat.mul_comm P, ← Nat.mul_assoc]
  have h3 : (mb_v g i + g i * 1073741824 ^ i) * P = mb_v g i * P + g i * 1073741824 ^ i * P := Nat.add_mul ..
  omega
/-- a step of a row of a product -/
theorem mb_mul1 {f f0 gb : Nat → Nat} {i j cy x : Nat} (hi : f (i + j) = f0 (i + j)) (e : mb_v f (i + j) + cy * 1073741824 ^ (i + j) = mb_v f0 (i + j) + x * mb_v gb j * 1073741824 ^ i) : mb_v (va_up f (i + j) ((x * gb j + f (i + j) + cy) % 1073741824)) (i + (j + 1)) + (x * gb j + f (i + j) + cy) / 1073741824 * 1073741824 ^ (i + (j + 1)) = mb_v f0 (i + (j + 1)) + x * mb_v gb (j + 1) * 1073741824 ^ i := by
  rw [show i + (j + 1) = i + j + 1 by omega, mb_vs, mb_vs, mb_vs, mb_upo (Nat.le_refl _), va_up_self, mb_pw]
  have h1 := mb_cy (x * gb j + f (i + j) + cy) (1073741824 ^ (i + j))
  have h2 : (x * gb j + f (i + j) + cy) * 1073741824 ^ (i + j) = x * gb j * 1073741824 ^ (i + j) + f0 (i + j) * 1073741824 ^ (i + j) + cy * 1073741824 ^ (i + j) := by rw [hi, Nat.add_mul, Nat.add_mul]
  have h3 : x * (mb_v gb j + gb j * 1073741824 ^ j) * 1073741824 ^ i = x * mb_v gb j * 1073741824 ^ i + x * gb j * 1073741824 ^ (i + j) := by
    rw [Nat.mul_add, Nat.add_mul, Nat.pow_add]
    congr 1
    rw [← Nat.mul_assoc, Nat.mul_assoc (x * gb j), Nat.mul_comm (1073741824 ^ j)]
  omega
section WH4
variable {G : ev_G} {C : ev_L} {w : Nat} {K : ev_K} {h : ev_H} {q d n c z q2 d2 n2 q3 d3 n3 : Nat} {g g2 g3 : Nat → Nat}
theorem l_shiftUp (hqd : q ≠ d) {b P : Nat} (hb : b < 30) (hP : 2 ^ b = P) {m : Nat} (hm : m ≤ 72)
    (hK : ∀ f cy, (∀ j, f j < 1073741824) → (∀ j, m ≤ j → f j = g j) → mb_v f m + cy * 1073741824 ^ m = mb_v g m * P → ev_J G C w m_X7_shiftUp K (63, ev_lf [(0, .ref q), (2, .int (nI m))], [], wh_p h q d n f, c, z)) :
    ∀ k i f cy, i + k = m → (∀ j, f j < 1073741824) → (∀ j, i ≤ j → f j = g j) → cy < P → mb_v f i + cy * 1073741824 ^ i = mb_v g i * P → ev_J G C w m_X7_shiftUp K (17, ev_lf [(0, .ref q), (1, .int (nI b)), (2, .int (nI m)), (3, .long (lN cy)), (5, .int (nI i))], [], wh_p h q d n f, c, z)
  | 0, i, f, cy, e, hf, hfg, hcy, hv => by
    refine ev_iload (pc := 17) dX7_shiftUp_17 rfl ?_
    refine ev_iload_n (pc := 19) dX7_shiftUp_19 rfl ?_
    refine ev_icmp_geN (pc := 20) (tgt := 63) dX7_shiftUp_20 (by decide) (by omega) (by omega) (fun c1 => ?_) (fun c1 => ?_)
    · have e2 : i = m := by omega
      subst e2
      refine ev_vs [(0, .ref q), (2, .int (nI i))] ⟨rfl, rfl, trivial⟩ ?_
      exact hK f cy hf hfg hv
    · omega
  | k + 1, i, f, cy, e, hf, hfg, hcy, hv => by
    have h1 := hf i
    have hP2 : P ≤ 2 ^ 29 := by rw [← hP]; exact Nat.pow_le_pow_right (by decide) (by omega)
    have h2 : f i * P ≤ 1073741823 * P := Nat.mul_le_mul_right P (by omega)
    refine ev_iload (pc := 17) dX7_shiftUp_17 rfl ?_
    refine ev_iload_n (pc := 19) dX7_shiftUp_19 rfl ?_
    refine ev_icmp_geN (pc := 20) (tgt := 63) dX7_shiftUp_20 (by decide) (by omega) (by omega) (fun c1 => ?_) (fun c1 => ?_)
    · omega
    · refine ev_aload_n (pc := 23) dX7_shiftUp_23 rfl ?_
      refine ev_getf (pc := 24) dX7_shiftUp_24 f_X7_9 wh_q rfl ?_
      refine ev_iload (pc := 27) dX7_shiftUp_27 rfl ?_
      refine wh_ld (pc := 29) dX7_shiftUp_29 hqd (by omega) ?_
      refine ev_i2lN (pc := 30) dX7_shiftUp_30 (by omega) ?_
      refine ev_iload_n (pc := 31) dX7_shiftUp_31 rfl ?_
      refine ev_lshl (pc := 32) dX7_shiftUp_32 (ev_tl ((wb_shl _ (by omega)).trans (by rw [hP])) ?_)
      refine ev_lload_n (pc := 33) dX7_shiftUp_33 rfl ?_
      refine ev_lor (pc := 34) dX7_shiftUp_34 ?_
      refine ev_tl (g_or (k := b) hP hcy (by omega)) ?_
      refine ev_lstore (pc := 35) dX7_shiftUp_35 rfl ?_
      refine ev_aload_n (pc := 37) dX7_shiftUp_37 rfl ?_
      refine ev_getf (pc := 38) dX7_shiftUp_38 f_X7_9 wh_q rfl ?_
      refine ev_iload (pc := 41) dX7_shiftUp_41 rfl ?_
      refine ev_lload (pc := 43) dX7_shiftUp_43 rfl ?_
      refine ev_ldc2 (pc := 45) dX7_shiftUp_45 k_X7_16 ?_
      refine ev_landN (pc := 48) dX7_shiftUp_48 (by omega) ?_
      refine ev_l2iN (pc := 49) dX7_shiftUp_49 ?_
      refine wh_sd (pc := 50) dX7_shiftUp_50 hqd (by omega) ?_
      refine ev_lload (pc := 51) dX7_shiftUp_51 rfl ?_
      refine ev_bipush (pc := 53) (v := nI 30) dX7_shiftUp_53 (by decide) ?_
      refine ev_lshrN (pc := 55) dX7_shiftUp_55 (by omega) ?_
      refine ev_lstore_n (pc := 56) dX7_shiftUp_56 rfl ?_
      refine ev_iincN (pc := 57) dX7_shiftUp_57 rfl rfl ?_
      refine ev_goto (pc := 60) (tgt := 17) dX7_shiftUp_60 (by decide) ?_
      refine ev_vs [(0, .ref q), (1, .int (nI b)), (2, .int (nI m)), (3, .long (lN ((f i * P + cy) / 1073741824))), (5, .int (nI (i + 1)))] ⟨rfl, rfl, rfl, rfl, rfl, trivial⟩ ?_
      exact l_shiftUp hqd hb hP hm hK k (i + 1) _ _ (by omega) (mb_upb hf (Nat.mod_lt _ (by decide))) (mb_up_ge hfg) (by omega) (mb_shl1 (hfg i (Nat.le_refl i)) hv)
theorem k_shiftUp {dd a b : Nat} (hd : 2 ≤ dd) (hw : 23 ≤ w) (hqd : q ≠ d) (h1 : mb_is g n a) (hb : b < 30) (hab : a * 2 ^ b < 1073741824 ^ 72) : ev_Ca G dd w m_X7_shiftUp [.ref q, .int (nI b)] (wh_p h q d n g) 0 0 (ev_ok (fun r h1 => r = none ∧ wv h q d (a * 2 ^ b) h1)) := by
  obtain ⟨dd, rfl⟩ : ∃ e, dd = e + 1 := ⟨dd - 1, by omega⟩
  refine ⟨by decide +kernel, rfl, ?_⟩
  have hn := h1.2.2.2.1
  refine ev_aload_n (pc := 0) dX7_shiftUp_0 rfl ?_
  refine ev_getf (pc := 1) dX7_shiftUp_1 f_X7_22 wh_q rfl ?_
  refine ev_iconst (pc := 4) (v := nI 1) dX7_shiftUp_4 (by decide) ?_
  refine ev_iaddN (pc := 5) dX7_shiftUp_5 ?_
  refine ev_bipush (pc := 6) (v := nI 72) dX7_shiftUp_6 (by decide) ?_
  refine ev_mmin (pc := 8) dX7_shiftUp_8 mx_X7_47 rfl (by omega) (ev_ti (mi_min (by omega) (by omega)) ?_)
  refine ev_istore_n (pc := 11) dX7_shiftUp_11 rfl ?_
  refine ev_lconst (pc := 12) (v := lN 0) dX7_shiftUp_12 (by decide) ?_
  refine ev_lstore_n (pc := 13) dX7_shiftUp_13 rfl ?_
  refine ev_iconst (pc := 14) (v := nI 0) dX7_shiftUp_14 (by decide) ?_
  refine ev_istore (pc := 15) dX7_shiftUp_15 rfl ?_
  obtain ⟨m, hm⟩ : ∃ m, m = min (n + 1) 72 := ⟨_, rfl⟩
  rw [← hm]
  refine ev_vs [(0, .ref q), (1, .int (nI b)), (2, .int (nI m)), (3, .long (lN 0)), (5, .int (nI 0))] ⟨rfl, rfl, rfl, rfl, rfl, trivial⟩ ?_
  have e1 : mb_v g m = a := mb_is_at h1 (by omega)
  have hP0 : 0 < 2 ^ b := Nat.pow_pos (by decide)
  have hlt : a * 2 ^ b < 1073741824 ^ m := by
    rcases Nat.lt_or_ge n 72 with x | x
    · have h3 := mb_is_lt h1
      have h4 : 2 ^ b ≤ 2 ^ 30 := Nat.pow_le_pow_right (by decide) (by omega)
      rw [show m = n + 1 by omega, mb_pw]
      have h5 : a * 2 ^ b < 1073741824 ^ n * 2 ^ b := Nat.mul_lt_mul_of_pos_right h3 hP0
      have h6 : 1073741824 ^ n * 2 ^ b ≤ 1073741824 ^ n * 1073741824 := Nat.mul_le_mul_left _ h4
      omega
    · rw [show m = 72 by omega]; exact hab
  refine l_shiftUp hqd hb rfl (m := m) (by omega) (fun f cy hf hfg hv => ?_) m 0 g 0 (by omega) h1.1 (fun j _ => rfl) hP0 (by simp [mb_v0])
  rw [e1] at hv
  obtain ⟨-, hv⟩ := mb_cy0 hv hlt
  refine ev_aload_n (pc := 63) dX7_shiftUp_63 rfl ?_
  refine ev_iload_n (pc := 64) dX7_shiftUp_64 rfl ?_
  refine ev_callV (pc := 65) (As := [.int (nI m)]) dX7_shiftUp_65 cv_X7_18 rfl rfl wh_q rfl ⟨by show 19 + 2 ≤ w; omega, k_trim (by omega) hqd hf (by omega)⟩ rfl rfl (fun r h1 hp => ?_)
  obtain ⟨rfl, rfl⟩ := hp
  rw [Nat.min_eq_left (show m ≤ 72 by omega)]
  exact ev_vret (pc := 68) dX7_shiftUp_68 rfl ⟨rfl, f, _, mb_tr_is hf (fun j hj => by rw [hfg j hj]; exact h1.2.1 j (by omega)) (by omega) hv, rfl⟩
theorem l_shiftDown (hqd : q ≠ d) {b P : Nat} (hb : b < 30) (hP : 2 ^ b = P) (hn : n ≤ 72)
    (hK : ∀ f rest, (∀ j, f j < 1073741824) → (∀ j, n ≤ j → f j = g j) → rest < P → mb_v f n * P + rest = mb_v g n → ev_J G C w m_X7_shiftDown K (62, ev_lf [(0, .ref q)], [], wh_p h q d n f, c, z)) :
    ∀ k m f rest, k + m = n → (∀ j, f j < 1073741824) → (∀ j, j < k → f j = g j) → (∀ j, n ≤ j → f j = g j) → rest < P → mb_v (fun j => f (k + j)) m * P + rest = mb_v (fun j => g (k + j)) m → ev_J G C w m_X7_shiftDown K (17, ev_lf [(0, .ref q), (1, .int (nI b)), (2, .long (lN (P - 1))), (4, .long (lN rest)), (6, .int (nI k - nI 1))], [], wh_p h q d n f, c, z)
  | 0, m, f, rest, e, hf, hfl, hfh, hr, hv => by
    refine ev_iload (pc := 17) dX7_shiftDown_17 rfl ?_
    refine ev_if_lt (pc := 19) (tgt := 62) dX7_shiftDown_19 (by decide) (fun c1 => ?_) (fun c1 => ?_)
    · refine ev_vs [(0, .ref q)] ⟨rfl, trivial⟩ ?_
      have e2 : m = n := by omega
      subst e2
      refine hK f rest hf hfh hr ?_
      simpa using hv
    · exact absurd (by decide) c1
  | k + 1, m, f, rest, e, hf, hfl, hfh, hr, hv => by
    have h1 := hf k
    have h2 := hfl k (by omega)
    have hP2 : P ≤ 2 ^ 29 := by rw [← hP]; exact Nat.pow_le_pow_right (by decide) (by omega)
    refine ev_iload (pc := 17) dX7_shiftDown_17 rfl ?_
    refine ev_ti (nI_pred k) ?_
    refine ev_if_ltN (pc := 19) (tgt := 62) dX7_shiftDown_19 (by decide) (by omega) ?_
    refine ev_vs [(0, .ref q), (1, .int (nI b)), (2, .long (lN (P - 1))), (4, .long (lN rest)), (6, .int (nI k))] ⟨rfl, rfl, rfl, rfl, ev_s1e (nI_pred k), trivial⟩ ?_
    have h3 : (rest * 1073741824 + f k) / P < 1073741824 := Nat.div_lt_of_lt_mul (by
      have : (rest + 1) * 1073741824 ≤ P * 1073741824 := Nat.mul_le_mul_right _ hr
      omega)
    refine ev_lload (pc := 22) dX7_shiftDown_22 rfl ?_
    refine ev_bipush (pc := 24) (v := nI 30) dX7_shiftDown_24 (by decide) ?_
    refine ev_lshlN (pc := 26) dX7_shiftDown_26 ?_
    refine ev_aload_n (pc := 27) dX7_shiftDown_27 rfl ?_
    refine ev_getf (pc := 28) dX7_shiftDown_28 f_X7_9 wh_q rfl ?_
    refine ev_iload (pc := 31) dX7_shiftDown_31 rfl ?_
    refine wh_ld (pc := 33) dX7_shiftDown_33 hqd (by omega) ?_
    refine ev_i2lN (pc := 34) dX7_shiftDown_34 (by omega) ?_
    refine ev_lorN (pc := 35) dX7_shiftDown_35 (by omega) (by omega) ?_
    refine ev_lstore (pc := 36) dX7_shiftDown_36 rfl ?_
    refine ev_aload_n (pc := 38) dX7_shiftDown_38 rfl ?_
    refine ev_getf (pc := 39) dX7_shiftDown_39 f_X7_9 wh_q rfl ?_
    refine ev_iload (pc := 42) dX7_shiftDown_42 rfl ?_
    refine ev_lload (pc := 44) dX7_shiftDown_44 rfl ?_
    refine ev_iload_n (pc := 46) dX7_shiftDown_46 rfl ?_
    refine ev_lshr (pc := 47) dX7_shiftDown_47 (ev_tl ((ml_shr (k := b) (by omega) (by omega)).trans (by rw [hP])) ?_)
    refine ev_l2iN (pc := 48) dX7_shiftDown_48 ?_
    refine wh_sd (pc := 49) dX7_shiftDown_49 hqd (by omega) ?_
    refine ev_lload (pc := 50) dX7_shiftDown_50 rfl ?_
    refine ev_lload_n (pc := 52) dX7_shiftDown_52 rfl ?_
    refine ev_land (pc := 53) dX7_shiftDown_53 (ev_tl (y := lN ((rest * 1073741824 + f k) % P)) (by rw [← hP]; exact wb_mask (by omega) (by omega)) ?_)
    refine ev_lstore (pc := 54) dX7_shiftDown_54 rfl ?_
    refine ev_iinc (pc := 56) dX7_shiftDown_56 rfl rfl ?_
    refine ev_goto (pc := 59) (tgt := 17) dX7_shiftDown_59 (by decide) ?_
    refine ev_vs [(0, .ref q), (1, .int (nI b)), (2, .long (lN (P - 1))), (4, .long (lN ((rest * 1073741824 + f k) % P))), (6, .int (nI k - nI 1))] ⟨rfl, rfl, rfl, rfl, ev_s1e (mi_m1 k), trivial⟩ ?_
    refine l_shiftDown hqd hb hP hn hK k (m + 1) _ _ (by omega) (mb_upb hf h3) (fun j hj => by rw [va_up_ne _ _ (by omega)]; exact hfl j (by omega)) (fun j hj => by rw [va_up_ne _ _ (by omega)]; exact hfh j hj) (Nat.mod_lt _ (by omega)) ?_
    rw [h2]
    exact mb_div1 (by omega) hv
theorem k_shiftDown {dd a b : Nat} (hd : 2 ≤ dd) (hw : 21 ≤ w) (hqd : q ≠ d) (h1 : mb_is g n a) (hb : b < 30) : ev_Ca G dd w m_X7_shiftDown [.ref q, .int (nI b)] (wh_p h q d n g) 0 0 (ev_ok (fun r h1 => r = none ∧ wv h q d (a / 2 ^ b) h1)) := by
  obtain ⟨dd, rfl⟩ : ∃ e, dd = e + 1 := ⟨dd - 1, by omega⟩
  refine ⟨by decide +kernel, rfl, ?_⟩
  have hn := h1.2.2.2.1
  have hP0 : 0 < 2 ^ b := Nat.pow_pos (by decide)
  refine ev_lconst (pc := 0) (v := lN 1) dX7_shiftDown_0 (by decide) ?_
  refine ev_iload_n (pc := 1) dX7_shiftDown_1 rfl ?_
  refine ev_lshl (pc := 2) dX7_shiftDown_2 ?_
  refine ev_tl ((wb_shl 1 (by omega)).trans (by rw [Nat.one_mul])) ?_
  refine ev_lconst (pc := 3) (v := lN 1) dX7_shiftDown_3 (by decide) ?_
  refine ev_lsubN (pc := 4) dX7_shiftDown_4 (by omega) ?_
  refine ev_lstore_n (pc := 5) dX7_shiftDown_5 rfl ?_
  refine ev_lconst (pc := 6) (v := lN 0) dX7_shiftDown_6 (by decide) ?_
  refine ev_lstore (pc := 7) dX7_shiftDown_7 rfl ?_
  refine ev_aload_n (pc := 9) dX7_shiftDown_9 rfl ?_
  refine ev_getf (pc := 10) dX7_shiftDown_10 f_X7_22 wh_q rfl ?_
  refine ev_iconst (pc := 13) (v := nI 1) dX7_shiftDown_13 (by decide) ?_
  refine ev_isub (pc := 14) dX7_shiftDown_14 ?_
  refine ev_istore (pc := 15) dX7_shiftDown_15 rfl ?_
  refine ev_vs [(0, .ref q), (1, .int (nI b)), (2, .long (lN (2 ^ b - 1))), (4, .long (lN 0)), (6, .int (nI n - nI 1))] ⟨rfl, rfl, rfl, rfl, rfl, trivial⟩ ?_
  refine l_shiftDown hqd hb rfl hn (fun f rest hf hfh hr hv => ?_) n 0 g 0 (by omega) h1.1 (fun _ _ => rfl) (fun _ _ => rfl) hP0 (by simp [mb_v0])
  rw [h1.2.2.2.2] at hv
  have e1 : a / 2 ^ b = mb_v f n ∧ a % 2 ^ b = rest := (Nat.div_mod_unique hP0).mpr ⟨by rw [Nat.mul_comm]; omega, hr⟩
  refine ev_aload_n (pc := 62) dX7_shiftDown_62 rfl ?_
  refine ev_aload_n (pc := 63) dX7_shiftDown_63 rfl ?_
  refine ev_getf (pc := 64) dX7_shiftDown_64 f_X7_22 wh_q rfl ?_
  refine ev_callV (pc := 67) (As := [.int (nI n)]) dX7_shiftDown_67 cv_X7_18 rfl rfl wh_q rfl ⟨by show 19 + 2 ≤ w; omega, k_trim (by omega) hqd hf (by omega)⟩ rfl rfl (fun r h1 hp => ?_)
  obtain ⟨rfl, rfl⟩ := hp
  rw [Nat.min_eq_left hn]
  exact ev_vret (pc := 70) dX7_shiftDown_70 rfl ⟨rfl, f, _, mb_tr_is hf (fun j hj => by rw [hfh j hj]; exact h1.2.1 j hj) hn e1.1.symm, rfl⟩
/-- a row of the product -/
theorem l_mulRow (hqd : q ≠ d) (a : wh_a h q d q2 d2 n2 g2) (b : wh_a h q d q3 d3 n3 g3) (hg2 : ∀ j, g2 j < 1073741824) (hg3 : ∀ j, g3 j < 1073741824) (hn3 : n3 ≤ 72) {i : Nat} (hi : i + n3 < 72) {f0 : Nat → Nat}
    (hK : ∀ f cy, (∀ j, f j < 1073741824) → (∀ j, i + n3 ≤ j → f j = f0 j) → cy < 1073741824 → mb_v f (i + n3) + cy * 1073741824 ^ (i + n3) = mb_v f0 (i + n3) + g2 i * mb_v g3 n3 * 1073741824 ^ i → ev_J G C w m_X7_setProduct K (101, ev_lf [(0, .ref q), (1, .ref q2), (2, .ref q3), (3, .int (nI i)), (4, .long (lN cy))], [], wh_p h q d n f, c, z)) :
    ∀ k j f cy, j + k = n3 → (∀ j, f j < 1073741824) → (∀ x, i + j ≤ x → f x = f0 x) → cy < 1073741824 → mb_v f (i + j) + cy * 1073741824 ^ (i + j) = mb_v f0 (i + j) + g2 i * mb_v g3 j * 1073741824 ^ i → ev_J G C w m_X7_setProduct K (31, ev_lf [(0, .ref q), (1, .ref q2), (2, .ref q3), (3, .int (nI i)), (4, .long (lN cy)), (6, .int (nI j))], [], wh_p h q d n f, c, z)
  | 0, j, f, cy, e, hf, hfg, hcy, hv => by
    refine ev_iload (pc := 31) dX7_setProduct_31 rfl ?_
    refine ev_aload_n (pc := 33) dX7_setProduct_33 rfl ?_
    refine ev_getf (pc := 34) dX7_setProduct_34 f_X7_22 (wh_aq b) rfl ?_
    refine ev_icmp_geN (pc := 37) (tgt := 101) dX7_setProduct_37 (by decide) (by omega) (by omega) (fun c1 => ?_) (fun c1 => ?_)
    · have e2 : j = n3 := by omega
      subst e2
      refine ev_vs [(0, .ref q), (1, .ref q2), (2, .ref q3), (3, .int (nI i)), (4, .long (lN cy))] ⟨rfl, rfl, rfl, rfl, rfl, trivial⟩ ?_
      exact hK f cy hf hfg hcy hv
    · omega
  | k + 1, j, f, cy, e, hf, hfg, hcy, hv => by
    have h1 := hf (i + j)
    have h2 := hg2 i
    have h3 := hg3 j
    have h4 : g2 i * g3 j ≤ 1073741823 * 1073741823 := Nat.mul_le_mul (by omega) (by omega)
    refine ev_iload (pc := 31) dX7_setProduct_31 rfl ?_
    refine ev_aload_n (pc := 33) dX7_setProduct_33 rfl ?_
    refine ev_getf (pc := 34) dX7_setProduct_34 f_X7_22 (wh_aq b) rfl ?_
    refine ev_icmp_geN (pc := 37) (tgt := 101) dX7_setProduct_37 (by decide) (by omega) (by omega) (fun c1 => ?_) (fun c1 => ?_)
    · omega
    · refine ev_aload_n (pc := 40) dX7_setProduct_40 rfl ?_
      refine ev_getf (pc := 41) dX7_setProduct_41 f_X7_9 (wh_aq a) rfl ?_
      refine ev_iload_n (pc := 44) dX7_setProduct_44 rfl ?_
      refine ev_iaN (pc := 45) dX7_setProduct_45 (wh_ad a) (by omega) (by omega) ?_
      refine ev_i2lN (pc := 46) dX7_setProduct_46 (by omega) ?_
      refine ev_aload_n (pc := 47) dX7_setProduct_47 rfl ?_
      refine ev_getf (pc := 48) dX7_setProduct_48 f_X7_9 (wh_aq b) rfl ?_
      refine ev_iload (pc := 51) dX7_setProduct_51 rfl ?_
      refine ev_iaN (pc := 53) dX7_setProduct_53 (wh_ad b) (by omega) (by omega) ?_
      refine ev_i2lN (pc := 54) dX7_setProduct_54 (by omega) ?_
      refine ev_lmulN (pc := 55) dX7_setProduct_55 ?_
      refine ev_aload_n (pc := 56) dX7_setProduct_56 rfl ?_
      refine ev_getf (pc := 57) dX7_setProduct_57 f_X7_9 wh_q rfl ?_
      refine ev_iload_n (pc := 60) dX7_setProduct_60 rfl ?_
      refine ev_iload (pc := 61) dX7_setProduct_61 rfl ?_
      refine ev_iaddN (pc := 63) dX7_setProduct_63 ?_
      refine wh_ld (pc := 64) dX7_setProduct_64 hqd (by omega) ?_
      refine ev_i2lN (pc := 65) dX7_setProduct_65 (by omega) ?_
      refine ev_laddN (pc := 66) dX7_setProduct_66 ?_
      refine ev_lload (pc := 67) dX7_setProduct_67 rfl ?_
      refine ev_laddN (pc := 69) dX7_setProduct_69 ?_
      refine ev_lstore (pc := 70) dX7_setProduct_70 rfl ?_
      refine ev_aload_n (pc := 72) dX7_setProduct_72 rfl ?_
      refine ev_getf (pc := 73) dX7_setProduct_73 f_X7_9 wh_q rfl ?_
      refine ev_iload_n (pc := 76) dX7_setProduct_76 rfl ?_
      refine ev_iload (pc := 77) dX7_setProduct_77 rfl ?_
      refine ev_iaddN (pc := 79) dX7_setProduct_79 ?_
      refine ev_lload (pc := 80) dX7_setProduct_80 rfl ?_
      refine ev_ldc2 (pc := 82) dX7_setProduct_82 k_X7_16 ?_
      refine ev_landN (pc := 85) dX7_setProduct_85 (by omega) ?_
      refine ev_l2iN (pc := 86) dX7_setProduct_86 ?_
      refine wh_sd (pc := 87) dX7_setProduct_87 hqd (by omega) ?_
      refine ev_lload (pc := 88) dX7_setProduct_88 rfl ?_
      refine ev_bipush (pc := 90) (v := nI 30) dX7_setProduct_90 (by decide) ?_
      refine ev_lshrN (pc := 92) dX7_setProduct_92 (by omega) ?_
      refine ev_lstore (pc := 93) dX7_setProduct_93 rfl ?_
      refine ev_iincN (pc := 95) dX7_setProduct_95 rfl rfl ?_
      refine ev_goto (pc := 98) (tgt := 31) dX7_setProduct_98 (by decide) ?_
      refine ev_vs [(0, .ref q), (1, .ref q2), (2, .ref q3), (3, .int (nI i)), (4, .long (lN ((g2 i * g3 j + f (i + j) + cy) / 1073741824))), (6, .int (nI (j + 1)))] ⟨rfl, rfl, rfl, rfl, rfl, rfl, trivial⟩ ?_
      exact l_mulRow hqd a b hg2 hg3 hn3 hi hK k (j + 1) _ _ (by omega) (mb_upb hf (Nat.mod_lt _ (by decide))) (fun x hx => by rw [va_up_ne _ _ (by omega)]; exact hfg x (by omega)) (by omega) (mb_mul1 (hfg (i + j) (Nat.le_refl _)) hv)
theorem l_mul (hqd : q ≠ d) (a : wh_a h q d q2 d2 n2 g2) (b : wh_a h q d q3 d3 n3 g3) (hg2 : ∀ j, g2 j < 1073741824) (hg3 : ∀ j, g3 j < 1073741824) (hn3 : n3 ≤ 72) (hn2 : n2 ≤ 72) (hs : n2 + n3 ≤ 72 ∨ n2 = 0) 
    (hK : ∀ f, (∀ j, f j < 1073741824) → (∀ j, n2 + n3 ≤ j → f j = 0) → mb_v f (n2 + n3) = mb_v g2 n2 * mb_v g3 n3 → ev_J G C w m_X7_setProduct K (121, ev_lf [(0, .ref q), (1, .ref q2), (2, .ref q3)], [], wh_p h q d n f, c, z)) :
    ∀ k i f, i + k = n2 → (∀ j, f j < 1073741824) → (∀ x, i + n3 ≤ x → f x = 0) → mb_v f (i + n3) = mb_v g2 i * mb_v g3 n3 → ev_J G C w m_X7_setProduct K (6, ev_lf [(0, .ref q), (1, .ref q2), (2, .ref q3), (3, .int (nI i))], [], wh_p h q d n f, c, z)
  | 0, i, f, e, hf, hfg, hv => by
    refine ev_iload_n (pc := 6) dX7_setProduct_6 rfl ?_
    refine ev_aload_n (pc := 7) dX7_setProduct_7 rfl ?_
    refine ev_getf (pc := 8) dX7_setProduct_8 f_X7_22 (wh_aq a) rfl ?_
    refine ev_icmp_geN (pc := 11) (tgt := 121) dX7_setProduct_11 (by decide) (by omega) (by omega) (fun c1 => ?_) (fun c1 => ?_)
    · have e2 : i = n2 := by omega
      subst e2
      refine ev_vs [(0, .ref q), (1, .ref q2), (2, .ref q3)] ⟨rfl, rfl, rfl, trivial⟩ ?_
      exact hK f hf hfg hv
    · omega
  | k + 1, i, f, e, hf, hfg, hv => by
    refine ev_iload_n (pc := 6) dX7_setProduct_6 rfl ?_
    refine ev_aload_n (pc := 7) dX7_setProduct_7 rfl ?_
    refine ev_getf (pc := 8) dX7_setProduct_8 f_X7_22 (wh_aq a) rfl ?_
    refine ev_icmp_geN (pc := 11) (tgt := 121) dX7_setProduct_11 (by decide) (by omega) (by omega) (fun c1 => ?_) (fun c1 => ?_)
    · omega
    · refine ev_iload_n (pc := 14) dX7_setProduct_14 rfl ?_
      refine ev_aload_n (pc := 15) dX7_setProduct_15 rfl ?_
      refine ev_getf (pc := 16) dX7_setProduct_16 f_X7_22 (wh_aq b) rfl ?_
      refine ev_iaddN (pc := 19) dX7_setProduct_19 ?_
      refine ev_bipush (pc := 20) (v := nI 72) dX7_setProduct_20 (by decide) ?_
      refine ev_icmp_geN (pc := 22) (tgt := 121) dX7_setProduct_22 (by decide) (by omega) (by omega) (fun c2 => ?_) (fun c2 => ?_)
      · omega
      · refine ev_lconst (pc := 25) (v := lN 0) dX7_setProduct_25 (by decide) ?_
        refine ev_lstore (pc := 26) dX7_setProduct_26 rfl ?_
        refine ev_iconst (pc := 28) (v := nI 0) dX7_setProduct_28 (by decide) ?_
        refine ev_istore (pc := 29) dX7_setProduct_29 rfl ?_
        refine ev_vs [(0, .ref q), (1, .ref q2), (2, .ref q3), (3, .int (nI i)), (4, .long (lN 0)), (6, .int (nI 0))] ⟨rfl, rfl, rfl, rfl, rfl, rfl, trivial⟩ ?_
        refine l_mulRow hqd a b hg2 hg3 hn3 (f0 := f) c2 (fun f1 cy hf1 hfg1 hcy hv1 => ?_) n3 0 f 0 (by omega) hf (fun _ _ => rfl) (by decide) (by simp [mb_v0])
        refine ev_aload_n (pc := 101) dX7_setProduct_101 rfl ?_
        refine ev_getf (pc := 102) dX7_setProduct_102 f_X7_9 wh_q rfl ?_
        refine ev_iload_n (pc := 105) dX7_setProduct_105 rfl ?_
        refine ev_aload_n (pc := 106) dX7_setProduct_106 rfl ?_
        refine ev_getf (pc := 107) dX7_setProduct_107 f_X7_22 (wh_aq b) rfl ?_
        refine ev_iaddN (pc := 110) dX7_setProduct_110 ?_
        refine ev_lload (pc := 111) dX7_setProduct_111 rfl ?_
        refine ev_l2iN (pc := 113) dX7_setProduct_113 ?_
        refine wh_sd (pc := 114) dX7_setProduct_114 hqd (by omega) ?_
        refine ev_iincN (pc := 115) dX7_setProduct_115 rfl rfl ?_
        refine ev_goto (pc := 118) (tgt := 6) dX7_setProduct_118 (by decide) ?_
        refine ev_vs [(0, .ref q), (1, .ref q2), (2, .ref q3), (3, .int (nI (i + 1)))] ⟨rfl, rfl, rfl, rfl, trivial⟩ ?_
        refine l_mul hqd a b hg2 hg3 hn3 hn2 hs hK k (i + 1) _ (by omega) (mb_upb hf1 hcy) (fun x hx => by rw [va_up_ne _ _ (by omega), hfg1 x (by omega)]; exact hfg x (by omega)) ?_
        rw [show i + 1 + n3 = i + n3 + 1 by omega, mb_vs, mb_upo (Nat.le_refl _), va_up_self, hv1, hv, mb_vs, Nat.add_mul, Nat.mul_assoc, Nat.mul_comm (mb_v g3 n3), ← Nat.mul_assoc]
theorem k_setProduct {dd a b s : Nat} (hd : 2 ≤ dd) (hw : 21 ≤ w) (hqd : q ≠ d) (ha : wh_a h q d q2 d2 n2 g2) (hb : wh_a h q d q3 d3 n3 g3) (h0 : mb_is g n s) (h1 : mb_is g2 n2 a) (h2 : mb_is g3 n3 b) (hab : a * b < 1073741824 ^ 71) : ev_Ca G dd w m_X7_setProduct [.ref q, .ref q2, .ref q3] (wh_p h q d n g) 0 0 (ev_ok (fun r h1 => r = none ∧ wv h q d (a * b) h1)) := by
  obtain ⟨dd, rfl⟩ : ∃ e, dd = e + 1 := ⟨dd - 1, by omega⟩
  refine ⟨by decide +kernel, rfl, ?_⟩
  have hn := h0.2.2.2.1
  have hn2 := h1.2.2.2.1
  have hn3 := h2.2.2.2.1
  have hs : n2 + n3 ≤ 72 := by
    rcases Nat.eq_zero_or_pos n2 with x | x
    · omega
    · rcases Nat.eq_zero_or_pos n3 with y | y
      · omega
      · have h3 := Nat.mul_le_mul (mb_is_ge h1 x) (mb_is_ge h2 y)
        rw [← Nat.pow_add] at h3
        have h4 : 1073741824 ^ (n2 - 1 + (n3 - 1)) < 1073741824 ^ 71 := Nat.lt_of_le_of_lt h3 hab
        have h5 := (Nat.pow_lt_pow_iff_right (by decide)).mp h4
        omega
  refine ev_aload_n (pc := 0) dX7_setProduct_0 rfl ?_
  refine ev_callV (pc := 1) (As := []) dX7_setProduct_1 cv_X7_13 rfl rfl wh_q rfl ⟨by show 19 + 2 ≤ w; omega, k_clear (by omega) hqd hn⟩ rfl rfl (fun r h1 hp => ?_)
  obtain ⟨rfl, rfl⟩ := hp
  rw [mb_clz h0]
  refine ev_iconst (pc := 4) (v := nI 0) dX7_setProduct_4 (by decide) ?_
  refine ev_istore_n (pc := 5) dX7_setProduct_5 rfl ?_
  refine ev_vs [(0, .ref q), (1, .ref q2), (2, .ref q3), (3, .int (nI 0))] ⟨rfl, rfl, rfl, rfl, trivial⟩ ?_
  refine l_mul hqd ha hb h1.1 h2.1 hn3 hn2 (Or.inl hs) (fun f hf hfg hv => ?_) n2 0 (fun _ => 0) (by omega) (fun _ => by decide) (fun _ _ => rfl) (by rw [mb_zero (fun _ _ => rfl), mb_v0, Nat.zero_mul])
  rw [h1.2.2.2.2, h2.2.2.2.2] at hv
  refine ev_aload_n (pc := 121) dX7_setProduct_121 rfl ?_
  refine ev_aload_n (pc := 122) dX7_setProduct_122 rfl ?_
  refine ev_getf (pc := 123) dX7_setProduct_123 f_X7_22 (wh_aq ha) rfl ?_
  refine ev_aload_n (pc := 126) dX7_setProduct_126 rfl ?_
  refine ev_getf (pc := 127) dX7_setProduct_127 f_X7_22 (wh_aq hb) rfl ?_
  refine ev_iaddN (pc := 130) dX7_setProduct_130 ?_
  refine ev_callV (pc := 131) (As := [.int (nI (n2 + n3))]) dX7_setProduct_131 cv_X7_18 rfl rfl wh_q rfl ⟨by show 19 + 2 ≤ w; omega, k_trim (by omega) hqd hf (by omega)⟩ rfl rfl (fun r h1 hp => ?_)
  obtain ⟨rfl, rfl⟩ := hp
  rw [Nat.min_eq_left hs]
  exact ev_vret (pc := 134) dX7_setProduct_134 rfl ⟨rfl, f, _, mb_tr_is hf hfg hs hv, rfl⟩
theorem k_digitAt {dd i : Nat} (hd : 1 ≤ dd) (hqd : q ≠ d) (hi : i < 2 ^ 31) : ev_Ca G dd w m_X7_digitAt [.ref q, .int (nI i)] (wh_p h q d n g) 0 0 (ev_ok (fun r h1 => r = some (.int (nI (if i < 72 then g i else 0))) ∧ h1 = wh_p h q d n g)) := by
  obtain ⟨dd, rfl⟩ : ∃ e, dd = e + 1 := ⟨dd - 1, by omega⟩
  refine ⟨by decide +kernel, rfl, ?_⟩
  refine ev_iload_n (pc := 0) dX7_digitAt_0 rfl ?_
  refine ev_if_ltN (pc := 1) (tgt := 19) dX7_digitAt_1 (by decide) (by omega) ?_
  refine ev_iload_n (pc := 4) dX7_digitAt_4 rfl ?_
  refine ev_bipush (pc := 5) (v := nI 72) dX7_digitAt_5 (by decide) ?_
  refine ev_icmp_geN (pc := 7) (tgt := 19) dX7_digitAt_7 (by decide) (by omega) (by omega) (fun c1 => ?_) (fun c1 => ?_)
  · refine ev_iconst (pc := 19) (v := nI 0) dX7_digitAt_19 (by decide) ?_
    exact ev_iret (pc := 20) dX7_digitAt_20 rfl rfl ⟨by rw [if_neg (by omega)], rfl⟩
  · refine ev_aload_n (pc := 10) dX7_digitAt_10 rfl ?_
    refine ev_getf (pc := 11) dX7_digitAt_11 f_X7_9 wh_q rfl ?_
    refine ev_iload_n (pc := 14) dX7_digitAt_14 rfl ?_
    refine wh_ld (pc := 15) dX7_digitAt_15 hqd (by omega) ?_
    refine ev_goto (pc := 16) (tgt := 20) dX7_digitAt_16 (by decide) ?_
    exact ev_iret (pc := 20) dX7_digitAt_20 rfl rfl ⟨by rw [if_pos c1], rfl⟩
theorem l_freeBits (hqd : q ≠ d) (hn0 : 0 < n) (hn : n ≤ 72) {t : Nat} (ht : g (n - 1) = t) (ht0 : 0 < t) (ht1 : t < 1073741824) (hK : ∀ f, f < 30 → 2 ^ (29 - f) ≤ t → t < 2 ^ (30 - f) → K (.inl (some (.int (nI f)))) (wh_p h q d n g)) : ∀ k f, f + k = 30 → t < 2 ^ (30 - f) → ev_J G C w m_X7_freeBits K (2, ev_lf [(0, .ref q), (1, .int (nI f))], [], wh_p h q d n g, c, z)
  | 0, f, e, hv => by
    rw [show 30 - f = 0 by omega] at hv
    omega
  | k + 1, f, e, hv => by
    refine ev_aload_n (pc := 2) dX7_freeBits_2 rfl ?_
    refine ev_getf (pc := 3) dX7_freeBits_3 f_X7_22 wh_q rfl ?_
    refine ev_if_leN (pc := 6) (tgt := 40) dX7_freeBits_6 (by decide) (by omega) (fun c1 => ?_) (fun c1 => ?_)
    · omega
    · refine ev_iload_n (pc := 9) dX7_freeBits_9 rfl ?_
      refine ev_bipush (pc := 10) (v := nI 30) dX7_freeBits_10 (by decide) ?_
      refine ev_icmp_geN (pc := 12) (tgt := 40) dX7_freeBits_12 (by decide) (by omega) (by omega) (fun c2 => ?_) (fun c2 => ?_)
      · omega
      · refine ev_aload_n (pc := 15) dX7_freeBits_15 rfl ?_
        refine ev_getf (pc := 16) dX7_freeBits_16 f_X7_9 wh_q rfl ?_
        refine ev_aload_n (pc := 19) dX7_freeBits_19 rfl ?_
        refine ev_getf (pc := 20) dX7_freeBits_20 f_X7_22 wh_q rfl ?_
        refine ev_iconst (pc := 23) (v := nI 1) dX7_freeBits_23 (by decide) ?_
        refine ev_isubN (pc := 24) dX7_freeBits_24 (by omega) ?_
        refine wh_ld (pc := 25) dX7_freeBits_25 hqd (by omega) ?_
        refine ev_bipush (pc := 26) (v := nI 29) dX7_freeBits_26 (by decide) ?_
        refine ev_iload_n (pc := 28) dX7_freeBits_28 rfl ?_
        refine ev_isubN (pc := 29) dX7_freeBits_29 (by omega) ?_
        rw [ht]
        refine ev_ishr (pc := 30) dX7_freeBits_30 (ev_ti (mi_shr (by omega) (by omega)) ?_)
        have hlt : t / 2 ^ (29 - f) < 2 ^ 31 := Nat.lt_of_le_of_lt (Nat.div_le_self _ _) (by omega)
        refine ev_if_neN (pc := 31) (tgt := 40) dX7_freeBits_31 (by decide) (by omega) (fun c3 => ?_) (fun c3 => ?_)
        · refine ev_iload_n (pc := 40) dX7_freeBits_40 rfl ?_
          refine ev_iret (pc := 41) dX7_freeBits_41 rfl rfl (hK f (by omega) ?_ hv)
          rcases Nat.lt_or_ge t (2 ^ (29 - f)) with x | x
          · rw [Nat.div_eq_of_lt x] at c3; omega
          · exact x
        · refine ev_iincN (pc := 34) dX7_freeBits_34 rfl rfl ?_
          refine ev_goto (pc := 37) (tgt := 2) dX7_freeBits_37 (by decide) ?_
          refine ev_vs [(0, .ref q), (1, .int (nI (f + 1)))] ⟨rfl, rfl, trivial⟩ ?_
          refine l_freeBits hqd hn0 hn ht ht0 ht1 hK k (f + 1) (by omega) ?_
          rw [show 30 - (f + 1) = 29 - f by omega]
          exact Nat.lt_of_div_eq_zero (Nat.pow_pos (by decide)) c3
theorem k_freeBits {dd a : Nat} (hd : 1 ≤ dd) (hqd : q ≠ d) (h1 : mb_is g n a) : ev_Ca G dd w m_X7_freeBits [.ref q] (wh_p h q d n g) 0 0 (ev_ok (fun r h1 => ∃ f, r = some (.int (nI f)) ∧ h1 = wh_p h q d n g ∧ ((n = 0 ∧ f = 0) ∨ (0 < n ∧ f < 30 ∧ 2 ^ (29 - f) ≤ g (n - 1) ∧ g (n - 1) < 2 ^ (30 - f))))) := by
  obtain ⟨dd, rfl⟩ : ∃ e, dd = e + 1 := ⟨dd - 1, by omega⟩
  refine ⟨by decide +kernel, rfl, ?_⟩
  have hn := h1.2.2.2.1
  refine ev_iconst (pc := 0) (v := nI 0) dX7_freeBits_0 (by decide) ?_
  refine ev_istore_n (pc := 1) dX7_freeBits_1 rfl ?_
  rcases Nat.eq_zero_or_pos n with x | x
  · refine ev_aload_n (pc := 2) dX7_freeBits_2 rfl ?_
    refine ev_getf (pc := 3) dX7_freeBits_3 f_X7_22 wh_q rfl ?_
    refine ev_if_leN (pc := 6) (tgt := 40) dX7_freeBits_6 (by decide) (by omega) (fun c1 => ?_) (fun c1 => ?_)
    · refine ev_iload_n (pc := 40) dX7_freeBits_40 rfl ?_
      exact ev_iret (pc := 41) dX7_freeBits_41 rfl rfl ⟨0, rfl, rfl, Or.inl ⟨x, rfl⟩⟩
    · omega
  · refine ev_vs [(0, .ref q), (1, .int (nI 0))] ⟨rfl, rfl, trivial⟩ ?_
    exact l_freeBits hqd x hn rfl (Nat.pos_of_ne_zero (h1.2.2.1 x)) (h1.1 _) (fun f a b e => ⟨f, rfl, rfl, Or.inr ⟨x, a, b, e⟩⟩) 30 0 (by omega) (h1.1 _)
def mb_bits (v : Nat) : Nat := if v = 0 then 0 else Nat.log2 v + 1
theorem mb_bits_of {v k : Nat} (h1 : 2 ^ k ≤ v) (h2 : v < 2 ^ (k + 1)) : mb_bits v = k + 1 := by
  have h0 : v ≠ 0 := by
    have : 0 < 2 ^ k := Nat.pow_pos (by decide)
    omega
  unfold mb_bits
  rw [if_neg h0]
  have h3 := (Nat.log2_lt h0).mpr h2
  have h4 := (Nat.le_log2 h0).mpr h1
  omega
theorem mb_bits_top {g : Nat → Nat} {n v f : Nat} (h : mb_is g n v) (hn : 0 < n) (hf : f < 30) (h1 : 2 ^ (29 - f) ≤ g (n - 1)) (h2 : g (n - 1) < 2 ^ (30 - f)) : mb_bits v = n * 30 - f := by
  obtain ⟨m, rfl⟩ : ∃ m, n = m + 1 := ⟨n - 1, by omega⟩
  obtain ⟨ha, -, -, -, hv⟩ := h
  rw [mb_vs] at hv
  have h3 := mb_lt (g := g) (n := m) (fun j _ => ha j)
  have h4 : 1073741824 ^ m = 2 ^ (30 * m) := by rw [show (1073741824 : Nat) = 2 ^ 30 by decide, ← Nat.pow_mul]
  rw [h4] at hv h3
  simp only [Nat.add_sub_cancel] at h1 h2
  have e1 : 2 ^ (30 * m + (29 - f)) ≤ v := by
    rw [Nat.pow_add, Nat.mul_comm]
    have := Nat.mul_le_mul_right (2 ^ (30 * m)) h1
    omega
  have e2 : v < 2 ^ (30 * m + (29 - f) + 1) := by
    rw [show 30 * m + (29 - f) + 1 = (30 - f) + 30 * m by omega, Nat.pow_add]
    have := Nat.mul_le_mul_right (2 ^ (30 * m)) (show g m + 1 ≤ 2 ^ (30 - f) from h2)
    rw [Nat.add_mul] at this
    omega
  rw [mb_bits_of e1 e2]
  omega
theorem k_binaryDigits {dd a : Nat} (hd : 2 ≤ dd) (hw : 21 ≤ w) (hqd : q ≠ d) (h1 : mb_is g n a) : ev_Ca G dd w m_X7_binaryDigits [.ref q] (wh_p h q d n g) 0 0 (ev_ok (fun r h1 => r = some (.int (nI (mb_bits a))) ∧ h1 = wh_p h q d n g)) := by
  obtain ⟨dd, rfl⟩ : ∃ e, dd = e + 1 := ⟨dd - 1, by omega⟩
  refine ⟨by decide +kernel, rfl, ?_⟩
  have hn := h1.2.2.2.1
  refine ev_aload_n (pc := 0) dX7_binaryDigits_0 rfl ?_
  refine ev_getf (pc := 1) dX7_binaryDigits_1 f_X7_22 wh_q rfl ?_
  refine ev_bipush (pc := 4) (v := nI 30) dX7_binaryDigits_4 (by decide) ?_
  refine ev_imulN (pc := 6) dX7_binaryDigits_6 ?_
  refine ev_aload_n (pc := 7) dX7_binaryDigits_7 rfl ?_
  refine ev_callV (pc := 8) (As := []) dX7_binaryDigits_8 cv_X7_38 rfl rfl wh_q rfl ⟨by show 19 + 2 ≤ w; omega, k_freeBits (by omega) hqd h1⟩ rfl rfl (fun r h1 hp => ?_)
  obtain ⟨f, rfl, rfl, hf⟩ := hp
  refine ev_isubN (pc := 11) dX7_binaryDigits_11 (by omega) ?_
  refine ev_iret (pc := 12) dX7_binaryDigits_12 rfl rfl ⟨?_, rfl⟩
  rcases hf with ⟨e1, e2⟩ | ⟨e1, e2, e3, e4⟩
  · have : a = 0 := (mb_is_z h1).mp e1
    rw [this, e1, e2]; rfl
  · rw [mb_bits_top h1 e1 e2 e3 e4]
end WH4
end
section
/-! Whole: addAt, subtractAt, guessDigit -/
section EVLC
variable {G : ev_G} {C : ev_L} {w : Nat} {M : ev_M} {K : ev_K} {pc : Nat} {L : ev_V} {st : List Value} {h : ev_H} {c z : Nat}
theorem lc_i (x y : Int64) : (0 < lg_cmp x y ↔ y < x) ∧ (0 ≤ lg_cmp x y ↔ y ≤ x) ∧ (lg_cmp x y < 0 ↔ x < y) ∧ (lg_cmp x y ≤ 0 ↔ x ≤ y) ∧ (lg_cmp x y = 0 ↔ x = y) := by
  unfold lg_cmp
  by_cases h1 : y < x
  · rw [if_pos h1]
    have h2 : ¬ x < y := fun e => Int64.lt_irrefl (Int64.lt_trans h1 e)
    have h3 : ¬ x = y := fun e => by rw [e] at h1; exact Int64.lt_irrefl h1
    refine ⟨⟨fun _ => h1, fun _ => by decide⟩, ⟨fun _ => Int64.le_of_lt h1, fun _ => by decide⟩, ⟨fun e => absurd e (by decide), fun e => absurd e h2⟩, ⟨fun e => absurd e (by decide), fun e => absurd h1 (Int64.not_lt.mpr e)⟩, ⟨fun e => absurd e (by decide), fun e => absurd e h3⟩⟩
  · rw [if_neg h1]
    by_cases h2 : x = y
    · rw [if_pos h2]
      subst h2
      refine ⟨⟨fun e => absurd e (by decide), fun e => absurd e h1⟩, ⟨fun _ => Int64.le_refl x, fun _ => by decide⟩, ⟨fun e => absurd e (by decide), fun e => absurd e h1⟩, ⟨fun _ => Int64.le_refl x, fun _ => by decide⟩, ⟨fun _ => rfl, fun _ => rfl⟩⟩
    · rw [if_neg h2]
      have h3 : x < y := Int64.lt_of_le_of_ne (Int64.not_lt.mp h1) h2
      refine ⟨⟨fun e => absurd e (by decide), fun e => absurd e h1⟩, ⟨fun e => absurd e (by decide), fun e => absurd h3 (Int64.not_lt.mpr e)⟩, ⟨fun _ => h3, fun _ => by decide⟩, ⟨fun _ => Int64.le_of_lt h3, fun _ => by decide⟩, ⟨fun e => absurd e (by decide), fun e => absurd e h2⟩⟩
theorem ev_lc_gt {off : Int} {tgt x y : Nat} (hd : decode M.2.1 pc = .ok (.lcmp, 1)) (hd2 : decode M.2.1 (pc + 1) = .ok (.ifCond .gt off, 3)) (ht : ((pc + 1 : Nat) : Int) + off = (tgt : Int)) (hx : x < 2 ^ 63) (hy : y < 2 ^ 63) (kt : y < x → ev_J G C w M K (tgt, L, st, h, c, z)) (kf : x ≤ y → ev_J G C w M K (pc + 1 + 3, L, st, h, c, z)) : ev_J G C w M K (pc, L, .long (lN y) :: .long (lN x) :: st, h, c, z) := ev_lcmp hd (ev_if_gt hd2 ht (fun q => kt (((lc_i (lN x) (lN y)).1.trans (pk_lLT hy hx)).mp q)) (fun q => kf (Nat.not_lt.mp (fun e => q (((lc_i (lN x) (lN y)).1.trans (pk_lLT hy hx)).mpr e)))))
theorem ev_lc_ge {off : Int} {tgt x y : Nat} (hd : decode M.2.1 pc = .ok (.lcmp, 1)) (hd2 : decode M.2.1 (pc + 1) = .ok (.ifCond .ge off, 3)) (ht : ((pc + 1 : Nat) : Int) + off = (tgt : Int)) (hx : x < 2 ^ 63) (hy : y < 2 ^ 63) (kt : y ≤ x → ev_J G C w M K (tgt, L, st, h, c, z)) (kf : x < y → ev_J G C w M K (pc + 1 + 3, L, st, h, c, z)) : ev_J G C w M K (pc, L, .long (lN y) :: .long (lN x) :: st, h, c, z) := ev_lcmp hd (ev_if_ge hd2 ht (fun q => kt (((lc_i (lN x) (lN y)).2.1.trans (pk_lLE hy hx)).mp q)) (fun q => kf (Nat.not_le.mp (fun e => q (((lc_i (lN x) (lN y)).2.1.trans (pk_lLE hy hx)).mpr e)))))
theorem ev_lc_lt {off : Int} {tgt x y : Nat} (hd : decode M.2.1 pc = .ok (.lcmp, 1)) (hd2 : decode M.2.1 (pc + 1) = .ok (.ifCond .lt off, 3)) (ht : ((pc + 1 : Nat) : Int) + off = (tgt : Int)) (hx : x < 2 ^ 63) (hy : y < 2 ^ 63) (kt : x < y → ev_J G C w M K (tgt, L, st, h, c, z)) (kf : y ≤ x → ev_J G C w M K (pc + 1 + 3, L, st, h, c, z)) : ev_J G C w M K (pc, L, .long (lN y) :: .long (lN x) :: st, h, c, z) := ev_lcmp hd (ev_if_lt hd2 ht (fun q => kt (((lc_i (lN x) (lN y)).2.2.1.trans (pk_lLT hx hy)).mp q)) (fun q => kf (Nat.not_lt.mp (fun e => q (((lc_i (lN x) (lN y)).2.2.1.trans (pk_lLT hx hy)).mpr e)))))
theorem ev_lc_le {off : Int} {tgt x y : Nat} (hd : decode M.2.1 pc = .ok (.lcmp, 1)) (hd2 : decode M.2.1 (pc + 1) = .ok (.ifCond .le off, 3)) (ht : ((pc + 1 : Nat) : Int) + off = (tgt : Int)) (hx : x < 2 ^ 63) (hy : y < 2 ^ 63) (kt : x ≤ y → ev_J G C w M K (tgt, L, st, h, c, z)) (kf : y < x → ev_J G C w M K (pc + 1 + 3, L, st, h, c, z)) : ev_J G C w M K (pc, L, .long (lN y) :: .long (lN x) :: st, h, c, z) := ev_lcmp hd (ev_if_le hd2 ht (fun q => kt (((lc_i (lN x) (lN y)).2.2.2.1.trans (pk_lLE hx hy)).mp q)) (fun q => kf (Nat.not_le.mp (fun e => q (((lc_i (lN x) (lN y)).2.2.2.1.trans (pk_lLE hx hy)).mpr e)))))
theorem ev_lc_eq {off : Int} {tgt x y : Nat} (hd : decode M.2.1 pc = .ok (.lcmp, 1)) (hd2 : decode M.2.1 (pc + 1) = .ok (.ifCond .eq off, 3)) (ht : ((pc + 1 : Nat) : Int) + off = (tgt : Int)) (hx : x < 2 ^ 63) (hy : y < 2 ^ 63) (kt : x = y → ev_J G C w M K (tgt, L, st, h, c, z)) (kf : ¬ x = y → ev_J G C w M K (pc + 1 + 3, L, st, h, c, z)) : ev_J G C w M K (pc, L, .long (lN y) :: .long (lN x) :: st, h, c, z) := ev_lcmp hd (ev_if_eq hd2 ht (fun q => kt (((lc_i (lN x) (lN y)).2.2.2.2.trans (pk_lEQ hx hy)).mp q)) (fun q => kf (fun e => q (((lc_i (lN x) (lN y)).2.2.2.2.trans (pk_lEQ hx hy)).mpr e))))
theorem ev_lc_ne {off : Int} {tgt x y : Nat} (hd : decode M.2.1 pc = .ok (.lcmp, 1)) (hd2 : decode M.2.1 (pc + 1) = .ok (.ifCond .ne off, 3)) (ht : ((pc + 1 : Nat) : Int) + off = (tgt : Int)) (hx : x < 2 ^ 63) (hy : y < 2 ^ 63) (kt : ¬ x = y → ev_J G C w M K (tgt, L, st, h, c, z)) (kf : x = y → ev_J G C w M K (pc + 1 + 3, L, st, h, c, z)) : ev_J G C w M K (pc, L, .long (lN y) :: .long (lN x) :: st, h, c, z) := ev_lcmp hd (ev_if_ne hd2 ht (fun q => kt (fun e => q (((lc_i (lN x) (lN y)).2.2.2.2.trans (pk_lEQ hx hy)).mpr e))) (fun q => kf (((lc_i (lN x) (lN y)).2.2.2.2.trans (pk_lEQ hx hy)).mp q)))
end EVLC
/-- longs that may be below 0 -/
theorem lz_n (n : Nat) : lN n = Int64.ofInt n := Int64.ofInt_eq_ofNat.symm
theorem lz_u (v : Int) : Int64.ofInt v = lN (v % 18446744073709551616).toNat := by
  apply Int64.toBitVec_inj.mp
  rw [wb_tb]
  show BitVec.ofInt 64 v = _
  apply BitVec.eq_of_toNat_eq
  rw [BitVec.toNat_ofInt, BitVec.toNat_ofNat]
  have h0 := Int.emod_nonneg v (show (18446744073709551616 : Int) ≠ 0 by decide)
  have h1 := Int.emod_lt_of_pos v (show (0 : Int) < 18446744073709551616 by decide)
  show (v % 18446744073709551616).toNat = _
  omega
theorem lz_mask (v : Int) : Int64.ofInt v &&& lN 1073741823 = lN (v % 1073741824).toNat := by
  have h0 := Int.emod_nonneg v (show (18446744073709551616 : Int) ≠ 0 by decide)
  have h1 := Int.emod_lt_of_pos v (show (0 : Int) < 18446744073709551616 by decide)
  rw [lz_u, ml_mask (by omega)]
  congr 1
  omega
theorem lz_shr {v : Int} (h1 : -9223372036854775808 ≤ v) (h2 : v < 9223372036854775808) : Int64.ofInt v >>> ((nI 30).toInt64 &&& 63) = Int64.ofInt (v / 1073741824) := by
  rw [wb_c 30 (by decide)]
  have hD : ((lN 30).toBitVec.smod 64).toNat = 30 := by decide
  apply Int64.toInt_inj.mp
  rw [show (Int64.ofInt v >>> lN 30).toInt = (Int64.ofInt v).toInt >>> 30 by
    rw [← Int64.toInt_toBitVec, Int64.toBitVec_shiftRight, BitVec.toInt_sshiftRight', hD, Int64.toInt_toBitVec]]
  rw [Int64.toInt_ofInt_of_le (by omega) (by omega), Int64.toInt_ofInt_of_le (by omega) (by omega), Int.shiftRight_eq_div_pow]
  rfl
theorem lz_lt {v : Int} (h1 : -9223372036854775808 ≤ v) (h2 : v < 9223372036854775808) : (0 ≤ lg_cmp (Int64.ofInt v) (lN 0)) ↔ 0 ≤ v := by
  rw [(lc_i _ _).2.1, Int64.le_iff_toInt_le, Int64.toInt_ofInt_of_le (by omega) (by omega)]
  rfl
/-- the digits from a place on, one of them changed -/
theorem mb_shu (f : Nat → Nat) (at_ j x : Nat) : (fun k => va_up f (at_ + j) x (at_ + k)) = va_up (fun k => f (at_ + k)) j x := by
  funext k
  unfold va_up
  by_cases e : k = j
  · rw [if_pos (by omega), if_pos e]
  · rw [if_neg (by omega), if_neg e]
/-- a step of taking away t times g2 -/
theorem mb_sub1 {F F0 g2 : Nat → Nat} {j t cy x cy2 : Nat} (hj : F j = F0 j) (hx : F j + 1073741824 * cy2 = x + (g2 j * t + cy)) (e : mb_v F j + t * mb_v g2 j = mb_v F0 j + cy * 1073741824 ^ j) : mb_v (va_up F j x) (j + 1) + t * mb_v g2 (j + 1) = mb_v F0 (j + 1) + cy2 * 1073741824 ^ (j + 1) := by
  rw [mb_vs, mb_vs, mb_vs, mb_upo (Nat.le_refl j), va_up_self, mb_pw, Nat.mul_add]
  have h1 : (F j + 1073741824 * cy2) * 1073741824 ^ j = (x + (g2 j * t + cy)) * 1073741824 ^ j := by rw [hx]
  have h2 : (F j + 1073741824 * cy2) * 1073741824 ^ j = F0 j * 1073741824 ^ j + cy2 * (1073741824 ^ j * 1073741824) := by
    rw [hj, Nat.add_mul, Nat.mul_comm 1073741824 cy2, Nat.mul_assoc, Nat.mul_comm 1073741824]
  have h3 : (x + (g2 j * t + cy)) * 1073741824 ^ j = x * 1073741824 ^ j + t * (g2 j * 1073741824 ^ j) + cy * 1073741824 ^ j := by
    rw [Nat.add_mul, Nat.add_mul, Nat.mul_comm (g2 j) t, Nat.mul_assoc, Nat.add_assoc]
  omega
section WH5
variable {G : ev_G} {C : ev_L} {w : Nat} {K : ev_K} {h : ev_H} {q d n c z q2 d2 n2 : Nat} {g g2 : Nat → Nat}
theorem l_addAt (hqd : q ≠ d) (a : wh_a h q d q2 d2 n2 g2) (hg2 : ∀ j, g2 j < 1073741824) {at_ : Nat} (hs : at_ + n2 ≤ 71)
    (hK : ∀ f cy, (∀ j, f j < 1073741824) → (∀ j, j < at_ ∨ at_ + n2 ≤ j → f j = g j) → cy ≤ 1 → mb_v (fun k => f (at_ + k)) n2 + cy * 1073741824 ^ n2 = mb_v (fun k => g (at_ + k)) n2 + mb_v g2 n2 → ev_J G C w m_X7_addAt K (70, ev_lf [(0, .ref q), (3, .int (nI cy)), (4, .int (nI (at_ + n2)))], [], wh_p h q d n f, c, z)) :
    ∀ k j f cy, j + k = n2 → (∀ i, f i < 1073741824) → (∀ i, i < at_ ∨ at_ + j ≤ i → f i = g i) → cy ≤ 1 → mb_v (fun k => f (at_ + k)) j + cy * 1073741824 ^ j = mb_v (fun k => g (at_ + k)) j + mb_v g2 j → ev_J G C w m_X7_addAt K (18, ev_lf [(0, .ref q), (1, .int (nI at_)), (2, .ref q2), (3, .int (nI cy)), (4, .int (nI (at_ + n2))), (5, .int (nI (at_ + j)))], [], wh_p h q d n f, c, z)
  | 0, j, f, cy, e, hf, hfg, hcy, hv => by
    refine ev_iload (pc := 18) dX7_addAt_18 rfl ?_
    refine ev_iload (pc := 20) dX7_addAt_20 rfl ?_
    refine ev_icmp_geN (pc := 22) (tgt := 70) dX7_addAt_22 (by decide) (by omega) (by omega) (fun c1 => ?_) (fun c1 => ?_)
    · have e2 : j = n2 := by omega
      subst e2
      refine ev_vs [(0, .ref q), (3, .int (nI cy)), (4, .int (nI (at_ + j)))] ⟨rfl, rfl, rfl, trivial⟩ ?_
      exact hK f cy hf hfg hcy hv
    · omega
  | k + 1, j, f, cy, e, hf, hfg, hcy, hv => by
    have h1 := hf (at_ + j)
    have h2 := hg2 j
    refine ev_iload (pc := 18) dX7_addAt_18 rfl ?_
    refine ev_iload (pc := 20) dX7_addAt_20 rfl ?_
    refine ev_icmp_geN (pc := 22) (tgt := 70) dX7_addAt_22 (by decide) (by omega) (by omega) (fun c1 => ?_) (fun c1 => ?_)
    · omega
    · refine ev_aload_n (pc := 25) dX7_addAt_25 rfl ?_
      refine ev_getf (pc := 26) dX7_addAt_26 f_X7_9 wh_q rfl ?_
      refine ev_iload (pc := 29) dX7_addAt_29 rfl ?_
      refine wh_ld (pc := 31) dX7_addAt_31 hqd (by omega) ?_
      refine ev_aload_n (pc := 32) dX7_addAt_32 rfl ?_
      refine ev_getf (pc := 33) dX7_addAt_33 f_X7_9 (wh_aq a) rfl ?_
      refine ev_iload (pc := 36) dX7_addAt_36 rfl ?_
      refine ev_iload_n (pc := 38) dX7_addAt_38 rfl ?_
      refine ev_isubN (pc := 39) dX7_addAt_39 (by omega) ?_
      rw [show at_ + j - at_ = j by omega]
      refine ev_iaN (pc := 40) dX7_addAt_40 (wh_ad a) (by omega) (by omega) ?_
      refine ev_iaddN (pc := 41) dX7_addAt_41 ?_
      refine ev_iload_n (pc := 42) dX7_addAt_42 rfl ?_
      refine ev_iaddN (pc := 43) dX7_addAt_43 ?_
      refine ev_istore (pc := 44) dX7_addAt_44 rfl ?_
      refine ev_aload_n (pc := 46) dX7_addAt_46 rfl ?_
      refine ev_getf (pc := 47) dX7_addAt_47 f_X7_9 wh_q rfl ?_
      refine ev_iload (pc := 50) dX7_addAt_50 rfl ?_
      refine ev_iload (pc := 52) dX7_addAt_52 rfl ?_
      refine ev_ldc (pc := 54) dX7_addAt_54 k_X7_50 ?_
      refine ev_iandN (pc := 56) dX7_addAt_56 (by omega) ?_
      refine wh_sd (pc := 57) dX7_addAt_57 hqd (by omega) ?_
      refine ev_iload (pc := 58) dX7_addAt_58 rfl ?_
      refine ev_bipush (pc := 60) (v := nI 30) dX7_addAt_60 (by decide) ?_
      refine ev_iushrN (pc := 62) dX7_addAt_62 (by omega) ?_
      refine ev_istore_n (pc := 63) dX7_addAt_63 rfl ?_
      refine ev_iincN (pc := 64) dX7_addAt_64 rfl rfl ?_
      refine ev_goto (pc := 67) (tgt := 18) dX7_addAt_67 (by decide) ?_
      refine ev_vs [(0, .ref q), (1, .int (nI at_)), (2, .ref q2), (3, .int (nI ((f (at_ + j) + g2 j + cy) / 1073741824))), (4, .int (nI (at_ + n2))), (5, .int (nI (at_ + (j + 1))))] ⟨rfl, rfl, rfl, rfl, rfl, rfl, trivial⟩ ?_
      refine l_addAt hqd a hg2 hs hK k (j + 1) _ _ (by omega) (mb_upb hf (Nat.mod_lt _ (by decide))) (fun i hi => by rw [va_up_ne _ _ (by omega)]; exact hfg i (by omega)) (by omega) ?_
      rw [mb_shu]
      exact mb_add1 (f := fun k => f (at_ + k)) (g := fun k => g (at_ + k)) (hfg _ (Or.inr (Nat.le_refl _))) hv
theorem k_addAt {dd at_ : Nat} (hd : 1 ≤ dd) (hw : 23 ≤ w) (hqd : q ≠ d) (a : wh_a h q d q2 d2 n2 g2) (hg : ∀ j, g j < 1073741824) (hg2 : ∀ j, g2 j < 1073741824) (hs : at_ + n2 ≤ 71) : ev_Ca G dd w m_X7_addAt [.ref q, .int (nI at_), .ref q2] (wh_p h q d n g) 0 0 (ev_ok (fun r h1 => r = none ∧ ∃ f cy, h1 = wh_p h q d n f ∧ (∀ j, f j < 1073741824) ∧ (∀ j, j < at_ ∨ at_ + n2 < j → f j = g j) ∧ cy ≤ 1 ∧ mb_v (fun k => f (at_ + k)) (n2 + 1) + cy * 1073741824 ^ (n2 + 1) = mb_v (fun k => g (at_ + k)) (n2 + 1) + mb_v g2 n2)) := by
  obtain ⟨dd, rfl⟩ : ∃ e, dd = e + 1 := ⟨dd - 1, by omega⟩
  refine ⟨by decide +kernel, rfl, ?_⟩
  refine ev_iconst (pc := 0) (v := nI 0) dX7_addAt_0 (by decide) ?_
  refine ev_istore_n (pc := 1) dX7_addAt_1 rfl ?_
  refine ev_iload_n (pc := 2) dX7_addAt_2 rfl ?_
  refine ev_aload_n (pc := 3) dX7_addAt_3 rfl ?_
  refine ev_getf (pc := 4) dX7_addAt_4 f_X7_22 (wh_aq a) rfl ?_
  refine ev_iaddN (pc := 7) dX7_addAt_7 ?_
  refine ev_bipush (pc := 8) (v := nI 71) dX7_addAt_8 (by decide) ?_
  refine ev_mmin (pc := 10) dX7_addAt_10 mx_X7_47 rfl (by omega) (ev_ti (mi_min (by omega) (by omega)) ?_)
  refine ev_istore (pc := 13) dX7_addAt_13 rfl ?_
  refine ev_iload_n (pc := 15) dX7_addAt_15 rfl ?_
  refine ev_istore (pc := 16) dX7_addAt_16 rfl ?_
  rw [Nat.min_eq_left hs]
  refine ev_vs [(0, .ref q), (1, .int (nI at_)), (2, .ref q2), (3, .int (nI 0)), (4, .int (nI (at_ + n2))), (5, .int (nI (at_ + 0)))] ⟨rfl, rfl, rfl, rfl, rfl, rfl, trivial⟩ ?_
  refine l_addAt hqd a hg2 hs (fun f cy hf hfg hcy hv => ?_) n2 0 g 0 (by omega) hg (fun _ _ => rfl) (by omega) (by simp [mb_v0])
  have h1 := hf (at_ + n2)
  refine ev_aload_n (pc := 70) dX7_addAt_70 rfl ?_
  refine ev_getf (pc := 71) dX7_addAt_71 f_X7_9 wh_q rfl ?_
  refine ev_iload (pc := 74) dX7_addAt_74 rfl ?_
  refine ev_aload_n (pc := 76) dX7_addAt_76 rfl ?_
  refine ev_getf (pc := 77) dX7_addAt_77 f_X7_9 wh_q rfl ?_
  refine ev_iload (pc := 80) dX7_addAt_80 rfl ?_
  refine wh_ld (pc := 82) dX7_addAt_82 hqd (by omega) ?_
  refine ev_iload_n (pc := 83) dX7_addAt_83 rfl ?_
  refine ev_iaddN (pc := 84) dX7_addAt_84 ?_
  refine ev_ldc (pc := 85) dX7_addAt_85 k_X7_50 ?_
  refine ev_iandN (pc := 87) dX7_addAt_87 (by omega) ?_
  refine wh_sd (pc := 88) dX7_addAt_88 hqd (by omega) ?_
  refine ev_vret (pc := 89) dX7_addAt_89 rfl ⟨rfl, _, (f (at_ + n2) + cy) / 1073741824, rfl, mb_upb hf (Nat.mod_lt _ (by decide)), fun j hj => ?_, by omega, ?_⟩
  · rw [va_up_ne _ _ (by omega)]; exact hfg j (by omega)
  · rw [mb_shu, mb_vs, mb_vs, mb_upo (Nat.le_refl n2), va_up_self, mb_pw]
    have h2 := mb_cy (f (at_ + n2) + cy) (1073741824 ^ n2)
    have h3 : (f (at_ + n2) + cy) * 1073741824 ^ n2 = g (at_ + n2) * 1073741824 ^ n2 + cy * 1073741824 ^ n2 := by rw [hfg _ (Or.inr (Nat.le_refl _)), Nat.add_mul]
    omega
theorem l_subAt (hqd : q ≠ d) (a : wh_a h q d q2 d2 n2 g2) (hg2 : ∀ j, g2 j < 1073741824) {at_ t : Nat} (ht : t < 1073741824) (hs : at_ + n2 ≤ 71)
    (hK : ∀ f cy, (∀ j, f j < 1073741824) → (∀ j, j < at_ ∨ at_ + n2 ≤ j → f j = g j) → cy < 1073741824 → mb_v (fun k => f (at_ + k)) n2 + t * mb_v g2 n2 = mb_v (fun k => g (at_ + k)) n2 + cy * 1073741824 ^ n2 → ev_J G C w m_X7_subtractAt K (80, ev_lf [(0, .ref q), (4, .long (Int64.ofInt (-(cy : Int)))), (6, .int (nI (at_ + n2)))], [], wh_p h q d n f, c, z)) :
    ∀ k j f cy, j + k = n2 → (∀ i, f i < 1073741824) → (∀ i, i < at_ ∨ at_ + j ≤ i → f i = g i) → cy < 1073741824 → mb_v (fun k => f (at_ + k)) j + t * mb_v g2 j = mb_v (fun k => g (at_ + k)) j + cy * 1073741824 ^ j → ev_J G C w m_X7_subtractAt K (19, ev_lf [(0, .ref q), (1, .int (nI at_)), (2, .ref q2), (3, .int (nI t)), (4, .long (Int64.ofInt (-(cy : Int)))), (6, .int (nI (at_ + n2))), (7, .int (nI (at_ + j)))], [], wh_p h q d n f, c, z)
  | 0, j, f, cy, e, hf, hfg, hcy, hv => by
    refine ev_iload (pc := 19) dX7_subtractAt_19 rfl ?_
    refine ev_iload (pc := 21) dX7_subtractAt_21 rfl ?_
    refine ev_icmp_geN (pc := 23) (tgt := 80) dX7_subtractAt_23 (by decide) (by omega) (by omega) (fun c1 => ?_) (fun c1 => ?_)
    · have e2 : j = n2 := by omega
      subst e2
      refine ev_vs [(0, .ref q), (4, .long (Int64.ofInt (-(cy : Int)))), (6, .int (nI (at_ + j)))] ⟨rfl, rfl, rfl, trivial⟩ ?_
      exact hK f cy hf hfg hcy hv
    · omega
  | k + 1, j, f, cy, e, hf, hfg, hcy, hv => by
    have h1 := hf (at_ + j)
    have h2 := hg2 j
    have h3 : g2 j * t ≤ 1073741823 * 1073741823 := Nat.mul_le_mul (by omega) (by omega)
    refine ev_iload (pc := 19) dX7_subtractAt_19 rfl ?_
    refine ev_iload (pc := 21) dX7_subtractAt_21 rfl ?_
    refine ev_icmp_geN (pc := 23) (tgt := 80) dX7_subtractAt_23 (by decide) (by omega) (by omega) (fun c1 => ?_) (fun c1 => ?_)
    · omega
    · refine ev_aload_n (pc := 26) dX7_subtractAt_26 rfl ?_
      refine ev_getf (pc := 27) dX7_subtractAt_27 f_X7_9 wh_q rfl ?_
      refine ev_iload (pc := 30) dX7_subtractAt_30 rfl ?_
      refine wh_ld (pc := 32) dX7_subtractAt_32 hqd (by omega) ?_
      refine ev_i2lN (pc := 33) dX7_subtractAt_33 (by omega) ?_
      refine ev_aload_n (pc := 34) dX7_subtractAt_34 rfl ?_
      refine ev_getf (pc := 35) dX7_subtractAt_35 f_X7_9 (wh_aq a) rfl ?_
      refine ev_iload (pc := 38) dX7_subtractAt_38 rfl ?_
      refine ev_iload_n (pc := 40) dX7_subtractAt_40 rfl ?_
      refine ev_isubN (pc := 41) dX7_subtractAt_41 (by omega) ?_
      rw [show at_ + j - at_ = j by omega]
      refine ev_iaN (pc := 42) dX7_subtractAt_42 (wh_ad a) (by omega) (by omega) ?_
      refine ev_i2lN (pc := 43) dX7_subtractAt_43 (by omega) ?_
      refine ev_iload_n (pc := 44) dX7_subtractAt_44 rfl ?_
      refine ev_i2lN (pc := 45) dX7_subtractAt_45 (by omega) ?_
      refine ev_lmulN (pc := 46) dX7_subtractAt_46 ?_
      obtain ⟨part, hpart⟩ : ∃ part : Int, part = (f (at_ + j) : Int) - (g2 j * t : Nat) + (-(cy : Int)) := ⟨_, rfl⟩
      refine ev_lsub (pc := 47) dX7_subtractAt_47 ?_
      refine ev_lload (pc := 48) dX7_subtractAt_48 rfl ?_
      refine ev_ladd (pc := 50) dX7_subtractAt_50 ?_
      refine ev_tl (y := Int64.ofInt part) (by rw [hpart, lz_n, lz_n, Int64.ofInt_add, Int64.ofInt_sub]) ?_
      refine ev_lstore (pc := 51) dX7_subtractAt_51 rfl ?_
      refine ev_aload_n (pc := 53) dX7_subtractAt_53 rfl ?_
      refine ev_getf (pc := 54) dX7_subtractAt_54 f_X7_9 wh_q rfl ?_
      refine ev_iload (pc := 57) dX7_subtractAt_57 rfl ?_
      refine ev_lload (pc := 59) dX7_subtractAt_59 rfl ?_
      refine ev_ldc2 (pc := 61) dX7_subtractAt_61 k_X7_16 ?_
      refine ev_land (pc := 64) dX7_subtractAt_64 (ev_tl (lz_mask part) ?_)
      obtain ⟨x, hx⟩ : ∃ x : Nat, x = (part % 1073741824).toNat := ⟨_, rfl⟩
      rw [← hx]
      refine ev_l2iN (pc := 65) dX7_subtractAt_65 ?_
      refine wh_sd (pc := 66) dX7_subtractAt_66 hqd (by omega) ?_
      refine ev_lload (pc := 67) dX7_subtractAt_67 rfl ?_
      refine ev_bipush (pc := 69) (v := nI 30) dX7_subtractAt_69 (by decide) ?_
      refine ev_lshr (pc := 71) dX7_subtractAt_71 (ev_tl (lz_shr (by omega) (by omega)) ?_)
      obtain ⟨cy2, hcy2⟩ : ∃ cy2 : Nat, part / 1073741824 = -(cy2 : Int) := ⟨(-(part / 1073741824)).toNat, by omega⟩
      rw [hcy2]
      refine ev_lstore (pc := 72) dX7_subtractAt_72 rfl ?_
      refine ev_iincN (pc := 74) dX7_subtractAt_74 rfl rfl ?_
      refine ev_goto (pc := 77) (tgt := 19) dX7_subtractAt_77 (by decide) ?_
      refine ev_vs [(0, .ref q), (1, .int (nI at_)), (2, .ref q2), (3, .int (nI t)), (4, .long (Int64.ofInt (-(cy2 : Int)))), (6, .int (nI (at_ + n2))), (7, .int (nI (at_ + (j + 1))))] ⟨rfl, rfl, rfl, rfl, rfl, rfl, rfl, trivial⟩ ?_
      refine l_subAt hqd a hg2 ht hs hK k (j + 1) _ _ (by omega) (mb_upb hf (by omega)) (fun i hi => by rw [va_up_ne _ _ (by omega)]; exact hfg i (by omega)) (by omega) ?_
      rw [mb_shu]
      exact mb_sub1 (F := fun k => f (at_ + k)) (F0 := fun k => g (at_ + k)) (cy := cy) (hfg _ (Or.inr (Nat.le_refl _))) (by show f (at_ + j) + _ = _; omega) hv
theorem k_subtractAt {dd at_ t : Nat} (hd : 1 ≤ dd) (hw : 23 ≤ w) (hqd : q ≠ d) (a : wh_a h q d q2 d2 n2 g2) (hg : ∀ j, g j < 1073741824) (hg2 : ∀ j, g2 j < 1073741824) (ht : t < 1073741824) (hs : at_ + n2 ≤ 71) : ev_Ca G dd w m_X7_subtractAt [.ref q, .int (nI at_), .ref q2, .int (nI t)] (wh_p h q d n g) 0 0 (ev_ok (fun r h1 => ∃ f s, r = some (.int (nI s)) ∧ h1 = wh_p h q d n f ∧ (∀ j, f j < 1073741824) ∧ (∀ j, j < at_ ∨ at_ + n2 < j → f j = g j) ∧ s ≤ 1 ∧ mb_v (fun k => f (at_ + k)) (n2 + 1) + t * mb_v g2 n2 = mb_v (fun k => g (at_ + k)) (n2 + 1) + s * 1073741824 ^ (n2 + 1))) := by
  obtain ⟨dd, rfl⟩ : ∃ e, dd = e + 1 := ⟨dd - 1, by omega⟩
  refine ⟨by decide +kernel, rfl, ?_⟩
  refine ev_lconst (pc := 0) (v := lN 0) dX7_subtractAt_0 (by decide) ?_
  refine ev_lstore (pc := 1) dX7_subtractAt_1 rfl ?_
  refine ev_iload_n (pc := 3) dX7_subtractAt_3 rfl ?_
  refine ev_aload_n (pc := 4) dX7_subtractAt_4 rfl ?_
  refine ev_getf (pc := 5) dX7_subtractAt_5 f_X7_22 (wh_aq a) rfl ?_
  refine ev_iaddN (pc := 8) dX7_subtractAt_8 ?_
  refine ev_bipush (pc := 9) (v := nI 71) dX7_subtractAt_9 (by decide) ?_
  refine ev_mmin (pc := 11) dX7_subtractAt_11 mx_X7_47 rfl (by omega) (ev_ti (mi_min (by omega) (by omega)) ?_)
  refine ev_istore (pc := 14) dX7_subtractAt_14 rfl ?_
  refine ev_iload_n (pc := 16) dX7_subtractAt_16 rfl ?_
  refine ev_istore (pc := 17) dX7_subtractAt_17 rfl ?_
  rw [Nat.min_eq_left hs]
  refine ev_vs [(0, .ref q), (1, .int (nI at_)), (2, .ref q2), (3, .int (nI t)), (4, .long (Int64.ofInt (-((0 : Nat) : Int)))), (6, .int (nI (at_ + n2))), (7, .int (nI (at_ + 0)))] ⟨rfl, rfl, rfl, rfl, rfl, rfl, rfl, trivial⟩ ?_
  refine l_subAt hqd a hg2 ht hs (fun f cy hf hfg hcy hv => ?_) n2 0 g 0 (by omega) hg (fun _ _ => rfl) (by omega) (by simp [mb_v0])
  have h1 := hf (at_ + n2)
  refine ev_aload_n (pc := 80) dX7_subtractAt_80 rfl ?_
  refine ev_getf (pc := 81) dX7_subtractAt_81 f_X7_9 wh_q rfl ?_
  refine ev_iload (pc := 84) dX7_subtractAt_84 rfl ?_
  refine wh_ld (pc := 86) dX7_subtractAt_86 hqd (by omega) ?_
  refine ev_i2lN (pc := 87) dX7_subtractAt_87 (by omega) ?_
  obtain ⟨last, hlast⟩ : ∃ last : Int, last = (f (at_ + n2) : Int) + (-(cy : Int)) := ⟨_, rfl⟩
  refine ev_lload (pc := 88) dX7_subtractAt_88 rfl ?_
  refine ev_ladd (pc := 90) dX7_subtractAt_90 ?_
  refine ev_tl (y := Int64.ofInt last) (by rw [hlast, lz_n, Int64.ofInt_add]) ?_
  refine ev_lstore (pc := 91) dX7_subtractAt_91 rfl ?_
  refine ev_aload_n (pc := 93) dX7_subtractAt_93 rfl ?_
  refine ev_getf (pc := 94) dX7_subtractAt_94 f_X7_9 wh_q rfl ?_
  refine ev_iload (pc := 97) dX7_subtractAt_97 rfl ?_
  refine ev_lload (pc := 99) dX7_subtractAt_99 rfl ?_
  refine ev_ldc2 (pc := 101) dX7_subtractAt_101 k_X7_16 ?_
  refine ev_land (pc := 104) dX7_subtractAt_104 (ev_tl (lz_mask last) ?_)
  obtain ⟨x, hx⟩ : ∃ x : Nat, x = (last % 1073741824).toNat := ⟨_, rfl⟩
  rw [← hx]
  refine ev_l2iN (pc := 105) dX7_subtractAt_105 ?_
  refine wh_sd (pc := 106) dX7_subtractAt_106 hqd (by omega) ?_
  refine ev_lload (pc := 107) dX7_subtractAt_107 rfl ?_
  refine ev_lconst (pc := 109) (v := lN 0) dX7_subtractAt_109 (by decide) ?_
  refine ev_lcmp (pc := 110) dX7_subtractAt_110 ?_
  have key : ∀ s, s ≤ 1 → f (at_ + n2) + 1073741824 * s = x + cy → mb_v (fun k => va_up f (at_ + n2) x (at_ + k)) (n2 + 1) + t * mb_v g2 n2 = mb_v (fun k => g (at_ + k)) (n2 + 1) + s * 1073741824 ^ (n2 + 1) := by
    intro s _ hsx
    rw [mb_shu, mb_vs, mb_vs, mb_upo (Nat.le_refl n2), va_up_self, mb_pw]
    have h2 : (f (at_ + n2) + 1073741824 * s) * 1073741824 ^ n2 = (x + cy) * 1073741824 ^ n2 := by rw [hsx]
    have h3 : (f (at_ + n2) + 1073741824 * s) * 1073741824 ^ n2 = g (at_ + n2) * 1073741824 ^ n2 + s * (1073741824 ^ n2 * 1073741824) := by
      rw [hfg _ (Or.inr (Nat.le_refl _)), Nat.add_mul, Nat.mul_comm 1073741824 s, Nat.mul_assoc, Nat.mul_comm 1073741824]
    have h4 : (x + cy) * 1073741824 ^ n2 = x * 1073741824 ^ n2 + cy * 1073741824 ^ n2 := Nat.add_mul ..
    omega
  refine ev_if_ge (pc := 111) (tgt := 118) dX7_subtractAt_111 (by decide) (fun c1 => ?_) (fun c1 => ?_)
  · have c2 := (lz_lt (by omega) (by omega)).mp c1
    refine ev_iconst (pc := 118) (v := nI 0) dX7_subtractAt_118 (by decide) ?_
    refine ev_iret (pc := 119) dX7_subtractAt_119 rfl rfl ⟨_, 0, rfl, rfl, mb_upb hf (by omega), fun j hj => ?_, by omega, key 0 (by omega) (by omega)⟩
    rw [va_up_ne _ _ (by omega)]; exact hfg j (by omega)
  · have c2 : ¬ 0 ≤ last := fun e => c1 ((lz_lt (by omega) (by omega)).mpr e)
    refine ev_iconst (pc := 114) (v := nI 1) dX7_subtractAt_114 (by decide) ?_
    refine ev_goto (pc := 115) (tgt := 119) dX7_subtractAt_115 (by decide) ?_
    refine ev_iret (pc := 119) dX7_subtractAt_119 rfl rfl ⟨_, 1, rfl, rfl, mb_upb hf (by omega), fun j hj => ?_, by omega, key 1 (by omega) (by omega)⟩
    rw [va_up_ne _ _ (by omega)]; exact hfg j (by omega)
end WH5
end
section
/-! Whole: guessDigit, and what its guess is good for -/
def mb_g1 (top sec u0 : Nat) (p : Nat × Nat) : Nat × Nat := if p.2 < 1073741824 then (if 1073741824 ≤ p.1 ∨ p.2 * 1073741824 + u0 < p.1 * sec then (p.1 - 1, p.2 + top) else p) else p
def mb_it (top sec u0 : Nat) : Nat → Nat × Nat → Nat × Nat
  | 0, p => p
  | k + 1, p => mb_it top sec u0 k (mb_g1 top sec u0 p)
theorem mb_it_big {top sec u0 : Nat} {p : Nat × Nat} (h : 1073741824 ≤ p.2) : ∀ k, mb_it top sec u0 k p = p
  | 0 => rfl
  | k + 1 => by
    show mb_it top sec u0 k (mb_g1 top sec u0 p) = p
    have e : mb_g1 top sec u0 p = p := by unfold mb_g1; rw [if_neg (by omega)]
    rw [e]
    exact mb_it_big h k
/-- the guess is right or one too much -/
theorem mb_guess {top sec u2 u1 u0 : Nat} {X b R q : Nat} (hX : 0 < X) (ht : 536870912 ≤ top) (ht2 : top < 1073741824) (hs : sec < 1073741824) (h1 : u1 < 1073741824) (h0 : u0 < 1073741824)
    (hb1 : (top * 1073741824 + sec) * X ≤ b) (hb2 : b < (top * 1073741824 + sec + 1) * X)
    (hR1 : ((u2 * 1073741824 + u1) * 1073741824 + u0) * X ≤ R) (hR2 : R < ((u2 * 1073741824 + u1) * 1073741824 + u0 + 1) * X) (hq : q = R / b) (hqB : q < 1073741824) :
    q ≤ (mb_it top sec u0 2 ((u2 * 1073741824 + u1) / top, (u2 * 1073741824 + u1) % top)).1 ∧ (mb_it top sec u0 2 ((u2 * 1073741824 + u1) / top, (u2 * 1073741824 + u1) % top)).1 ≤ q + 1 ∧ (mb_it top sec u0 2 ((u2 * 1073741824 + u1) / top, (u2 * 1073741824 + u1) % top)).1 < 1073741824 := by
  obtain ⟨V, hV⟩ : ∃ V, V = top * 1073741824 + sec := ⟨_, rfl⟩
  obtain ⟨two, htwo⟩ : ∃ t, t = u2 * 1073741824 + u1 := ⟨_, rfl⟩
  rw [← hV] at hb1 hb2
  rw [← htwo] at hR1 hR2 ⊢
  have hb0 : 0 < b := Nat.lt_of_lt_of_le (Nat.mul_pos (by omega) hX) hb1
  have hqR : q * b ≤ R := by rw [hq]; exact Nat.div_mul_le_self R b
  have hqR2 : R < (q + 1) * b := by rw [hq, Nat.add_mul, Nat.one_mul, Nat.mul_comm]; exact Nat.lt_mul_div_succ R hb0
  -- q times V is at most the three digits
  have hqV : q * V ≤ two * 1073741824 + u0 := by
    have h2 : q * V * X < (two * 1073741824 + u0 + 1) * X := Nat.lt_of_le_of_lt (by rw [Nat.mul_assoc]; exact Nat.le_trans (Nat.mul_le_mul_left q hb1) hqR) hR2
    have := Nat.lt_of_mul_lt_mul_right h2
    omega
  -- what is not too much for V is at most q + 1
  have hup : ∀ g, g ≤ 1073741825 → g * V ≤ two * 1073741824 + u0 → g ≤ q + 1 := by
    intro g hg hgV
    rcases Nat.lt_or_ge (q + 1) g with hlt | hge
    · exfalso
      have h2 : (q + 1) * b ≤ (g - 1) * b := Nat.mul_le_mul_right b (by omega)
      have h3 : (g - 1) * b ≤ (g - 1) * ((V + 1) * X) := Nat.mul_le_mul_left _ (Nat.le_of_lt hb2)
      have h4 : (g - 1) * (V + 1) ≤ two * 1073741824 + u0 := by
        have h5 : (g - 1) * (V + 1) + (V + 1) = g * V + g := by
          obtain ⟨k, rfl⟩ : ∃ k, g = k + 1 := ⟨g - 1, by omega⟩
          simp only [Nat.add_sub_cancel]
          rw [Nat.mul_add, Nat.add_mul]
          omega
        omega
      have h6 : (g - 1) * (V + 1) * X ≤ (two * 1073741824 + u0) * X := Nat.mul_le_mul_right X h4
      rw [← Nat.mul_assoc] at h3
      omega
    · exact hge
  have hdm := Nat.div_add_mod two top
  have hml := Nat.mod_lt two (show 0 < top by omega)
  obtain ⟨g0, hg0⟩ : ∃ g, g = two / top := ⟨_, rfl⟩
  obtain ⟨r0, hr0⟩ : ∃ r, r = two % top := ⟨_, rfl⟩
  rw [← hg0, ← hr0] at hdm ⊢
  rw [← hr0] at hml
  -- the first guess is not too small
  have hq0 : q ≤ g0 := by
    have h2 : q * top * 1073741824 ≤ q * V := by rw [hV, Nat.mul_add, ← Nat.mul_assoc]; omega
    have h3 : q * top ≤ two := by omega
    rw [hg0]
    exact (Nat.le_div_iff_mul_le (by omega)).mpr h3
  -- and at most B + 1
  have hg1 : g0 ≤ 1073741825 := by
    rcases Nat.lt_or_ge 1073741825 g0 with hlt | hge
    · exfalso
      -- two < (q + 1) * b / X * .. : the top digits are below V * B
      have h2 : 1073741826 * top ≤ g0 * top := Nat.mul_le_mul_right top hlt
      rw [Nat.mul_comm g0 top] at h2
      have h3 : two * 1073741824 + u0 < 1073741824 * (V + 1) := by
        have h4 : (two * 1073741824 + u0) * X < 1073741824 * ((V + 1) * X) := by
          have h5 : (q + 1) * b ≤ 1073741824 * b := Nat.mul_le_mul_right b (by omega)
          have h6 : 1073741824 * b ≤ 1073741824 * ((V + 1) * X) := Nat.mul_le_mul_left _ (Nat.le_of_lt hb2)
          omega
        rw [← Nat.mul_assoc] at h4
        exact Nat.lt_of_mul_lt_mul_right h4
      omega
    · exact hge
  -- the test compares with the three digits
  have htest : ∀ g r, g * top + r = two → (r * 1073741824 + u0 < g * sec ↔ two * 1073741824 + u0 < g * V) := by
    intro g r e
    have h2 : g * V = g * top * 1073741824 + g * sec := by rw [hV, Nat.mul_add, ← Nat.mul_assoc]
    omega
  have hlow : ∀ g, q ≤ g → (1073741824 ≤ g ∨ two * 1073741824 + u0 < g * V) → q ≤ g - 1 := by
    intro g h2 h3
    rcases h3 with h3 | h3
    · omega
    · rcases Nat.eq_or_lt_of_le h2 with e | e
      · subst e; omega
      · omega
  have hsec : ∀ g, g ≤ 1073741824 → g * sec ≤ 1073741824 * 1073741823 := fun g hg => Nat.mul_le_mul hg (by omega)
  have e0 : g0 * top + r0 = two := by rw [Nat.mul_comm]; exact hdm
  show q ≤ (mb_g1 top sec u0 (mb_g1 top sec u0 (g0, r0))).1 ∧ _
  show q ≤ (mb_g1 top sec u0 (mb_g1 top sec u0 (g0, r0))).1 ∧ (mb_g1 top sec u0 (mb_g1 top sec u0 (g0, r0))).1 ≤ q + 1 ∧ (mb_g1 top sec u0 (mb_g1 top sec u0 (g0, r0))).1 < 1073741824
  by_cases t0 : 1073741824 ≤ g0 ∨ r0 * 1073741824 + u0 < g0 * sec
  · -- a first step down
    have E1 : mb_g1 top sec u0 (g0, r0) = (g0 - 1, r0 + top) := by unfold mb_g1; rw [if_pos (by show r0 < _; omega), if_pos t0]
    rw [E1]
    have hg0p : 0 < g0 := by
      rcases t0 with h2 | h2
      · omega
      · rcases Nat.eq_zero_or_pos g0 with e | e
        · rw [e, Nat.zero_mul] at h2; omega
        · exact e
    have e1 : (g0 - 1) * top + (r0 + top) = two := by
      have : (g0 - 1) * top + top = g0 * top := by
        obtain ⟨k, rfl⟩ : ∃ k, g0 = k + 1 := ⟨g0 - 1, by omega⟩
        simp only [Nat.add_sub_cancel, Nat.add_mul, Nat.one_mul]
      omega
    have l1 : q ≤ g0 - 1 := hlow g0 hq0 (t0.imp id (fun h2 => (htest g0 r0 e0).mp h2))
    by_cases s1 : r0 + top < 1073741824
    · by_cases t1 : 1073741824 ≤ g0 - 1 ∨ (r0 + top) * 1073741824 + u0 < (g0 - 1) * sec
      · have E2 : mb_g1 top sec u0 (g0 - 1, r0 + top) = (g0 - 1 - 1, r0 + top + top) := by unfold mb_g1; rw [if_pos s1, if_pos t1]
        rw [E2]
        have l2 : q ≤ g0 - 1 - 1 := hlow (g0 - 1) l1 (t1.imp id (fun h2 => (htest (g0 - 1) (r0 + top) e1).mp h2))
        refine ⟨l2, hup _ (by omega) ?_, by show g0 - 1 - 1 < _; omega⟩
        -- two down is never too much
        have h2 : 0 < g0 - 1 := by
          rcases t1 with h3 | h3
          · omega
          · rcases Nat.eq_zero_or_pos (g0 - 1) with e | e
            · rw [e, Nat.zero_mul] at h3; omega
            · exact e
        have h3 : (g0 - 1 - 1) * top + (r0 + top + top) = two := by
          have : (g0 - 1 - 1) * top + top = (g0 - 1) * top := by
            obtain ⟨k, hk⟩ : ∃ k, g0 - 1 = k + 1 := ⟨g0 - 2, by omega⟩
            rw [hk]
            simp only [Nat.add_sub_cancel, Nat.add_mul, Nat.one_mul]
          omega
        have h4 := hsec (g0 - 1 - 1) (by omega)
        have h5 : (g0 - 1 - 1) * V = (g0 - 1 - 1) * top * 1073741824 + (g0 - 1 - 1) * sec := by rw [hV, Nat.mul_add, ← Nat.mul_assoc]
        show (g0 - 1 - 1) * V ≤ _
        omega
      · have E2 : mb_g1 top sec u0 (g0 - 1, r0 + top) = (g0 - 1, r0 + top) := by unfold mb_g1; rw [if_pos s1, if_neg t1]
        rw [E2]
        refine ⟨l1, hup _ (by omega) ?_, by show g0 - 1 < _; omega⟩
        have := htest (g0 - 1) (r0 + top) e1
        show (g0 - 1) * V ≤ _
        omega
    · have E2 : mb_g1 top sec u0 (g0 - 1, r0 + top) = (g0 - 1, r0 + top) := by unfold mb_g1; rw [if_neg s1]
      rw [E2]
      have h4 := hsec (g0 - 1) (by omega)
      have h5 := htest (g0 - 1) (r0 + top) e1
      have h6 : (g0 - 1) * V ≤ two * 1073741824 + u0 := by omega
      refine ⟨l1, hup _ (by omega) h6, ?_⟩
      show g0 - 1 < 1073741824
      -- B times V would be too much
      rcases Nat.lt_or_ge (g0 - 1) 1073741824 with h7 | h7
      · exact h7
      · exfalso
        have h8 := hup (g0 - 1) (by omega) h6
        have h9 : g0 - 1 = 1073741824 := by omega
        -- then r0 + top is the rest of B * top, and below B
        rw [h9] at e1
        have h10 : 1073741825 * V ≤ 1073741824 * (V + 1) + u0 ∨ True := Or.inr trivial
        have h3 : two * 1073741824 + u0 < 1073741824 * (V + 1) := by
          have h4 : (two * 1073741824 + u0) * X < 1073741824 * ((V + 1) * X) := by
            have h5 : (q + 1) * b ≤ 1073741824 * b := Nat.mul_le_mul_right b (by omega)
            have h6 : 1073741824 * b ≤ 1073741824 * ((V + 1) * X) := Nat.mul_le_mul_left _ (Nat.le_of_lt hb2)
            omega
          rw [← Nat.mul_assoc] at h4
          exact Nat.lt_of_mul_lt_mul_right h4
        omega
  · have E1 : mb_g1 top sec u0 (g0, r0) = (g0, r0) := by unfold mb_g1; rw [if_pos (by show r0 < _; omega), if_neg t0]
    rw [E1, E1]
    have := htest g0 r0 e0
    exact ⟨hq0, hup _ (by omega) (by show g0 * V ≤ _; omega), by show g0 < _; omega⟩
section WH6
variable {G : ev_G} {C : ev_L} {w : Nat} {K : ev_K} {h : ev_H} {q d n c z q2 d2 n2 : Nat} {g g2 : Nat → Nat}
theorem k_digitAtH {H : ev_H} {dd i : Nat} (hd : 1 ≤ dd) (h1 : H q = some (.inr (5, [.ref d, .int (nI n)]))) (h2 : H d = some (.inl (.int, 72, .inl (fun j => nI (g j))))) (hi : i < 2 ^ 31) : ev_Ca G dd w m_X7_digitAt [.ref q, .int (nI i)] H 0 0 (ev_ok (fun r h1 => r = some (.int (nI (if i < 72 then g i else 0))) ∧ h1 = H)) := by
  have hqd : q ≠ d := fun e => by rw [e, h2] at h1; cases h1
  have := k_digitAt (G := G) (w := w) (h := H) (n := n) (g := g) hd hqd hi
  rw [wh_id h1 h2] at this
  exact this
theorem l_guess {dd : Nat} (hd : 1 ≤ dd) (hw : 21 ≤ w) (hqd : q ≠ d) {i top sec : Nat} (hi2 : 2 ≤ i) (hi : i ≤ 71) (ht2 : top < 1073741824) (hs : sec < 1073741824) (hg : ∀ j, g j < 1073741824) :
    ∀ k more gs r, more + k = 2 → gs ≤ 4294967296 → r < 4294967296 → K (.inl (some (.int (nI (mb_it top sec (g (i - 2)) k (gs, r)).1)))) (wh_p h q d n g) → ev_J G (ev_cc G dd w) w m_X7_guessDigit K (76, ev_lf [(0, .ref q), (3, .int (nI top)), (4, .int (nI sec)), (5, .int (nI i)), (8, .long (lN gs)), (10, .long (lN r)), (12, .int (nI more))], [], wh_p h q d n g, c, z)
  | 0, more, gs, r, e, hgs, hr, hK => by
    refine ev_iload (pc := 76) dX7_guessDigit_76 rfl ?_
    refine ev_iconst (pc := 78) (v := nI 2) dX7_guessDigit_78 (by decide) ?_
    refine ev_icmp_geN (pc := 79) (tgt := 144) dX7_guessDigit_79 (by decide) (by omega) (by omega) (fun c1 => ?_) (fun c1 => ?_)
    · refine ev_lload (pc := 144) dX7_guessDigit_144 rfl ?_
      refine ev_l2iN (pc := 146) dX7_guessDigit_146 ?_
      exact ev_iret (pc := 147) dX7_guessDigit_147 rfl rfl hK
    · omega
  | k + 1, more, gs, r, e, hgs, hr, hK => by
    have h0 := hg (i - 2)
    have h1 : gs * sec ≤ 4294967296 * 1073741823 := Nat.mul_le_mul hgs (by omega)
    refine ev_iload (pc := 76) dX7_guessDigit_76 rfl ?_
    refine ev_iconst (pc := 78) (v := nI 2) dX7_guessDigit_78 (by decide) ?_
    refine ev_icmp_geN (pc := 79) (tgt := 144) dX7_guessDigit_79 (by decide) (by omega) (by omega) (fun c1 => ?_) (fun c1 => ?_)
    · omega
    · refine ev_lload (pc := 82) dX7_guessDigit_82 rfl ?_
      refine ev_ldc2 (pc := 84) dX7_guessDigit_84 k_X7_16 ?_
      refine ev_lc_gt (pc := 87) (tgt := 144) dX7_guessDigit_87 dX7_guessDigit_88 (by decide) (by omega) (by omega) (fun c2 => ?_) (fun c2 => ?_)
      · rw [mb_it_big (by show _ ≤ r; omega)] at hK
        refine ev_lload (pc := 144) dX7_guessDigit_144 rfl ?_
        refine ev_l2iN (pc := 146) dX7_guessDigit_146 ?_
        exact ev_iret (pc := 147) dX7_guessDigit_147 rfl rfl hK
      · have down : (1073741824 ≤ gs ∨ r * 1073741824 + g (i - 2) < gs * sec) → ev_J G (ev_cc G dd w) w m_X7_guessDigit K (125, ev_lf [(0, .ref q), (3, .int (nI top)), (4, .int (nI sec)), (5, .int (nI i)), (8, .long (lN gs)), (10, .long (lN r)), (12, .int (nI more))], [], wh_p h q d n g, c, z) := by
          intro ht
          have hp : 0 < gs := by
            rcases ht with h2 | h2
            · omega
            · rcases Nat.eq_zero_or_pos gs with e | e
              · rw [e, Nat.zero_mul] at h2; omega
              · exact e
          have E : mb_g1 top sec (g (i - 2)) (gs, r) = (gs - 1, r + top) := by unfold mb_g1; rw [if_pos (by show r < _; omega), if_pos ht]
          refine ev_lload (pc := 125) dX7_guessDigit_125 rfl ?_
          refine ev_lconst (pc := 127) (v := lN 1) dX7_guessDigit_127 (by decide) ?_
          refine ev_lsubN (pc := 128) dX7_guessDigit_128 (by omega) ?_
          refine ev_lstore (pc := 129) dX7_guessDigit_129 rfl ?_
          refine ev_lload (pc := 131) dX7_guessDigit_131 rfl ?_
          refine ev_iload_n (pc := 133) dX7_guessDigit_133 rfl ?_
          refine ev_i2lN (pc := 134) dX7_guessDigit_134 (by omega) ?_
          refine ev_laddN (pc := 135) dX7_guessDigit_135 ?_
          refine ev_lstore (pc := 136) dX7_guessDigit_136 rfl ?_
          refine ev_iincN (pc := 138) dX7_guessDigit_138 rfl rfl ?_
          refine ev_goto (pc := 141) (tgt := 76) dX7_guessDigit_141 (by decide) ?_
          refine ev_vs [(0, .ref q), (3, .int (nI top)), (4, .int (nI sec)), (5, .int (nI i)), (8, .long (lN (gs - 1))), (10, .long (lN (r + top))), (12, .int (nI (more + 1)))] ⟨rfl, rfl, rfl, rfl, rfl, rfl, rfl, trivial⟩ ?_
          refine l_guess hd hw hqd hi2 hi ht2 hs hg k (more + 1) (gs - 1) (r + top) (by omega) (by omega) (by omega) ?_
          rw [← E]
          exact hK
        refine ev_lload (pc := 91) dX7_guessDigit_91 rfl ?_
        refine ev_ldc2 (pc := 93) dX7_guessDigit_93 k_X7_16 ?_
        refine ev_lc_gt (pc := 96) (tgt := 125) dX7_guessDigit_96 dX7_guessDigit_97 (by decide) (by omega) (by omega) (fun c3 => ?_) (fun c3 => ?_)
        · refine ev_vs [(0, .ref q), (3, .int (nI top)), (4, .int (nI sec)), (5, .int (nI i)), (8, .long (lN gs)), (10, .long (lN r)), (12, .int (nI more))] ⟨rfl, rfl, rfl, rfl, rfl, rfl, rfl, trivial⟩ ?_
          exact down (Or.inl (by omega))
        · refine ev_lload (pc := 100) dX7_guessDigit_100 rfl ?_
          refine ev_iload (pc := 102) dX7_guessDigit_102 rfl ?_
          refine ev_i2lN (pc := 104) dX7_guessDigit_104 (by omega) ?_
          refine ev_lmulN (pc := 105) dX7_guessDigit_105 ?_
          refine ev_lload (pc := 106) dX7_guessDigit_106 rfl ?_
          refine ev_bipush (pc := 108) (v := nI 30) dX7_guessDigit_108 (by decide) ?_
          refine ev_lshlN (pc := 110) dX7_guessDigit_110 ?_
          refine ev_aload_n (pc := 111) dX7_guessDigit_111 rfl ?_
          refine ev_iload (pc := 112) dX7_guessDigit_112 rfl ?_
          refine ev_iconst (pc := 114) (v := nI 2) dX7_guessDigit_114 (by decide) ?_
          refine ev_isubN (pc := 115) dX7_guessDigit_115 (by omega) ?_
          refine ev_callV (pc := 116) (As := [.int (nI (i - 2))]) dX7_guessDigit_116 cv_X7_51 rfl rfl wh_q rfl ⟨by show 19 + 2 ≤ w; omega, k_digitAt hd hqd (by omega)⟩ rfl rfl (fun r h1 hp => ?_)
          obtain ⟨rfl, rfl⟩ := hp
          rw [if_pos (show i - 2 < 72 by omega)]
          refine ev_i2lN (pc := 119) dX7_guessDigit_119 (by omega) ?_
          refine ev_lorN (pc := 120) dX7_guessDigit_120 (by omega) (by omega) ?_
          refine ev_lc_le (pc := 121) (tgt := 138) dX7_guessDigit_121 dX7_guessDigit_122 (by decide) (by omega) (by omega) (fun c4 => ?_) (fun c4 => ?_)
          · have E : mb_g1 top sec (g (i - 2)) (gs, r) = (gs, r) := by
              unfold mb_g1
              rw [if_pos (by show r < _; omega), if_neg (by show ¬ (1073741824 ≤ gs ∨ r * 1073741824 + g (i - 2) < gs * sec); omega)]
            refine ev_iincN (pc := 138) dX7_guessDigit_138 rfl rfl ?_
            refine ev_goto (pc := 141) (tgt := 76) dX7_guessDigit_141 (by decide) ?_
            refine ev_vs [(0, .ref q), (3, .int (nI top)), (4, .int (nI sec)), (5, .int (nI i)), (8, .long (lN gs)), (10, .long (lN r)), (12, .int (nI (more + 1)))] ⟨rfl, rfl, rfl, rfl, rfl, rfl, rfl, trivial⟩ ?_
            refine l_guess hd hw hqd hi2 hi ht2 hs hg k (more + 1) gs r (by omega) hgs hr ?_
            rw [← E]
            exact hK
          · refine ev_vs [(0, .ref q), (3, .int (nI top)), (4, .int (nI sec)), (5, .int (nI i)), (8, .long (lN gs)), (10, .long (lN r)), (12, .int (nI more))] ⟨rfl, rfl, rfl, rfl, rfl, rfl, rfl, trivial⟩ ?_
            exact down (Or.inr c4)
theorem k_guessDigit {dd at_ : Nat} (hd : 2 ≤ dd) (hw : 21 ≤ w) (hqd : q ≠ d) (a : wh_a h q d q2 d2 n2 g2) (hg : ∀ j, g j < 1073741824) (hg2 : ∀ j, g2 j < 1073741824) (hn2 : 2 ≤ n2) (hs : at_ + n2 ≤ 71) (htop : 536870912 ≤ g2 (n2 - 1)) : ev_Ca G dd w m_X7_guessDigit [.ref q, .ref q2, .int (nI at_)] (wh_p h q d n g) 0 0 (ev_ok (fun r h1 => r = some (.int (nI (mb_it (g2 (n2 - 1)) (g2 (n2 - 2)) (g (at_ + n2 - 2)) 2 ((g (at_ + n2) * 1073741824 + g (at_ + n2 - 1)) / g2 (n2 - 1), (g (at_ + n2) * 1073741824 + g (at_ + n2 - 1)) % g2 (n2 - 1))).1)) ∧ h1 = wh_p h q d n g)) := by
  obtain ⟨dd, rfl⟩ : ∃ e, dd = e + 1 := ⟨dd - 1, by omega⟩
  refine ⟨by decide +kernel, rfl, ?_⟩
  have ht2 := hg2 (n2 - 1)
  have hs2 := hg2 (n2 - 2)
  have hu2 := hg (at_ + n2)
  have hu1 := hg (at_ + n2 - 1)
  refine ev_aload_n (pc := 0) dX7_guessDigit_0 rfl ?_
  refine ev_aload_n (pc := 1) dX7_guessDigit_1 rfl ?_
  refine ev_getf (pc := 2) dX7_guessDigit_2 f_X7_22 (wh_aq a) rfl ?_
  refine ev_iconst (pc := 5) (v := nI 1) dX7_guessDigit_5 (by decide) ?_
  refine ev_isubN (pc := 6) dX7_guessDigit_6 (by omega) ?_
  refine ev_callV (pc := 7) (As := [.int (nI (n2 - 1))]) dX7_guessDigit_7 cv_X7_51 rfl rfl (wh_aq a) rfl ⟨by show 19 + 2 ≤ w; omega, k_digitAtH (by omega) (wh_aq a) (wh_ad a) (by omega)⟩ rfl rfl (fun r h1 hp => ?_)
  obtain ⟨rfl, rfl⟩ := hp
  rw [if_pos (show n2 - 1 < 72 by omega)]
  refine ev_istore_n (pc := 10) dX7_guessDigit_10 rfl ?_
  refine ev_aload_n (pc := 11) dX7_guessDigit_11 rfl ?_
  refine ev_aload_n (pc := 12) dX7_guessDigit_12 rfl ?_
  refine ev_getf (pc := 13) dX7_guessDigit_13 f_X7_22 (wh_aq a) rfl ?_
  refine ev_iconst (pc := 16) (v := nI 2) dX7_guessDigit_16 (by decide) ?_
  refine ev_isubN (pc := 17) dX7_guessDigit_17 (by omega) ?_
  refine ev_callV (pc := 18) (As := [.int (nI (n2 - 2))]) dX7_guessDigit_18 cv_X7_51 rfl rfl (wh_aq a) rfl ⟨by show 19 + 2 ≤ w; omega, k_digitAtH (by omega) (wh_aq a) (wh_ad a) (by omega)⟩ rfl rfl (fun r h1 hp => ?_)
  obtain ⟨rfl, rfl⟩ := hp
  rw [if_pos (show n2 - 2 < 72 by omega)]
  refine ev_istore (pc := 21) dX7_guessDigit_21 rfl ?_
  refine ev_iload_n (pc := 23) dX7_guessDigit_23 rfl ?_
  refine ev_if_neN (pc := 24) (tgt := 29) dX7_guessDigit_24 (by decide) (by omega) (fun c1 => ?_) (fun c1 => ?_)
  · refine ev_iload_n (pc := 29) dX7_guessDigit_29 rfl ?_
    refine ev_aload_n (pc := 30) dX7_guessDigit_30 rfl ?_
    refine ev_getf (pc := 31) dX7_guessDigit_31 f_X7_22 (wh_aq a) rfl ?_
    refine ev_iaddN (pc := 34) dX7_guessDigit_34 ?_
    refine ev_istore (pc := 35) dX7_guessDigit_35 rfl ?_
    refine ev_aload_n (pc := 37) dX7_guessDigit_37 rfl ?_
    refine ev_iload (pc := 38) dX7_guessDigit_38 rfl ?_
    refine ev_callV (pc := 40) (As := [.int (nI (at_ + n2))]) dX7_guessDigit_40 cv_X7_51 rfl rfl wh_q rfl ⟨by show 19 + 2 ≤ w; omega, k_digitAt (by omega) hqd (by omega)⟩ rfl rfl (fun r h1 hp => ?_)
    obtain ⟨rfl, rfl⟩ := hp
    rw [if_pos (show at_ + n2 < 72 by omega)]
    refine ev_i2lN (pc := 43) dX7_guessDigit_43 (by omega) ?_
    refine ev_bipush (pc := 44) (v := nI 30) dX7_guessDigit_44 (by decide) ?_
    refine ev_lshlN (pc := 46) dX7_guessDigit_46 ?_
    refine ev_aload_n (pc := 47) dX7_guessDigit_47 rfl ?_
    refine ev_iload (pc := 48) dX7_guessDigit_48 rfl ?_
    refine ev_iconst (pc := 50) (v := nI 1) dX7_guessDigit_50 (by decide) ?_
    refine ev_isubN (pc := 51) dX7_guessDigit_51 (by omega) ?_
    refine ev_callV (pc := 52) (As := [.int (nI (at_ + n2 - 1))]) dX7_guessDigit_52 cv_X7_51 rfl rfl wh_q rfl ⟨by show 19 + 2 ≤ w; omega, k_digitAt (by omega) hqd (by omega)⟩ rfl rfl (fun r h1 hp => ?_)
    obtain ⟨rfl, rfl⟩ := hp
    rw [if_pos (show at_ + n2 - 1 < 72 by omega)]
    refine ev_i2lN (pc := 55) dX7_guessDigit_55 (by omega) ?_
    refine ev_lorN (pc := 56) dX7_guessDigit_56 (by omega) (by omega) ?_
    refine ev_lstore (pc := 57) dX7_guessDigit_57 rfl ?_
    refine ev_lload (pc := 59) dX7_guessDigit_59 rfl ?_
    refine ev_iload_n (pc := 61) dX7_guessDigit_61 rfl ?_
    refine ev_i2lN (pc := 62) dX7_guessDigit_62 (by omega) ?_
    refine ev_ldivN (pc := 63) dX7_guessDigit_63 (by omega) (by omega) (by omega) ?_
    refine ev_lstore (pc := 64) dX7_guessDigit_64 rfl ?_
    refine ev_lload (pc := 66) dX7_guessDigit_66 rfl ?_
    refine ev_iload_n (pc := 68) dX7_guessDigit_68 rfl ?_
    refine ev_i2lN (pc := 69) dX7_guessDigit_69 (by omega) ?_
    refine ev_lremN (pc := 70) dX7_guessDigit_70 (by omega) (by omega) (by omega) ?_
    refine ev_lstore (pc := 71) dX7_guessDigit_71 rfl ?_
    refine ev_iconst (pc := 73) (v := nI 0) dX7_guessDigit_73 (by decide) ?_
    refine ev_istore (pc := 74) dX7_guessDigit_74 rfl ?_
    refine ev_vs [(0, .ref q), (3, .int (nI (g2 (n2 - 1)))), (4, .int (nI (g2 (n2 - 2)))), (5, .int (nI (at_ + n2))), (8, .long (lN ((g (at_ + n2) * 1073741824 + g (at_ + n2 - 1)) / g2 (n2 - 1)))), (10, .long (lN ((g (at_ + n2) * 1073741824 + g (at_ + n2 - 1)) % g2 (n2 - 1)))), (12, .int (nI 0))] ⟨rfl, rfl, rfl, rfl, rfl, rfl, rfl, trivial⟩ ?_
    have hml := Nat.mod_lt (g (at_ + n2) * 1073741824 + g (at_ + n2 - 1)) (show 0 < g2 (n2 - 1) by omega)
    have hdl : (g (at_ + n2) * 1073741824 + g (at_ + n2 - 1)) / g2 (n2 - 1) ≤ 4294967296 := by
      refine Nat.div_le_of_le_mul ?_
      have : 536870912 * 4294967296 ≤ g2 (n2 - 1) * 4294967296 := Nat.mul_le_mul_right _ htop
      omega
    exact l_guess (by omega) hw hqd (by omega) (by omega) ht2 hs2 hg 2 0 _ _ (by omega) hdl (by omega) ⟨rfl, rfl⟩
  · omega
end WH6
end
section
/-! all the Wholes of a desk and its fractions, by their numbers: where they lie, what they are -/
theorem ev_callVe {G : ev_G} {C : ev_L} {w : Nat} {M : ev_M} {K : ev_K} {pc : Nat} {L : ev_V} {st : List Value} {h : ev_H} {c z i c1 z1 b ci : Nat} {N : ev_M} {As stk : List Value} {post : Option Value → ev_H → Prop} (hd : decode M.2.1 pc = .ok (.invokevirtual i, 3)) (hw : ev_cv M.1.cls i N As.length) (hs : stk = As.reverse ++ .ref b :: st) (hq : Nat.ble ((st.map (fun v => v.category)).sum) 8 = true) (hb1 : ∃ fs, h b = some (.inr (ci, fs))) (hci : (classes[ci]?).map (fun q => q.1) = some N.1.cls) (hC : C N (.ref b :: As) h c1 z1 (ev_ok post)) (hc1 : Nat.ble c1 c = true) (hz1 : Nat.ble z1 z = true) (k : ∀ r h1, post r h1 → ev_J G C w M K (pc + 3, L, r.toList ++ st, h1, c - c1, z - z1)) : ev_J G C w M K (pc, L, stk, h, c, z) := by
  obtain ⟨fs, hb1⟩ := hb1
  exact ev_callV hd hw hs hq hb1 hci hC hc1 hz1 k
def wi (H : ev_H) (p : Nat × Nat) (v : Nat) : Prop := ∃ (g : Nat → Nat) (n : Nat), H p.1 = some (.inr (5, [.ref p.2, .int (nI n)])) ∧ H p.2 = some (.inl (.int, 72, .inl (fun j => nI (g j)))) ∧ mb_is g n v
theorem wi_o {H : ev_H} {p : Nat × Nat} {v : Nat} (h : wi H p v) : ∃ fs, H p.1 = some (.inr (5, fs)) := by
  obtain ⟨g, n, h1, -⟩ := h
  exact ⟨_, h1⟩
def WS (H : ev_H) (lay : Nat → Nat × Nat) (val : Nat → Nat) : Prop := ∀ i, i < 20 → wi H (lay i) (val i)
def WL (lay : Nat → Nat × Nat) : Prop := ∀ i j, i < 20 → j < 20 → i ≠ j → (lay i).1 ≠ (lay j).1 ∧ (lay i).2 ≠ (lay j).2
def WF (lay : Nat → Nat × Nat) (H h1 : ev_H) : Prop := ∀ a, (∀ k, k < 20 → a ≠ (lay k).1 ∧ a ≠ (lay k).2) → h1 a = H a
theorem WF.rf {lay : Nat → Nat × Nat} {H : ev_H} : WF lay H H := fun _ _ => rfl
theorem WF.tr {lay : Nat → Nat × Nat} {H h1 h2 : ev_H} (a : WF lay H h1) (b : WF lay h1 h2) : WF lay H h2 := fun x hx => (b x hx).trans (a x hx)
/-- a desk: its nine numbers are the first nine -/
def dkf (lay : Nat → Nat × Nat) : List Value := [.ref (lay 0).1, .ref (lay 1).1, .ref (lay 2).1, .ref (lay 3).1, .ref (lay 4).1, .ref (lay 5).1, .ref (lay 6).1, .ref (lay 7).1, .ref (lay 8).1]
def DW (H : ev_H) (D : Nat) (lay : Nat → Nat × Nat) (val : Nat → Nat) : Prop := WL lay ∧ WS H lay val ∧ H D = some (.inr (1, dkf lay))
/-- what is no Whole and no row of digits is apart from them all -/
theorem ws_out {H : ev_H} {lay : Nat → Nat × Nat} {val : Nat → Nat} (hS : WS H lay val) {a : Nat} {x : ev_C} (ha : H a = some x) (h1 : ∀ fs, x ≠ .inr (5, fs)) (h2 : ∀ f, x ≠ .inl (.int, 72, .inl f)) : ∀ k, k < 20 → a ≠ (lay k).1 ∧ a ≠ (lay k).2 := by
  intro k hk
  obtain ⟨g, n, e1, e2, -⟩ := hS k hk
  constructor
  · intro e; rw [e, e1] at ha; exact h1 _ (Option.some.inj ha).symm
  · intro e; rw [e, e2] at ha; exact h2 _ (Option.some.inj ha).symm
theorem dw_out {H : ev_H} {D : Nat} {lay : Nat → Nat × Nat} {val : Nat → Nat} (h : DW H D lay val) : ∀ k, k < 20 → D ≠ (lay k).1 ∧ D ≠ (lay k).2 := ws_out h.2.1 h.2.2 (fun fs e => by cases e) (fun f e => by cases e)
theorem wi_ne {H : ev_H} {p p2 : Nat × Nat} {v v2 : Nat} (h1 : wi H p v) (h2 : wi H p2 v2) : p.1 ≠ p2.2 := by
  obtain ⟨g, n, e1, -⟩ := h1
  obtain ⟨g2, n2, -, e2, -⟩ := h2
  intro e
  rw [e, e2] at e1
  cases e1
theorem ws_put {H h1 : ev_H} {D : Nat} {lay : Nat → Nat × Nat} {val : Nat → Nat} {i v : Nat} (h : DW H D lay val) (hi : i < 20) (hv : wv H (lay i).1 (lay i).2 v h1) : DW h1 D lay (va_up val i v) ∧ WF lay H h1 := by
  obtain ⟨hL, hS, hD⟩ := h
  obtain ⟨g, n, hm, rfl⟩ := hv
  have hqd := wi_ne (hS i hi) (hS i hi)
  have hF : WF lay H (wh_p H (lay i).1 (lay i).2 n g) := fun a ha => wh_n (ha i hi).1 (ha i hi).2
  refine ⟨⟨hL, fun k hk => ?_, ?_⟩, hF⟩
  · by_cases e : k = i
    · subst e
      rw [va_up_self]
      exact ⟨g, n, wh_q, wh_d hqd, hm⟩
    · rw [va_up_ne _ _ e]
      obtain ⟨g2, n2, a1, a2, a3⟩ := hS k hk
      obtain ⟨b1, b2⟩ := hL k i hk hi e
      exact ⟨g2, n2, (wh_n b1 (wi_ne (hS k hk) (hS i hi))).trans a1, (wh_n (Ne.symm (wi_ne (hS i hi) (hS k hk))) b2).trans a2, a3⟩
  · rw [hF D (dw_out ⟨hL, hS, hD⟩)]; exact hD
theorem ws_a {H : ev_H} {lay : Nat → Nat × Nat} {val : Nat → Nat} (hL : WL lay) (hS : WS H lay val) {i j : Nat} (hi : i < 20) (hj : j < 20) (hij : i ≠ j) {n2 : Nat} {g2 : Nat → Nat} (e1 : H (lay j).1 = some (.inr (5, [.ref (lay j).2, .int (nI n2)]))) (e2 : H (lay j).2 = some (.inl (.int, 72, .inl (fun x => nI (g2 x))))) : wh_a H (lay i).1 (lay i).2 (lay j).1 (lay j).2 n2 g2 :=
  ⟨(hL j i hj hi (Ne.symm hij)).1, wi_ne (hS j hj) (hS i hi), Ne.symm (wi_ne (hS i hi) (hS j hj)), (hL j i hj hi (Ne.symm hij)).2, e1, e2⟩
theorem ev_kmono {G : ev_G} {C : ev_L} {w : Nat} {M : ev_M} {K K2 : ev_K} {X : ev_S → Prop} (hK : ∀ r x, K r x → K2 r x) : ∀ n, ev_ru G C w M K2 X n → ev_ru G C w M K X n
  | 0 => fun t => t
  | 1 => fun t => t
  | 2 => fun t => t
  | 3 => fun t => t
  | 4 => fun t => t
  | 5 => fun t => t
  | 6 => fun t => t
  | 7 => fun t => t
  | 8 => fun t => t
  | 9 => fun t => t
  | 10 => fun t => t
  | 11 => fun t => t
  | 12 => fun t => t
  | 13 => fun t => t
  | 14 => fun t => t
  | 15 => fun t => t
  | 16 => fun t => t
  | 17 => fun t => t
  | 18 => fun t => t
  | 19 => fun t => t
  | 20 => fun t => t
  | 21 => fun t => t
  | 22 => fun t => t
  | 23 => fun t => t
  | 24 => fun t => t
  | 25 => fun t => t
  | 26 => fun t => t
  | 27 => fun t => t
  | 28 => fun t => t
  | 29 => fun t => t
  | 30 => fun t => t
  | 31 => fun t => t
  | 32 => fun t => t
  | 33 => fun t => t
  | 34 => fun t => t
  | 35 => fun t => t
  | 36 => fun t => t
  | 37 => fun t => t
  | 38 => fun t => t
  | 39 => fun t => t
  | 40 => fun t => t
  | 41 => fun t => t
  | 42 => fun t => t
  | 43 => fun t => t
  | 44 => fun t => t
  | 45 => fun t => t
  | 46 => fun t => t
  | 47 => fun t => t
  | 48 => fun t => t
  | 49 => fun t => t
  | 50 => fun t => t
  | 51 => fun t => t
  | 52 => fun t => t
  | 53 => fun t => t
  | 54 => fun t => t
  | 55 => fun t => t
  | 56 => fun t => t
  | 57 => fun t => t
  | 58 => fun t => t
  | 59 => fun t => t
  | 60 => fun t => t
  | 61 => fun t => t
  | 62 => fun t => t
  | 63 => fun t => t
  | 64 => fun t => t
  | 65 => fun t => t
  | 66 => fun t => t
  | 67 => fun t => t
  | 68 => fun t => t
  | 69 => fun t => t
  | 70 => fun t => t
  | 71 => fun t => t
  | 72 => fun t => t
  | 73 => fun t => t
  | 74 => fun t => t
  | 75 => fun t => t
  | 76 => fun t => t
  | 77 => fun t => t
  | 78 => fun t => t
  | 79 => fun t => t
  | 80 => fun t => t
  | 81 => fun t => t
  | 82 => fun t => t
  | 83 => fun t => t
  | 84 => fun t => t
  | 85 => fun t => t
  | 86 => fun t => t
  | 87 => fun t => t
  | 88 => fun t => t
  | 89 => fun t => t
  | 90 => fun t => t
  | 91 => fun t => t
  | 92 => fun t => t
  | 93 => fun t => t
  | 94 => fun t => t
  | 95 => fun t => t
  | 96 => fun t => t
  | 97 => fun t => fun hd hr hn hk => t hd hr hn (hK _ _ hk)
  | 98 => fun t => fun hd hr hk => t hd hr (hK _ _ hk)
  | 99 => fun t => fun hd hr hrt hk => t hd hr hrt (hK _ _ hk)
  | 100 => fun t => fun hd hr hk => t hd hr (hK _ _ hk)
  | 101 => fun t => t
  | 102 => fun t => t
  | 103 => fun t => t
  | 104 => fun t => t
  | 105 => fun t => t
  | 106 => fun t => t
  | 107 => fun t => t
  | 108 => fun t => t
  | 109 => fun t => t
  | 110 => fun t => t
  | 111 => fun t => t
  | 112 => fun t => t
  | 113 => fun t => t
  | 114 => fun t => t
  | _ + 115 => fun _ => trivial
theorem ca_mono {G : ev_G} {dd w : Nat} {M : ev_M} {args : List Value} {h : ev_H} {c z : Nat} {K K2 : ev_K} (hK : ∀ r x, K r x → K2 r x) (h0 : ev_Ca G dd w M args h c z K) : ev_Ca G dd w M args h c z K2 := by
  cases dd with
  | zero => exact h0.elim
  | succ dd =>
    obtain ⟨h1, h2, h3⟩ := h0
    exact ⟨h1, h2, fun X hX => h3 X (fun n => ev_kmono hK n (hX n))⟩
theorem ca_post {G : ev_G} {dd w : Nat} {M : ev_M} {args : List Value} {h : ev_H} {c z : Nat} {p1 p2 : Option Value → ev_H → Prop} (hp : ∀ r x, p1 r x → p2 r x) (h0 : ev_Ca G dd w M args h c z (ev_ok p1)) : ev_Ca G dd w M args h c z (ev_ok p2) := ca_mono (K := ev_ok p1) (K2 := ev_ok p2) (fun r x => match r with
  | .inl v => hp v x
  | .inr _ => id) h0
section LAY
variable {G : ev_G} {w : Nat} {H : ev_H} {D : Nat} {lay : Nat → Nat × Nat} {val : Nat → Nat} {i j k dd : Nat}
/-- behind a method that writes the Whole i -/
def wpost (H : ev_H) (D : Nat) (lay : Nat → Nat × Nat) (val : Nat → Nat) (i v : Nat) (h1 : ev_H) : Prop := DW h1 D lay (va_up val i v) ∧ WF lay H h1
theorem t_become {v : Nat} (hd : 2 ≤ dd) (hw : 21 ≤ w) (h : DW H D lay val) (hi : i < 20) (hv : v < 2 ^ 63) : ev_Ca G dd w m_X7_become [.ref (lay i).1, .long (lN v)] H 0 0 (ev_ok (fun r h1 => r = none ∧ wpost H D lay val i v h1)) := by
  obtain ⟨g, n, e1, e2, m⟩ := h.2.1 i hi
  have := k_become (G := G) (w := w) (h := H) hd hw (wi_ne (h.2.1 i hi) (h.2.1 i hi)) m hv
  rw [wh_id e1 e2] at this
  exact ca_post (fun r h1 hp => ⟨hp.1, ws_put h hi hp.2⟩) this
theorem t_copy (hd : 1 ≤ dd) (hw : 26 ≤ w) (h : DW H D lay val) (hi : i < 20) (hj : j < 20) (hij : i ≠ j) : ev_Ca G dd w m_X7_copy [.ref (lay i).1, .ref (lay j).1] H 0 0 (ev_ok (fun r h1 => r = none ∧ wpost H D lay val i (val j) h1)) := by
  obtain ⟨g, n, e1, e2, m⟩ := h.2.1 i hi
  obtain ⟨g2, n2, f1, f2, m2⟩ := h.2.1 j hj
  have := k_copy (G := G) (w := w) (h := H) hd hw (wi_ne (h.2.1 i hi) (h.2.1 i hi)) m.2.2.2.1 m2.2.2.2.1 (ws_a h.1 h.2.1 hi hj hij f1 f2) m.2.1 m2.2.1
  rw [wh_id e1 e2] at this
  exact ca_post (fun r h1 hp => ⟨hp.1, ws_put h hi ⟨g2, n2, m2, hp.2⟩⟩) this
theorem t_add (hd : 2 ≤ dd) (hw : 23 ≤ w) (h : DW H D lay val) (hi : i < 20) (hj : j < 20) (hij : i ≠ j) (hs : val i + val j < 1073741824 ^ 72) : ev_Ca G dd w m_X7_add [.ref (lay i).1, .ref (lay j).1] H 0 0 (ev_ok (fun r h1 => r = none ∧ wpost H D lay val i (val i + val j) h1)) := by
  obtain ⟨g, n, e1, e2, m⟩ := h.2.1 i hi
  obtain ⟨g2, n2, f1, f2, m2⟩ := h.2.1 j hj
  have := k_add (G := G) (w := w) (h := H) hd hw (wi_ne (h.2.1 i hi) (h.2.1 i hi)) (ws_a h.1 h.2.1 hi hj hij f1 f2) m m2 hs
  rw [wh_id e1 e2] at this
  exact ca_post (fun r h1 hp => ⟨hp.1, ws_put h hi hp.2⟩) this
theorem t_setProduct (hd : 2 ≤ dd) (hw : 21 ≤ w) (h : DW H D lay val) (hi : i < 20) (hj : j < 20) (hk : k < 20) (hij : i ≠ j) (hik : i ≠ k) (hs : val j * val k < 1073741824 ^ 71) : ev_Ca G dd w m_X7_setProduct [.ref (lay i).1, .ref (lay j).1, .ref (lay k).1] H 0 0 (ev_ok (fun r h1 => r = none ∧ wpost H D lay val i (val j * val k) h1)) := by
  obtain ⟨g, n, e1, e2, m⟩ := h.2.1 i hi
  obtain ⟨g2, n2, f1, f2, m2⟩ := h.2.1 j hj
  obtain ⟨g3, n3, f3, f4, m3⟩ := h.2.1 k hk
  have := k_setProduct (G := G) (w := w) (h := H) hd hw (wi_ne (h.2.1 i hi) (h.2.1 i hi)) (ws_a h.1 h.2.1 hi hj hij f1 f2) (ws_a h.1 h.2.1 hi hk hik f3 f4) m m2 m3 hs
  rw [wh_id e1 e2] at this
  exact ca_post (fun r h1 hp => ⟨hp.1, ws_put h hi hp.2⟩) this
theorem t_shiftUp {b : Nat} (hd : 2 ≤ dd) (hw : 23 ≤ w) (h : DW H D lay val) (hi : i < 20) (hb : b < 30) (hs : val i * 2 ^ b < 1073741824 ^ 72) : ev_Ca G dd w m_X7_shiftUp [.ref (lay i).1, .int (nI b)] H 0 0 (ev_ok (fun r h1 => r = none ∧ wpost H D lay val i (val i * 2 ^ b) h1)) := by
  obtain ⟨g, n, e1, e2, m⟩ := h.2.1 i hi
  have := k_shiftUp (G := G) (w := w) (h := H) hd hw (wi_ne (h.2.1 i hi) (h.2.1 i hi)) m hb hs
  rw [wh_id e1 e2] at this
  exact ca_post (fun r h1 hp => ⟨hp.1, ws_put h hi hp.2⟩) this
theorem t_shiftDown {b : Nat} (hd : 2 ≤ dd) (hw : 21 ≤ w) (h : DW H D lay val) (hi : i < 20) (hb : b < 30) : ev_Ca G dd w m_X7_shiftDown [.ref (lay i).1, .int (nI b)] H 0 0 (ev_ok (fun r h1 => r = none ∧ wpost H D lay val i (val i / 2 ^ b) h1)) := by
  obtain ⟨g, n, e1, e2, m⟩ := h.2.1 i hi
  have := k_shiftDown (G := G) (w := w) (h := H) hd hw (wi_ne (h.2.1 i hi) (h.2.1 i hi)) m hb
  rw [wh_id e1 e2] at this
  exact ca_post (fun r h1 hp => ⟨hp.1, ws_put h hi hp.2⟩) this
theorem t_divideBySmall {b : Nat} (hd : 2 ≤ dd) (hw : 21 ≤ w) (h : DW H D lay val) (hi : i < 20) (hb0 : 0 < b) (hb : b < 2 ^ 31) : ev_Ca G dd w m_X7_divideBySmall [.ref (lay i).1, .int (nI b)] H 0 0 (ev_ok (fun r h1 => r = some (.int (nI (val i % b))) ∧ wpost H D lay val i (val i / b) h1)) := by
  obtain ⟨g, n, e1, e2, m⟩ := h.2.1 i hi
  have := k_divideBySmall (G := G) (w := w) (h := H) hd hw (wi_ne (h.2.1 i hi) (h.2.1 i hi)) m hb0 hb
  rw [wh_id e1 e2] at this
  exact ca_post (fun r h1 hp => ⟨hp.1, ws_put h hi hp.2⟩) this
theorem t_isZero (hd : 1 ≤ dd) (h : DW H D lay val) (hi : i < 20) : ev_Ca G dd w m_X7_isZero [.ref (lay i).1] H 0 0 (ev_ok (fun r h1 => r = some (.int (nI (if val i = 0 then 1 else 0))) ∧ h1 = H)) := by
  obtain ⟨g, n, e1, e2, m⟩ := h.2.1 i hi
  have := k_isZero (G := G) (w := w) (h := H) (q := (lay i).1) (d := (lay i).2) (g := g) hd m.2.2.2.1
  rw [wh_id e1 e2] at this
  refine ca_post (fun r h1 hp => ⟨hp.1.trans ?_, hp.2⟩) this
  by_cases e : n = 0
  · rw [if_pos e, if_pos ((mb_is_z m).mp e)]; rfl
  · rw [if_neg e, if_neg (fun x => e ((mb_is_z m).mpr x))]; rfl
theorem mb_is_one {g : Nat → Nat} {n v : Nat} (m : mb_is g n v) : (n = 1 ∧ g 0 = 1) ↔ v = 1 := by
  constructor
  · intro e
    rw [← m.2.2.2.2, e.1, mb_vs, mb_v0, e.2]
  · intro e
    have h1 : n ≤ 1 := mb_is_n (k := 1) m (by rw [e]; decide)
    have h2 : n ≠ 0 := fun x => by rw [(mb_is_z m).mp x] at e; cases e
    have h3 : n = 1 := by omega
    refine ⟨h3, ?_⟩
    have h4 := m.2.2.2.2
    rw [h3, mb_vs, mb_v0] at h4
    omega
theorem t_isOne (hd : 1 ≤ dd) (h : DW H D lay val) (hi : i < 20) : ev_Ca G dd w m_X7_isOne [.ref (lay i).1] H 0 0 (ev_ok (fun r h1 => r = some (.int (nI (if val i = 1 then 1 else 0))) ∧ h1 = H)) := by
  obtain ⟨g, n, e1, e2, m⟩ := h.2.1 i hi
  have := k_isOne (G := G) (w := w) (h := H) hd (wi_ne (h.2.1 i hi) (h.2.1 i hi)) m.2.2.2.1 m.1
  rw [wh_id e1 e2] at this
  refine ca_post (fun r h1 hp => ⟨hp.1.trans ?_, hp.2⟩) this
  by_cases e : n = 1 ∧ g 0 = 1
  · rw [if_pos e, if_pos ((mb_is_one m).mp e)]; rfl
  · rw [if_neg e, if_neg (fun x => e ((mb_is_one m).mpr x))]; rfl
theorem mb_is_short {g : Nat → Nat} {n v : Nat} (m : mb_is g n v) : n ≤ 2 ↔ v < 2 ^ 60 := by
  constructor
  · intro e
    have h1 := mb_is_lt m
    have h2 : 1073741824 ^ n ≤ 1073741824 ^ 2 := Nat.pow_le_pow_right (by decide) e
    omega
  · intro e
    exact mb_is_n (k := 2) m (by omega)
theorem t_isShort (hd : 1 ≤ dd) (h : DW H D lay val) (hi : i < 20) : ev_Ca G dd w m_X7_isShort [.ref (lay i).1] H 0 0 (ev_ok (fun r h1 => r = some (.int (nI (if val i < 2 ^ 60 then 1 else 0))) ∧ h1 = H)) := by
  obtain ⟨g, n, e1, e2, m⟩ := h.2.1 i hi
  have := k_isShort (G := G) (w := w) (h := H) (q := (lay i).1) (d := (lay i).2) (g := g) hd m.2.2.2.1
  rw [wh_id e1 e2] at this
  refine ca_post (fun r h1 hp => ⟨hp.1.trans ?_, hp.2⟩) this
  by_cases e : n ≤ 2
  · rw [if_pos e, if_pos ((mb_is_short m).mp e)]; rfl
  · rw [if_neg e, if_neg (fun x => e ((mb_is_short m).mpr x))]; rfl
theorem t_asLong (hd : 1 ≤ dd) (h : DW H D lay val) (hi : i < 20) (hv : val i < 2 ^ 60) : ev_Ca G dd w m_X7_asLong [.ref (lay i).1] H 0 0 (ev_ok (fun r h1 => r = some (.long (lN (val i))) ∧ h1 = H)) := by
  obtain ⟨g, n, e1, e2, m⟩ := h.2.1 i hi
  have := k_asLong (G := G) (w := w) (h := H) (n := n) hd (wi_ne (h.2.1 i hi) (h.2.1 i hi)) m.1
  rw [wh_id e1 e2] at this
  refine ca_post (fun r h1 hp => ⟨hp.1.trans ?_, hp.2⟩) this
  have h2 := mb_is_at m ((mb_is_short m).mpr hv)
  rw [← h2]
  show _ = some (Value.long (lN ((0 + g 0 * 1073741824 ^ 0) + g 1 * 1073741824 ^ 1)))
  congr 3
  omega
theorem t_binaryDigits (hd : 2 ≤ dd) (hw : 21 ≤ w) (h : DW H D lay val) (hi : i < 20) : ev_Ca G dd w m_X7_binaryDigits [.ref (lay i).1] H 0 0 (ev_ok (fun r h1 => r = some (.int (nI (mb_bits (val i)))) ∧ h1 = H)) := by
  obtain ⟨g, n, e1, e2, m⟩ := h.2.1 i hi
  have := k_binaryDigits (G := G) (w := w) (h := H) hd hw (wi_ne (h.2.1 i hi) (h.2.1 i hi)) m
  rw [wh_id e1 e2] at this
  exact this
theorem t_compareWith (hd : 2 ≤ dd) (hw : 23 ≤ w) (h : DW H D lay val) (hi : i < 20) (hj : j < 20) (hij : i ≠ j) : ev_Ca G dd w m_X7_compareWith [.ref (lay i).1, .ref (lay j).1] H 0 0 (ev_ok (fun r h1 => r = some (.int (mi_cmp (val i) (val j))) ∧ h1 = H)) := by
  obtain ⟨g, n, e1, e2, m⟩ := h.2.1 i hi
  obtain ⟨g2, n2, f1, f2, m2⟩ := h.2.1 j hj
  have := k_compareWith (G := G) (w := w) (h := H) hd hw (wi_ne (h.2.1 i hi) (h.2.1 i hi)) (ws_a h.1 h.2.1 hi hj hij f1 f2) m m2
  rw [wh_id e1 e2] at this
  exact this
/-- behind a method of the desk: the number i is v, those of 'may' may be anything, the others are what they were -/
def dpost (H : ev_H) (D : Nat) (lay : Nat → Nat × Nat) (val : Nat → Nat) (P : (Nat → Nat) → Prop) (h1 : ev_H) : Prop := ∃ val2, DW h1 D lay val2 ∧ P val2 ∧ WF lay H h1
theorem k_multiply (hd : 3 ≤ dd) (hw : 49 ≤ w) (h : DW H D lay val) (hi : i < 20) (hj : j < 20) (h3 : i ≠ 3) (h4 : j ≠ 3) (hs : val i * val j < 1073741824 ^ 71) : ev_Ca G dd w m_X1_multiply [.ref D, .ref (lay i).1, .ref (lay j).1] H 0 0 (ev_ok (fun r h1 => r = none ∧ dpost H D lay val (fun v2 => v2 i = val i * val j ∧ ∀ x, x ≠ i → x ≠ 3 → v2 x = val x) h1)) := by
  obtain ⟨dd, rfl⟩ : ∃ e, dd = e + 1 := ⟨dd - 1, by omega⟩
  refine ⟨by decide +kernel, rfl, ?_⟩
  refine ev_aload_n (pc := 0) dX1_multiply_0 rfl ?_
  refine ev_getf (pc := 1) dX1_multiply_1 f_X1_22 h.2.2 rfl ?_
  refine ev_aload_n (pc := 4) dX1_multiply_4 rfl ?_
  refine ev_aload_n (pc := 5) dX1_multiply_5 rfl ?_
  refine ev_callVe (pc := 6) (As := [.ref (lay i).1, .ref (lay j).1]) dX1_multiply_6 cv_X1_40 rfl rfl (wi_o (h.2.1 3 (by decide))) rfl ⟨by show 19 + 9 ≤ w; omega, show ev_Ca _ _ (w - 28) _ _ _ _ _ _ from t_setProduct (i := 3) (by omega) (by omega) h (by decide) hi hj (Ne.symm h3) (Ne.symm h4) hs⟩ rfl rfl (fun r h1 hp => ?_)
  obtain ⟨rfl, hA, hF⟩ := hp
  refine ev_aload_n (pc := 9) dX1_multiply_9 rfl ?_
  refine ev_aload_n (pc := 10) dX1_multiply_10 rfl ?_
  refine ev_getf (pc := 11) dX1_multiply_11 f_X1_22 hA.2.2 rfl ?_
  refine ev_callVe (pc := 14) (As := [.ref (lay 3).1]) dX1_multiply_14 cv_X1_44 rfl rfl (wi_o (hA.2.1 i hi)) rfl ⟨by show 19 + 2 ≤ w; omega, show ev_Ca _ _ (w - 21) _ _ _ _ _ _ from t_copy (j := 3) (by omega) (by omega) hA hi (by decide) h3⟩ rfl rfl (fun r h1 hp => ?_)
  obtain ⟨rfl, hB, hF2⟩ := hp
  refine ev_vret (pc := 17) dX1_multiply_17 rfl ⟨rfl, _, hB, ⟨?_, fun x h5 h6 => ?_⟩, hF.tr hF2⟩
  · rw [va_up_self, va_up_self]
  · rw [va_up_ne _ _ h5, va_up_ne _ _ h6]
theorem k_scale {b : Nat} (hd : 4 ≤ dd) (hw : 71 ≤ w) (h : DW H D lay val) (hi : i < 20) (h3 : i ≠ 3) (h4 : i ≠ 4) (hb : b < 2 ^ 63) (hs : val i * b < 1073741824 ^ 71) : ev_Ca G dd w m_X1_scale [.ref D, .ref (lay i).1, .long (lN b)] H 0 0 (ev_ok (fun r h1 => r = none ∧ dpost H D lay val (fun v2 => v2 i = val i * b ∧ ∀ x, x ≠ i → x ≠ 3 → x ≠ 4 → v2 x = val x) h1)) := by
  obtain ⟨dd, rfl⟩ : ∃ e, dd = e + 1 := ⟨dd - 1, by omega⟩
  refine ⟨by decide +kernel, rfl, ?_⟩
  refine ev_aload_n (pc := 0) dX1_scale_0 rfl ?_
  refine ev_getf (pc := 1) dX1_scale_1 f_X1_25 h.2.2 rfl ?_
  refine ev_lload_n (pc := 4) dX1_scale_4 rfl ?_
  refine ev_callVe (pc := 5) (As := [.long (lN b)]) dX1_scale_5 cv_X1_48 rfl rfl (wi_o (h.2.1 4 (by decide))) rfl ⟨by show 19 + 3 ≤ w; omega, show ev_Ca _ _ (w - 22) _ _ _ _ _ _ from t_become (i := 4) (by omega) (by omega) h (by decide) hb⟩ rfl rfl (fun r h1 hp => ?_)
  obtain ⟨rfl, hA, hF⟩ := hp
  refine ev_aload_n (pc := 8) dX1_scale_8 rfl ?_
  refine ev_aload_n (pc := 9) dX1_scale_9 rfl ?_
  refine ev_aload_n (pc := 10) dX1_scale_10 rfl ?_
  refine ev_getf (pc := 11) dX1_scale_11 f_X1_25 hA.2.2 rfl ?_
  have e4 : va_up val 4 b i = val i := va_up_ne _ _ h4
  have e5 : va_up val 4 b 4 = b := va_up_self ..
  refine ev_callV (pc := 14) (As := [.ref (lay i).1, .ref (lay 4).1]) dX1_scale_14 cv_X1_52 rfl rfl hA.2.2 rfl ⟨by show 19 + 3 ≤ w; omega, show ev_Ca _ _ (w - 22) _ _ _ _ _ _ from k_multiply (j := 4) (by omega) (by omega) hA hi (by decide) h3 (by decide) (by rw [e4, e5]; exact hs)⟩ rfl rfl (fun r h1 hp => ?_)
  obtain ⟨rfl, v2, hB, ⟨q1, q2⟩, hF2⟩ := hp
  refine ev_vret (pc := 17) dX1_scale_17 rfl ⟨rfl, v2, hB, ⟨by rw [q1, e4, e5], fun x h5 h6 h7 => ?_⟩, hF.tr hF2⟩
  rw [q2 x h5 h6, va_up_ne _ _ h7]
end LAY
end
section
/-! Desk: divide -/
theorem wh_comm {h : ev_H} {q d n q0 d0 n0 : Nat} {g f : Nat → Nat} (s1 : q ≠ q0) (s2 : q ≠ d0) (s3 : d ≠ q0) (s4 : d ≠ d0) : wh_p (wh_p h q0 d0 n0 g) q d n f = wh_p (wh_p h q d n f) q0 d0 n0 g := by
  funext a
  unfold wh_p ev_up
  by_cases e1 : a = q
  · simp only [if_pos e1, if_neg (show ¬ a = q0 by rw [e1]; exact s1), if_neg (show ¬ a = d0 by rw [e1]; exact s2)]
  · by_cases e2 : a = d
    · simp only [if_neg e1, if_pos e2, if_neg (show ¬ a = q0 by rw [e2]; exact s3), if_neg (show ¬ a = d0 by rw [e2]; exact s4)]
    · simp only [if_neg e1, if_neg e2]
theorem wh_upc {h : ev_H} {q d n a : Nat} {f : Nat → Nat} {c : ev_C} (s1 : a ≠ q) (s2 : a ≠ d) : ev_up (wh_p h q d n f) a c = wh_p (ev_up h a c) q d n f := by
  funext x
  unfold wh_p ev_up
  by_cases e : x = a
  · simp only [if_pos e, if_neg (show ¬ x = q by rw [e]; exact s1), if_neg (show ¬ x = d by rw [e]; exact s2)]
  · simp only [if_neg e]
theorem mb_three (F : Nat → Nat) (s : Nat) : mb_v F (s + 3) = mb_v F s + ((F (s + 2) * 1073741824 + F (s + 1)) * 1073741824 + F s) * 1073741824 ^ s := by
  show mb_v F s + F s * 1073741824 ^ s + F (s + 1) * 1073741824 ^ (s + 1) + F (s + 2) * 1073741824 ^ (s + 1 + 1) = _
  rw [show (1073741824 : Nat) ^ (s + 1 + 1) = 1073741824 ^ s * 1073741824 * 1073741824 by rw [mb_pw, mb_pw], mb_pw]
  generalize 1073741824 ^ s = P
  grind
theorem mb_two (F : Nat → Nat) (s : Nat) : mb_v F (s + 2) = mb_v F s + (F (s + 1) * 1073741824 + F s) * 1073741824 ^ s := by
  show mb_v F s + F s * 1073741824 ^ s + F (s + 1) * 1073741824 ^ (s + 1) = _
  rw [mb_pw]
  generalize 1073741824 ^ s = P
  grind
/-- the guess of a digit, for numbers in digits -/
theorem mb_gd {g2 F : Nat → Nat} {n2 b R : Nat} (hn : 2 ≤ n2) (hg2 : ∀ j, g2 j < 1073741824) (hF : ∀ j, F j < 1073741824) (htop : 536870912 ≤ g2 (n2 - 1)) (hb : mb_v g2 n2 = b) (hR : mb_v F (n2 + 1) = R) (hlt : R < 1073741824 * b) :
    ∃ t, t = (mb_it (g2 (n2 - 1)) (g2 (n2 - 2)) (F (n2 - 2)) 2 ((F n2 * 1073741824 + F (n2 - 1)) / g2 (n2 - 1), (F n2 * 1073741824 + F (n2 - 1)) % g2 (n2 - 1))).1 ∧ R / b ≤ t ∧ t ≤ R / b + 1 ∧ t < 1073741824 ∧ R / b < 1073741824 := by
  obtain ⟨s, rfl⟩ : ∃ s, n2 = s + 2 := ⟨n2 - 2, by omega⟩
  simp only [show s + 2 - 1 = s + 1 by omega, show s + 2 - 2 = s by omega] at htop ⊢
  have hX : 0 < 1073741824 ^ s := mb_pp s
  have l1 := mb_lt (g := g2) (n := s) (fun j _ => hg2 j)
  have l2 := mb_lt (g := F) (n := s) (fun j _ => hF j)
  have e1 := mb_two g2 s
  have e2 := mb_three F s
  rw [hb] at e1
  rw [show s + 2 + 1 = s + 3 by omega] at hR
  rw [hR] at e2
  have hb0 : 0 < b := by
    rcases Nat.eq_zero_or_pos b with x | x
    · rw [x] at hlt; omega
    · exact x
  have hq : R / b < 1073741824 := Nat.div_lt_of_lt_mul (by rw [Nat.mul_comm]; exact hlt)
  have := mb_guess (top := g2 (s + 1)) (sec := g2 s) (u2 := F (s + 2)) (u1 := F (s + 1)) (u0 := F s) (X := 1073741824 ^ s) (b := b) (R := R) hX htop (hg2 _) (hg2 _) (hF _) (hF _) (by omega) (by rw [Nat.add_mul, Nat.one_mul]; omega) (by omega) (by rw [Nat.add_mul, Nat.one_mul]; omega) rfl hq
  exact ⟨_, rfl, this.1, this.2.1, this.2.2, hq⟩
section DIV
variable {G : ev_G} {w : Nat} {K : ev_K} {H : ev_H} {c z D q d n q0 d0 n0 q2 d2 n2 x1 x2 x3 x4 x5 x7 x8 : Nat} {g2 : Nat → Nat}
theorem l_divide {dd sh tp b A : Nat} (hd : 2 ≤ dd) (hw : 53 ≤ w) (hqd : q ≠ d) (hqd0 : q0 ≠ d0) (s1 : q ≠ q0) (s2 : q ≠ d0) (s3 : d ≠ q0) (s4 : d ≠ d0) (a2 : wh_a H q d q2 d2 n2 g2) (a3 : wh_a H q0 d0 q2 d2 n2 g2)
    (hD : H D = some (.inr (1, [.ref q0, .ref x1, .ref x2, .ref x3, .ref x4, .ref x5, .ref q2, .ref x7, .ref x8]))) (D1 : D ≠ q) (D2 : D ≠ d) (D3 : D ≠ q0) (D4 : D ≠ d0)
    (hg2 : ∀ j, g2 j < 1073741824) (hn2 : 2 ≤ n2) (htop : 536870912 ≤ g2 (n2 - 1)) (hb : mb_v g2 n2 = b) (htp : tp + n2 ≤ 71)
    (hK : ∀ Qd f, (∀ j, Qd j < 1073741824) → (∀ j, f j < 1073741824) → (∀ j, tp + 1 ≤ j → Qd j = 0) → (∀ j, n2 ≤ j → f j = 0) → mb_v f n2 < b → mb_v Qd 72 * b + mb_v f 72 = A → ev_J G (ev_cc G dd w) w m_X1_divide K (166, ev_lf [(0, .ref D), (1, .ref q), (3, .int (nI sh)), (4, .int (nI tp))], [], wh_p (wh_p H q0 d0 n0 Qd) q d n f, c, z)) :
    ∀ k Qd f, k ≤ tp + 1 → (∀ j, Qd j < 1073741824) → (∀ j, f j < 1073741824) → (∀ j, tp + 1 ≤ j → Qd j = 0) → (∀ j, j < k → Qd j = 0) → (∀ j, k + n2 ≤ j → f j = 0) → mb_v (fun j => f (k + j)) n2 < b → mb_v Qd 72 * b + mb_v f 72 = A → ev_J G (ev_cc G dd w) w m_X1_divide K (103, ev_lf [(0, .ref D), (1, .ref q), (3, .int (nI sh)), (4, .int (nI tp)), (5, .int (nI k - nI 1))], [], wh_p (wh_p H q0 d0 n0 Qd) q d n f, c, z)
  | 0, Qd, f, hk, hQ, hf, hQt, hQk, hfz, hlt, hv => by
    refine ev_iload (pc := 103) dX1_divide_103 rfl ?_
    refine ev_if_lt (pc := 105) (tgt := 166) dX1_divide_105 (by decide) (fun c1 => ?_) (fun c1 => ?_)
    · refine ev_vs [(0, .ref D), (1, .ref q), (3, .int (nI sh)), (4, .int (nI tp))] ⟨rfl, rfl, rfl, rfl, trivial⟩ ?_
      refine hK Qd f hQ hf hQt (fun j hj => hfz j (by omega)) ?_ hv
      simpa using hlt
    · exact absurd (by decide) c1
  | k + 1, Qd, f, hk, hQ, hf, hQt, hQk, hfz, hlt, hv => by
    have hXD : ∀ Qd f, wh_p (wh_p H q0 d0 n0 Qd) q d n f D = some (.inr (1, [.ref q0, .ref x1, .ref x2, .ref x3, .ref x4, .ref x5, .ref q2, .ref x7, .ref x8])) := fun Qd f => (wh_n D1 D2).trans ((wh_n D3 D4).trans hD)
    have aa : ∀ Qd, wh_a (wh_p H q0 d0 n0 Qd) q d q2 d2 n2 g2 := fun Qd => ⟨a2.1, a2.2.1, a2.2.2.1, a2.2.2.2.1, wh_aq a3, wh_ad a3⟩
    refine ev_iload (pc := 103) dX1_divide_103 rfl ?_
    refine ev_ti (nI_pred k) ?_
    refine ev_if_ltN (pc := 105) (tgt := 166) dX1_divide_105 (by decide) (by omega) ?_
    refine ev_vs [(0, .ref D), (1, .ref q), (3, .int (nI sh)), (4, .int (nI tp)), (5, .int (nI k))] ⟨rfl, rfl, rfl, rfl, ev_s1e (nI_pred k), trivial⟩ ?_
    -- the digits from k on
    obtain ⟨F, hFd⟩ : ∃ F : Nat → Nat, F = fun j => f (k + j) := ⟨_, rfl⟩
    obtain ⟨R, hR⟩ : ∃ R, R = mb_v F (n2 + 1) := ⟨_, rfl⟩
    have hFb : ∀ j, F j < 1073741824 := fun j => by rw [hFd]; exact hf _
    have hRlo : R = f k + 1073741824 * mb_v (fun j => f (k + 1 + j)) n2 := by rw [hR, hFd, mb_lo]
    have hfk := hf k
    have hRlt : R < 1073741824 * b := by omega
    obtain ⟨t, ht, t1, t2, t3, t4⟩ := mb_gd hn2 hg2 hFb htop hb hR.symm hRlt
    have hb0 : 0 < b := by omega
    have hdm := Nat.div_add_mod R b
    have hml := Nat.mod_lt R hb0
    obtain ⟨Q, hQd⟩ : ∃ Q, Q = R / b := ⟨_, rfl⟩
    rw [← hQd] at t1 t2 t4 hdm
    refine ev_aload_n (pc := 108) dX1_divide_108 rfl ?_
    refine ev_aload_n (pc := 109) dX1_divide_109 rfl ?_
    refine ev_getf (pc := 110) dX1_divide_110 f_X1_31 (hXD _ _) rfl ?_
    refine ev_iload (pc := 113) dX1_divide_113 rfl ?_
    refine ev_callV (pc := 115) (As := [.ref q2, .int (nI k)]) dX1_divide_115 cv_X1_83 rfl rfl wh_q rfl ⟨by show 19 + 13 ≤ w; omega, show ev_Ca _ _ (w - 32) _ _ _ _ _ _ from k_guessDigit (by omega) (by omega) hqd (aa _) hf hg2 hn2 (by omega) htop⟩ rfl rfl (fun r h1 hp => ?_)
    obtain ⟨rfl, rfl⟩ := hp
    have et : (mb_it (g2 (n2 - 1)) (g2 (n2 - 2)) (f (k + n2 - 2)) 2 ((f (k + n2) * 1073741824 + f (k + n2 - 1)) / g2 (n2 - 1), (f (k + n2) * 1073741824 + f (k + n2 - 1)) % g2 (n2 - 1))).1 = t := by
      rw [ht, hFd]
      simp only [show k + (n2 - 2) = k + n2 - 2 by omega, show k + (n2 - 1) = k + n2 - 1 by omega]
    rw [et]
    refine ev_istore (pc := 118) dX1_divide_118 rfl ?_
    refine ev_aload_n (pc := 120) dX1_divide_120 rfl ?_
    refine ev_iload (pc := 121) dX1_divide_121 rfl ?_
    refine ev_aload_n (pc := 123) dX1_divide_123 rfl ?_
    refine ev_getf (pc := 124) dX1_divide_124 f_X1_31 (hXD _ _) rfl ?_
    refine ev_iload (pc := 127) dX1_divide_127 rfl ?_
    refine ev_callV (pc := 129) (As := [.int (nI k), .ref q2, .int (nI t)]) dX1_divide_129 cv_X1_87 rfl rfl wh_q rfl ⟨by show 19 + 10 ≤ w; omega, show ev_Ca _ _ (w - 29) _ _ _ _ _ _ from k_subtractAt (by omega) (by omega) hqd (aa _) hf hg2 t3 (by omega)⟩ rfl rfl (fun r h1 hp => ?_)
    obtain ⟨f1, s, rfl, rfl, hf1, hfe, hs1, hv1⟩ := hp
    rw [hb, ← hFd, ← hR] at hv1
    -- the digit is put, and it goes on
    have fin : ∀ f' : Nat → Nat, (∀ j, f' j < 1073741824) → (∀ j, j < k ∨ k + n2 < j → f' j = f j) → mb_v (fun j => f' (k + j)) (n2 + 1) = R % b → ev_J G (ev_cc G dd w) w m_X1_divide K (148, ev_lf [(0, .ref D), (1, .ref q), (3, .int (nI sh)), (4, .int (nI tp)), (5, .int (nI k)), (6, .int (nI Q))], [], wh_p (wh_p H q0 d0 n0 Qd) q d n f', c, z) := by
      intro f' hf' hfe' hv'
      refine ev_aload_n (pc := 148) dX1_divide_148 rfl ?_
      refine ev_getf (pc := 149) dX1_divide_149 f_X1_10 (hXD _ _) rfl ?_
      refine ev_getf (pc := 152) dX1_divide_152 f_X1_67 ((wh_n (Ne.symm s1) (Ne.symm s3)).trans wh_q) rfl ?_
      refine ev_iload (pc := 155) dX1_divide_155 rfl ?_
      refine ev_iload (pc := 157) dX1_divide_157 rfl ?_
      refine ev_iast (pc := 159) dX1_divide_159 ((wh_n (Ne.symm s2) (Ne.symm s4)).trans (wh_d hqd0)) (vp_in_nI (by omega) (by omega)) ?_
      refine ev_th ((wh_upc (Ne.symm s2) (Ne.symm s4)).trans (congrArg (fun x => wh_p x q d n f') (wh_st hqd0 (by omega)))) ?_
      refine ev_iinc (pc := 160) dX1_divide_160 rfl rfl ?_
      refine ev_goto (pc := 163) (tgt := 103) dX1_divide_163 (by decide) ?_
      refine ev_vs [(0, .ref D), (1, .ref q), (3, .int (nI sh)), (4, .int (nI tp)), (5, .int (nI k - nI 1))] ⟨rfl, rfl, rfl, rfl, ev_s1e (mi_m1 k), trivial⟩ ?_
      -- what stands above is 0: the rest is below the divisor
      have hz : f' (k + n2) = 0 := by
        have e := hv'
        rw [mb_vs] at e
        rcases Nat.eq_zero_or_pos (f' (k + n2)) with x | x
        · exact x
        · exfalso
          have h1 : 1 * 1073741824 ^ n2 ≤ f' (k + n2) * 1073741824 ^ n2 := Nat.mul_le_mul_right _ x
          have h2 : b < 1073741824 ^ n2 := by rw [← hb]; exact mb_lt (fun j _ => hg2 j)
          omega
      refine l_divide hd hw hqd hqd0 s1 s2 s3 s4 a2 a3 hD D1 D2 D3 D4 hg2 hn2 htop hb htp hK k _ f' (by omega) (mb_upb hQ t4) hf' (fun j hj => by rw [va_up_ne _ _ (by omega)]; exact hQt j hj) (fun j hj => by rw [va_up_ne _ _ (by omega)]; exact hQk j (by omega)) (fun j hj => ?_) ?_ ?_
      · rcases Nat.eq_or_lt_of_le hj with x | x
        · rw [← x]; exact hz
        · rw [hfe' j (Or.inr (by omega))]; exact hfz j (by omega)
      · have e := hv'
        rw [mb_vs, hz] at e
        omega
      · have e1 : mb_v f 72 = mb_v f k + 1073741824 ^ k * R := by
          have h1 := mb_cut f k (72 - k)
          rw [show k + (72 - k) = 72 by omega] at h1
          rw [h1, hR, hFd, mb_top (n := n2 + 1) (m := 72 - k) (by omega) (fun j h2 _ => hfz (k + j) (by omega))]
        have e2 : mb_v f' 72 = mb_v f k + 1073741824 ^ k * (R % b) := by
          have h1 := mb_cut f' k (72 - k)
          rw [show k + (72 - k) = 72 by omega] at h1
          rw [h1, ← hv', mb_top (n := n2 + 1) (m := 72 - k) (by omega) (fun j h2 _ => by rw [hfe' (k + j) (Or.inr (by omega))]; exact hfz (k + j) (by omega)), mb_congr (g := f') (h := f) (fun j hj => hfe' j (Or.inl hj))]
        have e3 := mb_up (g := Qd) (k := k) (x := Q) (n := 72) (by omega)
        rw [hQk k (by omega), Nat.zero_mul, Nat.add_zero] at e3
        rw [e3, e2, ← hv, e1, Nat.add_mul]
        have e4 : 1073741824 ^ k * R = 1073741824 ^ k * (b * Q) + 1073741824 ^ k * (R % b) := by rw [← Nat.mul_add, hdm]
        have e5 : Q * 1073741824 ^ k * b = 1073741824 ^ k * (b * Q) := by rw [Nat.mul_comm Q, Nat.mul_assoc, Nat.mul_comm Q]
        omega
    rcases Nat.lt_or_ge 0 s with hs | hs
    · -- one too much
      have es : s = 1 := by omega
      subst es
      have hB : b < 1073741824 ^ n2 := by rw [← hb]; exact mb_lt (fun j _ => hg2 j)
      have l1 : mb_v (fun j => f1 (k + j)) (n2 + 1) < 1073741824 ^ (n2 + 1) := mb_lt (fun j _ => hf1 _)
      have etQ : t = Q + 1 := by
        rcases Nat.eq_or_lt_of_le t1 with x | x
        · exfalso
          have : t * b = b * Q := by rw [← x, Nat.mul_comm]
          omega
        · omega
      refine ev_if_eqN (pc := 132) (tgt := 148) dX1_divide_132 (by decide) (by omega) (fun c2 => absurd c2 (by decide)) (fun _ => ?_)
      refine ev_aload_n (pc := 135) dX1_divide_135 rfl ?_
      refine ev_iload (pc := 136) dX1_divide_136 rfl ?_
      refine ev_aload_n (pc := 138) dX1_divide_138 rfl ?_
      refine ev_getf (pc := 139) dX1_divide_139 f_X1_31 (hXD _ _) rfl ?_
      refine ev_callV (pc := 142) (As := [.int (nI k), .ref q2]) dX1_divide_142 cv_X1_91 rfl rfl wh_q rfl ⟨by show 19 + 7 ≤ w; omega, show ev_Ca _ _ (w - 26) _ _ _ _ _ _ from k_addAt (by omega) (by omega) hqd (aa _) hf1 hg2 (by omega)⟩ rfl rfl (fun r h1 hp => ?_)
      obtain ⟨rfl, f3, cy, rfl, hf3, hfe3, hcy, hv3⟩ := hp
      rw [hb] at hv3
      have l3 : mb_v (fun j => f3 (k + j)) (n2 + 1) < 1073741824 ^ (n2 + 1) := mb_lt (fun j _ => hf3 _)
      have htb : t * b = b * Q + b := by rw [etQ, Nat.add_mul, Nat.one_mul, Nat.mul_comm]
      have hcy1 : cy = 1 := by
        rcases Nat.eq_zero_or_pos cy with x | x
        · exfalso; subst x; omega
        · omega
      subst hcy1
      refine ev_iincD (pc := 145) dX1_divide_145 rfl rfl (by omega) ?_
      refine ev_vs [(0, .ref D), (1, .ref q), (3, .int (nI sh)), (4, .int (nI tp)), (5, .int (nI k)), (6, .int (nI Q))] ⟨rfl, rfl, rfl, rfl, rfl, by rw [etQ]; rfl, trivial⟩ ?_
      refine fin f3 hf3 (fun j hj => by rw [hfe3 j hj]; exact hfe j hj) ?_
      omega
    · have es : s = 0 := by omega
      subst es
      have etQ : t = Q := by
        rcases Nat.eq_or_lt_of_le t1 with x | x
        · exact x.symm
        · exfalso
          have e : t = Q + 1 := by omega
          have : t * b = b * Q + b := by rw [e, Nat.add_mul, Nat.one_mul, Nat.mul_comm]
          omega
      refine ev_if_eqN (pc := 132) (tgt := 148) dX1_divide_132 (by decide) (by omega) (fun _ => ?_) (fun c2 => absurd c2 (by decide))
      refine ev_vs [(0, .ref D), (1, .ref q), (3, .int (nI sh)), (4, .int (nI tp)), (5, .int (nI k)), (6, .int (nI Q))] ⟨rfl, rfl, rfl, rfl, rfl, by rw [← etQ]; rfl, trivial⟩ ?_
      refine fin f1 hf1 hfe ?_
      have : t * b = b * Q := by rw [etQ, Nat.mul_comm]
      omega
end DIV
end
section
/-! Desk: divide, commonDivisor, cancel -/
theorem mi_cmp_lt {a b : Nat} : (0 ≤ mi_cmp a b) ↔ b ≤ a := by
  unfold mi_cmp
  by_cases h1 : a < b
  · rw [if_pos h1]; exact ⟨fun e => absurd e (by decide), fun e => by omega⟩
  · rw [if_neg h1]
    by_cases h2 : a = b
    · rw [if_pos h2]; exact ⟨fun _ => by omega, fun _ => by decide⟩
    · rw [if_neg h2]; exact ⟨fun _ => by omega, fun _ => by decide⟩
section DIV2
variable {G : ev_G} {w : Nat} {H : ev_H} {D : Nat} {lay : Nat → Nat × Nat} {val : Nat → Nat} {i j k dd : Nat}
theorem k_divide (hd : 3 ≤ dd) (hw : 53 ≤ w) (h : DW H D lay val) (hi : i < 20) (hj : j < 20) (hij : i ≠ j) (hi0 : i ≠ 0) (hj0 : j ≠ 0) (hi6 : i ≠ 6) (hj6 : j ≠ 6) (hs : val i < 1073741824 ^ 70) : ev_Ca G dd w m_X1_divide [.ref D, .ref (lay i).1, .ref (lay j).1] H 0 0 (ev_ok (fun r h1 => r = none ∧ dpost H D lay val (fun v2 => v2 0 = val i / val j ∧ v2 i = val i % val j ∧ ∀ x, x ≠ i → x ≠ 0 → x ≠ 6 → v2 x = val x) h1)) := by
  obtain ⟨dd, rfl⟩ : ∃ e, dd = e + 1 := ⟨dd - 1, by omega⟩
  refine ⟨by decide +kernel, rfl, ?_⟩
  refine ev_aload_n (pc := 0) dX1_divide_0 rfl ?_
  refine ev_getf (pc := 1) dX1_divide_1 f_X1_10 h.2.2 rfl ?_
  refine ev_lconst (pc := 4) (v := lN 0) dX1_divide_4 (by decide) ?_
  refine ev_callVe (pc := 5) (As := [.long (lN 0)]) dX1_divide_5 cv_X1_48 rfl rfl (wi_o (h.2.1 0 (by decide))) rfl ⟨by show 19 + 3 ≤ w; omega, show ev_Ca _ _ (w - 22) _ _ _ _ _ _ from t_become (i := 0) (by omega) (by omega) h (by decide) (by decide)⟩ rfl rfl (fun r h1 hp => ?_)
  obtain ⟨rfl, hA, hF⟩ := hp
  obtain ⟨vA, hvA⟩ : ∃ v, v = va_up val 0 0 := ⟨_, rfl⟩
  rw [← hvA] at hA
  have eA : ∀ x, x ≠ 0 → vA x = val x := fun x hx => by rw [hvA]; exact va_up_ne _ _ hx
  have eA0 : vA 0 = 0 := by rw [hvA]; exact va_up_self ..
  have ei := eA i hi0
  have ej := eA j hj0
  refine ev_aload_n (pc := 8) dX1_divide_8 rfl ?_
  refine ev_callVe (pc := 9) (As := []) dX1_divide_9 cv_X1_55 rfl rfl (wi_o (hA.2.1 j hj)) rfl ⟨by show 19 + 1 ≤ w; omega, show ev_Ca _ _ (w - 20) _ _ _ _ _ _ from t_isZero (by omega) hA hj⟩ rfl rfl (fun r h1 hp => ?_)
  obtain ⟨rfl, rfl⟩ := hp
  by_cases z : vA j = 0
  · rw [if_pos z]
    refine ev_if_neN (pc := 12) (tgt := 23) dX1_divide_12 (by decide) (by decide) (fun _ => ?_) (fun c2 => absurd c2 (by decide))
    refine ev_vret (pc := 23) dX1_divide_23 rfl ⟨rfl, vA, hA, ⟨?_, ?_, fun x _ h5 _ => eA x h5⟩, hF⟩
    · rw [eA0, ← ej, z, Nat.div_zero]
    · rw [ei, ← ej, z, Nat.mod_zero]
  · rw [if_neg z]
    refine ev_if_neN (pc := 12) (tgt := 23) dX1_divide_12 (by decide) (by decide) (fun c2 => absurd c2 (by decide)) (fun _ => ?_)
    refine ev_aload_n (pc := 15) dX1_divide_15 rfl ?_
    refine ev_aload_n (pc := 16) dX1_divide_16 rfl ?_
    refine ev_callVe (pc := 17) (As := [.ref (lay j).1]) dX1_divide_17 cv_X1_59 rfl rfl (wi_o (hA.2.1 i hi)) rfl ⟨by show 19 + 3 ≤ w; omega, show ev_Ca _ _ (w - 22) _ _ _ _ _ _ from t_compareWith (by omega) (by omega) hA hi hj hij⟩ rfl rfl (fun r h1 hp => ?_)
    obtain ⟨rfl, rfl⟩ := hp
    refine ev_if_ge (pc := 20) (tgt := 24) dX1_divide_20 (by decide) (fun c1 => ?_) (fun c1 => ?_)
    · have hle := mi_cmp_lt.mp c1
      rw [ei, ej] at hle
      obtain ⟨g2, n2, f1, f2, m2⟩ := id (hA.2.1 j hj)
      rw [ej] at m2
      have hn2 := m2.2.2.2.1
      have hn0 : n2 ≠ 0 := fun e => z (by rw [ej]; exact (mb_is_z m2).mp e)
      refine ev_aload_n (pc := 24) dX1_divide_24 rfl ?_
      refine ev_getf (pc := 25) dX1_divide_25 f_X1_63 f1 rfl ?_
      refine ev_iconst (pc := 28) (v := nI 1) dX1_divide_28 (by decide) ?_
      refine ev_icmp_neN (pc := 29) (tgt := 59) dX1_divide_29 (by decide) (by omega) (by omega) (fun c2 => ?_) (fun c2 => ?_)
      · -- two digits or more
        refine ev_aload_n (pc := 59) dX1_divide_59 rfl ?_
        have hfb := k_freeBits (G := G) (w := w - 21) (h := h1) (dd := dd) (q := (lay j).1) (d := (lay j).2) (g := g2) (n := n2) (by omega) (wi_ne (hA.2.1 j hj) (hA.2.1 j hj)) m2
        rw [wh_id f1 f2] at hfb
        refine ev_callV (pc := 60) (As := []) dX1_divide_60 cv_X1_75 rfl rfl f1 rfl ⟨by show 19 + 2 ≤ w; omega, show ev_Ca _ _ (w - 21) _ _ _ _ _ _ from hfb⟩ rfl rfl (fun r h1 hp => ?_)
        obtain ⟨sh, rfl, rfl, hsh⟩ := hp
        rcases hsh with ⟨e, -⟩ | ⟨-, s1, s2, s3⟩
        · exact absurd e hn0
        refine ev_istore_n (pc := 63) dX1_divide_63 rfl ?_
        refine ev_aload_n (pc := 64) dX1_divide_64 rfl ?_
        refine ev_getf (pc := 65) dX1_divide_65 f_X1_31 hA.2.2 rfl ?_
        refine ev_aload_n (pc := 68) dX1_divide_68 rfl ?_
        refine ev_callVe (pc := 69) (As := [.ref (lay j).1]) dX1_divide_69 cv_X1_44 rfl rfl (wi_o (hA.2.1 6 (by decide))) rfl ⟨by show 19 + 2 ≤ w; omega, show ev_Ca _ _ (w - 21) _ _ _ _ _ _ from t_copy (i := 6) (by omega) (by omega) hA (by decide) hj (Ne.symm hj6)⟩ rfl rfl (fun r h1 hp => ?_)
        obtain ⟨rfl, hB, hF2⟩ := hp
        obtain ⟨vB, hvB⟩ : ∃ v, v = va_up vA 6 (vA j) := ⟨_, rfl⟩
        rw [← hvB] at hB
        have eB6 : vB 6 = val j := by rw [hvB, va_up_self, ej]
        have eBi : vB i = val i := by rw [hvB, va_up_ne _ _ hi6, ei]
        have hP2 : 2 ^ sh ≤ 2 ^ 29 := Nat.pow_le_pow_right (by decide) (by omega)
        have hP0 : 0 < 2 ^ sh := Nat.pow_pos (by decide)
        have hmul : ∀ v, v < 1073741824 ^ 70 → v * 2 ^ sh < 1073741824 ^ 71 := fun v hv => by
          have h3 : v * 2 ^ sh < 1073741824 ^ 70 * 2 ^ sh := Nat.mul_lt_mul_of_pos_right hv hP0
          have h4 : 1073741824 ^ 70 * 2 ^ sh ≤ 1073741824 ^ 70 * 1073741824 := Nat.mul_le_mul_left _ (by omega)
          have h5 : 1073741824 ^ 71 = 1073741824 ^ 70 * 1073741824 := mb_pw 70
          omega
        have h7172 : 1073741824 ^ 71 ≤ 1073741824 ^ 72 := Nat.pow_le_pow_right (by decide) (by decide)
        refine ev_aload_n (pc := 72) dX1_divide_72 rfl ?_
        refine ev_getf (pc := 73) dX1_divide_73 f_X1_31 hB.2.2 rfl ?_
        refine ev_iload_n (pc := 76) dX1_divide_76 rfl ?_
        refine ev_callVe (pc := 77) (As := [.int (nI sh)]) dX1_divide_77 cv_X1_79 rfl rfl (wi_o (hB.2.1 6 (by decide))) rfl ⟨by show 19 + 8 ≤ w; omega, show ev_Ca _ _ (w - 27) _ _ _ _ _ _ from t_shiftUp (i := 6) (by omega) (by omega) hB (by decide) s1 (by rw [eB6]; exact Nat.lt_of_lt_of_le (hmul _ (by omega)) h7172)⟩ rfl rfl (fun r h1 hp => ?_)
        obtain ⟨rfl, hC, hF3⟩ := hp
        rw [eB6] at hC
        obtain ⟨vC, hvC⟩ : ∃ v, v = va_up vB 6 (val j * 2 ^ sh) := ⟨_, rfl⟩
        rw [← hvC] at hC
        have eCi : vC i = val i := by rw [hvC, va_up_ne _ _ hi6, eBi]
        refine ev_aload_n (pc := 80) dX1_divide_80 rfl ?_
        refine ev_iload_n (pc := 81) dX1_divide_81 rfl ?_
        refine ev_callVe (pc := 82) (As := [.int (nI sh)]) dX1_divide_82 cv_X1_79 rfl rfl (wi_o (hC.2.1 i hi)) rfl ⟨by show 19 + 8 ≤ w; omega, show ev_Ca _ _ (w - 27) _ _ _ _ _ _ from t_shiftUp (i := i) (by omega) (by omega) hC hi s1 (by rw [eCi]; exact Nat.lt_of_lt_of_le (hmul _ hs) h7172)⟩ rfl rfl (fun r h1 hp => ?_)
        obtain ⟨rfl, hE, hF4⟩ := hp
        rw [eCi] at hE
        obtain ⟨vE, hvE⟩ : ∃ v, v = va_up vC i (val i * 2 ^ sh) := ⟨_, rfl⟩
        rw [← hvE] at hE
        have eEi : vE i = val i * 2 ^ sh := by rw [hvE, va_up_self]
        have eE6 : vE 6 = val j * 2 ^ sh := by rw [hvE, va_up_ne _ _ (Ne.symm hi6), hvC, va_up_self]
        have eE0 : vE 0 = 0 := by rw [hvE, va_up_ne _ _ (Ne.symm hi0), hvC, va_up_ne _ _ (by decide), hvB, va_up_ne _ _ (by decide), eA0]
        have eEx : ∀ x, x ≠ i → x ≠ 0 → x ≠ 6 → vE x = val x := fun x a b c => by rw [hvE, va_up_ne _ _ a, hvC, va_up_ne _ _ c, hvB, va_up_ne _ _ c, eA x b]
        have hFE := ((hF.tr hF2).tr hF3).tr hF4
        -- the three rows
        obtain ⟨f0, n1, i1, i2, mi⟩ := id (hE.2.1 i hi)
        obtain ⟨gs, ns, j1, j2, ms⟩ := id (hE.2.1 6 (by decide))
        obtain ⟨q0, n0, k1, k2, m0⟩ := id (hE.2.1 0 (by decide))
        rw [eEi] at mi
        rw [eE6] at ms
        rw [eE0] at m0
        have hq0z : q0 = fun _ => 0 := by
          have e0 : n0 = 0 := (mb_is_z m0).mpr rfl
          funext x
          exact m0.2.1 x (by omega)
        -- the shifted divisor has as many digits, and its top one is large
        have hbj : 1073741824 ^ (n2 - 1) * 2 ^ (29 - sh) ≤ val j := by
          have e := m2.2.2.2.2
          obtain ⟨r, hr⟩ : ∃ r, n2 = r + 1 := ⟨n2 - 1, by omega⟩
          rw [hr, mb_vs] at e
          rw [hr] at s2
          simp only [Nat.add_sub_cancel] at s2
          rw [hr, Nat.add_sub_cancel, Nat.mul_comm]
          have := Nat.mul_le_mul_right (1073741824 ^ r) s2
          omega
        have hbj2 : val j < 1073741824 ^ (n2 - 1) * 2 ^ (30 - sh) := by
          have e := m2.2.2.2.2
          obtain ⟨r, hr⟩ : ∃ r, n2 = r + 1 := ⟨n2 - 1, by omega⟩
          rw [hr, mb_vs] at e
          rw [hr] at s3
          simp only [Nat.add_sub_cancel] at s3
          have l := mb_lt (g := g2) (n := r) (fun x _ => m2.1 x)
          rw [hr, Nat.add_sub_cancel, Nat.mul_comm]
          have := Nat.mul_le_mul_right (1073741824 ^ r) (show g2 r + 1 ≤ 2 ^ (30 - sh) from s3)
          rw [Nat.add_mul] at this
          omega
        have hsb : 1073741824 ^ (n2 - 1) * 536870912 ≤ val j * 2 ^ sh := by
          have := Nat.mul_le_mul_right (2 ^ sh) hbj
          rw [Nat.mul_assoc, ← Nat.pow_add, show 29 - sh + sh = 29 by omega] at this
          exact this
        have hsb2 : val j * 2 ^ sh < 1073741824 ^ (n2 - 1) * 1073741824 := by
          have := Nat.mul_lt_mul_of_pos_right hbj2 hP0
          rw [Nat.mul_assoc, ← Nat.pow_add, show 30 - sh + sh = 30 by omega] at this
          exact this
        have hns : ns = n2 := by
          have a1 : ns ≤ n2 := mb_is_n ms (by rw [show n2 = n2 - 1 + 1 by omega, mb_pw]; exact hsb2)
          rcases Nat.lt_or_ge ns n2 with x | x
          · exfalso
            have a2 := mb_is_lt ms
            have a3 : 1073741824 ^ ns ≤ 1073741824 ^ (n2 - 1) := Nat.pow_le_pow_right (by decide) (by omega)
            have a4 := mb_pp (n2 - 1)
            omega
          · omega
        subst hns
        have htop : 536870912 ≤ gs (ns - 1) := by
          have e := ms.2.2.2.2
          obtain ⟨r, hr⟩ : ∃ r, ns = r + 1 := ⟨ns - 1, by omega⟩
          rw [hr, mb_vs] at e
          have l := mb_lt (g := gs) (n := r) (fun x _ => ms.1 x)
          rw [hr, Nat.add_sub_cancel] at hsb ⊢
          rcases Nat.lt_or_ge (gs r) 536870912 with x | x
          · exfalso
            have := Nat.mul_le_mul_right (1073741824 ^ r) (show gs r + 1 ≤ 536870912 from x)
            rw [Nat.add_mul] at this
            omega
          · exact x
        have hn1 : n1 ≤ 71 := mb_is_n mi (hmul _ hs)
        have hn1s : ns ≤ n1 := by
          rcases Nat.lt_or_ge n1 ns with x | x
          · exfalso
            have a2 := mb_is_lt mi
            have a3 : 1073741824 ^ n1 ≤ 1073741824 ^ (ns - 1) := Nat.pow_le_pow_right (by decide) (by omega)
            have a4 := Nat.mul_le_mul_right (2 ^ sh) hle
            have a5 := mb_pp (ns - 1)
            omega
          · exact x
        refine ev_aload_n (pc := 85) dX1_divide_85 rfl ?_
        refine ev_getf (pc := 86) dX1_divide_86 f_X1_63 i1 rfl ?_
        refine ev_aload_n (pc := 89) dX1_divide_89 rfl ?_
        refine ev_getf (pc := 90) dX1_divide_90 f_X1_31 hE.2.2 rfl ?_
        refine ev_getf (pc := 93) dX1_divide_93 f_X1_63 j1 rfl ?_
        refine ev_isubN (pc := 96) dX1_divide_96 (by omega) ?_
        refine ev_istore (pc := 97) dX1_divide_97 rfl ?_
        refine ev_iload (pc := 99) dX1_divide_99 rfl ?_
        refine ev_istore (pc := 101) dX1_divide_101 rfl ?_
        obtain ⟨tp, htp⟩ : ∃ tp, tp = n1 - ns := ⟨_, rfl⟩
        rw [← htp]
        have hL := hE.1
        have hS := hE.2.1
        have hqd := wi_ne (hS i hi) (hS i hi)
        have hqd0 := wi_ne (hS 0 (by decide)) (hS 0 (by decide))
        have t1 := (hL i 0 hi (by decide) hi0).1
        have t2 := wi_ne (hS i hi) (hS 0 (by decide))
        have t3 := Ne.symm (wi_ne (hS 0 (by decide)) (hS i hi))
        have t4 := (hL i 0 hi (by decide) hi0).2
        have hDo := dw_out hE
        refine ev_vs [(0, .ref D), (1, .ref (lay i).1), (3, .int (nI sh)), (4, .int (nI tp)), (5, .int (nI (tp + 1) - nI 1))] ⟨rfl, rfl, rfl, rfl, ev_s1e (nI_pred tp).symm, trivial⟩ ?_
        refine ev_th (((wh_id i1 i2).symm).trans (congrArg (fun x => wh_p x (lay i).1 (lay i).2 n1 f0) (wh_id k1 k2).symm)) ?_
        refine l_divide (b := val j * 2 ^ sh) (A := val i * 2 ^ sh) (by omega) hw hqd hqd0 t1 t2 t3 t4 (ws_a hL hS hi (by decide) hi6 j1 j2) (ws_a hL hS (by decide) (by decide) (by decide) j1 j2) hE.2.2 (hDo i hi).1 (hDo i hi).2 (hDo 0 (by decide)).1 (hDo 0 (by decide)).2 ms.1 (by omega) htop ms.2.2.2.2 (by omega) (fun Qd f hQ hf hQt hfz hlt hv => ?_) (tp + 1) q0 f0 (by omega) m0.1 mi.1 (fun x _ => by rw [hq0z]) (fun x _ => by rw [hq0z]) (fun x hx => mi.2.1 x (by omega)) ?_ ?_
        · -- behind the loop
          have e72 : mb_v f 72 = mb_v f ns := mb_top (by omega) (fun x a _ => hfz x a)
          rw [e72] at hv
          have hb0 : 0 < val j * 2 ^ sh := by omega
          have hu : (val i * 2 ^ sh) / (val j * 2 ^ sh) = mb_v Qd 72 ∧ (val i * 2 ^ sh) % (val j * 2 ^ sh) = mb_v f ns := (Nat.div_mod_unique hb0).mpr ⟨by rw [Nat.mul_comm]; omega, hlt⟩
          have hu1 : val i / val j = mb_v Qd 72 := by rw [← hu.1, Nat.mul_div_mul_right _ _ hP0]
          have hu2 : (val i % val j) * 2 ^ sh = mb_v f ns := by rw [← hu.2, Nat.mul_mod_mul_right]
          have hXD : ∀ m1 m2 Qd f, wh_p (wh_p h1 (lay 0).1 (lay 0).2 m1 Qd) (lay i).1 (lay i).2 m2 f D = some (.inr (1, dkf lay)) := fun m1 m2 Qd f => (wh_n (hDo i hi).1 (hDo i hi).2).trans ((wh_n (hDo 0 (by decide)).1 (hDo 0 (by decide)).2).trans hE.2.2)
          refine ev_aload_n (pc := 166) dX1_divide_166 rfl ?_
          refine ev_getf (pc := 167) dX1_divide_167 f_X1_10 (hXD _ _ _ _) rfl ?_
          refine ev_iload (pc := 170) dX1_divide_170 rfl ?_
          refine ev_iconst (pc := 172) (v := nI 1) dX1_divide_172 (by decide) ?_
          refine ev_iaddN (pc := 173) dX1_divide_173 ?_
          have hct := k_trim (G := G) (w := w - 21) (h := wh_p h1 (lay i).1 (lay i).2 n1 f) (q := (lay 0).1) (d := (lay 0).2) (n := n0) (g := Qd) (dd := dd) (m := tp + 1) (by omega) hqd0 hQ (by omega)
          rw [← wh_comm t1 t2 t3 t4] at hct
          refine ev_callV (pc := 174) (As := [.int (nI (tp + 1))]) dX1_divide_174 cv_X1_95 rfl rfl ((wh_n (Ne.symm t1) (Ne.symm t3)).trans wh_q) rfl ⟨by show 19 + 2 ≤ w; omega, show ev_Ca _ _ (w - 21) _ _ _ _ _ _ from hct⟩ rfl rfl (fun r h1 hp => ?_)
          obtain ⟨rfl, rfl⟩ := hp
          rw [Nat.min_eq_left (show tp + 1 ≤ 72 by omega), ← wh_comm t1 t2 t3 t4]
          refine ev_aload_n (pc := 177) dX1_divide_177 rfl ?_
          refine ev_aload_n (pc := 178) dX1_divide_178 rfl ?_
          refine ev_getf (pc := 179) dX1_divide_179 f_X1_63 wh_q rfl ?_
          refine ev_callV (pc := 182) (As := [.int (nI n1)]) dX1_divide_182 cv_X1_95 rfl rfl wh_q rfl ⟨by show 19 + 2 ≤ w; omega, show ev_Ca _ _ (w - 21) _ _ _ _ _ _ from k_trim (by omega) hqd hf (by omega)⟩ rfl rfl (fun r h1 hp => ?_)
          obtain ⟨rfl, rfl⟩ := hp
          rw [Nat.min_eq_left (show n1 ≤ 72 by omega)]
          have mQ : mb_is Qd (mb_tr Qd (tp + 1)) (val i / val j) := mb_tr_is hQ hQt (by omega) (by rw [hu1]; exact (mb_top (by omega) (fun x a _ => hQt x a)).symm)
          have mR : mb_is f (mb_tr f n1) ((val i % val j) * 2 ^ sh) := mb_tr_is hf (fun x hx => hfz x (by omega)) (by omega) (by rw [hu2]; exact mb_top hn1s (fun x a _ => hfz x a))
          obtain ⟨hG1, hG2⟩ := ws_put hE (i := 0) (by decide) ⟨Qd, _, mQ, rfl⟩
          obtain ⟨hM1, hM2⟩ := ws_put hG1 (i := i) hi ⟨f, _, mR, rfl⟩
          have e9 : va_up (va_up vE 0 (val i / val j)) i ((val i % val j) * 2 ^ sh) i = (val i % val j) * 2 ^ sh := va_up_self ..
          refine ev_aload_n (pc := 185) dX1_divide_185 rfl ?_
          refine ev_iload_n (pc := 186) dX1_divide_186 rfl ?_
          refine ev_callVe (pc := 187) (As := [.int (nI sh)]) dX1_divide_187 cv_X1_98 rfl rfl (wi_o (hM1.2.1 i hi)) rfl ⟨by show 19 + 9 ≤ w; omega, show ev_Ca _ _ (w - 28) _ _ _ _ _ _ from t_shiftDown (i := i) (by omega) (by omega) hM1 hi s1⟩ rfl rfl (fun r h1 hp => ?_)
          obtain ⟨rfl, hN, hF5⟩ := hp
          rw [e9, Nat.mul_div_cancel _ hP0] at hN
          refine ev_vret (pc := 190) dX1_divide_190 rfl ⟨rfl, _, hN, ⟨?_, ?_, fun x a b c => ?_⟩, ((hFE.tr hG2).tr hM2).tr hF5⟩
          · rw [va_up_ne _ _ (Ne.symm hi0), va_up_ne _ _ (Ne.symm hi0), va_up_self]
          · rw [va_up_self]
          · rw [va_up_ne _ _ a, va_up_ne _ _ a, va_up_ne _ _ b]; exact eEx x a b c
        · -- above the first place
          have h1 := mb_cut f0 (tp + 1) (ns - 1)
          have e1 : mb_v f0 (tp + 1 + (ns - 1)) = val i * 2 ^ sh := mb_is_at mi (by omega)
          have e2 : mb_v (fun x => f0 (tp + 1 + x)) ns = mb_v (fun x => f0 (tp + 1 + x)) (ns - 1) := mb_top (by omega) (fun x a b => mi.2.1 _ (by omega))
          have l := mb_lt (g := fun x => f0 (tp + 1 + x)) (n := ns - 1) (fun x _ => mi.1 _)
          rw [e2]
          have := mb_pp (ns - 1)
          omega
        · rw [hq0z, mb_zero (fun _ _ => rfl), Nat.zero_mul, Nat.zero_add]
          exact mb_is_at mi (by omega)
      · -- one digit
        subst c2
        have e0 : g2 0 = val j := by
          have := m2.2.2.2.2
          rw [mb_vs, mb_v0] at this
          omega
        have hjl := m2.1 0
        refine ev_aload_n (pc := 32) dX1_divide_32 rfl ?_
        refine ev_getf (pc := 33) dX1_divide_33 f_X1_10 hA.2.2 rfl ?_
        refine ev_aload_n (pc := 36) dX1_divide_36 rfl ?_
        refine ev_callVe (pc := 37) (As := [.ref (lay i).1]) dX1_divide_37 cv_X1_44 rfl rfl (wi_o (hA.2.1 0 (by decide))) rfl ⟨by show 19 + 2 ≤ w; omega, show ev_Ca _ _ (w - 21) _ _ _ _ _ _ from t_copy (i := 0) (by omega) (by omega) hA (by decide) hi (Ne.symm hi0)⟩ rfl rfl (fun r h1 hp => ?_)
        obtain ⟨rfl, hB, hF2⟩ := hp
        have hne := hA.1 j 0 hj (by decide) hj0
        obtain ⟨g3, n3, f3, f4, m3⟩ := id (hB.2.1 j hj)
        rw [va_up_ne _ _ hj0, ej] at m3
        have h31 : n3 = 1 := by
          have a1 : n3 ≤ 1 := mb_is_n (k := 1) m3 (by omega)
          have a2 : n3 ≠ 0 := fun e => z (by rw [ej]; exact (mb_is_z m3).mp e)
          omega
        subst h31
        have e3 : g3 0 = val j := by
          have := m3.2.2.2.2
          rw [mb_vs, mb_v0] at this
          omega
        refine ev_aload_n (pc := 40) dX1_divide_40 rfl ?_
        refine ev_aload_n (pc := 41) dX1_divide_41 rfl ?_
        refine ev_getf (pc := 42) dX1_divide_42 f_X1_10 hB.2.2 rfl ?_
        refine ev_aload_n (pc := 45) dX1_divide_45 rfl ?_
        refine ev_getf (pc := 46) dX1_divide_46 f_X1_67 f3 rfl ?_
        refine ev_iconst (pc := 49) (v := nI 0) dX1_divide_49 (by decide) ?_
        refine ev_iaN (pc := 50) dX1_divide_50 f4 (by decide) (by decide) ?_
        rw [e3]
        have eB0 : va_up vA 0 (vA i) 0 = val i := by rw [va_up_self, ei]
        refine ev_callVe (pc := 51) (As := [.int (nI (val j))]) dX1_divide_51 cv_X1_71 rfl rfl (wi_o (hB.2.1 0 (by decide))) rfl ⟨by show 19 + 7 ≤ w; omega, show ev_Ca _ _ (w - 26) _ _ _ _ _ _ from t_divideBySmall (i := 0) (by omega) (by omega) hB (by decide) (by omega) (by omega)⟩ rfl rfl (fun r h1 hp => ?_)
        obtain ⟨rfl, hC, hF3⟩ := hp
        rw [eB0] at hC ⊢
        have hml := Nat.mod_lt (val i) (show 0 < val j by omega)
        refine ev_i2lN (pc := 54) dX1_divide_54 (by omega) ?_
        refine ev_callVe (pc := 55) (As := [.long (lN (val i % val j))]) dX1_divide_55 cv_X1_48 rfl rfl (wi_o (hC.2.1 i hi)) rfl ⟨by show 19 + 3 ≤ w; omega, show ev_Ca _ _ (w - 22) _ _ _ _ _ _ from t_become (i := i) (by omega) (by omega) hC hi (by omega)⟩ rfl rfl (fun r h1 hp => ?_)
        obtain ⟨rfl, hE, hF4⟩ := hp
        refine ev_vret (pc := 58) dX1_divide_58 rfl ⟨rfl, _, hE, ⟨?_, ?_, fun x a b c => ?_⟩, ((hF.tr hF2).tr hF3).tr hF4⟩
        · rw [va_up_ne _ _ (Ne.symm hi0), va_up_self]
        · rw [va_up_self]
        · rw [va_up_ne _ _ a, va_up_ne _ _ b, va_up_ne _ _ b, eA x b]
    · have hlt : val i < val j := by
        rcases Nat.lt_or_ge (val i) (val j) with x | x
        · exact x
        · exact absurd (mi_cmp_lt.mpr (by rw [ei, ej]; exact x)) c1
      refine ev_vret (pc := 23) dX1_divide_23 rfl ⟨rfl, vA, hA, ⟨?_, ?_, fun x _ h5 _ => eA x h5⟩, hF⟩
      · rw [eA0, Nat.div_eq_of_lt hlt]
      · rw [ei, Nat.mod_eq_of_lt hlt]
end DIV2
end
section
/-! Desk: commonDivisor, cancel; Fraction -/
def eu_q (k x y : Nat) : Prop := (y ≤ x ∧ x * y < 2 ^ k) ∨ (x < y ∧ 1 ≤ k ∧ x * y < 2 ^ (k - 1))
theorem eu_step {k x y : Nat} (h : eu_q (k + 1) x y) (hy : 0 < y) : eu_q k y (x % y) := by
  rcases h with ⟨h1, h2⟩ | ⟨h1, -, h2⟩
  · refine Or.inl ⟨Nat.le_of_lt (Nat.mod_lt _ hy), ?_⟩
    have h3 := Nat.div_add_mod x y
    have h4 : 1 ≤ x / y := Nat.div_pos h1 hy
    have h5 : y * 1 ≤ y * (x / y) := Nat.mul_le_mul_left y h4
    have h6 := Nat.mod_lt x hy
    have h7 : 2 * (x % y) ≤ x := by omega
    have h8 : y * (2 * (x % y)) ≤ y * x := Nat.mul_le_mul_left y h7
    have h9 : y * (2 * (x % y)) = 2 * (y * (x % y)) := by rw [← Nat.mul_assoc, Nat.mul_comm y 2, Nat.mul_assoc]
    have h10 : y * x = x * y := Nat.mul_comm ..
    have h11 : 2 ^ (k + 1) = 2 ^ k * 2 := Nat.pow_succ ..
    omega
  · rw [Nat.mod_eq_of_lt h1]
    refine Or.inl ⟨Nat.le_of_lt h1, ?_⟩
    rw [Nat.mul_comm]
    exact h2
theorem eu_zero {x y : Nat} (h : eu_q 0 x y) : y = 0 := by
  rcases h with ⟨h1, h2⟩ | ⟨-, h2, -⟩
  · rcases Nat.eq_zero_or_pos y with e | e
    · exact e
    · have : 1 * 1 ≤ x * y := Nat.mul_le_mul (by omega) e
      omega
  · omega
theorem eu_start {x y n : Nat} (hx : x < 2 ^ n) (hy : y < 2 ^ n) : eu_q (2 * n + 1) x y := by
  have h1 : x * y < 2 ^ (2 * n) := by
    have h2 : x * y ≤ 2 ^ n * y := Nat.mul_le_mul_right y (Nat.le_of_lt hx)
    have h3 : 2 ^ n * y < 2 ^ n * 2 ^ n := Nat.mul_lt_mul_of_pos_left hy (Nat.pow_pos (by decide))
    rw [show 2 * n = n + n by omega, Nat.pow_add]
    omega
  rcases Nat.lt_or_ge x y with h2 | h2
  · exact Or.inr ⟨h2, by omega, h1⟩
  · refine Or.inl ⟨h2, Nat.lt_of_lt_of_le h1 (Nat.pow_le_pow_right (by decide) (by omega))⟩
theorem gcd_step (x y : Nat) : Nat.gcd y (x % y) = Nat.gcd x y := by
  rw [Nat.gcd_comm y, ← Nat.gcd_rec, Nat.gcd_comm]
section CAN
variable {G : ev_G} {w : Nat} {H : ev_H} {D : Nat} {lay : Nat → Nat × Nat} {val : Nat → Nat} {i j k dd : Nat}
theorem l_gcd {C : ev_L} {K : ev_K} {c z : Nat} : ∀ (k x y step : Nat), x < 2 ^ 63 → y < 2 ^ 63 → step + k ≤ 10000 → eu_q k x y → K (.inl (some (.long (lN (Nat.gcd x y))))) H → ev_J G C w m_X1_commonDivisor K (9, ev_lf [(4, .long (lN x)), (6, .long (lN y)), (8, .int (nI step))], [], H, c, z)
  | 0, x, y, step, hx, hy, hs, hq, hK => by
    have y0 := eu_zero hq
    subst y0
    rw [Nat.gcd_zero_right] at hK
    refine ev_iload (pc := 9) dX1_commonDivisor_9 rfl ?_
    refine ev_sipush (pc := 11) (v := nI 10000) dX1_commonDivisor_11 (by decide) ?_
    refine ev_icmp_geN (pc := 14) (tgt := 45) dX1_commonDivisor_14 (by decide) (by omega) (by omega) (fun c1 => ?_) (fun c1 => ?_)
    · refine ev_lload (pc := 45) dX1_commonDivisor_45 rfl ?_
      exact ev_lret (pc := 47) dX1_commonDivisor_47 rfl hK
    · refine ev_lload (pc := 17) dX1_commonDivisor_17 rfl ?_
      refine ev_lconst (pc := 19) (v := lN 0) dX1_commonDivisor_19 (by decide) ?_
      refine ev_lc_eq (pc := 20) (tgt := 45) dX1_commonDivisor_20 dX1_commonDivisor_21 (by decide) (by omega) (by omega) (fun c2 => ?_) (fun c2 => ?_)
      · refine ev_lload (pc := 45) dX1_commonDivisor_45 rfl ?_
        exact ev_lret (pc := 47) dX1_commonDivisor_47 rfl hK
      · exact absurd rfl c2
  | k + 1, x, y, step, hx, hy, hs, hq, hK => by
    refine ev_iload (pc := 9) dX1_commonDivisor_9 rfl ?_
    refine ev_sipush (pc := 11) (v := nI 10000) dX1_commonDivisor_11 (by decide) ?_
    refine ev_icmp_geN (pc := 14) (tgt := 45) dX1_commonDivisor_14 (by decide) (by omega) (by omega) (fun c1 => ?_) (fun c1 => ?_)
    · omega
    · refine ev_lload (pc := 17) dX1_commonDivisor_17 rfl ?_
      refine ev_lconst (pc := 19) (v := lN 0) dX1_commonDivisor_19 (by decide) ?_
      refine ev_lc_eq (pc := 20) (tgt := 45) dX1_commonDivisor_20 dX1_commonDivisor_21 (by decide) (by omega) (by omega) (fun c2 => ?_) (fun c2 => ?_)
      · subst c2
        rw [Nat.gcd_zero_right] at hK
        refine ev_lload (pc := 45) dX1_commonDivisor_45 rfl ?_
        exact ev_lret (pc := 47) dX1_commonDivisor_47 rfl hK
      · have y0 : 0 < y := Nat.pos_of_ne_zero c2
        have hm := Nat.mod_lt x y0
        refine ev_lload (pc := 24) dX1_commonDivisor_24 rfl ?_
        refine ev_lload (pc := 26) dX1_commonDivisor_26 rfl ?_
        refine ev_lremN (pc := 28) dX1_commonDivisor_28 (by omega) (by omega) (by omega) ?_
        refine ev_lstore (pc := 29) dX1_commonDivisor_29 rfl ?_
        refine ev_lload (pc := 31) dX1_commonDivisor_31 rfl ?_
        refine ev_lstore (pc := 33) dX1_commonDivisor_33 rfl ?_
        refine ev_lload (pc := 35) dX1_commonDivisor_35 rfl ?_
        refine ev_lstore (pc := 37) dX1_commonDivisor_37 rfl ?_
        refine ev_iincN (pc := 39) dX1_commonDivisor_39 rfl rfl ?_
        refine ev_goto (pc := 42) (tgt := 9) dX1_commonDivisor_42 (by decide) ?_
        refine ev_vs [(4, .long (lN y)), (6, .long (lN (x % y))), (8, .int (nI (step + 1)))] ⟨rfl, rfl, rfl, trivial⟩ ?_
        refine l_gcd k y (x % y) (step + 1) hy (by omega) (by omega) (eu_step hq y0) ?_
        rw [gcd_step]
        exact hK
theorem k_commonDivisor {a b : Nat} (hd : 1 ≤ dd) (ha : a < 2 ^ 63) (hb : b < 2 ^ 63) : ev_Ca G dd w m_X1_commonDivisor [.long (lN a), .long (lN b)] H 0 0 (ev_ok (fun r h1 => r = some (.long (lN (Nat.gcd a b))) ∧ h1 = H)) := by
  obtain ⟨dd, rfl⟩ : ∃ e, dd = e + 1 := ⟨dd - 1, by omega⟩
  refine ⟨by decide +kernel, rfl, ?_⟩
  refine ev_lload_n (pc := 0) dX1_commonDivisor_0 rfl ?_
  refine ev_lstore (pc := 1) dX1_commonDivisor_1 rfl ?_
  refine ev_lload_n (pc := 3) dX1_commonDivisor_3 rfl ?_
  refine ev_lstore (pc := 4) dX1_commonDivisor_4 rfl ?_
  refine ev_iconst (pc := 6) (v := nI 0) dX1_commonDivisor_6 (by decide) ?_
  refine ev_istore (pc := 7) dX1_commonDivisor_7 rfl ?_
  refine ev_vs [(4, .long (lN a)), (6, .long (lN b)), (8, .int (nI 0))] ⟨rfl, rfl, rfl, trivial⟩ ?_
  exact l_gcd (2 * 63 + 1) a b 0 ha hb (by omega) (eu_start ha hb) ⟨rfl, rfl⟩
def cn_ok (ci ri : Nat) : Prop := (ci = 7 ∧ ri = 8) ∨ (ci = 8 ∧ ri = 7)
theorem l_cancel {K : ev_K} {c z g p1 p2 : Nat} {H0 : ev_H} {val0 : Nat → Nat} (hd : 3 ≤ dd) (hw : 79 ≤ w)
    (hK : ∀ h1 v2 ci ri, cn_ok ci ri → DW h1 D lay v2 → Nat.gcd (v2 ci) (v2 ri) = g → v2 ri < 2 ^ 60 → v2 ci < 1073741824 ^ 70 → (∀ x, x ≠ 0 → x ≠ 6 → x ≠ 7 → x ≠ 8 → v2 x = val0 x) → WF lay H0 h1 → ev_J G (ev_cc G dd w) w m_X1_cancel K (64, ev_lf [(0, .ref D), (1, .ref p1), (2, .ref p2), (3, .ref (lay ci).1), (4, .ref (lay ri).1)], [], h1, c, z)) :
    ∀ (k step ci ri : Nat) (h : ev_H) (val : Nat → Nat), cn_ok ci ri → DW h D lay val → Nat.gcd (val ci) (val ri) = g → val ci < 1073741824 ^ 70 → val ri < 1073741824 ^ 70 → step + k ≤ 10000 → eu_q k (val ci) (val ri) → (∀ x, x ≠ 0 → x ≠ 6 → x ≠ 7 → x ≠ 8 → val x = val0 x) → WF lay H0 h → ev_J G (ev_cc G dd w) w m_X1_cancel K (25, ev_lf [(0, .ref D), (1, .ref p1), (2, .ref p2), (3, .ref (lay ci).1), (4, .ref (lay ri).1), (5, .int (nI step))], [], h, c, z)
  | 0, step, ci, ri, h, val, hc, hW, hg, hx, hy, hs, hq, he, hF => by
    have y0 := eu_zero hq
    have hri : ri < 20 := by rcases hc with e | e <;> omega
    have fin : ev_J G (ev_cc G dd w) w m_X1_cancel K (64, ev_lf [(0, .ref D), (1, .ref p1), (2, .ref p2), (3, .ref (lay ci).1), (4, .ref (lay ri).1)], [], h, c, z) := hK h val ci ri hc hW hg (by rw [y0]; decide) hx he hF
    refine ev_iload (pc := 25) dX1_cancel_25 rfl ?_
    refine ev_sipush (pc := 27) (v := nI 10000) dX1_cancel_27 (by decide) ?_
    refine ev_icmp_geN (pc := 30) (tgt := 64) dX1_cancel_30 (by decide) (by omega) (by omega) (fun c1 => ?_) (fun c1 => ?_)
    · refine ev_vs [(0, .ref D), (1, .ref p1), (2, .ref p2), (3, .ref (lay ci).1), (4, .ref (lay ri).1)] ⟨rfl, rfl, rfl, rfl, rfl, trivial⟩ ?_
      exact fin
    · refine ev_aload (pc := 33) dX1_cancel_33 rfl ?_
      refine ev_callVe (pc := 35) (As := []) dX1_cancel_35 cv_X1_101 rfl rfl (wi_o (hW.2.1 ri hri)) rfl ⟨by show 19 + 1 ≤ w; omega, show ev_Ca _ _ (w - 20) _ _ _ _ _ _ from t_isShort (by omega) hW hri⟩ rfl rfl (fun r h1 hp => ?_)
      obtain ⟨rfl, rfl⟩ := hp
      rw [if_pos (by rw [y0]; decide)]
      refine ev_if_neN (pc := 38) (tgt := 64) dX1_cancel_38 (by decide) (by decide) (fun _ => ?_) (fun c2 => absurd c2 (by decide))
      refine ev_vs [(0, .ref D), (1, .ref p1), (2, .ref p2), (3, .ref (lay ci).1), (4, .ref (lay ri).1)] ⟨rfl, rfl, rfl, rfl, rfl, trivial⟩ ?_
      exact fin
  | k + 1, step, ci, ri, h, val, hc, hW, hg, hx, hy, hs, hq, he, hF => by
    have hci : ci < 20 ∧ ci ≠ 0 ∧ ci ≠ 6 := by rcases hc with e | e <;> omega
    have hri : ri < 20 ∧ ri ≠ 0 ∧ ri ≠ 6 := by rcases hc with e | e <;> omega
    have hcr : ci ≠ ri := by rcases hc with e | e <;> omega
    refine ev_iload (pc := 25) dX1_cancel_25 rfl ?_
    refine ev_sipush (pc := 27) (v := nI 10000) dX1_cancel_27 (by decide) ?_
    refine ev_icmp_geN (pc := 30) (tgt := 64) dX1_cancel_30 (by decide) (by omega) (by omega) (fun c1 => ?_) (fun c1 => ?_)
    · omega
    · refine ev_aload (pc := 33) dX1_cancel_33 rfl ?_
      refine ev_callVe (pc := 35) (As := []) dX1_cancel_35 cv_X1_101 rfl rfl (wi_o (hW.2.1 ri hri.1)) rfl ⟨by show 19 + 1 ≤ w; omega, show ev_Ca _ _ (w - 20) _ _ _ _ _ _ from t_isShort (by omega) hW hri.1⟩ rfl rfl (fun r h1 hp => ?_)
      obtain ⟨rfl, rfl⟩ := hp
      by_cases sh : val ri < 2 ^ 60
      · rw [if_pos sh]
        refine ev_if_neN (pc := 38) (tgt := 64) dX1_cancel_38 (by decide) (by decide) (fun _ => ?_) (fun c2 => absurd c2 (by decide))
        refine ev_vs [(0, .ref D), (1, .ref p1), (2, .ref p2), (3, .ref (lay ci).1), (4, .ref (lay ri).1)] ⟨rfl, rfl, rfl, rfl, rfl, trivial⟩ ?_
        exact hK _ val ci ri hc hW hg sh hx he hF
      · rw [if_neg sh]
        refine ev_if_neN (pc := 38) (tgt := 64) dX1_cancel_38 (by decide) (by decide) (fun c2 => absurd c2 (by decide)) (fun _ => ?_)
        refine ev_aload_n (pc := 41) dX1_cancel_41 rfl ?_
        refine ev_aload_n (pc := 42) dX1_cancel_42 rfl ?_
        refine ev_aload (pc := 43) dX1_cancel_43 rfl ?_
        refine ev_callV (pc := 45) (As := [.ref (lay ci).1, .ref (lay ri).1]) dX1_cancel_45 cv_X1_104 rfl rfl hW.2.2 rfl ⟨by show 19 + 7 ≤ w; omega, show ev_Ca _ _ (w - 26) _ _ _ _ _ _ from k_divide (by omega) (by omega) hW hci.1 hri.1 hcr hci.2.1 hri.2.1 hci.2.2 hri.2.2 hx⟩ rfl rfl (fun r h1 hp => ?_)
        obtain ⟨rfl, v2, hB, ⟨q1, q2, q3⟩, hF2⟩ := hp
        have er : v2 ri = val ri := q3 ri (Ne.symm hcr) hri.2.1 hri.2.2
        refine ev_aload_n (pc := 48) dX1_cancel_48 rfl ?_
        refine ev_astore (pc := 49) dX1_cancel_49 rfl ?_
        refine ev_aload (pc := 51) dX1_cancel_51 rfl ?_
        refine ev_astore_n (pc := 53) dX1_cancel_53 rfl ?_
        refine ev_aload (pc := 54) dX1_cancel_54 rfl ?_
        refine ev_astore (pc := 56) dX1_cancel_56 rfl ?_
        refine ev_iincN (pc := 58) dX1_cancel_58 rfl rfl ?_
        refine ev_goto (pc := 61) (tgt := 25) dX1_cancel_61 (by decide) ?_
        refine ev_vs [(0, .ref D), (1, .ref p1), (2, .ref p2), (3, .ref (lay ri).1), (4, .ref (lay ci).1), (5, .int (nI (step + 1)))] ⟨rfl, rfl, rfl, rfl, rfl, rfl, trivial⟩ ?_
        have y0 : 0 < val ri := by omega
        have hm := Nat.mod_lt (val ci) y0
        refine l_cancel hd hw hK k (step + 1) ri ci _ v2 ?_ hB ?_ ?_ ?_ (by omega) ?_ (fun x a b e f => ?_) (hF.tr hF2)
        · rcases hc with e | e
          · exact Or.inr ⟨e.2, e.1⟩
          · exact Or.inl ⟨e.2, e.1⟩
        · rw [er, q2, gcd_step]; exact hg
        · rw [er]; exact hy
        · rw [q2]; omega
        · rw [er, q2]; exact eu_step hq y0
        · rw [q3 x (by rcases hc with e2 | e2 <;> omega) a b]; exact he x a b e f
/-- the two numbers are divided by what they have in common -/
theorem k_cancel (hd : 4 ≤ dd) (hw : 79 ≤ w) (h : DW H D lay val) (hi : i < 20) (hj : j < 20) (hij : i ≠ j) (hi9 : 9 ≤ i) (hj9 : 9 ≤ j) (hs : val i < 1073741824 ^ 70) (hs2 : val j < 1073741824 ^ 70) : ev_Ca G dd w m_X1_cancel [.ref D, .ref (lay i).1, .ref (lay j).1] H 0 0 (ev_ok (fun r h1 => r = none ∧ dpost H D lay val (fun v2 => v2 i = val i / Nat.gcd (val i) (val j) ∧ v2 j = val j / Nat.gcd (val i) (val j) ∧ ∀ x, 9 ≤ x → x ≠ i → x ≠ j → v2 x = val x) h1)) := by
  obtain ⟨dd, rfl⟩ : ∃ e, dd = e + 1 := ⟨dd - 1, by omega⟩
  refine ⟨by decide +kernel, rfl, ?_⟩
  refine ev_aload_n (pc := 0) dX1_cancel_0 rfl ?_
  refine ev_getf (pc := 1) dX1_cancel_1 f_X1_34 h.2.2 rfl ?_
  refine ev_astore_n (pc := 4) dX1_cancel_4 rfl ?_
  refine ev_aload_n (pc := 5) dX1_cancel_5 rfl ?_
  refine ev_getf (pc := 6) dX1_cancel_6 f_X1_37 h.2.2 rfl ?_
  refine ev_astore (pc := 9) dX1_cancel_9 rfl ?_
  refine ev_aload_n (pc := 11) dX1_cancel_11 rfl ?_
  refine ev_aload_n (pc := 12) dX1_cancel_12 rfl ?_
  refine ev_callVe (pc := 13) (As := [.ref (lay i).1]) dX1_cancel_13 cv_X1_44 rfl rfl (wi_o (h.2.1 7 (by decide))) rfl ⟨by show 19 + 2 ≤ w; omega, show ev_Ca _ _ (w - 21) _ _ _ _ _ _ from t_copy (i := 7) (by omega) (by omega) h (by decide) hi (by omega)⟩ rfl rfl (fun r h1 hp => ?_)
  obtain ⟨rfl, hA, hF⟩ := hp
  refine ev_aload (pc := 16) dX1_cancel_16 rfl ?_
  refine ev_aload_n (pc := 18) dX1_cancel_18 rfl ?_
  refine ev_callVe (pc := 19) (As := [.ref (lay j).1]) dX1_cancel_19 cv_X1_44 rfl rfl (wi_o (hA.2.1 8 (by decide))) rfl ⟨by show 19 + 2 ≤ w; omega, show ev_Ca _ _ (w - 21) _ _ _ _ _ _ from t_copy (i := 8) (by omega) (by omega) hA (by decide) hj (by omega)⟩ rfl rfl (fun r h1 hp => ?_)
  obtain ⟨rfl, hB, hF2⟩ := hp
  rw [va_up_ne _ _ (show j ≠ 7 by omega)] at hB
  obtain ⟨vB, hvB⟩ : ∃ v, v = va_up (va_up val 7 (val i)) 8 (val j) := ⟨_, rfl⟩
  rw [← hvB] at hB
  have e7 : vB 7 = val i := by rw [hvB, va_up_ne _ _ (by decide), va_up_self]
  have e8 : vB 8 = val j := by rw [hvB, va_up_self]
  have ex : ∀ x, x ≠ 0 → x ≠ 6 → x ≠ 7 → x ≠ 8 → vB x = val x := fun x _ _ a b => by rw [hvB, va_up_ne _ _ b, va_up_ne _ _ a]
  refine ev_iconst (pc := 22) (v := nI 0) dX1_cancel_22 (by decide) ?_
  refine ev_istore (pc := 23) dX1_cancel_23 rfl ?_
  refine ev_vs [(0, .ref D), (1, .ref (lay i).1), (2, .ref (lay j).1), (3, .ref (lay 7).1), (4, .ref (lay 8).1), (5, .int (nI 0))] ⟨rfl, rfl, rfl, rfl, rfl, rfl, trivial⟩ ?_
  obtain ⟨g, hg⟩ : ∃ g, g = Nat.gcd (val i) (val j) := ⟨_, rfl⟩
  have h70 : (1073741824 : Nat) ^ 70 = 2 ^ 2100 := by rw [show (1073741824 : Nat) = 2 ^ 30 by decide, ← Nat.pow_mul]
  refine l_cancel (g := g) (H0 := H) (val0 := val) (by omega) hw (fun h1 v2 ci ri hc hW hgc hsh hx he hF3 => ?_) (2 * 2100 + 1) 0 7 8 _ vB (Or.inl ⟨rfl, rfl⟩) hB (by rw [e7, e8, hg]) (by rw [e7]; exact hs) (by rw [e8]; exact hs2) (by omega) (by rw [e7, e8]; exact eu_start (by rw [← h70]; exact hs) (by rw [← h70]; exact hs2)) ex (hF.tr hF2)
  have hci : ci < 20 ∧ ci ≠ 0 ∧ ci ≠ 6 ∧ ci < 9 := by rcases hc with e | e <;> omega
  have hri : ri < 20 ∧ ri ≠ 0 ∧ ri ≠ 6 := by rcases hc with e | e <;> omega
  have hcr : ci ≠ ri := by rcases hc with e | e <;> omega
  have ei : v2 i = val i := he i (by omega) (by omega) (by omega) (by omega)
  have ej : v2 j = val j := he j (by omega) (by omega) (by omega) (by omega)
  -- with the common divisor in ci
  have fin : ∀ h3 v3, DW h3 D lay v3 → v3 ci = g → (∀ x, x ≠ 0 → x ≠ 6 → x ≠ 7 → x ≠ 8 → v3 x = val x) → WF lay H h3 → ev_J G (ev_cc G dd w) w m_X1_cancel (ev_ok (fun r h1 => r = none ∧ dpost H D lay val (fun v2 => v2 i = val i / Nat.gcd (val i) (val j) ∧ v2 j = val j / Nat.gcd (val i) (val j) ∧ ∀ x, 9 ≤ x → x ≠ i → x ≠ j → v2 x = val x) h1)) (95, ev_lf [(0, .ref D), (1, .ref (lay i).1), (2, .ref (lay j).1), (3, .ref (lay ci).1)], [], h3, 0, 0) := by
    intro h3 v3 hW3 hv3 he3 hF5
    have fi : v3 i = val i := he3 i (by omega) (by omega) (by omega) (by omega)
    have fj : v3 j = val j := he3 j (by omega) (by omega) (by omega) (by omega)
    refine ev_aload_n (pc := 95) dX1_cancel_95 rfl ?_
    refine ev_callVe (pc := 96) (As := []) dX1_cancel_96 cv_X1_55 rfl rfl (wi_o (hW3.2.1 ci hci.1)) rfl ⟨by show 19 + 1 ≤ w; omega, show ev_Ca _ _ (w - 20) _ _ _ _ _ _ from t_isZero (by omega) hW3 hci.1⟩ rfl rfl (fun r h1 hp => ?_)
    obtain ⟨rfl, rfl⟩ := hp
    rw [hv3]
    by_cases g0 : g = 0
    · rw [if_pos g0]
      have i0 : val i = 0 := Nat.eq_zero_of_gcd_eq_zero_left (hg ▸ g0)
      have j0 : val j = 0 := Nat.eq_zero_of_gcd_eq_zero_right (hg ▸ g0)
      refine ev_if_neN (pc := 99) (tgt := 109) dX1_cancel_99 (by decide) (by decide) (fun _ => ?_) (fun c2 => absurd c2 (by decide))
      refine ev_vret (pc := 109) dX1_cancel_109 rfl ⟨rfl, v3, hW3, ⟨?_, ?_, fun x a _ _ => he3 x (by omega) (by omega) (by omega) (by omega)⟩, hF5⟩
      · rw [fi, i0, Nat.zero_div]
      · rw [fj, j0, Nat.zero_div]
    · rw [if_neg g0]
      refine ev_if_neN (pc := 99) (tgt := 109) dX1_cancel_99 (by decide) (by decide) (fun c2 => absurd c2 (by decide)) (fun _ => ?_)
      refine ev_aload_n (pc := 102) dX1_cancel_102 rfl ?_
      refine ev_callVe (pc := 103) (As := []) dX1_cancel_103 cv_X1_115 rfl rfl (wi_o (hW3.2.1 ci hci.1)) rfl ⟨by show 19 + 1 ≤ w; omega, show ev_Ca _ _ (w - 20) _ _ _ _ _ _ from t_isOne (by omega) hW3 hci.1⟩ rfl rfl (fun r h1 hp => ?_)
      obtain ⟨rfl, rfl⟩ := hp
      rw [hv3]
      by_cases g1 : g = 1
      · rw [if_pos g1]
        refine ev_if_eqN (pc := 106) (tgt := 110) dX1_cancel_106 (by decide) (by decide) (fun c2 => absurd c2 (by decide)) (fun _ => ?_)
        refine ev_vret (pc := 109) dX1_cancel_109 rfl ⟨rfl, v3, hW3, ⟨?_, ?_, fun x a _ _ => he3 x (by omega) (by omega) (by omega) (by omega)⟩, hF5⟩
        · rw [fi, ← hg, g1, Nat.div_one]
        · rw [fj, ← hg, g1, Nat.div_one]
      · rw [if_neg g1]
        refine ev_if_eqN (pc := 106) (tgt := 110) dX1_cancel_106 (by decide) (by decide) (fun _ => ?_) (fun c2 => absurd c2 (by decide))
        refine ev_aload_n (pc := 110) dX1_cancel_110 rfl ?_
        refine ev_aload_n (pc := 111) dX1_cancel_111 rfl ?_
        refine ev_aload_n (pc := 112) dX1_cancel_112 rfl ?_
        refine ev_callV (pc := 113) (As := [.ref (lay i).1, .ref (lay ci).1]) dX1_cancel_113 cv_X1_104 rfl rfl hW3.2.2 rfl ⟨by show 19 + 7 ≤ w; omega, show ev_Ca _ _ (w - 26) _ _ _ _ _ _ from k_divide (i := i) (j := ci) (by omega) (by omega) hW3 hi hci.1 (by omega) (by omega) hci.2.1 (by omega) hci.2.2.1 (by rw [fi]; exact hs)⟩ rfl rfl (fun r h1 hp => ?_)
        obtain ⟨rfl, v4, hW4, ⟨r1, r2, r3⟩, hF6⟩ := hp
        rw [fi, hv3] at r1 r2
        refine ev_aload_n (pc := 116) dX1_cancel_116 rfl ?_
        refine ev_aload_n (pc := 117) dX1_cancel_117 rfl ?_
        refine ev_getf (pc := 118) dX1_cancel_118 f_X1_10 hW4.2.2 rfl ?_
        refine ev_callVe (pc := 121) (As := [.ref (lay 0).1]) dX1_cancel_121 cv_X1_44 rfl rfl (wi_o (hW4.2.1 i hi)) rfl ⟨by show 19 + 2 ≤ w; omega, show ev_Ca _ _ (w - 21) _ _ _ _ _ _ from t_copy (i := i) (j := 0) (by omega) (by omega) hW4 hi (by decide) (by omega)⟩ rfl rfl (fun r h1 hp => ?_)
        obtain ⟨rfl, hW5, hF7⟩ := hp
        rw [r1] at hW5
        obtain ⟨v5, hv5⟩ : ∃ v, v = va_up v4 i (val i / g) := ⟨_, rfl⟩
        rw [← hv5] at hW5
        have s5 : v5 j = val j := by rw [hv5, va_up_ne _ _ (Ne.symm hij), r3 j (Ne.symm hij) (by omega) (by omega), fj]
        have s6 : v5 ci = g := by rw [hv5, va_up_ne _ _ (by omega), r3 ci (by omega) hci.2.1 hci.2.2.1, hv3]
        refine ev_aload_n (pc := 124) dX1_cancel_124 rfl ?_
        refine ev_aload_n (pc := 125) dX1_cancel_125 rfl ?_
        refine ev_aload_n (pc := 126) dX1_cancel_126 rfl ?_
        refine ev_callV (pc := 127) (As := [.ref (lay j).1, .ref (lay ci).1]) dX1_cancel_127 cv_X1_104 rfl rfl hW5.2.2 rfl ⟨by show 19 + 7 ≤ w; omega, show ev_Ca _ _ (w - 26) _ _ _ _ _ _ from k_divide (i := j) (j := ci) (by omega) (by omega) hW5 hj hci.1 (by omega) (by omega) hci.2.1 (by omega) hci.2.2.1 (by rw [s5]; exact hs2)⟩ rfl rfl (fun r h1 hp => ?_)
        obtain ⟨rfl, v6, hW6, ⟨u1, u2, u3⟩, hF8⟩ := hp
        rw [s5, s6] at u1 u2
        refine ev_aload_n (pc := 130) dX1_cancel_130 rfl ?_
        refine ev_aload_n (pc := 131) dX1_cancel_131 rfl ?_
        refine ev_getf (pc := 132) dX1_cancel_132 f_X1_10 hW6.2.2 rfl ?_
        refine ev_callVe (pc := 135) (As := [.ref (lay 0).1]) dX1_cancel_135 cv_X1_44 rfl rfl (wi_o (hW6.2.1 j hj)) rfl ⟨by show 19 + 2 ≤ w; omega, show ev_Ca _ _ (w - 21) _ _ _ _ _ _ from t_copy (i := j) (j := 0) (by omega) (by omega) hW6 hj (by decide) (by omega)⟩ rfl rfl (fun r h1 hp => ?_)
        obtain ⟨rfl, hW7, hF9⟩ := hp
        rw [u1] at hW7
        refine ev_vret (pc := 138) dX1_cancel_138 rfl ⟨rfl, _, hW7, ⟨?_, ?_, fun x a b e => ?_⟩, (((hF5.tr hF6).tr hF7).tr hF8).tr hF9⟩
        · rw [va_up_ne _ _ hij, u3 i hij (by omega) (by omega), hv5, va_up_self, hg]
        · rw [va_up_self, hg]
        · rw [va_up_ne _ _ e, u3 x e (by omega) (by omega), hv5, va_up_ne _ _ b, r3 x b (by omega) (by omega)]
          exact he3 x (by omega) (by omega) (by omega) (by omega)
  refine ev_aload (pc := 64) dX1_cancel_64 rfl ?_
  refine ev_callVe (pc := 66) (As := []) dX1_cancel_66 cv_X1_55 rfl rfl (wi_o (hW.2.1 ri hri.1)) rfl ⟨by show 19 + 1 ≤ w; omega, show ev_Ca _ _ (w - 20) _ _ _ _ _ _ from t_isZero (by omega) hW hri.1⟩ rfl rfl (fun r h1 hp => ?_)
  obtain ⟨rfl, rfl⟩ := hp
  by_cases r0 : v2 ri = 0
  · rw [if_pos r0]
    refine ev_if_neN (pc := 69) (tgt := 95) dX1_cancel_69 (by decide) (by decide) (fun _ => ?_) (fun c2 => absurd c2 (by decide))
    refine ev_vs [(0, .ref D), (1, .ref (lay i).1), (2, .ref (lay j).1), (3, .ref (lay ci).1)] ⟨rfl, rfl, rfl, rfl, trivial⟩ ?_
    refine fin _ v2 hW ?_ he hF3
    rw [r0, Nat.gcd_zero_right] at hgc
    exact hgc
  · rw [if_neg r0]
    refine ev_if_neN (pc := 69) (tgt := 95) dX1_cancel_69 (by decide) (by decide) (fun c2 => absurd c2 (by decide)) (fun _ => ?_)
    refine ev_aload_n (pc := 72) dX1_cancel_72 rfl ?_
    refine ev_aload_n (pc := 73) dX1_cancel_73 rfl ?_
    refine ev_aload (pc := 74) dX1_cancel_74 rfl ?_
    refine ev_callV (pc := 76) (As := [.ref (lay ci).1, .ref (lay ri).1]) dX1_cancel_76 cv_X1_104 rfl rfl hW.2.2 rfl ⟨by show 19 + 7 ≤ w; omega, show ev_Ca _ _ (w - 26) _ _ _ _ _ _ from k_divide (by omega) (by omega) hW hci.1 hri.1 hcr hci.2.1 hri.2.1 hci.2.2.1 hri.2.2 hx⟩ rfl rfl (fun r h1 hp => ?_)
    obtain ⟨rfl, v3, hW3, ⟨q1, q2, q3⟩, hF4⟩ := hp
    have er : v3 ri = v2 ri := q3 ri (Ne.symm hcr) hri.2.1 hri.2.2
    have hm := Nat.mod_lt (v2 ci) (Nat.pos_of_ne_zero r0)
    refine ev_aload_n (pc := 79) dX1_cancel_79 rfl ?_
    refine ev_aload (pc := 80) dX1_cancel_80 rfl ?_
    refine ev_callVe (pc := 82) (As := []) dX1_cancel_82 cv_X1_107 rfl rfl (wi_o (hW3.2.1 ri hri.1)) rfl ⟨by show 19 + 1 ≤ w; omega, show ev_Ca _ _ (w - 20) _ _ _ _ _ _ from t_asLong (by omega) hW3 hri.1 (by rw [er]; exact hsh)⟩ rfl rfl (fun r h1 hp => ?_)
    obtain ⟨rfl, rfl⟩ := hp
    refine ev_aload_n (pc := 85) dX1_cancel_85 rfl ?_
    refine ev_callVe (pc := 86) (As := []) dX1_cancel_86 cv_X1_107 rfl rfl (wi_o (hW3.2.1 ci hci.1)) rfl ⟨by show 19 + 1 ≤ w; omega, show ev_Ca _ _ (w - 20) _ _ _ _ _ _ from t_asLong (by omega) hW3 hci.1 (by rw [q2]; omega)⟩ rfl rfl (fun r h1 hp => ?_)
    obtain ⟨rfl, rfl⟩ := hp
    refine ev_callS (pc := 89) (As := [.long (lN (v3 ri)), .long (lN (v3 ci))]) dX1_cancel_89 cs_X1_111 rfl rfl ⟨by show 19 + 11 ≤ w; omega, show ev_Ca _ _ (w - 30) _ _ _ _ _ _ from k_commonDivisor (by omega) (by rw [er]; omega) (by rw [q2]; omega)⟩ rfl rfl (fun r h1 hp => ?_)
    obtain ⟨rfl, rfl⟩ := hp
    have eg : Nat.gcd (v3 ri) (v3 ci) = g := by rw [er, q2, gcd_step]; exact hgc
    rw [eg]
    have gl : g < 2 ^ 63 := by
      have : g ≤ v2 ri := by rw [← hgc]; exact Nat.gcd_le_right _ (Nat.pos_of_ne_zero r0)
      omega
    refine ev_callVe (pc := 92) (As := [.long (lN g)]) dX1_cancel_92 cv_X1_48 rfl rfl (wi_o (hW3.2.1 ci hci.1)) rfl ⟨by show 19 + 3 ≤ w; omega, show ev_Ca _ _ (w - 22) _ _ _ _ _ _ from t_become (i := ci) (by omega) (by omega) hW3 hci.1 gl⟩ rfl rfl (fun r h1 hp => ?_)
    obtain ⟨rfl, hW4, hF5⟩ := hp
    refine ev_vs [(0, .ref D), (1, .ref (lay i).1), (2, .ref (lay j).1), (3, .ref (lay ci).1)] ⟨rfl, rfl, rfl, rfl, trivial⟩ ?_
    refine fin _ _ hW4 (va_up_self ..) (fun x a b e f => ?_) ((hF3.tr hF4).tr hF5)
    rw [va_up_ne _ _ (by rcases hc with e2 | e2 <;> omega), q3 x (by rcases hc with e2 | e2 <;> omega) a b]
    exact he x a b e f
end CAN
end
section
/-! Shares, read; Fraction; Desk: addTo, addUp, weigh, sameLevel -/
/-- a Shares object: S; sa: the rows' places (0: the row of rows, 1 to 3: prices, counts, floats, 4, 5: the factors' numbers above and below) -/
def SH (H : ev_H) (S : Nat) (sa : Nat → Nat) (P : Nat → Nat → Nat) (fu fd : Nat → Nat) (mem : Nat) : Prop :=
  H S = some (.inr (3, [.ref (sa 0), .ref (sa 4), .ref (sa 5), .int (nI mem)])) ∧ H (sa 0) = some (.inl (.array .int, 3, .inr (.inr (.inr (.inr (fun i => if i < 3 then some (sa (i + 1)) else none)))))) ∧ (∀ k, k < 3 → H (sa (k + 1)) = some (.inl (.int, 8, .inl (fun j => nI (P k j))))) ∧ H (sa 4) = some (.inl (.long, 8, .inr (.inl (fun j => lN (fu j))))) ∧ H (sa 5) = some (.inl (.long, 8, .inr (.inl (fun j => lN (fd j)))))
theorem sh_wf {H h1 : ev_H} {lay : Nat → Nat × Nat} {val : Nat → Nat} {S : Nat} {sa : Nat → Nat} {P : Nat → Nat → Nat} {fu fd : Nat → Nat} {mem : Nat} (hS : WS H lay val) (hF : WF lay H h1) (h : SH H S sa P fu fd mem) : SH h1 S sa P fu fd mem := by
  obtain ⟨a1, a2, a3, a4, a5⟩ := h
  refine ⟨?_, ?_, fun k hk => ?_, ?_, ?_⟩
  · rw [hF _ (ws_out hS a1 (fun fs e => by cases e) (fun f e => by cases e))]; exact a1
  · rw [hF _ (ws_out hS a2 (fun fs e => by cases e) (fun f e => by cases e))]; exact a2
  · rw [hF _ (ws_out hS (a3 k hk) (fun fs e => by cases e) (fun f e => by cases e))]; exact a3 k hk
  · rw [hF _ (ws_out hS a4 (fun fs e => by cases e) (fun f e => by cases e))]; exact a4
  · rw [hF _ (ws_out hS a5 (fun fs e => by cases e) (fun f e => by cases e))]; exact a5
section EVS
variable {G : ev_G} {C : ev_L} {w : Nat} {M : ev_M} {K : ev_K} {pc : Nat} {L : ev_V} {st : List Value} {h : ev_H} {c z : Nat} {S : Nat} {sa : Nat → Nat} {P : Nat → Nat → Nat} {fu fd : Nat → Nat} {mem : Nat}
theorem sh_row {k : Nat} (hd : decode M.2.1 pc = .ok (.aaload, 1)) (hS : SH h S sa P fu fd mem) (hk : k < 3) (kk : ev_J G C w M K (pc + 1, L, .ref (sa (k + 1)) :: st, h, c, z)) : ev_J G C w M K (pc, L, .int (nI k) :: .ref (sa 0) :: st, h, c, z) := ev_aald hd hS.2.1 (vp_in_nI hk (by decide)) (by rw [nI_clamp (by omega), if_pos hk]) kk
theorem ev_laN {i N a : Nat} {g : Nat → Nat} (hd : decode M.2.1 pc = .ok (.laload, 1)) (ha : h a = some (.inl (.long, N, .inr (.inl (fun j => lN (g j)))))) (hi : i < N) (hN : N < 2 ^ 31) (k : ev_J G C w M K (pc + 1, L, .long (lN (g i)) :: st, h, c, z)) : ev_J G C w M K (pc, L, .int (nI i) :: .ref a :: st, h, c, z) := ev_lald hd ha (vp_in_nI hi hN) (ev_tl (by rw [nI_clamp (by omega)]) k)
end EVS
theorem mi_and1 {x : Nat} (h : x < 2 ^ 32) : nI x &&& nI 1 = nI (x % 2) := pk_andN h 1 (by decide)
/-- what a share is worth with the factor 1 -/
def pw (P : Nat → Nat → Nat) (s : Nat) : Nat := P 0 s * P 1 s * P 2 s
/-- values within their bounds -/
def P_ok (P : Nat → Nat → Nat) : Prop := ∀ s, s < 8 → (1 ≤ P 0 s ∧ P 0 s ≤ 9999999) ∧ (1 ≤ P 1 s ∧ P 1 s ≤ 9999999) ∧ (1 ≤ P 2 s ∧ P 2 s ≤ 100)
theorem pw_b {P : Nat → Nat → Nat} (h : P_ok P) {s : Nat} (hs : s < 8) : 1 ≤ pw P s ∧ pw P s < 10000000000000000 := by
  obtain ⟨⟨a1, a2⟩, ⟨b1, b2⟩, ⟨c1, c2⟩⟩ := h s hs
  unfold pw
  have h1 : 1 * 1 ≤ P 0 s * P 1 s := Nat.mul_le_mul a1 b1
  have h2 : P 0 s * P 1 s ≤ 9999999 * 9999999 := Nat.mul_le_mul a2 b2
  have h3 : 1 * 1 ≤ P 0 s * P 1 s * P 2 s := Nat.mul_le_mul (by omega) c1
  have h4 : P 0 s * P 1 s * P 2 s ≤ 9999999 * 9999999 * 100 := Nat.mul_le_mul h2 c2
  omega
section SHR
variable {G : ev_G} {w : Nat} {H : ev_H} {D S : Nat} {lay : Nat → Nat × Nat} {val : Nat → Nat} {i j k dd s : Nat} {sa : Nat → Nat} {P : Nat → Nat → Nat} {fu fd : Nat → Nat} {mem : Nat}
theorem k_isMember (hd : 1 ≤ dd) (h : SH H S sa P fu fd mem) (hm : mem < 256) (hs : s < 8) : ev_Ca G dd w m_X5_isMember [.ref S, .int (nI s)] H 0 0 (ev_ok (fun r h1 => r = some (.int (nI (mem / 2 ^ s % 2))) ∧ h1 = H)) := by
  obtain ⟨dd, rfl⟩ : ∃ e, dd = e + 1 := ⟨dd - 1, by omega⟩
  refine ⟨by decide +kernel, rfl, ?_⟩
  have hle : mem / 2 ^ s ≤ mem := Nat.div_le_self _ _
  refine ev_aload_n (pc := 0) dX5_isMember_0 rfl ?_
  refine ev_getf (pc := 1) dX5_isMember_1 f_X5_30 h.1 rfl ?_
  refine ev_iload_n (pc := 4) dX5_isMember_4 rfl ?_
  refine ev_ishr (pc := 5) dX5_isMember_5 (ev_ti (mi_shr (by omega) (by omega)) ?_)
  refine ev_iconst (pc := 6) (v := nI 1) dX5_isMember_6 (by decide) ?_
  refine ev_iand (pc := 7) dX5_isMember_7 (ev_ti (mi_and1 (by omega)) ?_)
  refine ev_iconst (pc := 8) (v := nI 1) dX5_isMember_8 (by decide) ?_
  refine ev_icmp_neN (pc := 9) (tgt := 16) dX5_isMember_9 (by decide) (by omega) (by omega) (fun c1 => ?_) (fun c1 => ?_)
  · refine ev_iconst (pc := 16) (v := nI 0) dX5_isMember_16 (by decide) ?_
    exact ev_iret (pc := 17) dX5_isMember_17 rfl rfl ⟨by rw [show mem / 2 ^ s % 2 = 0 by omega], rfl⟩
  · refine ev_iconst (pc := 12) (v := nI 1) dX5_isMember_12 (by decide) ?_
    refine ev_goto (pc := 13) (tgt := 17) dX5_isMember_13 (by decide) ?_
    exact ev_iret (pc := 17) dX5_isMember_17 rfl rfl ⟨by rw [c1], rfl⟩
theorem k_hasFactorOne (hd : 1 ≤ dd) (h : SH H S sa P fu fd mem) (hu : fu s < 2 ^ 63) (hdn : fd s < 2 ^ 63) (hs : s < 8) : ev_Ca G dd w m_X5_hasFactorOne [.ref S, .int (nI s)] H 0 0 (ev_ok (fun r h1 => r = some (.int (nI (if fu s = fd s then 1 else 0))) ∧ h1 = H)) := by
  obtain ⟨dd, rfl⟩ : ∃ e, dd = e + 1 := ⟨dd - 1, by omega⟩
  refine ⟨by decide +kernel, rfl, ?_⟩
  refine ev_aload_n (pc := 0) dX5_hasFactorOne_0 rfl ?_
  refine ev_getf (pc := 1) dX5_hasFactorOne_1 f_X5_14 h.1 rfl ?_
  refine ev_iload_n (pc := 4) dX5_hasFactorOne_4 rfl ?_
  refine ev_laN (pc := 5) dX5_hasFactorOne_5 h.2.2.2.1 (by omega) (by omega) ?_
  refine ev_aload_n (pc := 6) dX5_hasFactorOne_6 rfl ?_
  refine ev_getf (pc := 7) dX5_hasFactorOne_7 f_X5_18 h.1 rfl ?_
  refine ev_iload_n (pc := 10) dX5_hasFactorOne_10 rfl ?_
  refine ev_laN (pc := 11) dX5_hasFactorOne_11 h.2.2.2.2 (by omega) (by omega) ?_
  refine ev_lc_ne (pc := 12) (tgt := 20) dX5_hasFactorOne_12 dX5_hasFactorOne_13 (by decide) (by omega) (by omega) (fun c1 => ?_) (fun c1 => ?_)
  · refine ev_iconst (pc := 20) (v := nI 0) dX5_hasFactorOne_20 (by decide) ?_
    exact ev_iret (pc := 21) dX5_hasFactorOne_21 rfl rfl ⟨by rw [if_neg c1], rfl⟩
  · refine ev_iconst (pc := 16) (v := nI 1) dX5_hasFactorOne_16 (by decide) ?_
    refine ev_goto (pc := 17) (tgt := 21) dX5_hasFactorOne_17 (by decide) ?_
    exact ev_iret (pc := 21) dX5_hasFactorOne_21 rfl rfl ⟨by rw [if_pos c1], rfl⟩
theorem k_plainWorth (hd : 1 ≤ dd) (h : SH H S sa P fu fd mem) (hP : P_ok P) (hs : s < 8) : ev_Ca G dd w m_X5_plainWorth [.ref S, .int (nI s)] H 0 0 (ev_ok (fun r h1 => r = some (.long (lN (pw P s))) ∧ h1 = H)) := by
  obtain ⟨dd, rfl⟩ : ∃ e, dd = e + 1 := ⟨dd - 1, by omega⟩
  refine ⟨by decide +kernel, rfl, ?_⟩
  obtain ⟨⟨a1, a2⟩, ⟨b1, b2⟩, ⟨c1, c2⟩⟩ := hP s hs
  refine ev_aload_n (pc := 0) dX5_plainWorth_0 rfl ?_
  refine ev_getf (pc := 1) dX5_plainWorth_1 f_X5_11 h.1 rfl ?_
  refine ev_iconst (pc := 4) (v := nI 0) dX5_plainWorth_4 (by decide) ?_
  refine sh_row (pc := 5) dX5_plainWorth_5 h (by omega) ?_
  refine ev_iload_n (pc := 6) dX5_plainWorth_6 rfl ?_
  refine ev_iaN (pc := 7) dX5_plainWorth_7 (h.2.2.1 0 (by decide)) (by omega) (by omega) ?_
  refine ev_i2lN (pc := 8) dX5_plainWorth_8 (by omega) ?_
  refine ev_aload_n (pc := 9) dX5_plainWorth_9 rfl ?_
  refine ev_getf (pc := 10) dX5_plainWorth_10 f_X5_11 h.1 rfl ?_
  refine ev_iconst (pc := 13) (v := nI 1) dX5_plainWorth_13 (by decide) ?_
  refine sh_row (pc := 14) dX5_plainWorth_14 h (by omega) ?_
  refine ev_iload_n (pc := 15) dX5_plainWorth_15 rfl ?_
  refine ev_iaN (pc := 16) dX5_plainWorth_16 (h.2.2.1 1 (by decide)) (by omega) (by omega) ?_
  refine ev_i2lN (pc := 17) dX5_plainWorth_17 (by omega) ?_
  refine ev_lmulN (pc := 18) dX5_plainWorth_18 ?_
  refine ev_aload_n (pc := 19) dX5_plainWorth_19 rfl ?_
  refine ev_getf (pc := 20) dX5_plainWorth_20 f_X5_11 h.1 rfl ?_
  refine ev_iconst (pc := 23) (v := nI 2) dX5_plainWorth_23 (by decide) ?_
  refine sh_row (pc := 24) dX5_plainWorth_24 h (by omega) ?_
  refine ev_iload_n (pc := 25) dX5_plainWorth_25 rfl ?_
  refine ev_iaN (pc := 26) dX5_plainWorth_26 (h.2.2.1 2 (by decide)) (by omega) (by omega) ?_
  refine ev_i2lN (pc := 27) dX5_plainWorth_27 (by omega) ?_
  refine ev_lmulN (pc := 28) dX5_plainWorth_28 ?_
  exact ev_lret (pc := 29) dX5_plainWorth_29 rfl ⟨rfl, rfl⟩
/-- a fraction: its two numbers are u and u + 1 -/
theorem k_fbecome {F a b u : Nat} (hd : 3 ≤ dd) (hw : 43 ≤ w) (h : DW H D lay val) (hF : H F = some (.inr (2, [.ref (lay u).1, .ref (lay (u + 1)).1]))) (hu : u + 1 < 20) (ha : a < 2 ^ 63) (hb : b < 2 ^ 63) : ev_Ca G dd w m_X2_become [.ref F, .long (lN a), .long (lN b)] H 0 0 (ev_ok (fun r h1 => r = none ∧ dpost H D lay val (fun v2 => v2 u = a ∧ v2 (u + 1) = b ∧ ∀ x, x ≠ u → x ≠ u + 1 → v2 x = val x) h1)) := by
  obtain ⟨dd, rfl⟩ : ∃ e, dd = e + 1 := ⟨dd - 1, by omega⟩
  refine ⟨by decide +kernel, rfl, ?_⟩
  refine ev_aload_n (pc := 0) dX2_become_0 rfl ?_
  refine ev_getf (pc := 1) dX2_become_1 f_X2_10 hF rfl ?_
  refine ev_lload_n (pc := 4) dX2_become_4 rfl ?_
  refine ev_callVe (pc := 5) (As := [.long (lN a)]) dX2_become_5 cv_X2_19 rfl rfl (wi_o (h.2.1 u (by omega))) rfl ⟨by show 19 + 3 ≤ w; omega, show ev_Ca _ _ (w - 22) _ _ _ _ _ _ from t_become (i := u) (by omega) (by omega) h (by omega) ha⟩ rfl rfl (fun r h1 hp => ?_)
  obtain ⟨rfl, hA, hF1⟩ := hp
  have hF' : h1 F = some (.inr (2, [.ref (lay u).1, .ref (lay (u + 1)).1])) := by rw [hF1 F (ws_out h.2.1 hF (fun fs e => by cases e) (fun f e => by cases e))]; exact hF
  refine ev_aload_n (pc := 8) dX2_become_8 rfl ?_
  refine ev_getf (pc := 9) dX2_become_9 f_X2_16 hF' rfl ?_
  refine ev_lload_n (pc := 12) dX2_become_12 rfl ?_
  refine ev_callVe (pc := 13) (As := [.long (lN b)]) dX2_become_13 cv_X2_19 rfl rfl (wi_o (hA.2.1 (u + 1) hu)) rfl ⟨by show 19 + 3 ≤ w; omega, show ev_Ca _ _ (w - 22) _ _ _ _ _ _ from t_become (i := u + 1) (by omega) (by omega) hA hu hb⟩ rfl rfl (fun r h1 hp => ?_)
  obtain ⟨rfl, hB, hF2⟩ := hp
  refine ev_vret (pc := 16) dX2_become_16 rfl ⟨rfl, _, hB, ⟨?_, ?_, fun x a b => ?_⟩, hF1.tr hF2⟩
  · rw [va_up_ne _ _ (by omega), va_up_self]
  · rw [va_up_self]
  · rw [va_up_ne _ _ b, va_up_ne _ _ a]
theorem k_fcopy {F F2 u v : Nat} (hd : 2 ≤ dd) (hw : 47 ≤ w) (h : DW H D lay val) (hF : H F = some (.inr (2, [.ref (lay u).1, .ref (lay (u + 1)).1]))) (hF2 : H F2 = some (.inr (2, [.ref (lay v).1, .ref (lay (v + 1)).1]))) (hu : u + 1 < 20) (hv : v + 1 < 20) (huv : u + 1 < v ∨ v + 1 < u) : ev_Ca G dd w m_X2_copy [.ref F, .ref F2] H 0 0 (ev_ok (fun r h1 => r = none ∧ dpost H D lay val (fun v2 => v2 u = val v ∧ v2 (u + 1) = val (v + 1) ∧ ∀ x, x ≠ u → x ≠ u + 1 → v2 x = val x) h1)) := by
  obtain ⟨dd, rfl⟩ : ∃ e, dd = e + 1 := ⟨dd - 1, by omega⟩
  refine ⟨by decide +kernel, rfl, ?_⟩
  refine ev_aload_n (pc := 0) dX2_copy_0 rfl ?_
  refine ev_getf (pc := 1) dX2_copy_1 f_X2_10 hF rfl ?_
  refine ev_aload_n (pc := 4) dX2_copy_4 rfl ?_
  refine ev_getf (pc := 5) dX2_copy_5 f_X2_10 hF2 rfl ?_
  refine ev_callVe (pc := 8) (As := [.ref (lay v).1]) dX2_copy_8 cv_X2_23 rfl rfl (wi_o (h.2.1 u (by omega))) rfl ⟨by show 19 + 2 ≤ w; omega, show ev_Ca _ _ (w - 21) _ _ _ _ _ _ from t_copy (i := u) (j := v) (by omega) (by omega) h (by omega) (by omega) (by omega)⟩ rfl rfl (fun r h1 hp => ?_)
  obtain ⟨rfl, hA, hF1⟩ := hp
  have hG : h1 F = some (.inr (2, [.ref (lay u).1, .ref (lay (u + 1)).1])) := by rw [hF1 F (ws_out h.2.1 hF (fun fs e => by cases e) (fun f e => by cases e))]; exact hF
  have hG2 : h1 F2 = some (.inr (2, [.ref (lay v).1, .ref (lay (v + 1)).1])) := by rw [hF1 F2 (ws_out h.2.1 hF2 (fun fs e => by cases e) (fun f e => by cases e))]; exact hF2
  refine ev_aload_n (pc := 11) dX2_copy_11 rfl ?_
  refine ev_getf (pc := 12) dX2_copy_12 f_X2_16 hG rfl ?_
  refine ev_aload_n (pc := 15) dX2_copy_15 rfl ?_
  refine ev_getf (pc := 16) dX2_copy_16 f_X2_16 hG2 rfl ?_
  refine ev_callVe (pc := 19) (As := [.ref (lay (v + 1)).1]) dX2_copy_19 cv_X2_23 rfl rfl (wi_o (hA.2.1 (u + 1) hu)) rfl ⟨by show 19 + 2 ≤ w; omega, show ev_Ca _ _ (w - 21) _ _ _ _ _ _ from t_copy (i := u + 1) (j := v + 1) (by omega) (by omega) hA hu hv (by omega)⟩ rfl rfl (fun r h1 hp => ?_)
  obtain ⟨rfl, hB, hF3⟩ := hp
  rw [va_up_ne _ _ (show v + 1 ≠ u by omega)] at hB
  refine ev_vret (pc := 22) dX2_copy_22 rfl ⟨rfl, _, hB, ⟨?_, ?_, fun x a b => ?_⟩, hF1.tr hF3⟩
  · rw [va_up_ne _ _ (by omega), va_up_self]
  · rw [va_up_self]
  · rw [va_up_ne _ _ b, va_up_ne _ _ a]
theorem mb_bits_le {v n : Nat} (h : v < 2 ^ n) : mb_bits v ≤ n := by
  unfold mb_bits
  split
  · omega
  · rename_i e
    have := (Nat.log2_lt e).mpr h
    omega
theorem k_mostDigits {F u : Nat} (hd : 3 ≤ dd) (hw : 41 ≤ w) (h : DW H D lay val) (hF : H F = some (.inr (2, [.ref (lay u).1, .ref (lay (u + 1)).1]))) (hu : u + 1 < 20) : ev_Ca G dd w m_X2_mostDigits [.ref F] H 0 0 (ev_ok (fun r h1 => r = some (.int (nI (max (mb_bits (val u)) (mb_bits (val (u + 1)))))) ∧ h1 = H)) := by
  obtain ⟨dd, rfl⟩ : ∃ e, dd = e + 1 := ⟨dd - 1, by omega⟩
  refine ⟨by decide +kernel, rfl, ?_⟩
  have hb : ∀ x, x < 20 → mb_bits (val x) ≤ 2160 := fun x hx => by
    obtain ⟨g, n, -, -, m⟩ := h.2.1 x hx
    refine mb_bits_le ?_
    have h1 := mb_is_lt m
    have h2 : 1073741824 ^ n ≤ 1073741824 ^ 72 := Nat.pow_le_pow_right (by decide) m.2.2.2.1
    have h3 : (1073741824 : Nat) ^ 72 = 2 ^ 2160 := by rw [show (1073741824 : Nat) = 2 ^ 30 by decide, ← Nat.pow_mul]
    omega
  have b1 := hb u (by omega)
  have b2 := hb (u + 1) hu
  refine ev_aload_n (pc := 0) dX2_mostDigits_0 rfl ?_
  refine ev_getf (pc := 1) dX2_mostDigits_1 f_X2_10 hF rfl ?_
  refine ev_callVe (pc := 4) (As := []) dX2_mostDigits_4 cv_X2_27 rfl rfl (wi_o (h.2.1 u (by omega))) rfl ⟨by show 19 + 1 ≤ w; omega, show ev_Ca _ _ (w - 20) _ _ _ _ _ _ from t_binaryDigits (by omega) (by omega) h (by omega)⟩ rfl rfl (fun r h1 hp => ?_)
  obtain ⟨rfl, rfl⟩ := hp
  refine ev_aload_n (pc := 7) dX2_mostDigits_7 rfl ?_
  refine ev_getf (pc := 8) dX2_mostDigits_8 f_X2_16 hF rfl ?_
  refine ev_callVe (pc := 11) (As := []) dX2_mostDigits_11 cv_X2_27 rfl rfl (wi_o (h.2.1 (u + 1) hu)) rfl ⟨by show 19 + 1 ≤ w; omega, show ev_Ca _ _ (w - 20) _ _ _ _ _ _ from t_binaryDigits (by omega) (by omega) h hu⟩ rfl rfl (fun r h1 hp => ?_)
  obtain ⟨rfl, rfl⟩ := hp
  refine ev_mmax (pc := 14) dX2_mostDigits_14 mx_X2_31 rfl (by omega) (ev_ti (mi_max (by omega) (by omega)) ?_)
  exact ev_iret (pc := 17) dX2_mostDigits_17 rfl rfl ⟨rfl, rfl⟩
/-- a share's worth, added to a fraction -/
theorem k_addTo {F u pl up dn : Nat} (hd : 5 ≤ dd) (hw : 94 ≤ w) (h : DW H D lay val) (hF : H F = some (.inr (2, [.ref (lay u).1, .ref (lay (u + 1)).1]))) (hu : u + 1 < 20) (hu9 : 9 ≤ u) (hpl : pl < 2 ^ 54) (hup : up < 2 ^ 63) (hdn : dn < 2 ^ 63) (hdn0 : 0 < dn) (hpl0 : 0 < pl) (hv1 : val u < 2 ^ 1000) (hv2 : val (u + 1) < 2 ^ 1000) : ev_Ca G dd w m_X1_addTo [.ref D, .ref F, .long (lN pl), .long (lN up), .long (lN dn)] H 0 0 (ev_ok (fun r h1 => r = none ∧ dpost H D lay val (fun v2 => v2 u = val u * (dn / Nat.gcd pl dn) + pl / Nat.gcd pl dn * up * val (u + 1) ∧ v2 (u + 1) = val (u + 1) * (dn / Nat.gcd pl dn) ∧ ∀ x, 9 ≤ x → x ≠ u → x ≠ u + 1 → v2 x = val x) h1)) := by
  obtain ⟨dd, rfl⟩ : ∃ e, dd = e + 1 := ⟨dd - 1, by omega⟩
  refine ⟨by decide +kernel, rfl, ?_⟩
  obtain ⟨g, hg⟩ : ∃ g, g = Nat.gcd pl dn := ⟨_, rfl⟩
  have g0 : 0 < g := by rw [hg]; exact Nat.gcd_pos_of_pos_left _ hpl0
  have g1 : g ≤ pl := by rw [hg]; exact Nat.gcd_le_left _ hpl0
  have hdg : dn / g ≤ dn := Nat.div_le_self _ _
  have hpg : pl / g ≤ pl := Nat.div_le_self _ _
  have hB : (1073741824 : Nat) ^ 71 = 2 ^ 2130 := by rw [show (1073741824 : Nat) = 2 ^ 30 by decide, ← Nat.pow_mul]
  have hB2 : (2 : Nat) ^ 2130 ≤ 1073741824 ^ 72 := by rw [← hB]; exact Nat.pow_le_pow_right (by decide) (by decide)
  have mul2 : ∀ {a b x y : Nat}, a < 2 ^ x → b < 2 ^ y → a * b < 2 ^ (x + y) := fun {a b x y} ha hb => by
    rw [Nat.pow_add]
    exact Nat.mul_lt_mul'' ha hb
  have le2 : ∀ {a x y : Nat}, x ≤ y → a < 2 ^ x → a < 2 ^ y := fun hxy ha => Nat.lt_of_lt_of_le ha (Nat.pow_le_pow_right (by decide) hxy)
  refine ev_lconst (pc := 0) (v := lN 1) dX1_addTo_0 (by decide) ?_
  refine ev_lload_n (pc := 1) dX1_addTo_1 rfl ?_
  refine ev_lload (pc := 2) dX1_addTo_2 rfl ?_
  refine ev_callS (pc := 4) (As := [.long (lN pl), .long (lN dn)]) dX1_addTo_4 cs_X1_111 rfl rfl ⟨by show 19 + 11 ≤ w; omega, show ev_Ca _ _ (w - 30) _ _ _ _ _ _ from k_commonDivisor (by omega) (by omega) hdn⟩ rfl rfl (fun r h1 hp => ?_)
  obtain ⟨rfl, hH⟩ := hp
  rw [hH, ← hg]
  clear hH h1
  refine ev_mmaxl (pc := 7) dX1_addTo_7 mx_X1_144 rfl (by omega) (ev_tl (y := lN g) (if_neg (fun e => by have := (pk_lLT (by omega) (by decide)).mp e; omega)) ?_)
  refine ev_lstore (pc := 10) dX1_addTo_10 rfl ?_
  refine ev_lload (pc := 12) dX1_addTo_12 rfl ?_
  refine ev_lload (pc := 14) dX1_addTo_14 rfl ?_
  refine ev_ldivN (pc := 16) dX1_addTo_16 (by omega) (by omega) (by omega) ?_
  refine ev_lstore (pc := 17) dX1_addTo_17 rfl ?_
  refine ev_aload_n (pc := 19) dX1_addTo_19 rfl ?_
  refine ev_getf (pc := 20) dX1_addTo_20 f_X1_28 h.2.2 rfl ?_
  refine ev_lload_n (pc := 23) dX1_addTo_23 rfl ?_
  refine ev_lload (pc := 24) dX1_addTo_24 rfl ?_
  refine ev_ldivN (pc := 26) dX1_addTo_26 (by omega) (by omega) (by omega) ?_
  refine ev_callVe (pc := 27) (As := [.long (lN (pl / g))]) dX1_addTo_27 cv_X1_48 rfl rfl (wi_o (h.2.1 5 (by decide))) rfl ⟨by show 19 + 3 ≤ w; omega, show ev_Ca _ _ (w - 22) _ _ _ _ _ _ from t_become (i := 5) (by omega) (by omega) h (by decide) (by omega)⟩ rfl rfl (fun r h1 hp => ?_)
  obtain ⟨rfl, hA, hF1⟩ := hp
  have e5 : va_up val 5 (pl / g) 5 = pl / g := va_up_self ..
  have hT1 : pl / g * up < 2 ^ 117 := mul2 (x := 54) (y := 63) (by omega) hup
  refine ev_aload_n (pc := 30) dX1_addTo_30 rfl ?_
  refine ev_aload_n (pc := 31) dX1_addTo_31 rfl ?_
  refine ev_getf (pc := 32) dX1_addTo_32 f_X1_28 hA.2.2 rfl ?_
  refine ev_lload (pc := 35) dX1_addTo_35 rfl ?_
  refine ev_callV (pc := 37) (As := [.ref (lay 5).1, .long (lN up)]) dX1_addTo_37 cv_X1_149 rfl rfl hA.2.2 rfl ⟨by show 19 + 4 ≤ w; omega, show ev_Ca _ _ (w - 23) _ _ _ _ _ _ from k_scale (i := 5) (by omega) (by omega) hA (by decide) (by decide) (by decide) hup (by rw [e5, hB]; exact le2 (by decide) hT1)⟩ rfl rfl (fun r h1 hp => ?_)
  obtain ⟨rfl, v2, hC, ⟨q1, q2⟩, hF2⟩ := hp
  rw [e5] at q1
  have hFs : ∀ {x : ev_H}, WF lay H x → x F = some (.inr (2, [.ref (lay u).1, .ref (lay (u + 1)).1])) := fun hx => by rw [hx F (ws_out h.2.1 hF (fun fs e => by cases e) (fun f e => by cases e))]; exact hF
  have f2d : v2 (u + 1) = val (u + 1) := by rw [q2 _ (by omega) (by omega) (by omega), va_up_ne _ _ (by omega)]
  have hT2 : pl / g * up * val (u + 1) < 2 ^ 1117 := mul2 (x := 117) (y := 1000) hT1 hv2
  have hG2 := hFs (hF1.tr hF2)
  refine ev_aload_n (pc := 40) dX1_addTo_40 rfl ?_
  refine ev_aload_n (pc := 41) dX1_addTo_41 rfl ?_
  refine ev_getf (pc := 42) dX1_addTo_42 f_X1_28 hC.2.2 rfl ?_
  refine ev_aload_n (pc := 45) dX1_addTo_45 rfl ?_
  refine ev_getf (pc := 46) dX1_addTo_46 f_X1_153 hG2 rfl ?_
  refine ev_callV (pc := 49) (As := [.ref (lay 5).1, .ref (lay (u + 1)).1]) dX1_addTo_49 cv_X1_52 rfl rfl hC.2.2 rfl ⟨by show 19 + 3 ≤ w; omega, show ev_Ca _ _ (w - 22) _ _ _ _ _ _ from k_multiply (i := 5) (j := u + 1) (by omega) (by omega) hC (by decide) hu (by decide) (by omega) (by rw [q1, f2d, hB]; exact le2 (by decide) hT2)⟩ rfl rfl (fun r h1 hp => ?_)
  obtain ⟨rfl, v3, hE, ⟨r1, r2⟩, hF3⟩ := hp
  rw [q1, f2d] at r1
  have f3u : v3 u = val u := by rw [r2 _ (by omega) (by omega), q2 _ (by omega) (by omega) (by omega), va_up_ne _ _ (by omega)]
  have f3d : v3 (u + 1) = val (u + 1) := by rw [r2 _ (by omega) (by omega), f2d]
  have hT3 : val u * (dn / g) < 2 ^ 1063 := mul2 (x := 1000) (y := 63) hv1 (by omega)
  have hT4 : val (u + 1) * (dn / g) < 2 ^ 1063 := mul2 (x := 1000) (y := 63) hv2 (by omega)
  have hG3 := hFs ((hF1.tr hF2).tr hF3)
  refine ev_aload_n (pc := 52) dX1_addTo_52 rfl ?_
  refine ev_aload_n (pc := 53) dX1_addTo_53 rfl ?_
  refine ev_getf (pc := 54) dX1_addTo_54 f_X1_156 hG3 rfl ?_
  refine ev_lload (pc := 57) dX1_addTo_57 rfl ?_
  refine ev_callV (pc := 59) (As := [.ref (lay u).1, .long (lN (dn / g))]) dX1_addTo_59 cv_X1_149 rfl rfl hE.2.2 rfl ⟨by show 19 + 4 ≤ w; omega, show ev_Ca _ _ (w - 23) _ _ _ _ _ _ from k_scale (i := u) (by omega) (by omega) hE (by omega) (by omega) (by omega) (by omega) (by rw [f3u, hB]; exact le2 (by decide) hT3)⟩ rfl rfl (fun r h1 hp => ?_)
  obtain ⟨rfl, v4, hI, ⟨s1, s2⟩, hF4⟩ := hp
  rw [f3u] at s1
  have f4d : v4 (u + 1) = val (u + 1) := by rw [s2 _ (by omega) (by omega) (by omega), f3d]
  have f45 : v4 5 = pl / g * up * val (u + 1) := by rw [s2 _ (by omega) (by decide) (by decide), r1]
  have hG4 := hFs (((hF1.tr hF2).tr hF3).tr hF4)
  refine ev_aload_n (pc := 62) dX1_addTo_62 rfl ?_
  refine ev_aload_n (pc := 63) dX1_addTo_63 rfl ?_
  refine ev_getf (pc := 64) dX1_addTo_64 f_X1_153 hG4 rfl ?_
  refine ev_lload (pc := 67) dX1_addTo_67 rfl ?_
  refine ev_callV (pc := 69) (As := [.ref (lay (u + 1)).1, .long (lN (dn / g))]) dX1_addTo_69 cv_X1_149 rfl rfl hI.2.2 rfl ⟨by show 19 + 4 ≤ w; omega, show ev_Ca _ _ (w - 23) _ _ _ _ _ _ from k_scale (i := u + 1) (by omega) (by omega) hI hu (by omega) (by omega) (by omega) (by rw [f4d, hB]; exact le2 (by decide) hT4)⟩ rfl rfl (fun r h1 hp => ?_)
  obtain ⟨rfl, v5, hJ, ⟨t1, t2⟩, hF5⟩ := hp
  rw [f4d] at t1
  have f5u : v5 u = val u * (dn / g) := by rw [t2 _ (by omega) (by omega) (by omega), s1]
  have f55 : v5 5 = pl / g * up * val (u + 1) := by rw [t2 _ (by omega) (by decide) (by decide), f45]
  have hG5 := hFs ((((hF1.tr hF2).tr hF3).tr hF4).tr hF5)
  refine ev_aload_n (pc := 72) dX1_addTo_72 rfl ?_
  refine ev_getf (pc := 73) dX1_addTo_73 f_X1_156 hG5 rfl ?_
  refine ev_aload_n (pc := 76) dX1_addTo_76 rfl ?_
  refine ev_getf (pc := 77) dX1_addTo_77 f_X1_28 hJ.2.2 rfl ?_
  have hT5 : v5 u + v5 5 < 1073741824 ^ 72 := by
    rw [f5u, f55]
    have h3 : val u * (dn / g) < 2 ^ 2129 := le2 (by decide) hT3
    have h4 : pl / g * up * val (u + 1) < 2 ^ 2129 := le2 (by decide) hT2
    have h5 : (2 : Nat) ^ 2130 = 2 ^ 2129 * 2 := Nat.pow_succ ..
    omega
  refine ev_callVe (pc := 80) (As := [.ref (lay 5).1]) dX1_addTo_80 cv_X1_159 rfl rfl (wi_o (hJ.2.1 u (by omega))) rfl ⟨by show 19 + 6 ≤ w; omega, show ev_Ca _ _ (w - 25) _ _ _ _ _ _ from t_add (i := u) (j := 5) (by omega) (by omega) hJ (by omega) (by decide) (by omega) hT5⟩ rfl rfl (fun r h1 hp => ?_)
  obtain ⟨rfl, hM, hF6⟩ := hp
  refine ev_vret (pc := 83) dX1_addTo_83 rfl ⟨rfl, _, hM, ⟨?_, ?_, fun x a b c => ?_⟩, ((((hF1.tr hF2).tr hF3).tr hF4).tr hF5).tr hF6⟩
  · rw [va_up_self, f5u, f55]
  · rw [va_up_ne _ _ (by omega), t1]
  · rw [va_up_ne _ _ b, t2 _ c (by omega) (by omega), s2 _ b (by omega) (by omega), r2 _ (by omega) (by omega), q2 _ (by omega) (by omega) (by omega), va_up_ne _ _ (by omega)]
end SHR
end
section
/-! Desk: addUp, weigh, sameLevel -/
/-- the worth of the members among the first shares, as the desk adds it up -/
def su (P : Nat → Nat → Nat) (fu fd : Nat → Nat) (mem : Nat) : Nat → Nat × Nat
  | 0 => (0, 1)
  | k + 1 => if mem / 2 ^ k % 2 = 1 then ((su P fu fd mem k).1 * (fd k / Nat.gcd (pw P k) (fd k)) + pw P k / Nat.gcd (pw P k) (fd k) * fu k * (su P fu fd mem k).2, (su P fu fd mem k).2 * (fd k / Nat.gcd (pw P k) (fd k))) else su P fu fd mem k
/-- factors within their bounds -/
def f_ok (fu fd : Nat → Nat) : Prop := ∀ s, s < 8 → (0 < fu s ∧ fu s < 2 ^ 63) ∧ 0 < fd s ∧ fd s < 2 ^ 63
theorem su_b {P : Nat → Nat → Nat} {fu fd : Nat → Nat} {mem : Nat} (hP : P_ok P) (hf : f_ok fu fd) : ∀ k, k ≤ 8 → (su P fu fd mem k).2 ≤ 2 ^ (63 * k) ∧ (su P fu fd mem k).1 ≤ k * 2 ^ (63 * k + 63)
  | 0, _ => ⟨by show 1 ≤ 2 ^ (63 * 0); decide, Nat.zero_le _⟩
  | k + 1, hk => by
    obtain ⟨h1, h2⟩ := su_b (mem := mem) hP hf k (by omega)
    obtain ⟨⟨f1, f2⟩, f3, f4⟩ := hf k (by omega)
    obtain ⟨p1, p2⟩ := pw_b hP (show k < 8 by omega)
    unfold su
    have e1 : 2 ^ (63 * (k + 1)) = 2 ^ (63 * k) * 2 ^ 63 := by rw [← Nat.pow_add]; congr 1
    have e2 : 2 ^ (63 * (k + 1) + 63) = 2 ^ (63 * k + 63) * 2 ^ 63 := by rw [← Nat.pow_add]; congr 1
    have e3 : 2 ^ (63 * k + 63) = 2 ^ (63 * k) * 2 ^ 63 := by rw [← Nat.pow_add]
    split
    · have g1 : fd k / Nat.gcd (pw P k) (fd k) ≤ 2 ^ 63 := Nat.le_trans (Nat.div_le_self _ _) (by omega)
      have g2 : pw P k / Nat.gcd (pw P k) (fd k) ≤ 2 ^ 54 := Nat.le_trans (Nat.div_le_self _ _) (by omega)
      refine ⟨?_, ?_⟩
      · rw [e1]; exact Nat.mul_le_mul h1 g1
      · have t1 := Nat.mul_le_mul h2 g1
        have t2 : pw P k / Nat.gcd (pw P k) (fd k) * fu k * (su P fu fd mem k).2 ≤ 2 ^ 54 * 2 ^ 63 * 2 ^ (63 * k) := Nat.mul_le_mul (Nat.mul_le_mul g2 (by omega)) h1
        have t3 : (k + 1) * 2 ^ (63 * (k + 1) + 63) = k * 2 ^ (63 * k + 63) * 2 ^ 63 + 2 ^ (63 * k) * 2 ^ 63 * 2 ^ 63 := by
          rw [e2, Nat.add_mul, Nat.one_mul, Nat.mul_assoc, e3]
        have t4 : 2 ^ 54 * 2 ^ 63 * 2 ^ (63 * k) ≤ 2 ^ (63 * k) * 2 ^ 63 * 2 ^ 63 := by
          rw [Nat.mul_comm, Nat.mul_assoc]
          exact Nat.mul_le_mul_left _ (by decide)
        rw [t3]
        exact Nat.add_le_add t1 (Nat.le_trans t2 t4)
    · refine ⟨?_, ?_⟩
      · rw [e1]; exact Nat.le_trans h1 (Nat.le_mul_of_pos_right _ (by decide))
      · rw [e2]
        refine Nat.le_trans h2 ?_
        exact Nat.mul_le_mul (by omega) (Nat.le_mul_of_pos_right _ (by decide))
theorem su_b8 {P : Nat → Nat → Nat} {fu fd : Nat → Nat} {mem : Nat} (hP : P_ok P) (hf : f_ok fu fd) {k : Nat} (hk : k ≤ 8) : (su P fu fd mem k).1 < 2 ^ 571 ∧ (su P fu fd mem k).2 < 2 ^ 505 := by
  obtain ⟨h1, h2⟩ := su_b (mem := mem) hP hf k hk
  constructor
  · have h3 : k * 2 ^ (63 * k + 63) ≤ 8 * 2 ^ 567 := Nat.mul_le_mul hk (Nat.pow_le_pow_right (by decide) (by omega))
    have h4 : (2 : Nat) ^ 571 = 16 * 2 ^ 567 := by rw [show (16 : Nat) = 2 ^ 4 by decide, ← Nat.pow_add]
    have h5 : 0 < (2 : Nat) ^ 567 := Nat.pow_pos (by decide)
    omega
  · have h3 : 2 ^ (63 * k) ≤ 2 ^ 504 := Nat.pow_le_pow_right (by decide) (by omega)
    have h4 : (2 : Nat) ^ 505 = 2 ^ 504 * 2 := Nat.pow_succ ..
    have h5 : 0 < (2 : Nat) ^ 504 := Nat.pow_pos (by decide)
    omega
theorem p2_mul {a b x y : Nat} (ha : a < 2 ^ x) (hb : b < 2 ^ y) : a * b < 2 ^ (x + y) := by
  rw [Nat.pow_add]
  exact Nat.mul_lt_mul'' ha hb
theorem p2_le {a x y : Nat} (hxy : x ≤ y) (ha : a < 2 ^ x) : a < 2 ^ y := Nat.lt_of_lt_of_le ha (Nat.pow_le_pow_right (by decide) hxy)
theorem p2_71 : (1073741824 : Nat) ^ 71 = 2 ^ 2130 := by rw [show (1073741824 : Nat) = 2 ^ 30 by decide, ← Nat.pow_mul]
theorem p2_70 : (1073741824 : Nat) ^ 70 = 2 ^ 2100 := by rw [show (1073741824 : Nat) = 2 ^ 30 by decide, ← Nat.pow_mul]
theorem p2_72 : (1073741824 : Nat) ^ 72 = 2 ^ 2160 := by rw [show (1073741824 : Nat) = 2 ^ 30 by decide, ← Nat.pow_mul]
section SUM
variable {G : ev_G} {w : Nat} {H : ev_H} {D S : Nat} {lay : Nat → Nat × Nat} {val : Nat → Nat} {i j k dd s : Nat} {sa : Nat → Nat} {P : Nat → Nat → Nat} {fu fd : Nat → Nat} {mem : Nat}
theorem fr_wf {h1 : ev_H} {F a b : Nat} (hS : WS H lay val) (hF : H F = some (.inr (2, [.ref a, .ref b]))) (hx : WF lay H h1) : h1 F = some (.inr (2, [.ref a, .ref b])) := by
  rw [hx F (ws_out hS hF (fun fs e => by cases e) (fun f e => by cases e))]; exact hF
theorem l_addUp {K : ev_K} {c z F u : Nat} {H0 : ev_H} {val0 : Nat → Nat} (hd : 5 ≤ dd) (hw : 125 ≤ w) (hP : P_ok P) (hf : f_ok fu fd) (hm : mem < 256) (hu : u + 1 < 20) (hu9 : 9 ≤ u)
    (hK : ∀ h1 v2, DW h1 D lay v2 → v2 u = (su P fu fd mem 8).1 → v2 (u + 1) = (su P fu fd mem 8).2 → (∀ x, 9 ≤ x → x ≠ u → x ≠ u + 1 → v2 x = val0 x) → WF lay H0 h1 → K (.inl none) h1) :
    ∀ k s H val, s + k = 8 → DW H D lay val → SH H S sa P fu fd mem → H F = some (.inr (2, [.ref (lay u).1, .ref (lay (u + 1)).1])) → val u = (su P fu fd mem s).1 → val (u + 1) = (su P fu fd mem s).2 → (∀ x, 9 ≤ x → x ≠ u → x ≠ u + 1 → val x = val0 x) → WF lay H0 H → ev_J G (ev_cc G dd w) w m_X1_addUp K (8, ev_lf [(0, .ref D), (1, .ref S), (2, .ref F), (3, .int (nI s))], [], H, c, z)
  | 0, s, H, val, e, hW, hS, hF, e1, e2, e3, hw0 => by
    refine ev_iload_n (pc := 8) dX1_addUp_8 rfl ?_
    refine ev_bipush (pc := 9) (v := nI 8) dX1_addUp_9 (by decide) ?_
    refine ev_icmp_geN (pc := 11) (tgt := 50) dX1_addUp_11 (by decide) (by omega) (by omega) (fun c1 => ?_) (fun c1 => ?_)
    · have : s = 8 := by omega
      subst this
      exact ev_vret (pc := 50) dX1_addUp_50 rfl (hK H val hW e1 e2 e3 hw0)
    · omega
  | k + 1, s, H, val, e, hW, hS, hF, e1, e2, e3, hw0 => by
    obtain ⟨⟨f1, f2⟩, f3, f4⟩ := hf s (by omega)
    obtain ⟨p1, p2⟩ := pw_b hP (show s < 8 by omega)
    obtain ⟨b1, b2⟩ := su_b8 (mem := mem) hP hf (show s ≤ 8 by omega)
    refine ev_iload_n (pc := 8) dX1_addUp_8 rfl ?_
    refine ev_bipush (pc := 9) (v := nI 8) dX1_addUp_9 (by decide) ?_
    refine ev_icmp_geN (pc := 11) (tgt := 50) dX1_addUp_11 (by decide) (by omega) (by omega) (fun c1 => ?_) (fun c1 => ?_)
    · omega
    · refine ev_aload_n (pc := 14) dX1_addUp_14 rfl ?_
      refine ev_iload_n (pc := 15) dX1_addUp_15 rfl ?_
      refine ev_callV (pc := 16) (As := [.int (nI s)]) dX1_addUp_16 cv_X1_125 rfl rfl hS.1 rfl ⟨by show 19 + 2 ≤ w; omega, show ev_Ca _ _ (w - 21) _ _ _ _ _ _ from k_isMember (by omega) hS hm (by omega)⟩ rfl rfl (fun r h1 hp => ?_)
      obtain ⟨rfl, hH⟩ := hp
      rw [hH]
      clear hH h1
      have hbit : mem / 2 ^ s % 2 < 2 := Nat.mod_lt _ (by decide)
      refine ev_if_eqN (pc := 19) (tgt := 44) dX1_addUp_19 (by decide) (by omega) (fun c2 => ?_) (fun c2 => ?_)
      · refine ev_iincN (pc := 44) dX1_addUp_44 rfl rfl ?_
        refine ev_goto (pc := 47) (tgt := 8) dX1_addUp_47 (by decide) ?_
        refine ev_vs [(0, .ref D), (1, .ref S), (2, .ref F), (3, .int (nI (s + 1)))] ⟨rfl, rfl, rfl, rfl, trivial⟩ ?_
        have es : su P fu fd mem (s + 1) = su P fu fd mem s := by
          show (if _ then _ else _) = _
          rw [if_neg (by omega)]
        exact l_addUp hd hw hP hf hm hu hu9 hK k (s + 1) H val (by omega) hW hS hF (by rw [es]; exact e1) (by rw [es]; exact e2) e3 hw0
      · refine ev_aload_n (pc := 22) dX1_addUp_22 rfl ?_
        refine ev_aload_n (pc := 23) dX1_addUp_23 rfl ?_
        refine ev_aload_n (pc := 24) dX1_addUp_24 rfl ?_
        refine ev_iload_n (pc := 25) dX1_addUp_25 rfl ?_
        refine ev_callV (pc := 26) (As := [.int (nI s)]) dX1_addUp_26 cv_X1_129 rfl rfl hS.1 rfl ⟨by show 19 + 2 ≤ w; omega, show ev_Ca _ _ (w - 21) _ _ _ _ _ _ from k_plainWorth (by omega) hS hP (by omega)⟩ rfl rfl (fun r h1 hp => ?_)
        obtain ⟨rfl, hH⟩ := hp
        rw [hH]
        clear hH h1
        refine ev_aload_n (pc := 29) dX1_addUp_29 rfl ?_
        refine ev_getf (pc := 30) dX1_addUp_30 f_X1_133 hS.1 rfl ?_
        refine ev_iload_n (pc := 33) dX1_addUp_33 rfl ?_
        refine ev_laN (pc := 34) dX1_addUp_34 hS.2.2.2.1 (by omega) (by omega) ?_
        refine ev_aload_n (pc := 35) dX1_addUp_35 rfl ?_
        refine ev_getf (pc := 36) dX1_addUp_36 f_X1_137 hS.1 rfl ?_
        refine ev_iload_n (pc := 39) dX1_addUp_39 rfl ?_
        refine ev_laN (pc := 40) dX1_addUp_40 hS.2.2.2.2 (by omega) (by omega) ?_
        refine ev_callV (pc := 41) (As := [.ref F, .long (lN (pw P s)), .long (lN (fu s)), .long (lN (fd s))]) dX1_addUp_41 cv_X1_140 rfl rfl hW.2.2 rfl ⟨by show 19 + 12 ≤ w; omega, show ev_Ca _ _ (w - 31) _ _ _ _ _ _ from k_addTo (by omega) (by omega) hW hF hu hu9 (by omega) f2 f4 f3 (by omega) (by rw [e1]; exact p2_le (by decide) b1) (by rw [e2]; exact p2_le (by decide) b2)⟩ rfl rfl (fun r h1 hp => ?_)
        obtain ⟨rfl, v2, hB, ⟨q1, q2, q3⟩, hF2⟩ := hp
        refine ev_iincN (pc := 44) dX1_addUp_44 rfl rfl ?_
        refine ev_goto (pc := 47) (tgt := 8) dX1_addUp_47 (by decide) ?_
        refine ev_vs [(0, .ref D), (1, .ref S), (2, .ref F), (3, .int (nI (s + 1)))] ⟨rfl, rfl, rfl, rfl, trivial⟩ ?_
        have es : su P fu fd mem (s + 1) = ((su P fu fd mem s).1 * (fd s / Nat.gcd (pw P s) (fd s)) + pw P s / Nat.gcd (pw P s) (fd s) * fu s * (su P fu fd mem s).2, (su P fu fd mem s).2 * (fd s / Nat.gcd (pw P s) (fd s))) := by
          show (if _ then _ else _) = _
          rw [if_pos (by omega)]
        exact l_addUp hd hw hP hf hm hu hu9 hK k (s + 1) _ v2 (by omega) hB (sh_wf hW.2.1 hF2 hS) (fr_wf hW.2.1 hF hF2) (by rw [es, q1, e1, e2]) (by rw [es, q2, e2]) (fun x a b d => by rw [q3 x a b d]; exact e3 x a b d) (hw0.tr hF2)
theorem k_addUp {F u : Nat} (hd : 6 ≤ dd) (hw : 125 ≤ w) (h : DW H D lay val) (hS : SH H S sa P fu fd mem) (hP : P_ok P) (hf : f_ok fu fd) (hm : mem < 256) (hF : H F = some (.inr (2, [.ref (lay u).1, .ref (lay (u + 1)).1]))) (hu : u + 1 < 20) (hu9 : 9 ≤ u) : ev_Ca G dd w m_X1_addUp [.ref D, .ref S, .ref F] H 0 0 (ev_ok (fun r h1 => r = none ∧ dpost H D lay val (fun v2 => v2 u = (su P fu fd mem 8).1 ∧ v2 (u + 1) = (su P fu fd mem 8).2 ∧ ∀ x, 9 ≤ x → x ≠ u → x ≠ u + 1 → v2 x = val x) h1)) := by
  obtain ⟨dd, rfl⟩ : ∃ e, dd = e + 1 := ⟨dd - 1, by omega⟩
  refine ⟨by decide +kernel, rfl, ?_⟩
  refine ev_aload_n (pc := 0) dX1_addUp_0 rfl ?_
  refine ev_lconst (pc := 1) (v := lN 0) dX1_addUp_1 (by decide) ?_
  refine ev_lconst (pc := 2) (v := lN 1) dX1_addUp_2 (by decide) ?_
  refine ev_callV (pc := 3) (As := [.long (lN 0), .long (lN 1)]) dX1_addUp_3 cv_X1_118 rfl rfl hF rfl ⟨by show 19 + 5 ≤ w; omega, show ev_Ca _ _ (w - 24) _ _ _ _ _ _ from k_fbecome (by omega) (by omega) h hF hu (by decide) (by decide)⟩ rfl rfl (fun r h1 hp => ?_)
  obtain ⟨rfl, v2, hA, ⟨q1, q2, q3⟩, hF1⟩ := hp
  refine ev_iconst (pc := 6) (v := nI 0) dX1_addUp_6 (by decide) ?_
  refine ev_istore_n (pc := 7) dX1_addUp_7 rfl ?_
  refine ev_vs [(0, .ref D), (1, .ref S), (2, .ref F), (3, .int (nI 0))] ⟨rfl, rfl, rfl, rfl, trivial⟩ ?_
  exact l_addUp (val0 := val) (H0 := H) (by omega) hw hP hf hm hu hu9 (fun h1 v2 a b c d e => ⟨rfl, v2, a, ⟨b, c, d⟩, e⟩) 8 0 _ v2 (by omega) hA (sh_wf h.2.1 hF1 hS) (fr_wf h.2.1 hF hF1) q1 q2 (fun x _ b c => q3 x b c) hF1
theorem k_weigh {F u t t2 : Nat} (hd : 5 ≤ dd) (hw : 94 ≤ w) (h : DW H D lay val) (hS : SH H S sa P fu fd mem) (hP : P_ok P) (hf : f_ok fu fd) (hs : s < 8) (hF : H F = some (.inr (2, [.ref (lay u).1, .ref (lay (u + 1)).1]))) (hu : u + 1 < 20) (hu9 : 9 ≤ u) (ht : t < 2 ^ 31) (ht2 : t2 < 2 ^ 31) (hv1 : val u < 2 ^ 600) (hv2 : val (u + 1) < 2 ^ 600) : ev_Ca G dd w m_X1_weigh [.ref D, .ref S, .int (nI s), .int (nI t), .ref F, .int (nI t2)] H 0 0 (ev_ok (fun r h1 => r = none ∧ dpost H D lay val (fun v2 => v2 1 = val (u + 1) * pw P s * fu s * t ∧ v2 2 = val u * fd s * t2 ∧ ∀ x, 9 ≤ x → v2 x = val x) h1)) := by
  obtain ⟨dd, rfl⟩ : ∃ e, dd = e + 1 := ⟨dd - 1, by omega⟩
  refine ⟨by decide +kernel, rfl, ?_⟩
  obtain ⟨⟨f1, f2⟩, f3, f4⟩ := hf s hs
  obtain ⟨p1, p2⟩ := pw_b hP hs
  have m1 : val (u + 1) * pw P s < 2 ^ 654 := p2_mul (x := 600) (y := 54) hv2 (by omega)
  have m2 : val (u + 1) * pw P s * fu s < 2 ^ 717 := p2_mul (x := 654) (y := 63) m1 f2
  have m3 : val (u + 1) * pw P s * fu s * t < 2 ^ 748 := p2_mul (x := 717) (y := 31) m2 ht
  have m4 : val u * fd s < 2 ^ 663 := p2_mul (x := 600) (y := 63) hv1 f4
  have m5 : val u * fd s * t2 < 2 ^ 694 := p2_mul (x := 663) (y := 31) m4 ht2
  refine ev_aload_n (pc := 0) dX1_weigh_0 rfl ?_
  refine ev_getf (pc := 1) dX1_weigh_1 f_X1_16 h.2.2 rfl ?_
  refine ev_aload (pc := 4) dX1_weigh_4 rfl ?_
  refine ev_getf (pc := 6) dX1_weigh_6 f_X1_153 hF rfl ?_
  refine ev_callVe (pc := 9) (As := [.ref (lay (u + 1)).1]) dX1_weigh_9 cv_X1_44 rfl rfl (wi_o (h.2.1 1 (by decide))) rfl ⟨by show 19 + 2 ≤ w; omega, show ev_Ca _ _ (w - 21) _ _ _ _ _ _ from t_copy (i := 1) (j := u + 1) (by omega) (by omega) h (by decide) hu (by omega)⟩ rfl rfl (fun r h1 hp => ?_)
  obtain ⟨rfl, hA, hF1⟩ := hp
  have sA := sh_wf h.2.1 hF1 hS
  obtain ⟨vA, hvA⟩ : ∃ v, v = va_up val 1 (val (u + 1)) := ⟨_, rfl⟩
  rw [← hvA] at hA
  have a1 : vA 1 = val (u + 1) := by rw [hvA, va_up_self]
  have ax : ∀ x, 9 ≤ x → vA x = val x := fun x hx => by rw [hvA, va_up_ne _ _ (by omega)]
  refine ev_aload_n (pc := 12) dX1_weigh_12 rfl ?_
  refine ev_aload_n (pc := 13) dX1_weigh_13 rfl ?_
  refine ev_getf (pc := 14) dX1_weigh_14 f_X1_16 hA.2.2 rfl ?_
  refine ev_aload_n (pc := 17) dX1_weigh_17 rfl ?_
  refine ev_iload_n (pc := 18) dX1_weigh_18 rfl ?_
  refine ev_callV (pc := 19) (As := [.int (nI s)]) dX1_weigh_19 cv_X1_129 rfl rfl sA.1 rfl ⟨by show 19 + 2 ≤ w; omega, show ev_Ca _ _ (w - 21) _ _ _ _ _ _ from k_plainWorth (by omega) sA hP hs⟩ rfl rfl (fun r h1 hp => ?_)
  obtain ⟨rfl, hH⟩ := hp
  rw [hH]
  clear hH
  refine ev_callV (pc := 22) (As := [.ref (lay 1).1, .long (lN (pw P s))]) dX1_weigh_22 cv_X1_149 rfl rfl hA.2.2 rfl ⟨by show 19 + 4 ≤ w; omega, show ev_Ca _ _ (w - 23) _ _ _ _ _ _ from k_scale (i := 1) (by omega) (by omega) hA (by decide) (by decide) (by decide) (by omega) (by rw [a1, p2_71]; exact p2_le (by decide) m1)⟩ rfl rfl (fun r h1 hp => ?_)
  obtain ⟨rfl, vB, hB, ⟨q1, q2⟩, hF2⟩ := hp
  rw [a1] at q1
  have sB := sh_wf hA.2.1 hF2 sA
  refine ev_aload_n (pc := 25) dX1_weigh_25 rfl ?_
  refine ev_aload_n (pc := 26) dX1_weigh_26 rfl ?_
  refine ev_getf (pc := 27) dX1_weigh_27 f_X1_16 hB.2.2 rfl ?_
  refine ev_aload_n (pc := 30) dX1_weigh_30 rfl ?_
  refine ev_getf (pc := 31) dX1_weigh_31 f_X1_133 sB.1 rfl ?_
  refine ev_iload_n (pc := 34) dX1_weigh_34 rfl ?_
  refine ev_laN (pc := 35) dX1_weigh_35 sB.2.2.2.1 (by omega) (by omega) ?_
  refine ev_callV (pc := 36) (As := [.ref (lay 1).1, .long (lN (fu s))]) dX1_weigh_36 cv_X1_149 rfl rfl hB.2.2 rfl ⟨by show 19 + 4 ≤ w; omega, show ev_Ca _ _ (w - 23) _ _ _ _ _ _ from k_scale (i := 1) (by omega) (by omega) hB (by decide) (by decide) (by decide) f2 (by rw [q1, p2_71]; exact p2_le (by decide) m2)⟩ rfl rfl (fun r h1 hp => ?_)
  obtain ⟨rfl, vC, hC, ⟨r1, r2⟩, hF3⟩ := hp
  rw [q1] at r1
  have sC := sh_wf hB.2.1 hF3 sB
  refine ev_aload_n (pc := 39) dX1_weigh_39 rfl ?_
  refine ev_aload_n (pc := 40) dX1_weigh_40 rfl ?_
  refine ev_getf (pc := 41) dX1_weigh_41 f_X1_16 hC.2.2 rfl ?_
  refine ev_iload_n (pc := 44) dX1_weigh_44 rfl ?_
  refine ev_i2lN (pc := 45) dX1_weigh_45 (by omega) ?_
  refine ev_callV (pc := 46) (As := [.ref (lay 1).1, .long (lN t)]) dX1_weigh_46 cv_X1_149 rfl rfl hC.2.2 rfl ⟨by show 19 + 4 ≤ w; omega, show ev_Ca _ _ (w - 23) _ _ _ _ _ _ from k_scale (i := 1) (by omega) (by omega) hC (by decide) (by decide) (by decide) (by omega) (by rw [r1, p2_71]; exact p2_le (by decide) m3)⟩ rfl rfl (fun r h1 hp => ?_)
  obtain ⟨rfl, vE, hE, ⟨s1, s2⟩, hF4⟩ := hp
  rw [r1] at s1
  have sE := sh_wf hC.2.1 hF4 sC
  have hFF := ((hF1.tr hF2).tr hF3).tr hF4
  have hG := fr_wf h.2.1 hF hFF
  have eu : vE u = val u := by rw [s2 _ (by omega) (by omega) (by omega), r2 _ (by omega) (by omega) (by omega), q2 _ (by omega) (by omega) (by omega), ax _ hu9]
  refine ev_aload_n (pc := 49) dX1_weigh_49 rfl ?_
  refine ev_getf (pc := 50) dX1_weigh_50 f_X1_19 hE.2.2 rfl ?_
  refine ev_aload (pc := 53) dX1_weigh_53 rfl ?_
  refine ev_getf (pc := 55) dX1_weigh_55 f_X1_156 hG rfl ?_
  refine ev_callVe (pc := 58) (As := [.ref (lay u).1]) dX1_weigh_58 cv_X1_44 rfl rfl (wi_o (hE.2.1 2 (by decide))) rfl ⟨by show 19 + 2 ≤ w; omega, show ev_Ca _ _ (w - 21) _ _ _ _ _ _ from t_copy (i := 2) (j := u) (by omega) (by omega) hE (by decide) (by omega) (by omega)⟩ rfl rfl (fun r h1 hp => ?_)
  obtain ⟨rfl, hI, hF5⟩ := hp
  rw [eu] at hI
  obtain ⟨vI, hvI⟩ : ∃ v, v = va_up vE 2 (val u) := ⟨_, rfl⟩
  rw [← hvI] at hI
  have i2 : vI 2 = val u := by rw [hvI, va_up_self]
  have sI := sh_wf hE.2.1 hF5 sE
  refine ev_aload_n (pc := 61) dX1_weigh_61 rfl ?_
  refine ev_aload_n (pc := 62) dX1_weigh_62 rfl ?_
  refine ev_getf (pc := 63) dX1_weigh_63 f_X1_19 hI.2.2 rfl ?_
  refine ev_aload_n (pc := 66) dX1_weigh_66 rfl ?_
  refine ev_getf (pc := 67) dX1_weigh_67 f_X1_137 sI.1 rfl ?_
  refine ev_iload_n (pc := 70) dX1_weigh_70 rfl ?_
  refine ev_laN (pc := 71) dX1_weigh_71 sI.2.2.2.2 (by omega) (by omega) ?_
  refine ev_callV (pc := 72) (As := [.ref (lay 2).1, .long (lN (fd s))]) dX1_weigh_72 cv_X1_149 rfl rfl hI.2.2 rfl ⟨by show 19 + 4 ≤ w; omega, show ev_Ca _ _ (w - 23) _ _ _ _ _ _ from k_scale (i := 2) (by omega) (by omega) hI (by decide) (by decide) (by decide) f4 (by rw [i2, p2_71]; exact p2_le (by decide) m4)⟩ rfl rfl (fun r h1 hp => ?_)
  obtain ⟨rfl, vJ, hJ, ⟨t1, t2'⟩, hF6⟩ := hp
  rw [i2] at t1
  refine ev_aload_n (pc := 75) dX1_weigh_75 rfl ?_
  refine ev_aload_n (pc := 76) dX1_weigh_76 rfl ?_
  refine ev_getf (pc := 77) dX1_weigh_77 f_X1_19 hJ.2.2 rfl ?_
  refine ev_iload (pc := 80) dX1_weigh_80 rfl ?_
  refine ev_i2lN (pc := 82) dX1_weigh_82 (by omega) ?_
  refine ev_callV (pc := 83) (As := [.ref (lay 2).1, .long (lN t2)]) dX1_weigh_83 cv_X1_149 rfl rfl hJ.2.2 rfl ⟨by show 19 + 4 ≤ w; omega, show ev_Ca _ _ (w - 23) _ _ _ _ _ _ from k_scale (i := 2) (by omega) (by omega) hJ (by decide) (by decide) (by decide) (by omega) (by rw [t1, p2_71]; exact p2_le (by decide) m5)⟩ rfl rfl (fun r h1 hp => ?_)
  obtain ⟨rfl, vK, hKk, ⟨u1, u2⟩, hF7⟩ := hp
  rw [t1] at u1
  refine ev_vret (pc := 86) dX1_weigh_86 rfl ⟨rfl, vK, hKk, ⟨?_, u1, fun x hx => ?_⟩, ((hFF.tr hF5).tr hF6).tr hF7⟩
  · rw [u2 _ (by decide) (by decide) (by decide), t2' _ (by decide) (by decide) (by decide), hvI, va_up_ne _ _ (by decide), s1]
  · rw [u2 _ (by omega) (by omega) (by omega), t2' _ (by omega) (by omega) (by omega), hvI, va_up_ne _ _ (by omega), s2 _ (by omega) (by omega) (by omega), r2 _ (by omega) (by omega) (by omega), q2 _ (by omega) (by omega) (by omega), ax x hx]
theorem k_sameLevel {F1 F2 F3 F4 a b c d : Nat} (hd : 4 ≤ dd) (hw : 71 ≤ w) (h : DW H D lay val) (h1 : H F1 = some (.inr (2, [.ref (lay a).1, .ref (lay (a + 1)).1]))) (h2 : H F2 = some (.inr (2, [.ref (lay b).1, .ref (lay (b + 1)).1]))) (h3 : H F3 = some (.inr (2, [.ref (lay c).1, .ref (lay (c + 1)).1]))) (h4 : H F4 = some (.inr (2, [.ref (lay d).1, .ref (lay (d + 1)).1]))) (ha : 9 ≤ a ∧ a + 1 < 20) (hb : 9 ≤ b ∧ b + 1 < 20) (hc : 9 ≤ c ∧ c + 1 < 20) (hdd : 9 ≤ d ∧ d + 1 < 20) (va : val a < 2 ^ 571 ∧ val (a + 1) < 2 ^ 505) (vb : val b < 2 ^ 512 ∧ val (b + 1) < 2 ^ 512) (vc : val c < 2 ^ 571 ∧ val (c + 1) < 2 ^ 505) (vd : val d < 2 ^ 512 ∧ val (d + 1) < 2 ^ 512) : ev_Ca G dd w m_X1_sameLevel [.ref D, .ref F1, .ref F2, .ref F3, .ref F4] H 0 0 (ev_ok (fun r h1 => ∃ e : Bool, r = some (.int (nI (if e then 1 else 0))) ∧ (e = true ↔ val a * val (b + 1) * val (c + 1) * val d = val c * val (d + 1) * val (a + 1) * val b) ∧ dpost H D lay val (fun v2 => ∀ x, 9 ≤ x → v2 x = val x) h1)) := by
  obtain ⟨dd, rfl⟩ : ∃ e, dd = e + 1 := ⟨dd - 1, by omega⟩
  refine ⟨by decide +kernel, rfl, ?_⟩
  have l1 : val a * val (b + 1) < 2 ^ 1083 := p2_mul (x := 571) (y := 512) va.1 vb.2
  have l2 : val a * val (b + 1) * val (c + 1) < 2 ^ 1588 := p2_mul (x := 1083) (y := 505) l1 vc.2
  have l3 : val a * val (b + 1) * val (c + 1) * val d < 2 ^ 2100 := p2_mul (x := 1588) (y := 512) l2 vd.1
  have r1 : val c * val (d + 1) < 2 ^ 1083 := p2_mul (x := 571) (y := 512) vc.1 vd.2
  have r2 : val c * val (d + 1) * val (a + 1) < 2 ^ 1588 := p2_mul (x := 1083) (y := 505) r1 va.2
  have r3 : val c * val (d + 1) * val (a + 1) * val b < 2 ^ 2100 := p2_mul (x := 1588) (y := 512) r2 vb.1
  have W1 := fun {x : ev_H} (hx : WF lay H x) => fr_wf h.2.1 h1 hx
  have W2 := fun {x : ev_H} (hx : WF lay H x) => fr_wf h.2.1 h2 hx
  have W3 := fun {x : ev_H} (hx : WF lay H x) => fr_wf h.2.1 h3 hx
  have W4 := fun {x : ev_H} (hx : WF lay H x) => fr_wf h.2.1 h4 hx
  refine ev_aload_n (pc := 0) dX1_sameLevel_0 rfl ?_
  refine ev_getf (pc := 1) dX1_sameLevel_1 f_X1_16 h.2.2 rfl ?_
  refine ev_aload_n (pc := 4) dX1_sameLevel_4 rfl ?_
  refine ev_getf (pc := 5) dX1_sameLevel_5 f_X1_156 h1 rfl ?_
  refine ev_callVe (pc := 8) (As := [.ref (lay a).1]) dX1_sameLevel_8 cv_X1_44 rfl rfl (wi_o (h.2.1 1 (by decide))) rfl ⟨by show 19 + 2 ≤ w; omega, show ev_Ca _ _ (w - 21) _ _ _ _ _ _ from t_copy (i := 1) (j := a) (by omega) (by omega) h (by decide) (by omega) (by omega)⟩ rfl rfl (fun r h1 hp => ?_)
  obtain ⟨rfl, A1, G1⟩ := hp
  obtain ⟨v1, hv1⟩ : ∃ v, v = va_up val 1 (val a) := ⟨_, rfl⟩
  rw [← hv1] at A1
  have x1 : v1 1 = val a := by rw [hv1, va_up_self]
  have y1 : ∀ x, 9 ≤ x → v1 x = val x := fun x hx => by rw [hv1, va_up_ne _ _ (by omega)]
  refine ev_aload_n (pc := 11) dX1_sameLevel_11 rfl ?_
  refine ev_aload_n (pc := 12) dX1_sameLevel_12 rfl ?_
  refine ev_getf (pc := 13) dX1_sameLevel_13 f_X1_16 A1.2.2 rfl ?_
  refine ev_aload_n (pc := 16) dX1_sameLevel_16 rfl ?_
  refine ev_getf (pc := 17) dX1_sameLevel_17 f_X1_153 (W2 G1) rfl ?_
  refine ev_callV (pc := 20) (As := [.ref (lay 1).1, .ref (lay (b + 1)).1]) dX1_sameLevel_20 cv_X1_52 rfl rfl A1.2.2 rfl ⟨by show 19 + 3 ≤ w; omega, show ev_Ca _ _ (w - 22) _ _ _ _ _ _ from k_multiply (i := 1) (j := b + 1) (by omega) (by omega) A1 (by decide) (by omega) (by decide) (by omega) (by rw [x1, y1 _ (by omega), p2_71]; exact p2_le (by decide) l1)⟩ rfl rfl (fun r h1 hp => ?_)
  obtain ⟨rfl, v2, A2, ⟨q1, q2⟩, G2⟩ := hp
  rw [x1, y1 _ (by omega)] at q1
  have y2 : ∀ x, 9 ≤ x → v2 x = val x := fun x hx => by rw [q2 _ (by omega) (by omega), y1 x hx]
  refine ev_aload_n (pc := 23) dX1_sameLevel_23 rfl ?_
  refine ev_aload_n (pc := 24) dX1_sameLevel_24 rfl ?_
  refine ev_getf (pc := 25) dX1_sameLevel_25 f_X1_16 A2.2.2 rfl ?_
  refine ev_aload_n (pc := 28) dX1_sameLevel_28 rfl ?_
  refine ev_getf (pc := 29) dX1_sameLevel_29 f_X1_153 (W3 (G1.tr G2)) rfl ?_
  refine ev_callV (pc := 32) (As := [.ref (lay 1).1, .ref (lay (c + 1)).1]) dX1_sameLevel_32 cv_X1_52 rfl rfl A2.2.2 rfl ⟨by show 19 + 3 ≤ w; omega, show ev_Ca _ _ (w - 22) _ _ _ _ _ _ from k_multiply (i := 1) (j := c + 1) (by omega) (by omega) A2 (by decide) (by omega) (by decide) (by omega) (by rw [q1, y2 _ (by omega), p2_71]; exact p2_le (by decide) l2)⟩ rfl rfl (fun r h1 hp => ?_)
  obtain ⟨rfl, v3, A3, ⟨s1, s2⟩, G3⟩ := hp
  rw [q1, y2 _ (by omega)] at s1
  have y3 : ∀ x, 9 ≤ x → v3 x = val x := fun x hx => by rw [s2 _ (by omega) (by omega), y2 x hx]
  have K3 := (G1.tr G2).tr G3
  refine ev_aload_n (pc := 35) dX1_sameLevel_35 rfl ?_
  refine ev_aload_n (pc := 36) dX1_sameLevel_36 rfl ?_
  refine ev_getf (pc := 37) dX1_sameLevel_37 f_X1_16 A3.2.2 rfl ?_
  refine ev_aload (pc := 40) dX1_sameLevel_40 rfl ?_
  refine ev_getf (pc := 42) dX1_sameLevel_42 f_X1_156 (W4 K3) rfl ?_
  refine ev_callV (pc := 45) (As := [.ref (lay 1).1, .ref (lay d).1]) dX1_sameLevel_45 cv_X1_52 rfl rfl A3.2.2 rfl ⟨by show 19 + 3 ≤ w; omega, show ev_Ca _ _ (w - 22) _ _ _ _ _ _ from k_multiply (i := 1) (j := d) (by omega) (by omega) A3 (by decide) (by omega) (by decide) (by omega) (by rw [s1, y3 _ (by omega), p2_71]; exact p2_le (by decide) l3)⟩ rfl rfl (fun r h1 hp => ?_)
  obtain ⟨rfl, v4, A4, ⟨t1, t2⟩, G4⟩ := hp
  rw [s1, y3 _ (by omega)] at t1
  have y4 : ∀ x, 9 ≤ x → v4 x = val x := fun x hx => by rw [t2 _ (by omega) (by omega), y3 x hx]
  have K4 := K3.tr G4
  refine ev_aload_n (pc := 48) dX1_sameLevel_48 rfl ?_
  refine ev_getf (pc := 49) dX1_sameLevel_49 f_X1_19 A4.2.2 rfl ?_
  refine ev_aload_n (pc := 52) dX1_sameLevel_52 rfl ?_
  refine ev_getf (pc := 53) dX1_sameLevel_53 f_X1_156 (W3 K4) rfl ?_
  refine ev_callVe (pc := 56) (As := [.ref (lay c).1]) dX1_sameLevel_56 cv_X1_44 rfl rfl (wi_o (A4.2.1 2 (by decide))) rfl ⟨by show 19 + 2 ≤ w; omega, show ev_Ca _ _ (w - 21) _ _ _ _ _ _ from t_copy (i := 2) (j := c) (by omega) (by omega) A4 (by decide) (by omega) (by omega)⟩ rfl rfl (fun r h1 hp => ?_)
  obtain ⟨rfl, A5, G5⟩ := hp
  rw [y4 _ (by omega)] at A5
  obtain ⟨v5, hv5⟩ : ∃ v, v = va_up v4 2 (val c) := ⟨_, rfl⟩
  rw [← hv5] at A5
  have x5 : v5 2 = val c := by rw [hv5, va_up_self]
  have z5 : v5 1 = val a * val (b + 1) * val (c + 1) * val d := by rw [hv5, va_up_ne _ _ (by decide), t1]
  have y5 : ∀ x, 9 ≤ x → v5 x = val x := fun x hx => by rw [hv5, va_up_ne _ _ (by omega), y4 x hx]
  have K5 := K4.tr G5
  refine ev_aload_n (pc := 59) dX1_sameLevel_59 rfl ?_
  refine ev_aload_n (pc := 60) dX1_sameLevel_60 rfl ?_
  refine ev_getf (pc := 61) dX1_sameLevel_61 f_X1_19 A5.2.2 rfl ?_
  refine ev_aload (pc := 64) dX1_sameLevel_64 rfl ?_
  refine ev_getf (pc := 66) dX1_sameLevel_66 f_X1_153 (W4 K5) rfl ?_
  refine ev_callV (pc := 69) (As := [.ref (lay 2).1, .ref (lay (d + 1)).1]) dX1_sameLevel_69 cv_X1_52 rfl rfl A5.2.2 rfl ⟨by show 19 + 3 ≤ w; omega, show ev_Ca _ _ (w - 22) _ _ _ _ _ _ from k_multiply (i := 2) (j := d + 1) (by omega) (by omega) A5 (by decide) (by omega) (by decide) (by omega) (by rw [x5, y5 _ (by omega), p2_71]; exact p2_le (by decide) r1)⟩ rfl rfl (fun r h1 hp => ?_)
  obtain ⟨rfl, v6, A6, ⟨u1, u2⟩, G6⟩ := hp
  rw [x5, y5 _ (by omega)] at u1
  have y6 : ∀ x, 9 ≤ x → v6 x = val x := fun x hx => by rw [u2 _ (by omega) (by omega), y5 x hx]
  have K6 := K5.tr G6
  refine ev_aload_n (pc := 72) dX1_sameLevel_72 rfl ?_
  refine ev_aload_n (pc := 73) dX1_sameLevel_73 rfl ?_
  refine ev_getf (pc := 74) dX1_sameLevel_74 f_X1_19 A6.2.2 rfl ?_
  refine ev_aload_n (pc := 77) dX1_sameLevel_77 rfl ?_
  refine ev_getf (pc := 78) dX1_sameLevel_78 f_X1_153 (W1 K6) rfl ?_
  refine ev_callV (pc := 81) (As := [.ref (lay 2).1, .ref (lay (a + 1)).1]) dX1_sameLevel_81 cv_X1_52 rfl rfl A6.2.2 rfl ⟨by show 19 + 3 ≤ w; omega, show ev_Ca _ _ (w - 22) _ _ _ _ _ _ from k_multiply (i := 2) (j := a + 1) (by omega) (by omega) A6 (by decide) (by omega) (by decide) (by omega) (by rw [u1, y6 _ (by omega), p2_71]; exact p2_le (by decide) r2)⟩ rfl rfl (fun r h1 hp => ?_)
  obtain ⟨rfl, v7, A7, ⟨w1, w2⟩, G7⟩ := hp
  rw [u1, y6 _ (by omega)] at w1
  have y7 : ∀ x, 9 ≤ x → v7 x = val x := fun x hx => by rw [w2 _ (by omega) (by omega), y6 x hx]
  have K7 := K6.tr G7
  refine ev_aload_n (pc := 84) dX1_sameLevel_84 rfl ?_
  refine ev_aload_n (pc := 85) dX1_sameLevel_85 rfl ?_
  refine ev_getf (pc := 86) dX1_sameLevel_86 f_X1_19 A7.2.2 rfl ?_
  refine ev_aload_n (pc := 89) dX1_sameLevel_89 rfl ?_
  refine ev_getf (pc := 90) dX1_sameLevel_90 f_X1_156 (W2 K7) rfl ?_
  refine ev_callV (pc := 93) (As := [.ref (lay 2).1, .ref (lay b).1]) dX1_sameLevel_93 cv_X1_52 rfl rfl A7.2.2 rfl ⟨by show 19 + 3 ≤ w; omega, show ev_Ca _ _ (w - 22) _ _ _ _ _ _ from k_multiply (i := 2) (j := b) (by omega) (by omega) A7 (by decide) (by omega) (by decide) (by omega) (by rw [w1, y7 _ (by omega), p2_71]; exact p2_le (by decide) r3)⟩ rfl rfl (fun r h1 hp => ?_)
  obtain ⟨rfl, v8, A8, ⟨z1, z2⟩, G8⟩ := hp
  rw [w1, y7 _ (by omega)] at z1
  have y8 : ∀ x, 9 ≤ x → v8 x = val x := fun x hx => by rw [z2 _ (by omega) (by omega), y7 x hx]
  have z8 : v8 1 = val a * val (b + 1) * val (c + 1) * val d := by rw [z2 _ (by decide) (by decide), w2 _ (by decide) (by decide), u2 _ (by decide) (by decide), z5]
  have K8 := K7.tr G8
  refine ev_aload_n (pc := 96) dX1_sameLevel_96 rfl ?_
  refine ev_getf (pc := 97) dX1_sameLevel_97 f_X1_16 A8.2.2 rfl ?_
  refine ev_aload_n (pc := 100) dX1_sameLevel_100 rfl ?_
  refine ev_getf (pc := 101) dX1_sameLevel_101 f_X1_19 A8.2.2 rfl ?_
  refine ev_callVe (pc := 104) (As := [.ref (lay 2).1]) dX1_sameLevel_104 cv_X1_59 rfl rfl (wi_o (A8.2.1 1 (by decide))) rfl ⟨by show 19 + 3 ≤ w; omega, show ev_Ca _ _ (w - 22) _ _ _ _ _ _ from t_compareWith (i := 1) (j := 2) (by omega) (by omega) A8 (by decide) (by decide) (by decide)⟩ rfl rfl (fun r h1 hp => ?_)
  obtain ⟨rfl, hH⟩ := hp
  rw [hH, z8, z1]
  clear hH
  generalize val a * val (b + 1) * val (c + 1) * val d = X at *
  generalize val c * val (d + 1) * val (a + 1) * val b = Y at *
  by_cases e : X = Y
  · have e2 : mi_cmp X Y = nI 0 := by unfold mi_cmp; rw [if_neg (by omega), if_pos e]; rfl
    rw [e2]
    refine ev_if_neN (pc := 107) (tgt := 114) dX1_sameLevel_107 (by decide) (by decide) (fun c2 => absurd c2 (by decide)) (fun _ => ?_)
    refine ev_iconst (pc := 110) (v := nI 1) dX1_sameLevel_110 (by decide) ?_
    refine ev_goto (pc := 111) (tgt := 115) dX1_sameLevel_111 (by decide) ?_
    exact ev_iret (pc := 115) dX1_sameLevel_115 rfl rfl ⟨true, rfl, ⟨fun _ => e, fun _ => rfl⟩, v8, A8, y8, K8⟩
  · have e2 : ¬ mi_cmp X Y = 0 := by
      unfold mi_cmp
      by_cases l : X < Y
      · rw [if_pos l]; decide
      · rw [if_neg l, if_neg e]; decide
    refine ev_if_ne (pc := 107) (tgt := 114) dX1_sameLevel_107 (by decide) (fun _ => ?_) (fun c2 => absurd c2 e2)
    refine ev_iconst (pc := 114) (v := nI 0) dX1_sameLevel_114 (by decide) ?_
    exact ev_iret (pc := 115) dX1_sameLevel_115 rfl rfl ⟨false, rfl, ⟨fun x => (Bool.noConfusion x), fun x => absurd x e⟩, v8, A8, y8, K8⟩
end SUM
end
section
/-! Shares, written: the small methods -/
def mo (k : Nat) : Nat := if k = 2 then 100 else 9999999
/-- the static row of the greatest values is where it should be -/
def G_ok (G : ev_G) : Prop := ∃ t f, G.2 "IndexBureau$Shares" "MOST" "[I" = some t ∧ G.1 t = some (3, f) ∧ ∀ k, k < 3 → f k = nI (mo k)
def SD (sa : Nat → Nat) : Prop := sa 1 ≠ sa 2 ∧ sa 1 ≠ sa 3 ∧ sa 2 ≠ sa 3 ∧ sa 4 ≠ sa 5
def SF (S : Nat) (sa : Nat → Nat) (H h1 : ev_H) : Prop := ∀ a, a ≠ S → (∀ k, 1 ≤ k → k ≤ 5 → a ≠ sa k) → h1 a = H a
theorem SF.rf {S : Nat} {sa : Nat → Nat} {H : ev_H} : SF S sa H H := fun _ _ _ => rfl
theorem SF.tr {S : Nat} {sa : Nat → Nat} {H h1 h2 : ev_H} (a : SF S sa H h1) (b : SF S sa h1 h2) : SF S sa H h2 := fun x hx hy => (b x hx hy).trans (a x hx hy)
def p_up (P : Nat → Nat → Nat) (k s x : Nat) : Nat → Nat → Nat := fun a b => if a = k then va_up (P a) s x b else P a b
theorem SD.ne {sa : Nat → Nat} (h : SD sa) {a b : Nat} (ha : a < 3) (hb : b < 3) (hab : a ≠ b) : sa (a + 1) ≠ sa (b + 1) := by
  obtain ⟨h1, h2, h3, -⟩ := h
  rcases (show a = 0 ∨ a = 1 ∨ a = 2 by omega) with rfl | rfl | rfl <;> rcases (show b = 0 ∨ b = 1 ∨ b = 2 by omega) with rfl | rfl | rfl <;> first | exact absurd rfl hab | exact h1 | exact h2 | exact h3 | exact Ne.symm h1 | exact Ne.symm h2 | exact Ne.symm h3
section SHP
variable {H : ev_H} {S : Nat} {sa : Nat → Nat} {P : Nat → Nat → Nat} {fu fd : Nat → Nat} {mem : Nat}
/-- two cells of different kinds are apart -/
theorem ne_of {H : ev_H} {a b : Nat} {x y : ev_C} (ha : H a = some x) (hb : H b = some y) (h : x ≠ y) : a ≠ b := fun e => by rw [e, hb] at ha; exact h (Option.some.inj ha).symm
theorem sh_putP {k j x : Nat} (h : SH H S sa P fu fd mem) (hD : SD sa) (hk : k < 3) (hj : j < 8) : SH (ev_up H (sa (k + 1)) (.inl (.int, 8, .inl (upd (fun i => nI (P k i)) (nI j).toNatClampNeg (nI x))))) S sa (p_up P k j x) fu fd mem ∧ SF S sa H (ev_up H (sa (k + 1)) (.inl (.int, 8, .inl (upd (fun i => nI (P k i)) (nI j).toNatClampNeg (nI x))))) := by
  obtain ⟨a1, a2, a3, a4, a5⟩ := h
  have e := a3 k hk
  refine ⟨⟨(ev_nee (ne_of a1 e (fun q => by cases q)) a1), (ev_nee (ne_of a2 e (fun q => by cases q)) a2), fun b hb => ?_, (ev_nee (ne_of a4 e (fun q => by cases q)) a4), (ev_nee (ne_of a5 e (fun q => by cases q)) a5)⟩, fun a _ hy => ev_nee (hy (k + 1) (by omega) (by omega)) rfl⟩
  by_cases hbk : b = k
  · subst hbk
    rw [ev_eqq, wh_upd _ _ _ (by omega)]
    congr 6
    funext i
    simp [p_up]
  · rw [ev_nee (hD.ne hb hk hbk) (a3 b hb)]
    congr 6
    funext i
    simp [p_up, hbk]
theorem sh_upl (g : Nat → Nat) (i x : Nat) (hi : i < 2 ^ 31) : vp_updL (fun j => lN (g j)) (nI i).toNatClampNeg (lN x) = fun j => lN (va_up g i x j) := by
  rw [nI_clamp hi]
  funext j
  unfold vp_updL va_up
  by_cases e : j = i
  · rw [if_pos e, if_pos e]
  · rw [if_neg e, if_neg e]
theorem sh_putU {j x : Nat} (h : SH H S sa P fu fd mem) (hD : SD sa) (hj : j < 8) : SH (ev_up H (sa 4) (.inl (.long, 8, .inr (.inl (vp_updL (fun i => lN (fu i)) (nI j).toNatClampNeg (lN x)))))) S sa P (va_up fu j x) fd mem ∧ SF S sa H (ev_up H (sa 4) (.inl (.long, 8, .inr (.inl (vp_updL (fun i => lN (fu i)) (nI j).toNatClampNeg (lN x)))))) := by
  obtain ⟨a1, a2, a3, a4, a5⟩ := h
  refine ⟨⟨(ev_nee (ne_of a1 a4 (fun q => by cases q)) a1), (ev_nee (ne_of a2 a4 (fun q => by cases q)) a2), fun b hb => (ev_nee (ne_of (a3 b hb) a4 (fun q => by cases q)) (a3 b hb)), ?_, (ev_nee (Ne.symm hD.2.2.2) a5)⟩, fun a _ hy => ev_nee (hy 4 (by omega) (by omega)) rfl⟩
  rw [ev_eqq, sh_upl _ _ _ (by omega)]
theorem sh_putD {j x : Nat} (h : SH H S sa P fu fd mem) (hD : SD sa) (hj : j < 8) : SH (ev_up H (sa 5) (.inl (.long, 8, .inr (.inl (vp_updL (fun i => lN (fd i)) (nI j).toNatClampNeg (lN x)))))) S sa P fu (va_up fd j x) mem ∧ SF S sa H (ev_up H (sa 5) (.inl (.long, 8, .inr (.inl (vp_updL (fun i => lN (fd i)) (nI j).toNatClampNeg (lN x)))))) := by
  obtain ⟨a1, a2, a3, a4, a5⟩ := h
  refine ⟨⟨(ev_nee (ne_of a1 a5 (fun q => by cases q)) a1), (ev_nee (ne_of a2 a5 (fun q => by cases q)) a2), fun b hb => (ev_nee (ne_of (a3 b hb) a5 (fun q => by cases q)) (a3 b hb)), (ev_nee hD.2.2.2 a4), ?_⟩, fun a _ hy => ev_nee (hy 5 (by omega) (by omega)) rfl⟩
  rw [ev_eqq, sh_upl _ _ _ (by omega)]
theorem sh_putM {m : Nat} (h : SH H S sa P fu fd mem) : SH (ev_up H S (.inr (3, [Value.ref (sa 0), Value.ref (sa 4), Value.ref (sa 5), Value.int (nI mem)].set 3 (.int (nI m))))) S sa P fu fd m ∧ SF S sa H (ev_up H S (.inr (3, [Value.ref (sa 0), Value.ref (sa 4), Value.ref (sa 5), Value.int (nI mem)].set 3 (.int (nI m))))) := by
  obtain ⟨a1, a2, a3, a4, a5⟩ := h
  exact ⟨⟨ev_eqq, (ev_nee (ne_of a2 a1 (fun q => by cases q)) a2), fun b hb => (ev_nee (ne_of (a3 b hb) a1 (fun q => by cases q)) (a3 b hb)), (ev_nee (ne_of a4 a1 (fun q => by cases q)) a4), (ev_nee (ne_of a5 a1 (fun q => by cases q)) a5)⟩, fun a hx _ => ev_nee hx rfl⟩
end SHP
/-- an int within bounds -/
def ri (x : Int32) (lo hi : Int) : Prop := lo ≤ x.toInt ∧ x.toInt ≤ hi
theorem ri_nI {x : Int32} {lo hi : Nat} (h : ri x lo hi) (hb : hi < 2 ^ 31) : ∃ n, x = nI n ∧ lo ≤ n ∧ n ≤ hi := by
  obtain ⟨h1, h2⟩ := h
  refine ⟨x.toInt.toNat, ?_, by omega, by omega⟩
  apply Int32.toInt_inj.mp
  rw [nI_toInt (by omega)]
  omega
theorem nI_ri {n lo hi : Nat} (hn : n < 2 ^ 31) : ri (nI n) lo hi ↔ lo ≤ n ∧ n ≤ hi := by
  unfold ri
  rw [nI_toInt hn]
  omega
theorem i32_le {x : Int32} {n : Nat} (hn : n < 2 ^ 31) : (nI n ≤ x ↔ (n : Int) ≤ x.toInt) ∧ (x < nI n ↔ x.toInt < n) ∧ (nI n < x ↔ (n : Int) < x.toInt) ∧ (x ≤ nI n ↔ x.toInt ≤ n) := by
  rw [Int32.le_iff_toInt_le, Int32.lt_iff_toInt_lt, Int32.lt_iff_toInt_lt, Int32.le_iff_toInt_le, nI_toInt hn]
  exact ⟨Iff.rfl, Iff.rfl, Iff.rfl, Iff.rfl⟩
theorem i64_le {x : Int64} {n : Nat} (hn : n < 2 ^ 63) : (lN n ≤ x ↔ (n : Int) ≤ x.toInt) ∧ (x < lN n ↔ x.toInt < n) ∧ (lN n < x ↔ (n : Int) < x.toInt) ∧ (x ≤ lN n ↔ x.toInt ≤ n) := by
  rw [Int64.le_iff_toInt_le, Int64.lt_iff_toInt_lt, Int64.lt_iff_toInt_lt, Int64.le_iff_toInt_le, pk_lT hn]
  exact ⟨Iff.rfl, Iff.rfl, Iff.rfl, Iff.rfl⟩
theorem i0 : (0 : Int32) = nI 0 := rfl
section SHM
variable {G : ev_G} {w : Nat} {H : ev_H} {D S : Nat} {i j k dd s : Nat} {sa : Nat → Nat} {P : Nat → Nat → Nat} {fu fd : Nat → Nat} {mem : Nat}
noncomputable def rb (x : Int32) (lo hi : Int) : Nat := @ite _ (ri x lo hi) (Classical.propDecidable _) 1 0
theorem rb_1 {x : Int32} {lo hi : Int} (h : ri x lo hi) : rb x lo hi = 1 := if_pos h
theorem rb_0 {x : Int32} {lo hi : Int} (h : ¬ ri x lo hi) : rb x lo hi = 0 := if_neg h
theorem k_has {x : Int32} (hd : 1 ≤ dd) : ev_Ca G dd w m_X5_has [.int x] H 0 0 (ev_ok (fun r h1 => r = some (.int (nI (rb x 0 7))) ∧ h1 = H)) := by
  obtain ⟨dd, rfl⟩ : ∃ e, dd = e + 1 := ⟨dd - 1, by omega⟩
  refine ⟨by decide +kernel, rfl, ?_⟩
  refine ev_iload_n (pc := 0) dX5_has_0 rfl ?_
  refine ev_if_lt (pc := 1) (tgt := 14) dX5_has_1 (by decide) (fun c1 => ?_) (fun c1 => ?_)
  · rw [i0, (i32_le (by decide)).2.1] at c1
    refine ev_iconst (pc := 14) (v := nI 0) dX5_has_14 (by decide) ?_
    exact ev_iret (pc := 15) dX5_has_15 rfl rfl ⟨by rw [rb_0 (fun e => by have := e.1; omega)], rfl⟩
  · rw [i0, (i32_le (by decide)).2.1] at c1
    refine ev_iload_n (pc := 4) dX5_has_4 rfl ?_
    refine ev_bipush (pc := 5) (v := nI 8) dX5_has_5 (by decide) ?_
    refine ev_icmp_ge (pc := 7) (tgt := 14) dX5_has_7 (by decide) (fun c2 => ?_) (fun c2 => ?_)
    · rw [(i32_le (by decide)).1] at c2
      refine ev_iconst (pc := 14) (v := nI 0) dX5_has_14 (by decide) ?_
      exact ev_iret (pc := 15) dX5_has_15 rfl rfl ⟨by rw [rb_0 (fun e => by have := e.2; omega)], rfl⟩
    · rw [(i32_le (by decide)).1] at c2
      refine ev_iconst (pc := 10) (v := nI 1) dX5_has_10 (by decide) ?_
      refine ev_goto (pc := 11) (tgt := 15) dX5_has_11 (by decide) ?_
      exact ev_iret (pc := 15) dX5_has_15 rfl rfl ⟨by rw [rb_1 ⟨by omega, by omega⟩], rfl⟩
theorem k_isRatio {x y : Int32} (hd : 1 ≤ dd) : ev_Ca G dd w m_X5_isRatio [.int x, .int y] H 0 0 (ev_ok (fun r h1 => r = some (.int (nI (rb x 1 1000 * rb y 1 1000))) ∧ h1 = H)) := by
  obtain ⟨dd, rfl⟩ : ∃ e, dd = e + 1 := ⟨dd - 1, by omega⟩
  refine ⟨by decide +kernel, rfl, ?_⟩
  refine ev_iload_n (pc := 0) dX5_isRatio_0 rfl ?_
  refine ev_iconst (pc := 1) (v := nI 1) dX5_isRatio_1 (by decide) ?_
  refine ev_icmp_lt (pc := 2) (tgt := 28) dX5_isRatio_2 (by decide) (fun c1 => ?_) (fun c1 => ?_)
  · rw [(i32_le (by decide)).2.1] at c1
    refine ev_iconst (pc := 28) (v := nI 0) dX5_isRatio_28 (by decide) ?_
    exact ev_iret (pc := 29) dX5_isRatio_29 rfl rfl ⟨by rw [rb_0 (x := x) (fun e => by have := e.1; omega), Nat.zero_mul], rfl⟩
  · rw [(i32_le (by decide)).2.1] at c1
    refine ev_iload_n (pc := 5) dX5_isRatio_5 rfl ?_
    refine ev_sipush (pc := 6) (v := nI 1000) dX5_isRatio_6 (by decide) ?_
    refine ev_icmp_gt (pc := 9) (tgt := 28) dX5_isRatio_9 (by decide) (fun c2 => ?_) (fun c2 => ?_)
    · rw [(i32_le (by decide)).2.2.1] at c2
      refine ev_iconst (pc := 28) (v := nI 0) dX5_isRatio_28 (by decide) ?_
      exact ev_iret (pc := 29) dX5_isRatio_29 rfl rfl ⟨by rw [rb_0 (x := x) (fun e => by have := e.2; omega), Nat.zero_mul], rfl⟩
    · rw [(i32_le (by decide)).2.2.1] at c2
      refine ev_iload_n (pc := 12) dX5_isRatio_12 rfl ?_
      refine ev_iconst (pc := 13) (v := nI 1) dX5_isRatio_13 (by decide) ?_
      refine ev_icmp_lt (pc := 14) (tgt := 28) dX5_isRatio_14 (by decide) (fun c3 => ?_) (fun c3 => ?_)
      · rw [(i32_le (by decide)).2.1] at c3
        refine ev_iconst (pc := 28) (v := nI 0) dX5_isRatio_28 (by decide) ?_
        exact ev_iret (pc := 29) dX5_isRatio_29 rfl rfl ⟨by rw [rb_0 (x := y) (fun e => by have := e.1; omega), Nat.mul_zero], rfl⟩
      · rw [(i32_le (by decide)).2.1] at c3
        refine ev_iload_n (pc := 17) dX5_isRatio_17 rfl ?_
        refine ev_sipush (pc := 18) (v := nI 1000) dX5_isRatio_18 (by decide) ?_
        refine ev_icmp_gt (pc := 21) (tgt := 28) dX5_isRatio_21 (by decide) (fun c4 => ?_) (fun c4 => ?_)
        · rw [(i32_le (by decide)).2.2.1] at c4
          refine ev_iconst (pc := 28) (v := nI 0) dX5_isRatio_28 (by decide) ?_
          exact ev_iret (pc := 29) dX5_isRatio_29 rfl rfl ⟨by rw [rb_0 (x := y) (fun e => by have := e.2; omega), Nat.mul_zero], rfl⟩
        · rw [(i32_le (by decide)).2.2.1] at c4
          refine ev_iconst (pc := 24) (v := nI 1) dX5_isRatio_24 (by decide) ?_
          refine ev_goto (pc := 25) (tgt := 29) dX5_isRatio_25 (by decide) ?_
          exact ev_iret (pc := 29) dX5_isRatio_29 rfl rfl ⟨by rw [rb_1 (x := x) ⟨by omega, by omega⟩, rb_1 (x := y) ⟨by omega, by omega⟩], rfl⟩
noncomputable def fb (k : Nat) (v : Int64) : Nat := @ite _ (1 ≤ v.toInt ∧ v.toInt ≤ mo k) (Classical.propDecidable _) 1 0
theorem fb_1 {k : Nat} {v : Int64} (h : 1 ≤ v.toInt ∧ v.toInt ≤ mo k) : fb k v = 1 := if_pos h
theorem fb_0 {k : Nat} {v : Int64} (h : ¬ (1 ≤ v.toInt ∧ v.toInt ≤ mo k)) : fb k v = 0 := if_neg h
theorem fb_2 (k : Nat) (v : Int64) : (fb k v = 1 ∧ (1 ≤ v.toInt ∧ v.toInt ≤ mo k)) ∨ (fb k v = 0 ∧ ¬ (1 ≤ v.toInt ∧ v.toInt ≤ mo k)) := by
  by_cases h : 1 ≤ v.toInt ∧ v.toInt ≤ mo k
  · exact Or.inl ⟨fb_1 h, h⟩
  · exact Or.inr ⟨fb_0 h, h⟩
theorem rb_2 (x : Int32) (lo hi : Int) : (rb x lo hi = 1 ∧ ri x lo hi) ∨ (rb x lo hi = 0 ∧ ¬ ri x lo hi) := by
  by_cases h : ri x lo hi
  · exact Or.inl ⟨rb_1 h, h⟩
  · exact Or.inr ⟨rb_0 h, h⟩
theorem mo_b (k : Nat) : mo k ≤ 9999999 := by unfold mo; split <;> omega
theorem k_fits {v : Int64} (hd : 1 ≤ dd) (hG : G_ok G) (hk : k < 3) : ev_Ca G dd w m_X5_fits [.int (nI k), .long v] H 0 0 (ev_ok (fun r h1 => r = some (.int (nI (fb k v))) ∧ h1 = H)) := by
  obtain ⟨dd, rfl⟩ : ∃ e, dd = e + 1 := ⟨dd - 1, by omega⟩
  refine ⟨by decide +kernel, rfl, ?_⟩
  obtain ⟨t, f, g1, g2, g3⟩ := hG
  have hm := mo_b k
  refine ev_lload_n (pc := 0) dX5_fits_0 rfl ?_
  refine ev_lconst (pc := 1) (v := lN 1) dX5_fits_1 (by decide) ?_
  refine ev_lcmp (pc := 2) dX5_fits_2 ?_
  refine ev_if_lt (pc := 3) (tgt := 21) dX5_fits_3 (by decide) (fun c1 => ?_) (fun c1 => ?_)
  · rw [(lc_i _ _).2.2.1, (i64_le (by decide)).2.1] at c1
    refine ev_iconst (pc := 21) (v := nI 0) dX5_fits_21 (by decide) ?_
    exact ev_iret (pc := 22) dX5_fits_22 rfl rfl ⟨by rw [fb_0 (fun e => by have := e.1; omega)], rfl⟩
  · rw [(lc_i _ _).2.2.1, (i64_le (by decide)).2.1] at c1
    refine ev_lload_n (pc := 6) dX5_fits_6 rfl ?_
    refine ev_gets (pc := 7) dX5_fits_7 s_X5_34 g1 ?_
    refine ev_iload_n (pc := 10) dX5_fits_10 rfl ?_
    refine ev_riald (pc := 11) dX5_fits_11 g2 (vp_in_nI hk (by decide)) (ev_ti (y := nI (mo k)) (by rw [nI_clamp (by omega)]; exact g3 k hk) ?_)
    refine ev_i2lN (pc := 12) dX5_fits_12 (by omega) ?_
    refine ev_lcmp (pc := 13) dX5_fits_13 ?_
    refine ev_if_gt (pc := 14) (tgt := 21) dX5_fits_14 (by decide) (fun c2 => ?_) (fun c2 => ?_)
    · rw [(lc_i _ _).1, (i64_le (by omega)).2.2.1] at c2
      refine ev_iconst (pc := 21) (v := nI 0) dX5_fits_21 (by decide) ?_
      exact ev_iret (pc := 22) dX5_fits_22 rfl rfl ⟨by rw [fb_0 (fun e => by have := e.2; omega)], rfl⟩
    · rw [(lc_i _ _).1, (i64_le (by omega)).2.2.1] at c2
      refine ev_iconst (pc := 17) (v := nI 1) dX5_fits_17 (by decide) ?_
      refine ev_goto (pc := 18) (tgt := 22) dX5_fits_18 (by decide) ?_
      exact ev_iret (pc := 22) dX5_fits_22 rfl rfl ⟨by rw [fb_1 ⟨by omega, by omega⟩], rfl⟩
end SHM
end
section
/-! Shares: split, rights, dividends, leaving, joining, replacing -/
/-- the new values of an exchange, or that it does not go -/
def sp_ex (P : Nat → Nat → Nat) (s cu cd pu pd : Nat) : Nat × (Nat → Nat → Nat) := if cu % cd = 0 ∧ (1 ≤ cu / cd ∧ cu / cd ≤ 9999999) ∧ 1 ≤ (2 * pu + pd) / (2 * pd) ∧ (2 * pu + pd) / (2 * pd) ≤ 9999999 then (0, p_up (p_up P 1 s (cu / cd)) 0 s ((2 * pu + pd) / (2 * pd))) else (1, P)
def sp_split (P : Nat → Nat → Nat) (s : Nat) (x y : Int32) : Nat × (Nat → Nat → Nat) := if (1 ≤ x.toInt ∧ x.toInt ≤ 1000) ∧ 1 ≤ y.toInt ∧ y.toInt ≤ 1000 then sp_ex P s (P 1 s * x.toInt.toNat) y.toInt.toNat (P 0 s * y.toInt.toNat) x.toInt.toNat else (1, P)
def sp_rights (P : Nat → Nat → Nat) (s : Nat) (x y o : Int32) : Nat × (Nat → Nat → Nat) := if (1 ≤ x.toInt ∧ x.toInt ≤ 1000) ∧ (1 ≤ y.toInt ∧ y.toInt ≤ 1000) ∧ 1 ≤ o.toInt ∧ o.toInt ≤ 9999999 then (if P 0 s ≤ o.toInt.toNat then (0, P) else sp_ex P s (P 1 s * (x.toInt.toNat + y.toInt.toNat)) y.toInt.toNat (P 0 s * y.toInt.toNat + o.toInt.toNat * x.toInt.toNat) (x.toInt.toNat + y.toInt.toNat)) else (1, P)
def sp_div (P : Nat → Nat → Nat) (s : Nat) (x : Int32) : Nat × (Nat → Nat → Nat) := if 1 ≤ x.toInt ∧ x.toInt < P 0 s then (0, p_up P 0 s (P 0 s - x.toInt.toNat)) else (1, P)
def sp_rep (P : Nat → Nat → Nat) (s k : Nat) (x : Int32) : Nat × (Nat → Nat → Nat) := if 1 ≤ x.toInt ∧ x.toInt ≤ mo k then (0, p_up P k s x.toInt.toNat) else (1, P)
theorem fb_n {k n : Nat} (hn : n < 2 ^ 63) : (fb k (lN n) = 1 ∧ 1 ≤ n ∧ n ≤ mo k) ∨ (fb k (lN n) = 0 ∧ ¬ (1 ≤ n ∧ n ≤ mo k)) := by
  rcases fb_2 k (lN n) with ⟨a, b⟩ | ⟨a, b⟩
  · rw [pk_lT hn] at b
    exact Or.inl ⟨a, by omega, by omega⟩
  · rw [pk_lT hn] at b
    exact Or.inr ⟨a, by omega⟩
theorem p_up_ok {P : Nat → Nat → Nat} (h : P_ok P) {k s x : Nat} (h1 : 1 ≤ x) (h2 : x ≤ mo k) : P_ok (p_up P k s x) := by
  intro t ht
  obtain ⟨⟨a1, a2⟩, ⟨b1, b2⟩, ⟨c1, c2⟩⟩ := h t ht
  have key : ∀ a, a < 3 → 1 ≤ P a t → P a t ≤ mo a → 1 ≤ p_up P k s x a t ∧ p_up P k s x a t ≤ mo a := by
    intro a _ q1 q2
    unfold p_up
    by_cases e : a = k
    · rw [if_pos e]
      unfold va_up
      split
      · rw [e]; exact ⟨h1, h2⟩
      · exact ⟨q1, q2⟩
    · rw [if_neg e]; exact ⟨q1, q2⟩
  exact ⟨key 0 (by decide) a1 a2, key 1 (by decide) b1 b2, key 2 (by decide) c1 c2⟩
theorem sp_ex_ok {P : Nat → Nat → Nat} {s cu cd pu pd : Nat} (h : P_ok P) : P_ok (sp_ex P s cu cd pu pd).2 := by
  unfold sp_ex
  split
  · rename_i e
    exact p_up_ok (k := 0) (p_up_ok (k := 1) h e.2.1.1 e.2.1.2) e.2.2.1 e.2.2.2
  · exact h
theorem nI_tn {n : Nat} (h : n < 2 ^ 31) : (nI n).toInt.toNat = n := by rw [nI_toInt h]; rfl
section SHM2
variable {G : ev_G} {w : Nat} {H : ev_H} {D S : Nat} {i j k dd s : Nat} {sa : Nat → Nat} {P : Nat → Nat → Nat} {fu fd : Nat → Nat} {mem : Nat}
/-- behind a method that may change the shares -/
def shq (H : ev_H) (S : Nat) (sa : Nat → Nat) (o : Nat) (P : Nat → Nat → Nat) (fu fd : Nat → Nat) (mem : Nat) (r : Option Value) (h1 : ev_H) : Prop := r = some (.int (nI o)) ∧ SH h1 S sa P fu fd mem ∧ SF S sa H h1
theorem k_exchange {cu cd pu pd : Nat} (hd : 2 ≤ dd) (hw : 22 ≤ w) (hG : G_ok G) (h : SH H S sa P fu fd mem) (hD : SD sa) (hs : s < 8) (h1 : cu < 2 ^ 60) (h2 : 0 < cd) (h3 : cd < 2 ^ 20) (h4 : pu < 2 ^ 60) (h5 : 0 < pd) (h6 : pd < 2 ^ 20) : ev_Ca G dd w m_X5_exchange [.ref S, .int (nI s), .long (lN cu), .int (nI cd), .long (lN pu), .int (nI pd)] H 0 0 (ev_ok (shq H S sa (sp_ex P s cu cd pu pd).1 (sp_ex P s cu cd pu pd).2 fu fd mem)) := by
  obtain ⟨dd, rfl⟩ : ∃ e, dd = e + 1 := ⟨dd - 1, by omega⟩
  refine ⟨by decide +kernel, rfl, ?_⟩
  have hml := Nat.mod_lt cu h2
  have no : ∀ {L st}, ¬ (cu % cd = 0 ∧ (1 ≤ cu / cd ∧ cu / cd ≤ 9999999) ∧ 1 ≤ (2 * pu + pd) / (2 * pd) ∧ (2 * pu + pd) / (2 * pd) ≤ 9999999) → st = ([] : List Value) → ev_J G (ev_cc G dd w) w m_X5_exchange (ev_ok (shq H S sa (sp_ex P s cu cd pu pd).1 (sp_ex P s cu cd pu pd).2 fu fd mem)) (57, L, st, H, 0, 0) := by
    intro L st hn hst
    subst hst
    have e : sp_ex P s cu cd pu pd = (1, P) := if_neg hn
    rw [e]
    refine ev_iconst (pc := 57) (v := nI 1) dX5_exchange_57 (by decide) ?_
    exact ev_iret (pc := 58) dX5_exchange_58 rfl rfl ⟨rfl, h, SF.rf⟩
  refine ev_lload_n (pc := 0) dX5_exchange_0 rfl ?_
  refine ev_iload (pc := 1) dX5_exchange_1 rfl ?_
  refine ev_i2lN (pc := 3) dX5_exchange_3 (by omega) ?_
  refine ev_lremN (pc := 4) dX5_exchange_4 (by omega) (by omega) (by omega) ?_
  refine ev_lconst (pc := 5) (v := lN 0) dX5_exchange_5 (by decide) ?_
  refine ev_lc_eq (pc := 6) (tgt := 12) dX5_exchange_6 dX5_exchange_7 (by decide) (by omega) (by omega) (fun c1 => ?_) (fun c1 => ?_)
  · refine ev_lload_n (pc := 12) dX5_exchange_12 rfl ?_
    refine ev_iload (pc := 13) dX5_exchange_13 rfl ?_
    refine ev_i2lN (pc := 15) dX5_exchange_15 (by omega) ?_
    refine ev_ldivN (pc := 16) dX5_exchange_16 (by omega) (by omega) (by omega) ?_
    refine ev_lstore (pc := 17) dX5_exchange_17 rfl ?_
    refine ev_ldc2 (pc := 19) dX5_exchange_19 k_X5_86 ?_
    refine ev_lload (pc := 22) dX5_exchange_22 rfl ?_
    refine ev_lmulN (pc := 24) dX5_exchange_24 ?_
    refine ev_iload (pc := 25) dX5_exchange_25 rfl ?_
    refine ev_i2lN (pc := 27) dX5_exchange_27 (by omega) ?_
    refine ev_laddN (pc := 28) dX5_exchange_28 ?_
    refine ev_ldc2 (pc := 29) dX5_exchange_29 k_X5_86 ?_
    refine ev_iload (pc := 32) dX5_exchange_32 rfl ?_
    refine ev_i2lN (pc := 34) dX5_exchange_34 (by omega) ?_
    refine ev_lmulN (pc := 35) dX5_exchange_35 ?_
    refine ev_ldivN (pc := 36) dX5_exchange_36 (by omega) (by omega) (by omega) ?_
    refine ev_lstore (pc := 37) dX5_exchange_37 rfl ?_
    refine ev_iconst (pc := 39) (v := nI 1) dX5_exchange_39 (by decide) ?_
    refine ev_lload (pc := 40) dX5_exchange_40 rfl ?_
    have hq1 : cu / cd ≤ cu := Nat.div_le_self _ _
    have hq2 : (2 * pu + pd) / (2 * pd) ≤ 2 * pu + pd := Nat.div_le_self _ _
    refine ev_callS (pc := 42) (As := [.int (nI 1), .long (lN (cu / cd))]) dX5_exchange_42 cs_X5_82 rfl rfl ⟨by show 19 + 3 ≤ w; omega, show ev_Ca _ _ (w - 22) _ _ _ _ _ _ from k_fits (by omega) hG (by decide)⟩ rfl rfl (fun r h1 hp => ?_)
    obtain ⟨rfl, hH⟩ := hp
    rw [hH]
    clear hH h1
    rcases fb_n (k := 1) (n := cu / cd) (by omega) with ⟨e1, e2⟩ | ⟨e1, e2⟩
    · rw [e1]
      refine ev_if_eqN (pc := 45) (tgt := 57) dX5_exchange_45 (by decide) (by decide) (fun c2 => absurd c2 (by decide)) (fun _ => ?_)
      refine ev_iconst (pc := 48) (v := nI 0) dX5_exchange_48 (by decide) ?_
      refine ev_lload (pc := 49) dX5_exchange_49 rfl ?_
      refine ev_callS (pc := 51) (As := [.int (nI 0), .long (lN ((2 * pu + pd) / (2 * pd)))]) dX5_exchange_51 cs_X5_82 rfl rfl ⟨by show 19 + 3 ≤ w; omega, show ev_Ca _ _ (w - 22) _ _ _ _ _ _ from k_fits (by omega) hG (by decide)⟩ rfl rfl (fun r h1 hp => ?_)
      obtain ⟨rfl, hH⟩ := hp
      rw [hH]
      clear hH h1
      rcases fb_n (k := 0) (n := (2 * pu + pd) / (2 * pd)) (by omega) with ⟨e3, e4⟩ | ⟨e3, e4⟩
      · rw [e3]
        refine ev_if_neN (pc := 54) (tgt := 59) dX5_exchange_54 (by decide) (by decide) (fun _ => ?_) (fun c2 => absurd c2 (by decide))
        have e : sp_ex P s cu cd pu pd = (0, p_up (p_up P 1 s (cu / cd)) 0 s ((2 * pu + pd) / (2 * pd))) := if_pos ⟨c1, e2, e4⟩
        rw [e]
        refine ev_aload_n (pc := 59) dX5_exchange_59 rfl ?_
        refine ev_getf (pc := 60) dX5_exchange_60 f_X5_11 h.1 rfl ?_
        refine ev_iconst (pc := 63) (v := nI 1) dX5_exchange_63 (by decide) ?_
        refine sh_row (pc := 64) dX5_exchange_64 h (by omega) ?_
        refine ev_iload_n (pc := 65) dX5_exchange_65 rfl ?_
        refine ev_lload (pc := 66) dX5_exchange_66 rfl ?_
        refine ev_l2iN (pc := 68) dX5_exchange_68 ?_
        refine ev_iast (pc := 69) dX5_exchange_69 (h.2.2.1 1 (by decide)) (vp_in_nI hs (by decide)) ?_
        obtain ⟨hS2, hF2⟩ := sh_putP (k := 1) (j := s) (x := cu / cd) h hD (by decide) hs
        refine ev_aload_n (pc := 70) dX5_exchange_70 rfl ?_
        refine ev_getf (pc := 71) dX5_exchange_71 f_X5_11 hS2.1 rfl ?_
        refine ev_iconst (pc := 74) (v := nI 0) dX5_exchange_74 (by decide) ?_
        refine sh_row (pc := 75) dX5_exchange_75 hS2 (by omega) ?_
        refine ev_iload_n (pc := 76) dX5_exchange_76 rfl ?_
        refine ev_lload (pc := 77) dX5_exchange_77 rfl ?_
        refine ev_l2iN (pc := 79) dX5_exchange_79 ?_
        refine ev_iast (pc := 80) dX5_exchange_80 (hS2.2.2.1 0 (by decide)) (vp_in_nI hs (by decide)) ?_
        obtain ⟨hS3, hF3⟩ := sh_putP (k := 0) (j := s) (x := (2 * pu + pd) / (2 * pd)) hS2 hD (by decide) hs
        refine ev_iconst (pc := 81) (v := nI 0) dX5_exchange_81 (by decide) ?_
        exact ev_iret (pc := 82) dX5_exchange_82 rfl rfl ⟨rfl, hS3, hF2.tr hF3⟩
      · rw [e3]
        refine ev_if_neN (pc := 54) (tgt := 59) dX5_exchange_54 (by decide) (by decide) (fun c2 => absurd c2 (by decide)) (fun _ => ?_)
        exact no (fun q => e4 q.2.2) rfl
    · rw [e1]
      refine ev_if_eqN (pc := 45) (tgt := 57) dX5_exchange_45 (by decide) (by decide) (fun _ => ?_) (fun c2 => absurd c2 (by decide))
      exact no (fun q => e2 q.2.1) rfl
  · have e : sp_ex P s cu cd pu pd = (1, P) := if_neg (fun q => c1 q.1)
    rw [e]
    refine ev_iconst (pc := 10) (v := nI 1) dX5_exchange_10 (by decide) ?_
    exact ev_iret (pc := 11) dX5_exchange_11 rfl rfl ⟨rfl, h, SF.rf⟩
theorem k_split {x y : Int32} (hd : 3 ≤ dd) (hw : 53 ≤ w) (hG : G_ok G) (h : SH H S sa P fu fd mem) (hP : P_ok P) (hD : SD sa) (hs : s < 8) : ev_Ca G dd w m_X5_split [.ref S, .int (nI s), .int x, .int y] H 0 0 (ev_ok (shq H S sa (sp_split P s x y).1 (sp_split P s x y).2 fu fd mem)) := by
  obtain ⟨dd, rfl⟩ : ∃ e, dd = e + 1 := ⟨dd - 1, by omega⟩
  refine ⟨by decide +kernel, rfl, ?_⟩
  obtain ⟨⟨a1, a2⟩, ⟨b1, b2⟩, -⟩ := hP s hs
  refine ev_iload_n (pc := 0) dX5_split_0 rfl ?_
  refine ev_iload_n (pc := 1) dX5_split_1 rfl ?_
  refine ev_callS (pc := 2) (As := [.int x, .int y]) dX5_split_2 cs_X5_72 rfl rfl ⟨by show 19 + 2 ≤ w; omega, show ev_Ca _ _ (w - 21) _ _ _ _ _ _ from k_isRatio (by omega)⟩ rfl rfl (fun r h1 hp => ?_)
  obtain ⟨rfl, hH⟩ := hp
  rw [hH]
  clear hH h1
  have no : ¬ (ri x 1 1000 ∧ ri y 1 1000) → ev_J G (ev_cc G dd w) w m_X5_split (ev_ok (shq H S sa (sp_split P s x y).1 (sp_split P s x y).2 fu fd mem)) (8, ev_lf (lv_args 0 [.ref S, .int (nI s), .int x, .int y]), [], H, 0, 0) := by
    intro hn
    have e : sp_split P s x y = (1, P) := if_neg (fun q => hn ⟨q.1, q.2⟩)
    rw [e]
    refine ev_iconst (pc := 8) (v := nI 1) dX5_split_8 (by decide) ?_
    exact ev_iret (pc := 9) dX5_split_9 rfl rfl ⟨rfl, h, SF.rf⟩
  rcases rb_2 x 1 1000 with ⟨e1, e2⟩ | ⟨e1, e2⟩
  · rcases rb_2 y 1 1000 with ⟨e3, e4⟩ | ⟨e3, e4⟩
    · rw [e1, e3]
      refine ev_if_neN (pc := 5) (tgt := 10) dX5_split_5 (by decide) (by decide) (fun _ => ?_) (fun c2 => absurd c2 (by decide))
      have e : sp_split P s x y = sp_ex P s (P 1 s * x.toInt.toNat) y.toInt.toNat (P 0 s * y.toInt.toNat) x.toInt.toNat := if_pos ⟨e2, e4⟩
      rw [e]
      obtain ⟨n, rfl, n1, n2⟩ := ri_nI (lo := 1) (hi := 1000) e2 (by decide)
      obtain ⟨m, rfl, m1, m2⟩ := ri_nI (lo := 1) (hi := 1000) e4 (by decide)
      rw [nI_tn (by omega), nI_tn (by omega)]
      have t1 : P 1 s * n ≤ 9999999 * 1000 := Nat.mul_le_mul b2 n2
      have t2 : P 0 s * m ≤ 9999999 * 1000 := Nat.mul_le_mul a2 m2
      refine ev_aload_n (pc := 10) dX5_split_10 rfl ?_
      refine ev_getf (pc := 11) dX5_split_11 f_X5_11 h.1 rfl ?_
      refine ev_iconst (pc := 14) (v := nI 1) dX5_split_14 (by decide) ?_
      refine sh_row (pc := 15) dX5_split_15 h (by omega) ?_
      refine ev_iload_n (pc := 16) dX5_split_16 rfl ?_
      refine ev_iaN (pc := 17) dX5_split_17 (h.2.2.1 1 (by decide)) (by omega) (by omega) ?_
      refine ev_i2lN (pc := 18) dX5_split_18 (by omega) ?_
      refine ev_iload_n (pc := 19) dX5_split_19 rfl ?_
      refine ev_i2lN (pc := 20) dX5_split_20 (by omega) ?_
      refine ev_lmulN (pc := 21) dX5_split_21 ?_
      refine ev_lstore (pc := 22) dX5_split_22 rfl ?_
      refine ev_aload_n (pc := 24) dX5_split_24 rfl ?_
      refine ev_getf (pc := 25) dX5_split_25 f_X5_11 h.1 rfl ?_
      refine ev_iconst (pc := 28) (v := nI 0) dX5_split_28 (by decide) ?_
      refine sh_row (pc := 29) dX5_split_29 h (by omega) ?_
      refine ev_iload_n (pc := 30) dX5_split_30 rfl ?_
      refine ev_iaN (pc := 31) dX5_split_31 (h.2.2.1 0 (by decide)) (by omega) (by omega) ?_
      refine ev_i2lN (pc := 32) dX5_split_32 (by omega) ?_
      refine ev_iload_n (pc := 33) dX5_split_33 rfl ?_
      refine ev_i2lN (pc := 34) dX5_split_34 (by omega) ?_
      refine ev_lmulN (pc := 35) dX5_split_35 ?_
      refine ev_lstore (pc := 36) dX5_split_36 rfl ?_
      refine ev_aload_n (pc := 38) dX5_split_38 rfl ?_
      refine ev_iload_n (pc := 39) dX5_split_39 rfl ?_
      refine ev_lload (pc := 40) dX5_split_40 rfl ?_
      refine ev_iload_n (pc := 42) dX5_split_42 rfl ?_
      refine ev_lload (pc := 43) dX5_split_43 rfl ?_
      refine ev_iload_n (pc := 45) dX5_split_45 rfl ?_
      refine ev_callV (pc := 46) (As := [.int (nI s), .long (lN (P 1 s * n)), .int (nI m), .long (lN (P 0 s * m)), .int (nI n)]) dX5_split_46 cv_X5_78 rfl rfl h.1 rfl ⟨by show 19 + 12 ≤ w; omega, show ev_Ca _ _ (w - 31) _ _ _ _ _ _ from k_exchange (by omega) (by omega) hG h hD hs (by omega) (by omega) (by omega) (by omega) (by omega) (by omega)⟩ rfl rfl (fun r h1 hp => ?_)
      obtain ⟨rfl, hp⟩ := hp
      exact ev_iret (pc := 49) dX5_split_49 rfl rfl ⟨rfl, hp⟩
    · rw [e1, e3]
      refine ev_if_neN (pc := 5) (tgt := 10) dX5_split_5 (by decide) (by decide) (fun c2 => absurd c2 (by decide)) (fun _ => ?_)
      exact no (fun q => e4 q.2)
  · rw [e1, Nat.zero_mul]
    refine ev_if_neN (pc := 5) (tgt := 10) dX5_split_5 (by decide) (by decide) (fun c2 => absurd c2 (by decide)) (fun _ => ?_)
    exact no (fun q => e2 q.1)
theorem i2l_toInt (x : Int32) : x.toInt64.toInt = x.toInt := Int32.toInt_toInt64 x
theorem k_offerRights {x y o : Int32} (hd : 3 ≤ dd) (hw : 53 ≤ w) (hG : G_ok G) (h : SH H S sa P fu fd mem) (hP : P_ok P) (hD : SD sa) (hs : s < 8) : ev_Ca G dd w m_X5_offerRights [.ref S, .int (nI s), .int x, .int y, .int o] H 0 0 (ev_ok (shq H S sa (sp_rights P s x y o).1 (sp_rights P s x y o).2 fu fd mem)) := by
  obtain ⟨dd, rfl⟩ : ∃ e, dd = e + 1 := ⟨dd - 1, by omega⟩
  refine ⟨by decide +kernel, rfl, ?_⟩
  obtain ⟨⟨a1, a2⟩, ⟨b1, b2⟩, -⟩ := hP s hs
  refine ev_iload_n (pc := 0) dX5_offerRights_0 rfl ?_
  refine ev_iload_n (pc := 1) dX5_offerRights_1 rfl ?_
  refine ev_callS (pc := 2) (As := [.int x, .int y]) dX5_offerRights_2 cs_X5_72 rfl rfl ⟨by show 19 + 2 ≤ w; omega, show ev_Ca _ _ (w - 21) _ _ _ _ _ _ from k_isRatio (by omega)⟩ rfl rfl (fun r h1 hp => ?_)
  obtain ⟨rfl, hH⟩ := hp
  rw [hH]
  clear hH h1
  have no : ¬ ((ri x 1 1000 ∧ ri y 1 1000) ∧ 1 ≤ o.toInt ∧ o.toInt ≤ 9999999) → ev_J G (ev_cc G dd w) w m_X5_offerRights (ev_ok (shq H S sa (sp_rights P s x y o).1 (sp_rights P s x y o).2 fu fd mem)) (18, ev_lf (lv_args 0 [.ref S, .int (nI s), .int x, .int y, .int o]), [], H, 0, 0) := by
    intro hn
    have e : sp_rights P s x y o = (1, P) := if_neg (fun q => hn ⟨⟨q.1, q.2.1⟩, q.2.2⟩)
    rw [e]
    refine ev_iconst (pc := 18) (v := nI 1) dX5_offerRights_18 (by decide) ?_
    exact ev_iret (pc := 19) dX5_offerRights_19 rfl rfl ⟨rfl, h, SF.rf⟩
  rcases rb_2 x 1 1000 with ⟨e1, e2⟩ | ⟨e1, e2⟩
  · rcases rb_2 y 1 1000 with ⟨e3, e4⟩ | ⟨e3, e4⟩
    · rw [e1, e3]
      refine ev_if_eqN (pc := 5) (tgt := 18) dX5_offerRights_5 (by decide) (by decide) (fun c2 => absurd c2 (by decide)) (fun _ => ?_)
      refine ev_iconst (pc := 8) (v := nI 0) dX5_offerRights_8 (by decide) ?_
      refine ev_iload (pc := 9) dX5_offerRights_9 rfl ?_
      refine ev_i2l (pc := 11) dX5_offerRights_11 ?_
      refine ev_callS (pc := 12) (As := [.int (nI 0), .long o.toInt64]) dX5_offerRights_12 cs_X5_82 rfl rfl ⟨by show 19 + 3 ≤ w; omega, show ev_Ca _ _ (w - 22) _ _ _ _ _ _ from k_fits (by omega) hG (by decide)⟩ rfl rfl (fun r h1 hp => ?_)
      obtain ⟨rfl, hH⟩ := hp
      rw [hH]
      clear hH h1
      rcases fb_2 0 o.toInt64 with ⟨e5, e6⟩ | ⟨e5, e6⟩
      · rw [i2l_toInt] at e6
        rw [e5]
        refine ev_if_neN (pc := 15) (tgt := 20) dX5_offerRights_15 (by decide) (by decide) (fun _ => ?_) (fun c2 => absurd c2 (by decide))
        have e7 : ri o 1 9999999 := e6
        have e : sp_rights P s x y o = (if P 0 s ≤ o.toInt.toNat then (0, P) else sp_ex P s (P 1 s * (x.toInt.toNat + y.toInt.toNat)) y.toInt.toNat (P 0 s * y.toInt.toNat + o.toInt.toNat * x.toInt.toNat) (x.toInt.toNat + y.toInt.toNat)) := if_pos ⟨e2, e4, e7⟩
        rw [e]
        obtain ⟨n, rfl, n1, n2⟩ := ri_nI (lo := 1) (hi := 1000) e2 (by decide)
        obtain ⟨m, rfl, m1, m2⟩ := ri_nI (lo := 1) (hi := 1000) e4 (by decide)
        obtain ⟨q, rfl, q1, q2⟩ := ri_nI (lo := 1) (hi := 9999999) e7 (by decide)
        rw [nI_tn (by omega), nI_tn (by omega), nI_tn (by omega)]
        refine ev_aload_n (pc := 20) dX5_offerRights_20 rfl ?_
        refine ev_getf (pc := 21) dX5_offerRights_21 f_X5_11 h.1 rfl ?_
        refine ev_iconst (pc := 24) (v := nI 0) dX5_offerRights_24 (by decide) ?_
        refine sh_row (pc := 25) dX5_offerRights_25 h (by omega) ?_
        refine ev_iload_n (pc := 26) dX5_offerRights_26 rfl ?_
        refine ev_iaN (pc := 27) dX5_offerRights_27 (h.2.2.1 0 (by decide)) (by omega) (by omega) ?_
        refine ev_istore (pc := 28) dX5_offerRights_28 rfl ?_
        refine ev_iload (pc := 30) dX5_offerRights_30 rfl ?_
        refine ev_iload (pc := 32) dX5_offerRights_32 rfl ?_
        refine ev_icmp_ltN (pc := 34) (tgt := 39) dX5_offerRights_34 (by decide) (by omega) (by omega) (fun c3 => ?_) (fun c3 => ?_)
        · rw [if_neg (by omega)]
          have t1 : P 1 s * (n + m) ≤ 9999999 * 2000 := Nat.mul_le_mul b2 (by omega)
          have t2 : P 0 s * m ≤ 9999999 * 1000 := Nat.mul_le_mul a2 m2
          have t3 : q * n ≤ 9999999 * 1000 := Nat.mul_le_mul q2 n2
          refine ev_iload_n (pc := 39) dX5_offerRights_39 rfl ?_
          refine ev_iload_n (pc := 40) dX5_offerRights_40 rfl ?_
          refine ev_iaddN (pc := 41) dX5_offerRights_41 ?_
          refine ev_istore (pc := 42) dX5_offerRights_42 rfl ?_
          refine ev_aload_n (pc := 44) dX5_offerRights_44 rfl ?_
          refine ev_getf (pc := 45) dX5_offerRights_45 f_X5_11 h.1 rfl ?_
          refine ev_iconst (pc := 48) (v := nI 1) dX5_offerRights_48 (by decide) ?_
          refine sh_row (pc := 49) dX5_offerRights_49 h (by omega) ?_
          refine ev_iload_n (pc := 50) dX5_offerRights_50 rfl ?_
          refine ev_iaN (pc := 51) dX5_offerRights_51 (h.2.2.1 1 (by decide)) (by omega) (by omega) ?_
          refine ev_i2lN (pc := 52) dX5_offerRights_52 (by omega) ?_
          refine ev_iload (pc := 53) dX5_offerRights_53 rfl ?_
          refine ev_i2lN (pc := 55) dX5_offerRights_55 (by omega) ?_
          refine ev_lmulN (pc := 56) dX5_offerRights_56 ?_
          refine ev_lstore (pc := 57) dX5_offerRights_57 rfl ?_
          refine ev_iload (pc := 59) dX5_offerRights_59 rfl ?_
          refine ev_i2lN (pc := 61) dX5_offerRights_61 (by omega) ?_
          refine ev_iload_n (pc := 62) dX5_offerRights_62 rfl ?_
          refine ev_i2lN (pc := 63) dX5_offerRights_63 (by omega) ?_
          refine ev_lmulN (pc := 64) dX5_offerRights_64 ?_
          refine ev_iload (pc := 65) dX5_offerRights_65 rfl ?_
          refine ev_i2lN (pc := 67) dX5_offerRights_67 (by omega) ?_
          refine ev_iload_n (pc := 68) dX5_offerRights_68 rfl ?_
          refine ev_i2lN (pc := 69) dX5_offerRights_69 (by omega) ?_
          refine ev_lmulN (pc := 70) dX5_offerRights_70 ?_
          refine ev_laddN (pc := 71) dX5_offerRights_71 ?_
          refine ev_lstore (pc := 72) dX5_offerRights_72 rfl ?_
          refine ev_aload_n (pc := 74) dX5_offerRights_74 rfl ?_
          refine ev_iload_n (pc := 75) dX5_offerRights_75 rfl ?_
          refine ev_lload (pc := 76) dX5_offerRights_76 rfl ?_
          refine ev_iload_n (pc := 78) dX5_offerRights_78 rfl ?_
          refine ev_lload (pc := 79) dX5_offerRights_79 rfl ?_
          refine ev_iload (pc := 81) dX5_offerRights_81 rfl ?_
          refine ev_callV (pc := 83) (As := [.int (nI s), .long (lN (P 1 s * (n + m))), .int (nI m), .long (lN (P 0 s * m + q * n)), .int (nI (n + m))]) dX5_offerRights_83 cv_X5_78 rfl rfl h.1 rfl ⟨by show 19 + 12 ≤ w; omega, show ev_Ca _ _ (w - 31) _ _ _ _ _ _ from k_exchange (by omega) (by omega) hG h hD hs (by omega) (by omega) (by omega) (by omega) (by omega) (by omega)⟩ rfl rfl (fun r h1 hp => ?_)
          obtain ⟨rfl, hp⟩ := hp
          exact ev_iret (pc := 86) dX5_offerRights_86 rfl rfl ⟨rfl, hp⟩
        · rw [if_pos c3]
          refine ev_iconst (pc := 37) (v := nI 0) dX5_offerRights_37 (by decide) ?_
          exact ev_iret (pc := 38) dX5_offerRights_38 rfl rfl ⟨rfl, h, SF.rf⟩
      · rw [i2l_toInt] at e6
        rw [e5]
        refine ev_if_neN (pc := 15) (tgt := 20) dX5_offerRights_15 (by decide) (by decide) (fun c2 => absurd c2 (by decide)) (fun _ => ?_)
        exact no (fun q => e6 q.2)
    · rw [e1, e3]
      refine ev_if_eqN (pc := 5) (tgt := 18) dX5_offerRights_5 (by decide) (by decide) (fun _ => ?_) (fun c2 => absurd c2 (by decide))
      exact no (fun q => e4 q.1.2)
  · rw [e1, Nat.zero_mul]
    refine ev_if_eqN (pc := 5) (tgt := 18) dX5_offerRights_5 (by decide) (by decide) (fun _ => ?_) (fun c2 => absurd c2 (by decide))
    exact no (fun q => e2 q.1.1)
theorem lsub_toInt {n : Nat} {x : Int32} (hn : n < 2 ^ 31) : (lN n - x.toInt64).toInt = (n : Int) - x.toInt := by
  have h1 := Int32.toInt_lt x
  have h2 := Int32.le_toInt x
  rw [Int64.toInt_sub, i2l_toInt, pk_lT (by omega)]
  exact Int.bmod_eq_of_le (by omega) (by omega)
theorem k_payDividend {x : Int32} (hd : 2 ≤ dd) (hw : 22 ≤ w) (hG : G_ok G) (h : SH H S sa P fu fd mem) (hP : P_ok P) (hD : SD sa) (hs : s < 8) : ev_Ca G dd w m_X5_payDividend [.ref S, .int (nI s), .int x] H 0 0 (ev_ok (shq H S sa (sp_div P s x).1 (sp_div P s x).2 fu fd mem)) := by
  obtain ⟨dd, rfl⟩ : ∃ e, dd = e + 1 := ⟨dd - 1, by omega⟩
  refine ⟨by decide +kernel, rfl, ?_⟩
  obtain ⟨⟨a1, a2⟩, -, -⟩ := hP s hs
  have no : ∀ {L}, ¬ (1 ≤ x.toInt ∧ x.toInt < P 0 s) → ev_J G (ev_cc G dd w) w m_X5_payDividend (ev_ok (shq H S sa (sp_div P s x).1 (sp_div P s x).2 fu fd mem)) (26, L, [], H, 0, 0) := by
    intro L hn
    have e : sp_div P s x = (1, P) := if_neg hn
    rw [e]
    refine ev_iconst (pc := 26) (v := nI 1) dX5_payDividend_26 (by decide) ?_
    exact ev_iret (pc := 27) dX5_payDividend_27 rfl rfl ⟨rfl, h, SF.rf⟩
  refine ev_aload_n (pc := 0) dX5_payDividend_0 rfl ?_
  refine ev_getf (pc := 1) dX5_payDividend_1 f_X5_11 h.1 rfl ?_
  refine ev_iconst (pc := 4) (v := nI 0) dX5_payDividend_4 (by decide) ?_
  refine sh_row (pc := 5) dX5_payDividend_5 h (by omega) ?_
  refine ev_iload_n (pc := 6) dX5_payDividend_6 rfl ?_
  refine ev_iaN (pc := 7) dX5_payDividend_7 (h.2.2.1 0 (by decide)) (by omega) (by omega) ?_
  refine ev_i2lN (pc := 8) dX5_payDividend_8 (by omega) ?_
  refine ev_iload_n (pc := 9) dX5_payDividend_9 rfl ?_
  refine ev_i2l (pc := 10) dX5_payDividend_10 ?_
  refine ev_lsub (pc := 11) dX5_payDividend_11 ?_
  refine ev_lstore_n (pc := 12) dX5_payDividend_12 rfl ?_
  refine ev_iload_n (pc := 13) dX5_payDividend_13 rfl ?_
  refine ev_iconst (pc := 14) (v := nI 1) dX5_payDividend_14 (by decide) ?_
  refine ev_icmp_lt (pc := 15) (tgt := 26) dX5_payDividend_15 (by decide) (fun c1 => ?_) (fun c1 => ?_)
  · rw [(i32_le (by decide)).2.1] at c1
    exact no (fun q => by omega)
  · rw [(i32_le (by decide)).2.1] at c1
    refine ev_iconst (pc := 18) (v := nI 0) dX5_payDividend_18 (by decide) ?_
    refine ev_lload_n (pc := 19) dX5_payDividend_19 rfl ?_
    refine ev_callS (pc := 20) (As := [.int (nI 0), .long (lN (P 0 s) - x.toInt64)]) dX5_payDividend_20 cs_X5_82 rfl rfl ⟨by show 19 + 3 ≤ w; omega, show ev_Ca _ _ (w - 22) _ _ _ _ _ _ from k_fits (by omega) hG (by decide)⟩ rfl rfl (fun r h1 hp => ?_)
    obtain ⟨rfl, hH⟩ := hp
    rw [hH]
    clear hH h1
    rcases fb_2 0 (lN (P 0 s) - x.toInt64) with ⟨e5, e6⟩ | ⟨e5, e6⟩
    · rw [lsub_toInt (by omega)] at e6
      rw [e5]
      refine ev_if_neN (pc := 23) (tgt := 28) dX5_payDividend_23 (by decide) (by decide) (fun _ => ?_) (fun c2 => absurd c2 (by decide))
      have e : sp_div P s x = (0, p_up P 0 s (P 0 s - x.toInt.toNat)) := if_pos ⟨by omega, by omega⟩
      rw [e]
      have e7 : lN (P 0 s) - x.toInt64 = lN (P 0 s - x.toInt.toNat) := by
        apply Int64.toInt_inj.mp
        rw [lsub_toInt (by omega), pk_lT (by omega)]
        omega
      rw [e7]
      refine ev_aload_n (pc := 28) dX5_payDividend_28 rfl ?_
      refine ev_getf (pc := 29) dX5_payDividend_29 f_X5_11 h.1 rfl ?_
      refine ev_iconst (pc := 32) (v := nI 0) dX5_payDividend_32 (by decide) ?_
      refine sh_row (pc := 33) dX5_payDividend_33 h (by omega) ?_
      refine ev_iload_n (pc := 34) dX5_payDividend_34 rfl ?_
      refine ev_lload_n (pc := 35) dX5_payDividend_35 rfl ?_
      refine ev_l2iN (pc := 36) dX5_payDividend_36 ?_
      refine ev_iast (pc := 37) dX5_payDividend_37 (h.2.2.1 0 (by decide)) (vp_in_nI hs (by decide)) ?_
      obtain ⟨hS2, hF2⟩ := sh_putP (k := 0) (j := s) (x := P 0 s - x.toInt.toNat) h hD (by decide) hs
      refine ev_iconst (pc := 38) (v := nI 0) dX5_payDividend_38 (by decide) ?_
      exact ev_iret (pc := 39) dX5_payDividend_39 rfl rfl ⟨rfl, hS2, hF2⟩
    · rw [lsub_toInt (by omega)] at e6
      have hmo : mo 0 = 9999999 := rfl
      rw [e5]
      refine ev_if_neN (pc := 23) (tgt := 28) dX5_payDividend_23 (by decide) (by decide) (fun c2 => absurd c2 (by decide)) (fun _ => ?_)
      exact no (fun q => e6 ⟨by omega, by omega⟩)
theorem k_replace {x : Int32} (hd : 2 ≤ dd) (hw : 22 ≤ w) (hG : G_ok G) (h : SH H S sa P fu fd mem) (hD : SD sa) (hs : s < 8) (hk : k < 3) : ev_Ca G dd w m_X5_replace [.ref S, .int (nI s), .int (nI k), .int x] H 0 0 (ev_ok (shq H S sa (sp_rep P s k x).1 (sp_rep P s k x).2 fu fd mem)) := by
  obtain ⟨dd, rfl⟩ : ∃ e, dd = e + 1 := ⟨dd - 1, by omega⟩
  refine ⟨by decide +kernel, rfl, ?_⟩
  refine ev_iload_n (pc := 0) dX5_replace_0 rfl ?_
  refine ev_iload_n (pc := 1) dX5_replace_1 rfl ?_
  refine ev_i2l (pc := 2) dX5_replace_2 ?_
  refine ev_callS (pc := 3) (As := [.int (nI k), .long x.toInt64]) dX5_replace_3 cs_X5_82 rfl rfl ⟨by show 19 + 3 ≤ w; omega, show ev_Ca _ _ (w - 22) _ _ _ _ _ _ from k_fits (by omega) hG hk⟩ rfl rfl (fun r h1 hp => ?_)
  obtain ⟨rfl, hH⟩ := hp
  rw [hH]
  clear hH h1
  have hm := mo_b k
  rcases fb_2 k x.toInt64 with ⟨e5, e6⟩ | ⟨e5, e6⟩
  · rw [i2l_toInt] at e6
    rw [e5]
    refine ev_if_neN (pc := 6) (tgt := 11) dX5_replace_6 (by decide) (by decide) (fun _ => ?_) (fun c2 => absurd c2 (by decide))
    have e : sp_rep P s k x = (0, p_up P k s x.toInt.toNat) := if_pos e6
    rw [e]
    have e7 : x = nI x.toInt.toNat := by
      apply Int32.toInt_inj.mp
      rw [nI_toInt (by omega)]
      omega
    refine ev_aload_n (pc := 11) dX5_replace_11 rfl ?_
    refine ev_getf (pc := 12) dX5_replace_12 f_X5_11 h.1 rfl ?_
    refine ev_iload_n (pc := 15) dX5_replace_15 rfl ?_
    refine sh_row (pc := 16) dX5_replace_16 h (by omega) ?_
    refine ev_iload_n (pc := 17) dX5_replace_17 rfl ?_
    refine ev_iload_n (pc := 18) dX5_replace_18 rfl ?_
    have hlk : ev_lf (lv_args 0 [Value.ref S, .int (nI s), .int (nI k), .int x]) 3 = some (.int x) := rfl
    refine ev_ti e7 ?_
    refine ev_iast (pc := 19) dX5_replace_19 (h.2.2.1 k hk) (vp_in_nI hs (by decide)) ?_
    obtain ⟨hS2, hF2⟩ := sh_putP (k := k) (j := s) (x := x.toInt.toNat) h hD hk hs
    refine ev_iconst (pc := 20) (v := nI 0) dX5_replace_20 (by decide) ?_
    exact ev_iret (pc := 21) dX5_replace_21 rfl rfl ⟨rfl, hS2, hF2⟩
  · rw [i2l_toInt] at e6
    rw [e5]
    refine ev_if_neN (pc := 6) (tgt := 11) dX5_replace_6 (by decide) (by decide) (fun c2 => absurd c2 (by decide)) (fun _ => ?_)
    have e : sp_rep P s k x = (1, P) := if_neg e6
    rw [e]
    refine ev_iconst (pc := 9) (v := nI 1) dX5_replace_9 (by decide) ?_
    exact ev_iret (pc := 10) dX5_replace_10 rfl rfl ⟨rfl, h, SF.rf⟩
end SHM2
end
section
/-! Shares: bits of members, leaving, joining, factors, copying -/
def pc8 (x : Nat) : Nat := x % 2 + x / 2 % 2 + x / 4 % 2 + x / 8 % 2 + x / 16 % 2 + x / 32 % 2 + x / 64 % 2 + x / 128 % 2
def us (x : Int32) (k : Int32) : Int32 := (x.toUInt32 >>> (k.toUInt32 &&& Int32.toUInt32 31)).toInt32
def bc1 (x : Int32) : Int32 := x - (us x (nI 1) &&& nI 1431655765)
def bc2 (x : Int32) : Int32 := (x &&& nI 858993459) + (us x (nI 2) &&& nI 858993459)
def bc3 (x : Int32) : Int32 := (x + us x (nI 4)) &&& nI 252645135
def bc4 (x : Int32) : Int32 := x + us x (nI 8)
def bc5 (x : Int32) : Int32 := x + us x (nI 16)
theorem bc_ok : ∀ x, x < 256 → bc5 (bc4 (bc3 (bc2 (bc1 (nI x))))) &&& nI 63 = nI (pc8 x) := by decide +kernel
theorem pc8_b : ∀ x, x < 256 → pc8 x ≤ 8 := by decide +kernel
/-- the bits of m that are not in l; those of both -/
def an (m l : Nat) : Nat := (m % 2) * (1 - l % 2) + 2 * (m / 2 % 2 * (1 - l / 2 % 2)) + 4 * (m / 4 % 2 * (1 - l / 4 % 2)) + 8 * (m / 8 % 2 * (1 - l / 8 % 2)) + 16 * (m / 16 % 2 * (1 - l / 16 % 2)) + 32 * (m / 32 % 2 * (1 - l / 32 % 2)) + 64 * (m / 64 % 2 * (1 - l / 64 % 2)) + 128 * (m / 128 % 2 * (1 - l / 128 % 2))
theorem bt_clr : ∀ m, m < 256 → ∀ s, s < 8 → nI m &&& ((nI 1 <<< (nI s &&& 31)) ^^^ (-1)) = nI (m - 2 ^ s * (m / 2 ^ s % 2)) := by decide +kernel
theorem bt_set : ∀ m, m < 256 → ∀ s, s < 8 → nI m ||| (nI 1 <<< (nI s &&& 31)) = nI (m + 2 ^ s * (1 - m / 2 ^ s % 2)) := by decide +kernel
theorem bt_setb : ∀ m, m < 256 → ∀ s, s < 8 → m + 2 ^ s * (1 - m / 2 ^ s % 2) < 256 := by decide +kernel
def sp_leave (mem s : Nat) : Nat × Nat := if mem / 2 ^ s % 2 = 1 ∧ pc8 mem ≠ 1 then (0, mem - 2 ^ s) else (2, mem)
def sp_join (mem s : Nat) : Nat × Nat := if mem / 2 ^ s % 2 = 1 then (2, mem) else (0, mem + 2 ^ s)
section SHM3
variable {G : ev_G} {w : Nat} {H : ev_H} {D S : Nat} {i j k dd s : Nat} {sa : Nat → Nat} {P : Nat → Nat → Nat} {fu fd : Nat → Nat} {mem : Nat}
theorem k_bitCount {x : Nat} (hd : 1 ≤ dd) (hx : x < 256) : ev_Ca G dd w m_J6_bitCount_0f7a4 [.int (nI x)] H 0 0 (ev_ok (fun r h1 => r = some (.int (nI (pc8 x))) ∧ h1 = H)) := by
  obtain ⟨dd, rfl⟩ : ∃ e, dd = e + 1 := ⟨dd - 1, by omega⟩
  refine ⟨by decide +kernel, rfl, ?_⟩
  refine ev_iload_n (pc := 0) dJ6_bitCount_0f7a4_0 rfl ?_
  refine ev_iload_n (pc := 1) dJ6_bitCount_0f7a4_1 rfl ?_
  refine ev_iconst (pc := 2) (v := nI 1) dJ6_bitCount_0f7a4_2 (by decide) ?_
  refine ev_iushr (pc := 3) dJ6_bitCount_0f7a4_3 ?_
  refine ev_ldcw (pc := 4) dJ6_bitCount_0f7a4_4 k_J6_265 ?_
  refine ev_iand (pc := 7) dJ6_bitCount_0f7a4_7 ?_
  refine ev_isub (pc := 8) dJ6_bitCount_0f7a4_8 ?_
  refine ev_ti (y := bc1 (nI x)) rfl ?_
  refine ev_istore_n (pc := 9) dJ6_bitCount_0f7a4_9 rfl ?_
  refine ev_iload_n (pc := 10) dJ6_bitCount_0f7a4_10 rfl ?_
  refine ev_ldcw (pc := 11) dJ6_bitCount_0f7a4_11 k_J6_266 ?_
  refine ev_iand (pc := 14) dJ6_bitCount_0f7a4_14 ?_
  refine ev_iload_n (pc := 15) dJ6_bitCount_0f7a4_15 rfl ?_
  refine ev_iconst (pc := 16) (v := nI 2) dJ6_bitCount_0f7a4_16 (by decide) ?_
  refine ev_iushr (pc := 17) dJ6_bitCount_0f7a4_17 ?_
  refine ev_ldcw (pc := 18) dJ6_bitCount_0f7a4_18 k_J6_266 ?_
  refine ev_iand (pc := 21) dJ6_bitCount_0f7a4_21 ?_
  refine ev_iadd (pc := 22) dJ6_bitCount_0f7a4_22 ?_
  refine ev_ti (y := bc2 (bc1 (nI x))) rfl ?_
  refine ev_istore_n (pc := 23) dJ6_bitCount_0f7a4_23 rfl ?_
  refine ev_iload_n (pc := 24) dJ6_bitCount_0f7a4_24 rfl ?_
  refine ev_iload_n (pc := 25) dJ6_bitCount_0f7a4_25 rfl ?_
  refine ev_iconst (pc := 26) (v := nI 4) dJ6_bitCount_0f7a4_26 (by decide) ?_
  refine ev_iushr (pc := 27) dJ6_bitCount_0f7a4_27 ?_
  refine ev_iadd (pc := 28) dJ6_bitCount_0f7a4_28 ?_
  refine ev_ldcw (pc := 29) dJ6_bitCount_0f7a4_29 k_J6_267 ?_
  refine ev_iand (pc := 32) dJ6_bitCount_0f7a4_32 ?_
  refine ev_ti (y := bc3 (bc2 (bc1 (nI x)))) rfl ?_
  refine ev_istore_n (pc := 33) dJ6_bitCount_0f7a4_33 rfl ?_
  refine ev_iload_n (pc := 34) dJ6_bitCount_0f7a4_34 rfl ?_
  refine ev_iload_n (pc := 35) dJ6_bitCount_0f7a4_35 rfl ?_
  refine ev_bipush (pc := 36) (v := nI 8) dJ6_bitCount_0f7a4_36 (by decide) ?_
  refine ev_iushr (pc := 38) dJ6_bitCount_0f7a4_38 ?_
  refine ev_iadd (pc := 39) dJ6_bitCount_0f7a4_39 ?_
  refine ev_ti (y := bc4 (bc3 (bc2 (bc1 (nI x))))) rfl ?_
  refine ev_istore_n (pc := 40) dJ6_bitCount_0f7a4_40 rfl ?_
  refine ev_iload_n (pc := 41) dJ6_bitCount_0f7a4_41 rfl ?_
  refine ev_iload_n (pc := 42) dJ6_bitCount_0f7a4_42 rfl ?_
  refine ev_bipush (pc := 43) (v := nI 16) dJ6_bitCount_0f7a4_43 (by decide) ?_
  refine ev_iushr (pc := 45) dJ6_bitCount_0f7a4_45 ?_
  refine ev_iadd (pc := 46) dJ6_bitCount_0f7a4_46 ?_
  refine ev_ti (y := bc5 (bc4 (bc3 (bc2 (bc1 (nI x)))))) rfl ?_
  refine ev_istore_n (pc := 47) dJ6_bitCount_0f7a4_47 rfl ?_
  refine ev_iload_n (pc := 48) dJ6_bitCount_0f7a4_48 rfl ?_
  refine ev_bipush (pc := 49) (v := nI 63) dJ6_bitCount_0f7a4_49 (by decide) ?_
  refine ev_iand (pc := 51) dJ6_bitCount_0f7a4_51 ?_
  exact ev_iret (pc := 52) dJ6_bitCount_0f7a4_52 rfl rfl ⟨by rw [bc_ok x hx], rfl⟩
theorem k_leave (hd : 2 ≤ dd) (hw : 21 ≤ w) (h : SH H S sa P fu fd mem) (hm : mem < 256) (hs : s < 8) : ev_Ca G dd w m_X5_leave [.ref S, .int (nI s)] H 0 0 (ev_ok (shq H S sa (sp_leave mem s).1 P fu fd (sp_leave mem s).2)) := by
  obtain ⟨dd, rfl⟩ : ∃ e, dd = e + 1 := ⟨dd - 1, by omega⟩
  refine ⟨by decide +kernel, rfl, ?_⟩
  have hb : mem / 2 ^ s % 2 < 2 := Nat.mod_lt _ (by decide)
  have hpc := pc8_b mem hm
  have no : ∀ {L}, ¬ (mem / 2 ^ s % 2 = 1 ∧ pc8 mem ≠ 1) → ev_J G (ev_cc G dd w) w m_X5_leave (ev_ok (shq H S sa (sp_leave mem s).1 P fu fd (sp_leave mem s).2)) (19, L, [], H, 0, 0) := by
    intro L hn
    have e : sp_leave mem s = (2, mem) := if_neg hn
    rw [e]
    refine ev_iconst (pc := 19) (v := nI 2) dX5_leave_19 (by decide) ?_
    exact ev_iret (pc := 20) dX5_leave_20 rfl rfl ⟨rfl, h, SF.rf⟩
  refine ev_aload_n (pc := 0) dX5_leave_0 rfl ?_
  refine ev_iload_n (pc := 1) dX5_leave_1 rfl ?_
  refine ev_callV (pc := 2) (As := [.int (nI s)]) dX5_leave_2 cv_X5_88 rfl rfl h.1 rfl ⟨by show 19 + 2 ≤ w; omega, show ev_Ca _ _ (w - 21) _ _ _ _ _ _ from k_isMember (by omega) h hm hs⟩ rfl rfl (fun r h1 hp => ?_)
  obtain ⟨rfl, hH⟩ := hp
  rw [hH]
  clear hH h1
  refine ev_if_eqN (pc := 5) (tgt := 19) dX5_leave_5 (by decide) (by omega) (fun c1 => ?_) (fun c1 => ?_)
  · exact no (fun q => by omega)
  · refine ev_aload_n (pc := 8) dX5_leave_8 rfl ?_
    refine ev_getf (pc := 9) dX5_leave_9 f_X5_30 h.1 rfl ?_
    refine ev_callS (pc := 12) (As := [.int (nI mem)]) dX5_leave_12 cs_X5_92 rfl rfl ⟨by show 19 + 1 ≤ w; omega, show ev_Ca _ _ (w - 20) _ _ _ _ _ _ from k_bitCount (by omega) hm⟩ rfl rfl (fun r h1 hp => ?_)
    obtain ⟨rfl, hH⟩ := hp
    rw [hH]
    clear hH h1
    refine ev_iconst (pc := 15) (v := nI 1) dX5_leave_15 (by decide) ?_
    refine ev_icmp_neN (pc := 16) (tgt := 21) dX5_leave_16 (by decide) (by omega) (by omega) (fun c2 => ?_) (fun c2 => ?_)
    · have e : sp_leave mem s = (0, mem - 2 ^ s) := if_pos ⟨by omega, c2⟩
      rw [e]
      refine ev_aload_n (pc := 21) dX5_leave_21 rfl ?_
      refine ev_aload_n (pc := 22) dX5_leave_22 rfl ?_
      refine ev_getf (pc := 23) dX5_leave_23 f_X5_30 h.1 rfl ?_
      refine ev_iconst (pc := 26) (v := nI 1) dX5_leave_26 (by decide) ?_
      refine ev_iload_n (pc := 27) dX5_leave_27 rfl ?_
      refine ev_ishl (pc := 28) dX5_leave_28 ?_
      refine ev_iconst (pc := 29) (v := -1) dX5_leave_29 (by decide) ?_
      refine ev_ixor (pc := 30) dX5_leave_30 ?_
      refine ev_iand (pc := 31) dX5_leave_31 ?_
      refine ev_ti (y := nI (mem - 2 ^ s)) (by rw [bt_clr mem hm s hs, show mem / 2 ^ s % 2 = 1 by omega, Nat.mul_one]) ?_
      refine ev_putf (pc := 32) dX5_leave_32 p_X5_30 h.1 rfl rfl rfl ?_
      obtain ⟨hS2, hF2⟩ := sh_putM (m := mem - 2 ^ s) h
      refine ev_iconst (pc := 35) (v := nI 0) dX5_leave_35 (by decide) ?_
      exact ev_iret (pc := 36) dX5_leave_36 rfl rfl ⟨rfl, hS2, hF2⟩
    · exact no (fun q => q.2 c2)
theorem k_join (hd : 2 ≤ dd) (hw : 21 ≤ w) (h : SH H S sa P fu fd mem) (hD : SD sa) (hm : mem < 256) (hs : s < 8) : ev_Ca G dd w m_X5_join [.ref S, .int (nI s)] H 0 0 (ev_ok (shq H S sa (sp_join mem s).1 P (if mem / 2 ^ s % 2 = 1 then fu else va_up fu s 1) (if mem / 2 ^ s % 2 = 1 then fd else va_up fd s 1) (sp_join mem s).2)) := by
  obtain ⟨dd, rfl⟩ : ∃ e, dd = e + 1 := ⟨dd - 1, by omega⟩
  refine ⟨by decide +kernel, rfl, ?_⟩
  have hb : mem / 2 ^ s % 2 < 2 := Nat.mod_lt _ (by decide)
  refine ev_aload_n (pc := 0) dX5_join_0 rfl ?_
  refine ev_iload_n (pc := 1) dX5_join_1 rfl ?_
  refine ev_callV (pc := 2) (As := [.int (nI s)]) dX5_join_2 cv_X5_88 rfl rfl h.1 rfl ⟨by show 19 + 2 ≤ w; omega, show ev_Ca _ _ (w - 21) _ _ _ _ _ _ from k_isMember (by omega) h hm hs⟩ rfl rfl (fun r h1 hp => ?_)
  obtain ⟨rfl, hH⟩ := hp
  rw [hH]
  clear hH h1
  refine ev_if_eqN (pc := 5) (tgt := 10) dX5_join_5 (by decide) (by omega) (fun c1 => ?_) (fun c1 => ?_)
  · have e : sp_join mem s = (0, mem + 2 ^ s) := if_neg (by omega)
    rw [e, if_neg (by omega), if_neg (by omega)]
    refine ev_aload_n (pc := 10) dX5_join_10 rfl ?_
    refine ev_aload_n (pc := 11) dX5_join_11 rfl ?_
    refine ev_getf (pc := 12) dX5_join_12 f_X5_30 h.1 rfl ?_
    refine ev_iconst (pc := 15) (v := nI 1) dX5_join_15 (by decide) ?_
    refine ev_iload_n (pc := 16) dX5_join_16 rfl ?_
    refine ev_ishl (pc := 17) dX5_join_17 ?_
    refine ev_ior (pc := 18) dX5_join_18 ?_
    refine ev_ti (y := nI (mem + 2 ^ s)) (by rw [bt_set mem hm s hs, c1, Nat.sub_zero, Nat.mul_one]) ?_
    refine ev_putf (pc := 19) dX5_join_19 p_X5_30 h.1 rfl rfl rfl ?_
    obtain ⟨hS2, hF2⟩ := sh_putM (m := mem + 2 ^ s) h
    refine ev_aload_n (pc := 22) dX5_join_22 rfl ?_
    refine ev_getf (pc := 23) dX5_join_23 f_X5_14 hS2.1 rfl ?_
    refine ev_iload_n (pc := 26) dX5_join_26 rfl ?_
    refine ev_lconst (pc := 27) (v := lN 1) dX5_join_27 (by decide) ?_
    refine ev_last (pc := 28) dX5_join_28 hS2.2.2.2.1 (vp_in_nI hs (by decide)) ?_
    obtain ⟨hS3, hF3⟩ := sh_putU (j := s) (x := 1) hS2 hD hs
    refine ev_aload_n (pc := 29) dX5_join_29 rfl ?_
    refine ev_getf (pc := 30) dX5_join_30 f_X5_18 hS3.1 rfl ?_
    refine ev_iload_n (pc := 33) dX5_join_33 rfl ?_
    refine ev_lconst (pc := 34) (v := lN 1) dX5_join_34 (by decide) ?_
    refine ev_last (pc := 35) dX5_join_35 hS3.2.2.2.2 (vp_in_nI hs (by decide)) ?_
    obtain ⟨hS4, hF4⟩ := sh_putD (j := s) (x := 1) hS3 hD hs
    refine ev_iconst (pc := 36) (v := nI 0) dX5_join_36 (by decide) ?_
    exact ev_iret (pc := 37) dX5_join_37 rfl rfl ⟨rfl, hS4, (hF2.tr hF3).tr hF4⟩
  · have e : sp_join mem s = (2, mem) := if_pos (by omega)
    rw [e, if_pos (by omega), if_pos (by omega)]
    refine ev_iconst (pc := 8) (v := nI 2) dX5_join_8 (by decide) ?_
    exact ev_iret (pc := 9) dX5_join_9 rfl rfl ⟨rfl, h, SF.rf⟩
/-- Arrays.fill of a row of longs -/
theorem l_fillL {C : ev_L} {K : ev_K} {c z a N v : Nat} (hN : N < 2 ^ 31) (hK : ∀ f : Nat → Nat, (∀ j, j < N → f j = v) → K (.inl none) (ev_up H a (.inl (.long, N, .inr (.inl (fun j => lN (f j))))))) : ∀ k i (f : Nat → Nat), i + k = N → (∀ j, j < i → f j = v) → ev_J G C w m_J7_fill_d0a16 K (6, ev_lf [(0, .ref a), (1, .long (lN v)), (3, .int (nI i)), (4, .int (nI N))], [], ev_up H a (.inl (.long, N, .inr (.inl (fun j => lN (f j))))), c, z)
  | 0, i, f, e, hf => by
    refine ev_iload_n (pc := 6) dJ7_fill_d0a16_6 rfl ?_
    refine ev_iload (pc := 7) dJ7_fill_d0a16_7 rfl ?_
    refine ev_icmp_geN (pc := 9) (tgt := 22) dJ7_fill_d0a16_9 (by decide) (by omega) (by omega) (fun c1 => ?_) (fun c1 => ?_)
    · exact ev_vret (pc := 22) dJ7_fill_d0a16_22 rfl (hK f (fun j hj => hf j (by omega)))
    · omega
  | k + 1, i, f, e, hf => by
    refine ev_iload_n (pc := 6) dJ7_fill_d0a16_6 rfl ?_
    refine ev_iload (pc := 7) dJ7_fill_d0a16_7 rfl ?_
    refine ev_icmp_geN (pc := 9) (tgt := 22) dJ7_fill_d0a16_9 (by decide) (by omega) (by omega) (fun c1 => ?_) (fun c1 => ?_)
    · omega
    · refine ev_aload_n (pc := 12) dJ7_fill_d0a16_12 rfl ?_
      refine ev_iload_n (pc := 13) dJ7_fill_d0a16_13 rfl ?_
      refine ev_lload_n (pc := 14) dJ7_fill_d0a16_14 rfl ?_
      refine ev_last (pc := 15) dJ7_fill_d0a16_15 ev_eqq (vp_in_nI (by omega) hN) ?_
      refine ev_th (h2 := ev_up H a (.inl (.long, N, .inr (.inl (fun j => lN (va_up f i v j)))))) (by rw [sh_upl _ _ _ (by omega)]; funext x; unfold ev_up; by_cases e : x = a <;> simp [e]) ?_
      refine ev_iincN (pc := 16) dJ7_fill_d0a16_16 rfl rfl ?_
      refine ev_goto (pc := 19) (tgt := 6) dJ7_fill_d0a16_19 (by decide) ?_
      refine ev_vs [(0, .ref a), (1, .long (lN v)), (3, .int (nI (i + 1))), (4, .int (nI N))] ⟨rfl, rfl, rfl, rfl, trivial⟩ ?_
      refine l_fillL hN hK k (i + 1) _ (by omega) (fun j hj => ?_)
      unfold va_up
      split
      · rfl
      · exact hf j (by omega)
theorem ev_upid {a : Nat} {x : ev_C} (h : H a = some x) : ev_up H a x = H := by
  funext q
  unfold ev_up
  by_cases e : q = a
  · rw [if_pos e, e, h]
  · rw [if_neg e]
theorem k_fillL {a N v : Nat} {f : Nat → Nat} (hd : 1 ≤ dd) (hN : N < 2 ^ 31) (ha : H a = some (.inl (.long, N, .inr (.inl (fun j => lN (f j)))))) : ev_Ca G dd w m_J7_fill_d0a16 [.ref a, .long (lN v)] H 0 0 (ev_ok (fun r h1 => r = none ∧ ∃ f2 : Nat → Nat, (∀ j, j < N → f2 j = v) ∧ h1 = ev_up H a (.inl (.long, N, .inr (.inl (fun j => lN (f2 j))))))) := by
  obtain ⟨dd, rfl⟩ : ∃ e, dd = e + 1 := ⟨dd - 1, by omega⟩
  refine ⟨by decide +kernel, rfl, ?_⟩
  refine ev_iconst (pc := 0) (v := nI 0) dJ7_fill_d0a16_0 (by decide) ?_
  refine ev_istore_n (pc := 1) dJ7_fill_d0a16_1 rfl ?_
  refine ev_aload_n (pc := 2) dJ7_fill_d0a16_2 rfl ?_
  refine ev_alen (pc := 3) dJ7_fill_d0a16_3 ha ?_
  refine ev_istore (pc := 4) dJ7_fill_d0a16_4 rfl ?_
  refine ev_vs [(0, .ref a), (1, .long (lN v)), (3, .int (nI 0)), (4, .int (nI N))] ⟨rfl, rfl, rfl, rfl, trivial⟩ ?_
  refine ev_th (ev_upid ha).symm ?_
  exact l_fillL hN (fun f2 hf2 => ⟨rfl, f2, hf2, rfl⟩) N 0 f (by omega) (fun j hj => absurd hj (Nat.not_lt_zero j))
/-- factors that are all 1 -/
theorem k_resetFactors (hd : 2 ≤ dd) (hw : 24 ≤ w) (h : SH H S sa P fu fd mem) (hD : SD sa) : ev_Ca G dd w m_X5_resetFactors [.ref S] H 0 0 (ev_ok (fun r h1 => r = none ∧ ∃ fu2 fd2 : Nat → Nat, (∀ j, j < 8 → fu2 j = 1) ∧ (∀ j, j < 8 → fd2 j = 1) ∧ SH h1 S sa P fu2 fd2 mem ∧ SF S sa H h1)) := by
  obtain ⟨dd, rfl⟩ : ∃ e, dd = e + 1 := ⟨dd - 1, by omega⟩
  refine ⟨by decide +kernel, rfl, ?_⟩
  obtain ⟨a1, a2, a3, a4, a5⟩ := id h
  refine ev_aload_n (pc := 0) dX5_resetFactors_0 rfl ?_
  refine ev_getf (pc := 1) dX5_resetFactors_1 f_X5_14 h.1 rfl ?_
  refine ev_lconst (pc := 4) (v := lN 1) dX5_resetFactors_4 (by decide) ?_
  refine ev_callS (pc := 5) (As := [.ref (sa 4), .long (lN 1)]) dX5_resetFactors_5 cs_X5_44 rfl rfl ⟨by show 19 + 5 ≤ w; omega, show ev_Ca _ _ (w - 24) _ _ _ _ _ _ from k_fillL (by omega) (by decide) a4⟩ rfl rfl (fun r h1 hp => ?_)
  obtain ⟨rfl, f2, hf2, rfl⟩ := hp
  have h2 : SH (ev_up H (sa 4) (.inl (.long, 8, .inr (.inl (fun j => lN (f2 j)))))) S sa P f2 fd mem := ⟨(ev_nee (ne_of a1 a4 (fun q => by cases q)) a1), (ev_nee (ne_of a2 a4 (fun q => by cases q)) a2), fun b hb => (ev_nee (ne_of (a3 b hb) a4 (fun q => by cases q)) (a3 b hb)), ev_eqq, (ev_nee (Ne.symm hD.2.2.2) a5)⟩
  have g2 : SF S sa H (ev_up H (sa 4) (.inl (.long, 8, .inr (.inl (fun j => lN (f2 j)))))) := fun a _ hy => ev_nee (hy 4 (by omega) (by omega)) rfl
  obtain ⟨b1, b2, b3, b4, b5⟩ := id h2
  refine ev_aload_n (pc := 8) dX5_resetFactors_8 rfl ?_
  refine ev_getf (pc := 9) dX5_resetFactors_9 f_X5_18 b1 rfl ?_
  refine ev_lconst (pc := 12) (v := lN 1) dX5_resetFactors_12 (by decide) ?_
  refine ev_callS (pc := 13) (As := [.ref (sa 5), .long (lN 1)]) dX5_resetFactors_13 cs_X5_44 rfl rfl ⟨by show 19 + 5 ≤ w; omega, show ev_Ca _ _ (w - 24) _ _ _ _ _ _ from k_fillL (by omega) (by decide) b5⟩ rfl rfl (fun r h1 hp => ?_)
  obtain ⟨rfl, f3, hf3, rfl⟩ := hp
  refine ev_vret (pc := 16) dX5_resetFactors_16 rfl ⟨rfl, f2, f3, hf2, hf3, ⟨(ev_nee (ne_of b1 b5 (fun q => by cases q)) b1), (ev_nee (ne_of b2 b5 (fun q => by cases q)) b2), fun b hb => (ev_nee (ne_of (b3 b hb) b5 (fun q => by cases q)) (b3 b hb)), (ev_nee hD.2.2.2 b4), ev_eqq⟩, g2.tr (fun a _ hy => ev_nee (hy 5 (by omega) (by omega)) rfl)⟩
theorem k_putFactor {up dn : Nat} (hd : 2 ≤ dd) (hw : 30 ≤ w) (h : SH H S sa P fu fd mem) (hD : SD sa) (hs : s < 8) (h1 : 0 < up) (h2 : up < 2 ^ 63) (h3 : 0 < dn) (h4 : dn < 2 ^ 63) : ev_Ca G dd w m_X5_putFactor [.ref S, .int (nI s), .long (lN up), .long (lN dn)] H 0 0 (ev_ok (fun r h1 => r = none ∧ SH h1 S sa P (va_up fu s (up / Nat.gcd up dn)) (va_up fd s (dn / Nat.gcd up dn)) mem ∧ SF S sa H h1)) := by
  obtain ⟨dd, rfl⟩ : ∃ e, dd = e + 1 := ⟨dd - 1, by omega⟩
  refine ⟨by decide +kernel, rfl, ?_⟩
  have g0 : 0 < Nat.gcd up dn := Nat.gcd_pos_of_pos_left _ h1
  have g1 : Nat.gcd up dn ≤ up := Nat.gcd_le_left _ h1
  refine ev_lload_n (pc := 0) dX5_putFactor_0 rfl ?_
  refine ev_lload (pc := 1) dX5_putFactor_1 rfl ?_
  refine ev_callS (pc := 3) (As := [.long (lN up), .long (lN dn)]) dX5_putFactor_3 cs_X5_113 rfl rfl ⟨by show 19 + 11 ≤ w; omega, show ev_Ca _ _ (w - 30) _ _ _ _ _ _ from k_commonDivisor (by omega) h2 h4⟩ rfl rfl (fun r h1 hp => ?_)
  obtain ⟨rfl, hH⟩ := hp
  rw [hH]
  clear hH
  refine ev_lstore (pc := 6) dX5_putFactor_6 rfl ?_
  refine ev_lload (pc := 8) dX5_putFactor_8 rfl ?_
  refine ev_lconst (pc := 10) (v := lN 0) dX5_putFactor_10 (by decide) ?_
  refine ev_lc_le (pc := 11) (tgt := 36) dX5_putFactor_11 dX5_putFactor_12 (by decide) (by omega) (by omega) (fun c1 => ?_) (fun c1 => ?_)
  · omega
  · refine ev_aload_n (pc := 15) dX5_putFactor_15 rfl ?_
    refine ev_getf (pc := 16) dX5_putFactor_16 f_X5_14 h.1 rfl ?_
    refine ev_iload_n (pc := 19) dX5_putFactor_19 rfl ?_
    refine ev_lload_n (pc := 20) dX5_putFactor_20 rfl ?_
    refine ev_lload (pc := 21) dX5_putFactor_21 rfl ?_
    refine ev_ldivN (pc := 23) dX5_putFactor_23 (by omega) (by omega) (by omega) ?_
    refine ev_last (pc := 24) dX5_putFactor_24 h.2.2.2.1 (vp_in_nI hs (by decide)) ?_
    obtain ⟨hS3, hF3⟩ := sh_putU (j := s) (x := up / Nat.gcd up dn) h hD hs
    refine ev_aload_n (pc := 25) dX5_putFactor_25 rfl ?_
    refine ev_getf (pc := 26) dX5_putFactor_26 f_X5_18 hS3.1 rfl ?_
    refine ev_iload_n (pc := 29) dX5_putFactor_29 rfl ?_
    refine ev_lload (pc := 30) dX5_putFactor_30 rfl ?_
    refine ev_lload (pc := 32) dX5_putFactor_32 rfl ?_
    refine ev_ldivN (pc := 34) dX5_putFactor_34 (by omega) (by omega) (by omega) ?_
    refine ev_last (pc := 35) dX5_putFactor_35 hS3.2.2.2.2 (vp_in_nI hs (by decide)) ?_
    obtain ⟨hS4, hF4⟩ := sh_putD (j := s) (x := dn / Nat.gcd up dn) hS3 hD hs
    exact ev_vret (pc := 36) dX5_putFactor_36 rfl ⟨rfl, hS4, hF3.tr hF4⟩
/-- the plain worth of some shares -/
def sw (P : Nat → Nat → Nat) (b : Nat) : Nat → Nat
  | 0 => 0
  | k + 1 => sw P b k + (if b / 2 ^ k % 2 = 1 then pw P k else 0)
theorem sw_b {P : Nat → Nat → Nat} (hP : P_ok P) (b : Nat) : ∀ k, k ≤ 8 → sw P b k ≤ k * 10000000000000000
  | 0, _ => by show 0 ≤ _; omega
  | k + 1, hk => by
    have h1 := sw_b hP b k (by omega)
    have h2 := pw_b hP (show k < 8 by omega)
    obtain ⟨h3, h4⟩ := h2
    show sw P b k + (if b / 2 ^ k % 2 = 1 then pw P k else 0) ≤ _
    rw [Nat.add_mul, Nat.one_mul]
    refine Nat.add_le_add h1 ?_
    split
    · exact Nat.le_of_lt h4
    · exact Nat.zero_le _
theorem l_pwo {K : ev_K} {c z b : Nat} (hd : 1 ≤ dd) (hw : 21 ≤ w) (h : SH H S sa P fu fd mem) (hP : P_ok P) (hb : b < 256) (hK : K (.inl (some (.long (lN (sw P b 8))))) H) : ∀ k s, s + k = 8 → ev_J G (ev_cc G dd w) w m_X5_plainWorthOf K (5, ev_lf [(0, .ref S), (1, .int (nI b)), (2, .long (lN (sw P b s))), (4, .int (nI s))], [], H, c, z)
  | 0, s, e => by
    refine ev_iload (pc := 5) dX5_plainWorthOf_5 rfl ?_
    refine ev_bipush (pc := 7) (v := nI 8) dX5_plainWorthOf_7 (by decide) ?_
    refine ev_icmp_geN (pc := 9) (tgt := 37) dX5_plainWorthOf_9 (by decide) (by omega) (by omega) (fun c1 => ?_) (fun c1 => ?_)
    · have : s = 8 := by omega
      subst this
      refine ev_lload_n (pc := 37) dX5_plainWorthOf_37 rfl ?_
      exact ev_lret (pc := 38) dX5_plainWorthOf_38 rfl hK
    · omega
  | k + 1, s, e => by
    have hle : b / 2 ^ s ≤ b := Nat.div_le_self _ _
    have hsw := sw_b hP b s (by omega)
    have hpw := pw_b hP (show s < 8 by omega)
    refine ev_iload (pc := 5) dX5_plainWorthOf_5 rfl ?_
    refine ev_bipush (pc := 7) (v := nI 8) dX5_plainWorthOf_7 (by decide) ?_
    refine ev_icmp_geN (pc := 9) (tgt := 37) dX5_plainWorthOf_9 (by decide) (by omega) (by omega) (fun c1 => ?_) (fun c1 => ?_)
    · omega
    · refine ev_iload_n (pc := 12) dX5_plainWorthOf_12 rfl ?_
      refine ev_iload (pc := 13) dX5_plainWorthOf_13 rfl ?_
      refine ev_ishr (pc := 15) dX5_plainWorthOf_15 (ev_ti (mi_shr (by omega) (by omega)) ?_)
      refine ev_iconst (pc := 16) (v := nI 1) dX5_plainWorthOf_16 (by decide) ?_
      refine ev_iand (pc := 17) dX5_plainWorthOf_17 (ev_ti (mi_and1 (by omega)) ?_)
      refine ev_iconst (pc := 18) (v := nI 1) dX5_plainWorthOf_18 (by decide) ?_
      refine ev_icmp_neN (pc := 19) (tgt := 31) dX5_plainWorthOf_19 (by decide) (by omega) (by omega) (fun c2 => ?_) (fun c2 => ?_)
      · refine ev_iincN (pc := 31) dX5_plainWorthOf_31 rfl rfl ?_
        refine ev_goto (pc := 34) (tgt := 5) dX5_plainWorthOf_34 (by decide) ?_
        have es : sw P b (s + 1) = sw P b s := by show sw P b s + (if _ then _ else _) = _; rw [if_neg c2, Nat.add_zero]
        refine ev_vs [(0, .ref S), (1, .int (nI b)), (2, .long (lN (sw P b (s + 1)))), (4, .int (nI (s + 1)))] ⟨rfl, rfl, by rw [es]; rfl, rfl, trivial⟩ ?_
        exact l_pwo hd hw h hP hb hK k (s + 1) (by omega)
      · refine ev_lload_n (pc := 22) dX5_plainWorthOf_22 rfl ?_
        refine ev_aload_n (pc := 23) dX5_plainWorthOf_23 rfl ?_
        refine ev_iload (pc := 24) dX5_plainWorthOf_24 rfl ?_
        refine ev_callV (pc := 26) (As := [.int (nI s)]) dX5_plainWorthOf_26 cv_X5_106 rfl rfl h.1 rfl ⟨by show 19 + 2 ≤ w; omega, show ev_Ca _ _ (w - 21) _ _ _ _ _ _ from k_plainWorth (by omega) h hP (by omega)⟩ rfl rfl (fun r h1 hp => ?_)
        obtain ⟨rfl, hH⟩ := hp
        rw [hH]
        clear hH h1
        refine ev_laddN (pc := 29) dX5_plainWorthOf_29 ?_
        refine ev_lstore_n (pc := 30) dX5_plainWorthOf_30 rfl ?_
        refine ev_iincN (pc := 31) dX5_plainWorthOf_31 rfl rfl ?_
        refine ev_goto (pc := 34) (tgt := 5) dX5_plainWorthOf_34 (by decide) ?_
        have es : sw P b (s + 1) = sw P b s + pw P s := by show sw P b s + (if _ then _ else _) = _; rw [if_pos c2]
        refine ev_vs [(0, .ref S), (1, .int (nI b)), (2, .long (lN (sw P b (s + 1)))), (4, .int (nI (s + 1)))] ⟨rfl, rfl, by rw [es]; rfl, rfl, trivial⟩ ?_
        exact l_pwo hd hw h hP hb hK k (s + 1) (by omega)
theorem k_plainWorthOf {b : Nat} (hd : 2 ≤ dd) (hw : 21 ≤ w) (h : SH H S sa P fu fd mem) (hP : P_ok P) (hb : b < 256) : ev_Ca G dd w m_X5_plainWorthOf [.ref S, .int (nI b)] H 0 0 (ev_ok (fun r h1 => r = some (.long (lN (sw P b 8))) ∧ h1 = H)) := by
  obtain ⟨dd, rfl⟩ : ∃ e, dd = e + 1 := ⟨dd - 1, by omega⟩
  refine ⟨by decide +kernel, rfl, ?_⟩
  refine ev_lconst (pc := 0) (v := lN 0) dX5_plainWorthOf_0 (by decide) ?_
  refine ev_lstore_n (pc := 1) dX5_plainWorthOf_1 rfl ?_
  refine ev_iconst (pc := 2) (v := nI 0) dX5_plainWorthOf_2 (by decide) ?_
  refine ev_istore (pc := 3) dX5_plainWorthOf_3 rfl ?_
  refine ev_vs [(0, .ref S), (1, .int (nI b)), (2, .long (lN (sw P b 0))), (4, .int (nI 0))] ⟨rfl, rfl, rfl, rfl, trivial⟩ ?_
  exact l_pwo (by omega) hw h hP hb ⟨rfl, rfl⟩ 8 0 (by omega)
end SHM3
end
section
/-! Shares: caps -/
def bt (x s : Nat) : Nat := x / 2 ^ s % 2
theorem bt_tb (x s : Nat) : bt x s = (x.testBit s).toNat := by
  unfold bt
  rw [Nat.testBit_eq_decide_div_mod_eq]
  rcases Nat.mod_two_eq_zero_or_one (x / 2 ^ s) with h | h <;> rw [h] <;> rfl
theorem bt_le (x s : Nat) : bt x s ≤ 1 := by unfold bt; omega
theorem bt_and (x y s : Nat) : bt (x &&& y) s = bt x s * bt y s := by
  rw [bt_tb, bt_tb, bt_tb, Nat.testBit_and]
  cases x.testBit s <;> cases y.testBit s <;> rfl
theorem bt_or {x y s : Nat} (h : bt x s * bt y s = 0) : bt (x ||| y) s = bt x s + bt y s := by
  rw [bt_tb, bt_tb] at h
  rw [bt_tb, bt_tb, bt_tb, Nat.testBit_or]
  cases hx : x.testBit s <;> cases hy : y.testBit s <;> first | rfl | (rw [hx, hy] at h; cases h)
/-- the bits of m that l does not have -/
def am (m l : Nat) : Nat := m &&& (255 ^^^ l)
theorem bt_am {m l s : Nat} (hs : s < 8) (hl : l < 256) : bt (am m l) s = bt m s * (1 - bt l s) := by
  unfold am
  rw [bt_and]
  congr 1
  rw [bt_tb, bt_tb, Nat.testBit_xor, show (255 : Nat).testBit s = true by rw [show (255 : Nat) = 2 ^ 8 - 1 by decide, Nat.testBit_two_pow_sub_one]; simpa using hs]
  cases l.testBit s <;> rfl
theorem am_lt {m l : Nat} (hm : m < 256) : am m l < 256 := Nat.lt_of_le_of_lt Nat.and_le_left hm
theorem or_lt {m l : Nat} (hm : m < 256) (hl : l < 256) : m ||| l < 256 := Nat.or_lt_two_pow (n := 8) hm hl
theorem i_and (a b : Nat) : nI a &&& nI b = nI (a &&& b) := by
  apply Int32.toBitVec_inj.mp
  show BitVec.ofNat 32 a &&& BitVec.ofNat 32 b = BitVec.ofNat 32 (a &&& b)
  apply BitVec.eq_of_toNat_eq
  simp [BitVec.toNat_and, Nat.and_mod_two_pow]
theorem i_or (a b : Nat) : nI a ||| nI b = nI (a ||| b) := by
  apply Int32.toBitVec_inj.mp
  show BitVec.ofNat 32 a ||| BitVec.ofNat 32 b = BitVec.ofNat 32 (a ||| b)
  apply BitVec.eq_of_toNat_eq
  simp [BitVec.toNat_or, Nat.or_mod_two_pow]
theorem i_xor (a b : Nat) : nI a ^^^ nI b = nI (a ^^^ b) := by
  apply Int32.toBitVec_inj.mp
  show BitVec.ofNat 32 a ^^^ BitVec.ofNat 32 b = BitVec.ofNat 32 (a ^^^ b)
  apply BitVec.eq_of_toNat_eq
  simp [BitVec.toNat_xor, Nat.xor_mod_two_pow]
theorem i_am {m l : Nat} (hm : m < 256) : nI m &&& (nI l ^^^ (-1)) = nI (am m l) := by
  rw [show (-1 : Int32) = nI 4294967295 by decide, i_xor, i_and]
  congr 1
  unfold am
  apply Nat.eq_of_testBit_eq
  intro i
  rw [Nat.testBit_and, Nat.testBit_and, Nat.testBit_xor, Nat.testBit_xor]
  by_cases hi : i < 8
  · rw [show (4294967295 : Nat) = 2 ^ 32 - 1 by decide, show (255 : Nat) = 2 ^ 8 - 1 by decide, Nat.testBit_two_pow_sub_one, Nat.testBit_two_pow_sub_one, decide_eq_true hi, decide_eq_true (show i < 32 by omega), Bool.xor_comm]
  · rw [Nat.testBit_lt_two_pow (x := m) (i := i) (Nat.lt_of_lt_of_le hm (show 256 ≤ 2 ^ i from by rw [show (256 : Nat) = 2 ^ 8 by decide]; exact Nat.pow_le_pow_right (by decide) (by omega)))]
    rfl
theorem pc8_bt (x : Nat) : pc8 x = bt x 0 + bt x 1 + bt x 2 + bt x 3 + bt x 4 + bt x 5 + bt x 6 + bt x 7 := by
  unfold pc8 bt
  simp
section CAP
variable (P : Nat → Nat → Nat) (mem a l : Nat)
/-- who becomes large beside those of l -/
def cnd (s : Nat) : Prop := bt (am mem l) s = 1 ∧ a * sw P (am mem l) 8 < pw P s * (100 - a * pc8 l)
noncomputable def fo : Nat → Nat
  | 0 => 0
  | k + 1 => fo k + @ite _ (cnd P mem a l k) (Classical.propDecidable _) (2 ^ k) 0
end CAP
theorem fo_c {P : Nat → Nat → Nat} {mem a l k : Nat} : (cnd P mem a l k ∧ fo P mem a l (k + 1) = fo P mem a l k + 2 ^ k) ∨ (¬ cnd P mem a l k ∧ fo P mem a l (k + 1) = fo P mem a l k) := by
  by_cases h : cnd P mem a l k
  · refine Or.inl ⟨h, ?_⟩
    show fo P mem a l k + @ite _ (cnd P mem a l k) (Classical.propDecidable _) (2 ^ k) 0 = _
    rw [if_pos h]
  · refine Or.inr ⟨h, ?_⟩
    show fo P mem a l k + @ite _ (cnd P mem a l k) (Classical.propDecidable _) (2 ^ k) 0 = _
    rw [if_neg h, Nat.add_zero]
theorem bt_low {x k s c : Nat} (hs : s < k) : bt (x + 2 ^ k * c) s = bt x s := by
  unfold bt
  obtain ⟨r, rfl⟩ : ∃ r, k = s + 1 + r := ⟨k - s - 1, by omega⟩
  rw [show 2 ^ (s + 1 + r) * c = 2 ^ s * (2 * (2 ^ r * c)) by rw [Nat.pow_add, Nat.pow_succ, Nat.mul_assoc, Nat.mul_assoc], Nat.add_mul_div_left _ _ (Nat.pow_pos (by decide))]
  omega
theorem bt_at {x k : Nat} (hx : x < 2 ^ k) : bt (x + 2 ^ k) k = 1 ∧ bt x k = 0 := by
  unfold bt
  constructor
  · rw [show x + 2 ^ k = x + 2 ^ k * 1 by omega, Nat.add_mul_div_left _ _ (Nat.pow_pos (by decide)), Nat.div_eq_of_lt hx]
  · rw [Nat.div_eq_of_lt hx]
theorem fo_bt {P : Nat → Nat → Nat} {mem a l : Nat} : ∀ k, fo P mem a l k < 2 ^ k ∧ ∀ s, s < k → (bt (fo P mem a l k) s = 1 ↔ cnd P mem a l s)
  | 0 => ⟨by show 0 < 1; decide, fun s h => absurd h (Nat.not_lt_zero s)⟩
  | k + 1 => by
    obtain ⟨h1, h2⟩ := fo_bt (P := P) (mem := mem) (a := a) (l := l) k
    have e2 : 2 ^ (k + 1) = 2 ^ k * 2 := Nat.pow_succ ..
    rcases fo_c (P := P) (mem := mem) (a := a) (l := l) (k := k) with ⟨c, e⟩ | ⟨c, e⟩
    · rw [e]
      refine ⟨by omega, fun s hs => ?_⟩
      rcases Nat.lt_or_ge s k with q | q
      · rw [show fo P mem a l k + 2 ^ k = fo P mem a l k + 2 ^ k * 1 by omega, bt_low q]
        exact h2 s q
      · rw [show s = k by omega, (bt_at h1).1]
        exact ⟨fun _ => c, fun _ => rfl⟩
    · rw [e]
      refine ⟨by omega, fun s hs => ?_⟩
      rcases Nat.lt_or_ge s k with q | q
      · exact h2 s q
      · rw [show s = k by omega, (bt_at h1).2]
        exact ⟨fun x => absurd x (by decide), fun x => absurd x c⟩
/-- the weight of those found, and their number -/
def pr (x : Nat) : Nat → Nat
  | 0 => 0
  | k + 1 => pr x k + bt x k
theorem pr8 (x : Nat) : pr x 8 = pc8 x := by
  rw [pc8_bt]
  show 0 + bt x 0 + bt x 1 + bt x 2 + bt x 3 + bt x 4 + bt x 5 + bt x 6 + bt x 7 = _
  omega
theorem fo_sum {P : Nat → Nat → Nat} {mem a l : Nat} (hP : P_ok P) : ∀ k, k ≤ 8 → a * pr (fo P mem a l 8) k * sw P (am mem l) 8 ≤ sw P (fo P mem a l 8) k * (100 - a * pc8 l) ∧ (0 < pr (fo P mem a l 8) k → a * pr (fo P mem a l 8) k * sw P (am mem l) 8 < sw P (fo P mem a l 8) k * (100 - a * pc8 l)) ∧ sw P (fo P mem a l 8) k ≤ sw P (am mem l) k
  | 0, _ => ⟨by show a * 0 * _ ≤ 0 * _; simp, fun h => absurd h (Nat.lt_irrefl 0), Nat.le_refl _⟩
  | k + 1, hk => by
    obtain ⟨h1, h2, h3⟩ := fo_sum (mem := mem) (a := a) (l := l) hP k (by omega)
    have hb := (fo_bt (P := P) (mem := mem) (a := a) (l := l) 8).2 k (by omega)
    have hbl := bt_le (fo P mem a l 8) k
    show a * (pr _ k + bt _ k) * _ ≤ (sw P _ k + (if bt _ k = 1 then pw P k else 0)) * _ ∧ (0 < pr _ k + bt _ k → a * (pr _ k + bt _ k) * _ < (sw P _ k + (if bt _ k = 1 then pw P k else 0)) * _) ∧ sw P _ k + (if bt _ k = 1 then pw P k else 0) ≤ sw P _ k + (if bt (am mem l) k = 1 then pw P k else 0)
    by_cases c : bt (fo P mem a l 8) k = 1
    · have c2 := hb.mp c
      rw [if_pos c, c, if_pos c2.1]
      have e1 : a * (pr (fo P mem a l 8) k + 1) * sw P (am mem l) 8 = a * pr (fo P mem a l 8) k * sw P (am mem l) 8 + a * sw P (am mem l) 8 := by rw [Nat.mul_add, Nat.mul_one, Nat.add_mul]
      have e2 : (sw P (fo P mem a l 8) k + pw P k) * (100 - a * pc8 l) = sw P (fo P mem a l 8) k * (100 - a * pc8 l) + pw P k * (100 - a * pc8 l) := Nat.add_mul ..
      have e3 := c2.2
      rw [e1, e2]
      exact ⟨Nat.le_of_lt (Nat.add_lt_add_of_le_of_lt h1 e3), fun _ => Nat.add_lt_add_of_le_of_lt h1 e3, Nat.add_le_add_right h3 _⟩
    · have c0 : bt (fo P mem a l 8) k = 0 := by omega
      rw [if_neg c, c0]
      refine ⟨h1, h2, Nat.le_trans h3 (Nat.le_add_right _ _)⟩
/-- what holds of those that are large -/
def lg_ok (mem a l : Nat) : Prop := l < 256 ∧ (∀ s, s < 8 → bt l s = 1 → bt mem s = 1) ∧ a * pc8 l < 100
theorem lg_step {P : Nat → Nat → Nat} {mem a l : Nat} (hP : P_ok P) (h : lg_ok mem a l) : lg_ok mem a (l ||| fo P mem a l 8) ∧ pc8 (l ||| fo P mem a l 8) = pc8 l + pc8 (fo P mem a l 8) ∧ (fo P mem a l 8 = 0 ∨ 0 < pc8 (fo P mem a l 8)) ∧ fo P mem a l 8 < 256 := by
  obtain ⟨h1, h2, h3⟩ := h
  obtain ⟨f1, f2⟩ := fo_bt (P := P) (mem := mem) (a := a) (l := l) 8
  have dis : ∀ s, s < 8 → bt l s * bt (fo P mem a l 8) s = 0 := by
    intro s hs
    have q1 := bt_le l s
    have q2 := bt_le (fo P mem a l 8) s
    rcases Nat.eq_zero_or_pos (bt (fo P mem a l 8) s) with e | e
    · rw [e, Nat.mul_zero]
    · have c := (f2 s hs).mp (by omega)
      have c1 := c.1
      rw [bt_am hs h1] at c1
      rcases Nat.eq_zero_or_pos (bt l s) with e2 | e2
      · rw [e2, Nat.zero_mul]
      · rw [show 1 - bt l s = 0 by omega, Nat.mul_zero] at c1
        cases c1
  have hor : ∀ s, s < 8 → bt (l ||| fo P mem a l 8) s = bt l s + bt (fo P mem a l 8) s := fun s hs => bt_or (dis s hs)
  have hpc : pc8 (l ||| fo P mem a l 8) = pc8 l + pc8 (fo P mem a l 8) := by
    rw [pc8_bt, pc8_bt, pc8_bt, hor 0 (by decide), hor 1 (by decide), hor 2 (by decide), hor 3 (by decide), hor 4 (by decide), hor 5 (by decide), hor 6 (by decide), hor 7 (by decide)]
    omega
  obtain ⟨s1, s2, s3⟩ := fo_sum (mem := mem) (a := a) (l := l) hP 8 (Nat.le_refl 8)
  rw [pr8] at s1 s2
  have hlt : a * pc8 (fo P mem a l 8) < 100 - a * pc8 l := by
    rcases Nat.eq_zero_or_pos (pc8 (fo P mem a l 8)) with e | e
    · rw [e, Nat.mul_zero]; omega
    · have t1 := s2 e
      have t2 : sw P (fo P mem a l 8) 8 * (100 - a * pc8 l) ≤ sw P (am mem l) 8 * (100 - a * pc8 l) := Nat.mul_le_mul_right _ s3
      have t3 : sw P (am mem l) 8 * (a * pc8 (fo P mem a l 8)) < sw P (am mem l) 8 * (100 - a * pc8 l) := by
        rw [Nat.mul_comm]
        exact Nat.lt_of_lt_of_le t1 t2
      exact Nat.lt_of_mul_lt_mul_left t3
  refine ⟨⟨or_lt h1 f1, fun s hs hb => ?_, ?_⟩, hpc, ?_, f1⟩
  · rw [hor s hs] at hb
    rcases Nat.eq_zero_or_pos (bt l s) with e | e
    · have c := (f2 s hs).mp (by omega)
      have c1 := c.1
      rw [bt_am hs h1] at c1
      have q := bt_le mem s
      rcases Nat.eq_zero_or_pos (bt mem s) with e2 | e2
      · rw [e2, Nat.zero_mul] at c1; cases c1
      · omega
    · exact h2 s hs (by have := bt_le l s; omega)
  · rw [hpc, Nat.mul_add]; omega
  · rcases Nat.eq_zero_or_pos (fo P mem a l 8) with e | e
    · exact Or.inl e
    · refine Or.inr ?_
      rcases Nat.eq_zero_or_pos (pc8 (fo P mem a l 8)) with e2 | e2
      · exfalso
        rw [pc8_bt] at e2
        have z : ∀ i, (fo P mem a l 8).testBit i = false := by
          intro i
          by_cases hi : i < 8
          · have : bt (fo P mem a l 8) i = 0 := by
              rcases (show i = 0 ∨ i = 1 ∨ i = 2 ∨ i = 3 ∨ i = 4 ∨ i = 5 ∨ i = 6 ∨ i = 7 by omega) with r | r | r | r | r | r | r | r <;> (rw [r]; omega)
            rw [bt_tb] at this
            cases hx : (fo P mem a l 8).testBit i
            · rfl
            · rw [hx] at this; cases this
          · exact Nat.testBit_lt_two_pow (Nat.lt_of_lt_of_le f1 (Nat.pow_le_pow_right (by decide) (by omega)))
        have : fo P mem a l 8 = 0 := Nat.eq_of_testBit_eq (fun i => by rw [z i, Nat.zero_testBit])
        omega
      · exact e2
/-- someone is not large -/
theorem sw_pos {P : Nat → Nat → Nat} {mem a l : Nat} (hP : P_ok P) (h : lg_ok mem a l) (hm : mem < 256) (hc : 100 ≤ a * pc8 mem) : 0 < sw P (am mem l) 8 := by
  obtain ⟨h1, h2, h3⟩ := h
  have h4 : pc8 l < pc8 mem := by
    rcases Nat.lt_or_ge (pc8 l) (pc8 mem) with q | q
    · exact q
    · have := Nat.mul_le_mul_left a q; omega
  have key : ∃ s, s < 8 ∧ bt (am mem l) s = 1 := by
    rcases Classical.em (∃ s, s < 8 ∧ bt (am mem l) s = 1) with q | q
    · exact q
    · exfalso
      have z : ∀ s, s < 8 → bt mem s ≤ bt l s := by
        intro s hs
        have q1 := bt_le mem s
        have q2 := bt_le l s
        rcases Nat.lt_or_ge (bt l s) (bt mem s) with r | r
        · exfalso
          refine q ⟨s, hs, ?_⟩
          rw [bt_am hs h1, show bt mem s = 1 by omega, show bt l s = 0 by omega]
        · exact r
      rw [pc8_bt, pc8_bt] at h4
      have := z 0 (by decide); have := z 1 (by decide); have := z 2 (by decide); have := z 3 (by decide)
      have := z 4 (by decide); have := z 5 (by decide); have := z 6 (by decide); have := z 7 (by decide)
      omega
  obtain ⟨s, hs, hb⟩ := key
  have mono : ∀ k, k ≤ 8 → s < k → 0 < sw P (am mem l) k := by
    intro k
    induction k with
    | zero => intro _ h; exact absurd h (Nat.not_lt_zero s)
    | succ k ih =>
      intro hk hsk
      show 0 < sw P (am mem l) k + (if bt (am mem l) k = 1 then pw P k else 0)
      rcases Nat.lt_or_ge s k with q | q
      · exact Nat.lt_of_lt_of_le (ih (by omega) q) (Nat.le_add_right _ _)
      · have e : s = k := by omega
        rw [← e, if_pos hb]
        exact Nat.lt_of_lt_of_le (pw_b hP hs).1 (Nat.le_add_left _ _)
  exact mono 8 (Nat.le_refl 8) hs
/-- the large ones, in so many rounds at most -/
noncomputable def lgf (P : Nat → Nat → Nat) (mem a : Nat) : Nat → Nat → Nat
  | 0, l => l
  | n + 1, l => if fo P mem a l 8 = 0 then l else lgf P mem a n (l ||| fo P mem a l 8)
theorem lgf_ok {P : Nat → Nat → Nat} {mem a : Nat} (hP : P_ok P) : ∀ n l, lg_ok mem a l → lg_ok mem a (lgf P mem a n l)
  | 0, l, h => h
  | n + 1, l, h => by
    unfold lgf
    split
    · exact h
    · exact lgf_ok hP n _ (lg_step hP h).1
end
section
/-! Shares: findLarge, cap, change, copy -/
section CAP2
variable {G : ev_G} {w : Nat} {H : ev_H} {D S : Nat} {i j k dd s : Nat} {sa : Nat → Nat} {P : Nat → Nat → Nat} {fu fd : Nat → Nat} {mem : Nat}
theorem l_found {K : ev_K} {c z a l r : Nat} (hd : 1 ≤ dd) (hw : 24 ≤ w) (h : SH H S sa P fu fd mem) (hP : P_ok P) (hm : mem < 256) (ha : a ≤ 100) (hl : l < 256) (hlt : a * pc8 l < 100)
    (hK : ev_J G (ev_cc G dd w) w m_X5_findLarge K (120, ev_lf [(0, .ref S), (1, .int (nI a)), (2, .int (nI l)), (3, .int (nI (fo P mem a l 8))), (4, .int (nI r))], [], H, c, z)) :
    ∀ k s, s + k = 8 → ev_J G (ev_cc G dd w) w m_X5_findLarge K (56, ev_lf [(0, .ref S), (1, .int (nI a)), (2, .int (nI l)), (3, .int (nI (fo P mem a l s))), (4, .int (nI r)), (5, .long (lN (a * sw P (am mem l) 8))), (7, .long (lN (100 - a * pc8 l))), (9, .int (nI s))], [], H, c, z)
  | 0, s, e => by
    refine ev_iload (pc := 56) dX5_findLarge_56 rfl ?_
    refine ev_bipush (pc := 58) (v := nI 8) dX5_findLarge_58 (by decide) ?_
    refine ev_icmp_geN (pc := 60) (tgt := 120) dX5_findLarge_60 (by decide) (by omega) (by omega) (fun c1 => ?_) (fun c1 => ?_)
    · have : s = 8 := by omega
      subst this
      refine ev_vs [(0, .ref S), (1, .int (nI a)), (2, .int (nI l)), (3, .int (nI (fo P mem a l 8))), (4, .int (nI r))] ⟨rfl, rfl, rfl, rfl, rfl, trivial⟩ ?_
      exact hK
    · omega
  | k + 1, s, e => by
    have hf := (fo_bt (P := P) (mem := mem) (a := a) (l := l) s).1
    have hf8 : fo P mem a l s < 256 := Nat.lt_of_lt_of_le hf (show 2 ^ s ≤ 2 ^ 8 from Nat.pow_le_pow_right (by decide) (by omega))
    have hfb : fo P mem a l s / 2 ^ s % 2 = 0 := (bt_at hf).2
    have hal := am_lt (l := l) hm
    have hdl : am mem l / 2 ^ s ≤ am mem l := Nat.div_le_self _ _
    have hpw := pw_b hP (show s < 8 by omega)
    have hsw := sw_b hP (am mem l) 8 (Nat.le_refl 8)
    have hT : a * sw P (am mem l) 8 ≤ 100 * 80000000000000000 := Nat.mul_le_mul ha (by omega)
    have hQ : pw P s * (100 - a * pc8 l) ≤ 10000000000000000 * 100 := Nat.mul_le_mul (by omega) (by omega)
    have next : ∀ v, v = fo P mem a l (s + 1) → ev_J G (ev_cc G dd w) w m_X5_findLarge K (114, ev_lf [(0, .ref S), (1, .int (nI a)), (2, .int (nI l)), (3, .int (nI v)), (4, .int (nI r)), (5, .long (lN (a * sw P (am mem l) 8))), (7, .long (lN (100 - a * pc8 l))), (9, .int (nI s))], [], H, c, z) := by
      intro v hv
      subst hv
      refine ev_iincN (pc := 114) dX5_findLarge_114 rfl rfl ?_
      refine ev_goto (pc := 117) (tgt := 56) dX5_findLarge_117 (by decide) ?_
      refine ev_vs [(0, .ref S), (1, .int (nI a)), (2, .int (nI l)), (3, .int (nI (fo P mem a l (s + 1)))), (4, .int (nI r)), (5, .long (lN (a * sw P (am mem l) 8))), (7, .long (lN (100 - a * pc8 l))), (9, .int (nI (s + 1)))] ⟨rfl, rfl, rfl, rfl, rfl, rfl, rfl, rfl, trivial⟩ ?_
      exact l_found hd hw h hP hm ha hl hlt hK k (s + 1) (by omega)
    refine ev_iload (pc := 56) dX5_findLarge_56 rfl ?_
    refine ev_bipush (pc := 58) (v := nI 8) dX5_findLarge_58 (by decide) ?_
    refine ev_icmp_geN (pc := 60) (tgt := 120) dX5_findLarge_60 (by decide) (by omega) (by omega) (fun c1 => ?_) (fun c1 => ?_)
    · omega
    · refine ev_aload_n (pc := 63) dX5_findLarge_63 rfl ?_
      refine ev_getf (pc := 64) dX5_findLarge_64 f_X5_30 h.1 rfl ?_
      refine ev_iload_n (pc := 67) dX5_findLarge_67 rfl ?_
      refine ev_iconst (pc := 68) (v := -1) dX5_findLarge_68 (by decide) ?_
      refine ev_ixor (pc := 69) dX5_findLarge_69 ?_
      refine ev_iand (pc := 70) dX5_findLarge_70 ?_
      refine ev_ti (i_am hm) ?_
      refine ev_iload (pc := 71) dX5_findLarge_71 rfl ?_
      refine ev_ishr (pc := 73) dX5_findLarge_73 (ev_ti (mi_shr (by omega) (by omega)) ?_)
      refine ev_iconst (pc := 74) (v := nI 1) dX5_findLarge_74 (by decide) ?_
      refine ev_iand (pc := 75) dX5_findLarge_75 (ev_ti (mi_and1 (by omega)) ?_)
      refine ev_iconst (pc := 76) (v := nI 1) dX5_findLarge_76 (by decide) ?_
      refine ev_icmp_neN (pc := 77) (tgt := 84) dX5_findLarge_77 (by decide) (by omega) (by omega) (fun c2 => ?_) (fun c2 => ?_)
      · have nc : ¬ cnd P mem a l s := fun q => c2 q.1
        refine ev_iconst (pc := 84) (v := nI 0) dX5_findLarge_84 (by decide) ?_
        refine ev_istore (pc := 85) dX5_findLarge_85 rfl ?_
        refine ev_iload (pc := 87) dX5_findLarge_87 rfl ?_
        refine ev_if_eqN (pc := 89) (tgt := 114) dX5_findLarge_89 (by decide) (by decide) (fun _ => ?_) (fun q => absurd q (by decide))
        refine ev_vs [(0, .ref S), (1, .int (nI a)), (2, .int (nI l)), (3, .int (nI (fo P mem a l s))), (4, .int (nI r)), (5, .long (lN (a * sw P (am mem l) 8))), (7, .long (lN (100 - a * pc8 l))), (9, .int (nI s))] ⟨rfl, rfl, rfl, rfl, rfl, rfl, rfl, rfl, trivial⟩ ?_
        refine next _ ?_
        rcases fo_c (P := P) (mem := mem) (a := a) (l := l) (k := s) with ⟨q, -⟩ | ⟨-, q⟩
        · exact absurd q nc
        · exact q.symm
      · refine ev_iconst (pc := 80) (v := nI 1) dX5_findLarge_80 (by decide) ?_
        refine ev_goto (pc := 81) (tgt := 85) dX5_findLarge_81 (by decide) ?_
        refine ev_istore (pc := 85) dX5_findLarge_85 rfl ?_
        refine ev_iload (pc := 87) dX5_findLarge_87 rfl ?_
        refine ev_if_eqN (pc := 89) (tgt := 114) dX5_findLarge_89 (by decide) (by decide) (fun q => absurd q (by decide)) (fun _ => ?_)
        refine ev_aload_n (pc := 92) dX5_findLarge_92 rfl ?_
        refine ev_iload (pc := 93) dX5_findLarge_93 rfl ?_
        refine ev_callV (pc := 95) (As := [.int (nI s)]) dX5_findLarge_95 cv_X5_106 rfl rfl h.1 rfl ⟨by show 19 + 2 ≤ w; omega, show ev_Ca _ _ (w - 21) _ _ _ _ _ _ from k_plainWorth (by omega) h hP (by omega)⟩ rfl rfl (fun r h1 hp => ?_)
        obtain ⟨rfl, hH⟩ := hp
        rw [hH]
        clear hH h1
        refine ev_lload (pc := 98) dX5_findLarge_98 rfl ?_
        refine ev_lmulN (pc := 100) dX5_findLarge_100 ?_
        refine ev_lload (pc := 101) dX5_findLarge_101 rfl ?_
        refine ev_lc_le (pc := 103) (tgt := 114) dX5_findLarge_103 dX5_findLarge_104 (by decide) (by omega) (by omega) (fun c3 => ?_) (fun c3 => ?_)
        · have nc : ¬ cnd P mem a l s := fun q => by have := q.2; omega
          refine ev_vs [(0, .ref S), (1, .int (nI a)), (2, .int (nI l)), (3, .int (nI (fo P mem a l s))), (4, .int (nI r)), (5, .long (lN (a * sw P (am mem l) 8))), (7, .long (lN (100 - a * pc8 l))), (9, .int (nI s))] ⟨rfl, rfl, rfl, rfl, rfl, rfl, rfl, rfl, trivial⟩ ?_
          refine next _ ?_
          rcases fo_c (P := P) (mem := mem) (a := a) (l := l) (k := s) with ⟨q, -⟩ | ⟨-, q⟩
          · exact absurd q nc
          · exact q.symm
        · have yc : cnd P mem a l s := ⟨c2, c3⟩
          refine ev_iload_n (pc := 107) dX5_findLarge_107 rfl ?_
          refine ev_iconst (pc := 108) (v := nI 1) dX5_findLarge_108 (by decide) ?_
          refine ev_iload (pc := 109) dX5_findLarge_109 rfl ?_
          refine ev_ishl (pc := 111) dX5_findLarge_111 ?_
          refine ev_ior (pc := 112) dX5_findLarge_112 ?_
          refine ev_ti (y := nI (fo P mem a l s + 2 ^ s)) (by rw [bt_set _ hf8 s (by omega), hfb, Nat.sub_zero, Nat.mul_one]) ?_
          refine ev_istore_n (pc := 113) dX5_findLarge_113 rfl ?_
          refine ev_vs [(0, .ref S), (1, .int (nI a)), (2, .int (nI l)), (3, .int (nI (fo P mem a l s + 2 ^ s))), (4, .int (nI r)), (5, .long (lN (a * sw P (am mem l) 8))), (7, .long (lN (100 - a * pc8 l))), (9, .int (nI s))] ⟨rfl, rfl, rfl, rfl, rfl, rfl, rfl, rfl, trivial⟩ ?_
          refine next _ ?_
          rcases fo_c (P := P) (mem := mem) (a := a) (l := l) (k := s) with ⟨-, q⟩ | ⟨q, -⟩
          · exact q.symm
          · exact absurd yc q
theorem l_large {K : ev_K} {c z a : Nat} (hd : 2 ≤ dd) (hw : 45 ≤ w) (h : SH H S sa P fu fd mem) (hP : P_ok P) (hm : mem < 256) (ha : a ≤ 100) : ∀ k r l f, r + k = 9 → f < 256 → lg_ok mem a l → K (.inl (some (.int (nI (if f = 0 then l else lgf P mem a k l))))) H → ev_J G (ev_cc G dd w) w m_X5_findLarge K (10, ev_lf [(0, .ref S), (1, .int (nI a)), (2, .int (nI l)), (3, .int (nI f)), (4, .int (nI r))], [], H, c, z)
  | 0, r, l, f, e, hf, ho, hK => by
    have hK2 : K (.inl (some (.int (nI l)))) H := by
      have : (if f = 0 then l else lgf P mem a 0 l) = l := by split <;> rfl
      rw [this] at hK
      exact hK
    refine ev_iload (pc := 10) dX5_findLarge_10 rfl ?_
    refine ev_bipush (pc := 12) (v := nI 8) dX5_findLarge_12 (by decide) ?_
    refine ev_icmp_gtN (pc := 14) (tgt := 130) dX5_findLarge_14 (by decide) (by omega) (by omega) (fun c1 => ?_) (fun c1 => ?_)
    · refine ev_iload_n (pc := 130) dX5_findLarge_130 rfl ?_
      exact ev_iret (pc := 131) dX5_findLarge_131 rfl rfl hK2
    · omega
  | k + 1, r, l, f, e, hf, ho, hK => by
    have hl := ho.1
    have hlt := ho.2.2
    refine ev_iload (pc := 10) dX5_findLarge_10 rfl ?_
    refine ev_bipush (pc := 12) (v := nI 8) dX5_findLarge_12 (by decide) ?_
    refine ev_icmp_gtN (pc := 14) (tgt := 130) dX5_findLarge_14 (by decide) (by omega) (by omega) (fun c1 => ?_) (fun c1 => ?_)
    · omega
    · refine ev_iload_n (pc := 17) dX5_findLarge_17 rfl ?_
      refine ev_if_eqN (pc := 18) (tgt := 130) dX5_findLarge_18 (by decide) (by omega) (fun c2 => ?_) (fun c2 => ?_)
      · rw [if_pos c2] at hK
        refine ev_iload_n (pc := 130) dX5_findLarge_130 rfl ?_
        exact ev_iret (pc := 131) dX5_findLarge_131 rfl rfl hK
      · rw [if_neg (by omega)] at hK
        have hsw := sw_b hP (am mem l) 8 (Nat.le_refl 8)
        have hT : a * sw P (am mem l) 8 ≤ 100 * 80000000000000000 := Nat.mul_le_mul ha (by omega)
        have hpc := pc8_b l hl
        refine ev_iload_n (pc := 21) dX5_findLarge_21 rfl ?_
        refine ev_i2lN (pc := 22) dX5_findLarge_22 (by omega) ?_
        refine ev_aload_n (pc := 23) dX5_findLarge_23 rfl ?_
        refine ev_aload_n (pc := 24) dX5_findLarge_24 rfl ?_
        refine ev_getf (pc := 25) dX5_findLarge_25 f_X5_30 h.1 rfl ?_
        refine ev_iload_n (pc := 28) dX5_findLarge_28 rfl ?_
        refine ev_iconst (pc := 29) (v := -1) dX5_findLarge_29 (by decide) ?_
        refine ev_ixor (pc := 30) dX5_findLarge_30 ?_
        refine ev_iand (pc := 31) dX5_findLarge_31 ?_
        refine ev_ti (i_am hm) ?_
        refine ev_callV (pc := 32) (As := [.int (nI (am mem l))]) dX5_findLarge_32 cv_X5_100 rfl rfl h.1 rfl ⟨by show 19 + 5 ≤ w; omega, show ev_Ca _ _ (w - 24) _ _ _ _ _ _ from k_plainWorthOf (by omega) (by omega) h hP (am_lt hm)⟩ rfl rfl (fun r h1 hp => ?_)
        obtain ⟨rfl, hH⟩ := hp
        rw [hH]
        clear hH h1
        refine ev_lmulN (pc := 35) dX5_findLarge_35 ?_
        refine ev_lstore (pc := 36) dX5_findLarge_36 rfl ?_
        refine ev_ldc2 (pc := 38) dX5_findLarge_38 k_X5_104 ?_
        refine ev_iload_n (pc := 41) dX5_findLarge_41 rfl ?_
        refine ev_iload_n (pc := 42) dX5_findLarge_42 rfl ?_
        refine ev_callS (pc := 43) (As := [.int (nI l)]) dX5_findLarge_43 cs_X5_92 rfl rfl ⟨by show 19 + 1 ≤ w; omega, show ev_Ca _ _ (w - 20) _ _ _ _ _ _ from k_bitCount (by omega) hl⟩ rfl rfl (fun r h1 hp => ?_)
        obtain ⟨rfl, hH⟩ := hp
        rw [hH]
        clear hH h1
        refine ev_imulN (pc := 46) dX5_findLarge_46 ?_
        refine ev_i2lN (pc := 47) dX5_findLarge_47 (by omega) ?_
        refine ev_lsubN (pc := 48) dX5_findLarge_48 (by omega) ?_
        refine ev_lstore (pc := 49) dX5_findLarge_49 rfl ?_
        refine ev_iconst (pc := 51) (v := nI 0) dX5_findLarge_51 (by decide) ?_
        refine ev_istore_n (pc := 52) dX5_findLarge_52 rfl ?_
        refine ev_iconst (pc := 53) (v := nI 0) dX5_findLarge_53 (by decide) ?_
        refine ev_istore (pc := 54) dX5_findLarge_54 rfl ?_
        refine ev_vs [(0, .ref S), (1, .int (nI a)), (2, .int (nI l)), (3, .int (nI (fo P mem a l 0))), (4, .int (nI r)), (5, .long (lN (a * sw P (am mem l) 8))), (7, .long (lN (100 - a * pc8 l))), (9, .int (nI 0))] ⟨rfl, rfl, rfl, rfl, rfl, rfl, rfl, rfl, trivial⟩ ?_
        obtain ⟨st1, -, -, st4⟩ := lg_step hP ho
        refine l_found (by omega) (by omega) h hP hm ha hl hlt ?_ 8 0 (by omega)
        refine ev_iload_n (pc := 120) dX5_findLarge_120 rfl ?_
        refine ev_iload_n (pc := 121) dX5_findLarge_121 rfl ?_
        refine ev_ior (pc := 122) dX5_findLarge_122 ?_
        refine ev_ti (i_or _ _) ?_
        refine ev_istore_n (pc := 123) dX5_findLarge_123 rfl ?_
        refine ev_iincN (pc := 124) dX5_findLarge_124 rfl rfl ?_
        refine ev_goto (pc := 127) (tgt := 10) dX5_findLarge_127 (by decide) ?_
        refine ev_vs [(0, .ref S), (1, .int (nI a)), (2, .int (nI (l ||| fo P mem a l 8))), (3, .int (nI (fo P mem a l 8))), (4, .int (nI (r + 1)))] ⟨rfl, rfl, rfl, rfl, rfl, trivial⟩ ?_
        refine l_large hd hw h hP hm ha k (r + 1) _ _ (by omega) st4 st1 ?_
        have e9 : (if fo P mem a l 8 = 0 then l ||| fo P mem a l 8 else lgf P mem a k (l ||| fo P mem a l 8)) = lgf P mem a (k + 1) l := by
          show _ = (if fo P mem a l 8 = 0 then l else lgf P mem a k (l ||| fo P mem a l 8))
          by_cases q : fo P mem a l 8 = 0
          · rw [if_pos q, if_pos q, q, Nat.or_zero]
          · rw [if_neg q, if_neg q]
        rw [e9]
        exact hK
theorem k_findLarge {a : Nat} (hd : 3 ≤ dd) (hw : 45 ≤ w) (h : SH H S sa P fu fd mem) (hP : P_ok P) (hm : mem < 256) (ha : a ≤ 100) (hm0 : mem ≠ 0) : ev_Ca G dd w m_X5_findLarge [.ref S, .int (nI a)] H 0 0 (ev_ok (fun r h1 => r = some (.int (nI (lgf P mem a 9 0))) ∧ h1 = H)) := by
  obtain ⟨dd, rfl⟩ : ∃ e, dd = e + 1 := ⟨dd - 1, by omega⟩
  refine ⟨by decide +kernel, rfl, ?_⟩
  refine ev_iconst (pc := 0) (v := nI 0) dX5_findLarge_0 (by decide) ?_
  refine ev_istore_n (pc := 1) dX5_findLarge_1 rfl ?_
  refine ev_aload_n (pc := 2) dX5_findLarge_2 rfl ?_
  refine ev_getf (pc := 3) dX5_findLarge_3 f_X5_30 h.1 rfl ?_
  refine ev_istore_n (pc := 6) dX5_findLarge_6 rfl ?_
  refine ev_iconst (pc := 7) (v := nI 0) dX5_findLarge_7 (by decide) ?_
  refine ev_istore (pc := 8) dX5_findLarge_8 rfl ?_
  refine ev_vs [(0, .ref S), (1, .int (nI a)), (2, .int (nI 0)), (3, .int (nI mem)), (4, .int (nI 0))] ⟨rfl, rfl, rfl, rfl, rfl, trivial⟩ ?_
  refine l_large (by omega) hw h hP hm ha 9 0 0 mem (by omega) hm ⟨by decide, fun s hs hb => ?_, by rw [show pc8 0 = 0 by decide, Nat.mul_zero]; decide⟩ ?_
  · unfold bt at hb; rw [Nat.zero_div] at hb; cases hb
  · rw [if_neg hm0]; exact ⟨rfl, rfl⟩
end CAP2
end
section
/-! Shares: cap -/
def cpu (P : Nat → Nat → Nat) (lg up lf s : Nat) : Nat := if bt lg s = 1 then up / Nat.gcd up (lf * pw P s) else 1
def cpd (P : Nat → Nat → Nat) (lg up lf s : Nat) : Nat := if bt lg s = 1 then lf * pw P s / Nat.gcd up (lf * pw P s) else 1
/-- what a cap leaves: its outcome, and the factors -/
def cap_c (mem : Nat) (x : Int32) : Prop := (1 ≤ x.toInt ∧ x.toInt ≤ 100) ∧ 100 ≤ x.toInt.toNat * pc8 mem
noncomputable def cap_l (P : Nat → Nat → Nat) (mem : Nat) (x : Int32) : Nat := lgf P mem x.toInt.toNat 9 0
noncomputable def cap_u (P : Nat → Nat → Nat) (mem : Nat) (x : Int32) : Nat → Nat := cpu P (cap_l P mem x) (x.toInt.toNat * sw P (am mem (cap_l P mem x)) 8) (100 - x.toInt.toNat * pc8 (cap_l P mem x))
noncomputable def cap_d (P : Nat → Nat → Nat) (mem : Nat) (x : Int32) : Nat → Nat := cpd P (cap_l P mem x) (x.toInt.toNat * sw P (am mem (cap_l P mem x)) 8) (100 - x.toInt.toNat * pc8 (cap_l P mem x))
section CAP3
variable {G : ev_G} {w : Nat} {H : ev_H} {D S : Nat} {i j k dd s : Nat} {sa : Nat → Nat} {P : Nat → Nat → Nat} {fu fd : Nat → Nat} {mem : Nat}
/-- as shq, the factors known where they are -/
def chq (H : ev_H) (S : Nat) (sa : Nat → Nat) (o : Nat) (P : Nat → Nat → Nat) (fu fd : Nat → Nat) (mem : Nat) (r : Option Value) (h1 : ev_H) : Prop := r = some (.int (nI o)) ∧ ∃ fu2 fd2 : Nat → Nat, (∀ j, j < 8 → fu2 j = fu j ∧ fd2 j = fd j) ∧ SH h1 S sa P fu2 fd2 mem ∧ SF S sa H h1
theorem l_cap {K : ev_K} {c z a lg up lf : Nat} {H0 : ev_H} (hd : 3 ≤ dd) (hw : 60 ≤ w) (hP : P_ok P) (hD : SD sa) (hl : lg < 256) (hu0 : 0 < up) (hu1 : up < 2 ^ 63) (hf0 : 0 < lf) (hf1 : lf ≤ 100)
    (hK : ∀ h1 fu2 fd2, (∀ j, j < 8 → fu2 j = cpu P lg up lf j ∧ fd2 j = cpd P lg up lf j) → SH h1 S sa P fu2 fd2 mem → SF S sa H0 h1 → K (.inl (some (.int (nI 0)))) h1) :
    ∀ k s H fu fd, s + k = 8 → SH H S sa P fu fd mem → SF S sa H0 H → (∀ j, j < 8 → fu j = (if j < s then cpu P lg up lf j else 1) ∧ fd j = (if j < s then cpd P lg up lf j else 1)) → ev_J G (ev_cc G dd w) w m_X5_cap K (80, ev_lf [(0, .ref S), (1, .int (nI a)), (3, .int (nI lg)), (4, .long (lN up)), (6, .long (lN lf)), (8, .int (nI s))], [], H, c, z)
  | 0, s, H, fu, fd, e, h, hF, hf => by
    refine ev_iload (pc := 80) dX5_cap_80 rfl ?_
    refine ev_bipush (pc := 82) (v := nI 8) dX5_cap_82 (by decide) ?_
    refine ev_icmp_geN (pc := 84) (tgt := 120) dX5_cap_84 (by decide) (by omega) (by omega) (fun c1 => ?_) (fun c1 => ?_)
    · refine ev_iconst (pc := 120) (v := nI 0) dX5_cap_120 (by decide) ?_
      exact ev_iret (pc := 121) dX5_cap_121 rfl rfl (hK H fu fd (fun j hj => by have := hf j hj; rw [if_pos (by omega), if_pos (by omega)] at this; exact this) h hF)
    · omega
  | k + 1, s, H, fu, fd, e, h, hF, hf => by
    have hle : lg / 2 ^ s ≤ lg := Nat.div_le_self _ _
    have hpw := pw_b hP (show s < 8 by omega)
    have hQ : lf * pw P s ≤ 100 * 10000000000000000 := Nat.mul_le_mul hf1 (by omega)
    have hQ0 : 0 < lf * pw P s := Nat.mul_pos hf0 (by omega)
    refine ev_iload (pc := 80) dX5_cap_80 rfl ?_
    refine ev_bipush (pc := 82) (v := nI 8) dX5_cap_82 (by decide) ?_
    refine ev_icmp_geN (pc := 84) (tgt := 120) dX5_cap_84 (by decide) (by omega) (by omega) (fun c1 => ?_) (fun c1 => ?_)
    · omega
    · refine ev_iload_n (pc := 87) dX5_cap_87 rfl ?_
      refine ev_iload (pc := 88) dX5_cap_88 rfl ?_
      refine ev_ishr (pc := 90) dX5_cap_90 (ev_ti (mi_shr (by omega) (by omega)) ?_)
      refine ev_iconst (pc := 91) (v := nI 1) dX5_cap_91 (by decide) ?_
      refine ev_iand (pc := 92) dX5_cap_92 (ev_ti (mi_and1 (by omega)) ?_)
      refine ev_iconst (pc := 93) (v := nI 1) dX5_cap_93 (by decide) ?_
      refine ev_icmp_neN (pc := 94) (tgt := 114) dX5_cap_94 (by decide) (by omega) (by omega) (fun c2 => ?_) (fun c2 => ?_)
      · refine ev_iincN (pc := 114) dX5_cap_114 rfl rfl ?_
        refine ev_goto (pc := 117) (tgt := 80) dX5_cap_117 (by decide) ?_
        refine ev_vs [(0, .ref S), (1, .int (nI a)), (3, .int (nI lg)), (4, .long (lN up)), (6, .long (lN lf)), (8, .int (nI (s + 1)))] ⟨rfl, rfl, rfl, rfl, rfl, rfl, trivial⟩ ?_
        refine l_cap hd hw hP hD hl hu0 hu1 hf0 hf1 hK k (s + 1) H fu fd (by omega) h hF (fun j hj => ?_)
        have t := hf j hj
        by_cases q : j < s
        · rw [if_pos q, if_pos q] at t
          rw [if_pos (by omega), if_pos (by omega)]
          exact t
        · rw [if_neg q, if_neg q] at t
          by_cases q2 : j = s
          · subst q2
            rw [if_pos (by omega), if_pos (by omega)]
            unfold cpu cpd bt
            rw [if_neg c2, if_neg c2]
            exact t
          · rw [if_neg (by omega), if_neg (by omega)]
            exact t
      · refine ev_aload_n (pc := 97) dX5_cap_97 rfl ?_
        refine ev_iload (pc := 98) dX5_cap_98 rfl ?_
        refine ev_lload (pc := 100) dX5_cap_100 rfl ?_
        refine ev_lload (pc := 102) dX5_cap_102 rfl ?_
        refine ev_aload_n (pc := 104) dX5_cap_104 rfl ?_
        refine ev_iload (pc := 105) dX5_cap_105 rfl ?_
        refine ev_callV (pc := 107) (As := [.int (nI s)]) dX5_cap_107 cv_X5_106 rfl rfl h.1 rfl ⟨by show 19 + 2 ≤ w; omega, show ev_Ca _ _ (w - 21) _ _ _ _ _ _ from k_plainWorth (by omega) h hP (by omega)⟩ rfl rfl (fun r h1 hp => ?_)
        obtain ⟨rfl, hH⟩ := hp
        rw [hH]
        clear hH h1
        refine ev_lmulN (pc := 110) dX5_cap_110 ?_
        refine ev_callV (pc := 111) (As := [.int (nI s), .long (lN up), .long (lN (lf * pw P s))]) dX5_cap_111 cv_X5_109 rfl rfl h.1 rfl ⟨by show 19 + 8 ≤ w; omega, show ev_Ca _ _ (w - 27) _ _ _ _ _ _ from k_putFactor (by omega) (by omega) h hD (by omega) hu0 hu1 hQ0 (by omega)⟩ rfl rfl (fun r h1 hp => ?_)
        obtain ⟨rfl, h2, hF2⟩ := hp
        refine ev_iincN (pc := 114) dX5_cap_114 rfl rfl ?_
        refine ev_goto (pc := 117) (tgt := 80) dX5_cap_117 (by decide) ?_
        refine ev_vs [(0, .ref S), (1, .int (nI a)), (3, .int (nI lg)), (4, .long (lN up)), (6, .long (lN lf)), (8, .int (nI (s + 1)))] ⟨rfl, rfl, rfl, rfl, rfl, rfl, trivial⟩ ?_
        refine l_cap hd hw hP hD hl hu0 hu1 hf0 hf1 hK k (s + 1) _ _ _ (by omega) h2 (hF.tr hF2) (fun j hj => ?_)
        have t := hf j hj
        unfold va_up
        by_cases q2 : j = s
        · subst q2
          rw [if_pos rfl, if_pos rfl, if_pos (by omega), if_pos (by omega)]
          unfold cpu cpd bt
          rw [if_pos c2, if_pos c2]
          exact ⟨rfl, rfl⟩
        · rw [if_neg q2, if_neg q2]
          by_cases q : j < s
          · rw [if_pos q, if_pos q] at t
            rw [if_pos (by omega), if_pos (by omega)]
            exact t
          · rw [if_neg q, if_neg q] at t
            rw [if_neg (by omega), if_neg (by omega)]
            exact t
theorem pc8_0 {m a : Nat} (h : 100 ≤ a * pc8 m) : m ≠ 0 := fun e => by rw [e, show pc8 0 = 0 by decide, Nat.mul_zero] at h; omega
theorem lg0 (mem a : Nat) : lg_ok mem a 0 := ⟨by decide, fun s hs (hb : bt 0 s = 1) => (by unfold bt at hb; rw [Nat.zero_div] at hb; cases hb), by rw [show pc8 0 = 0 by decide, Nat.mul_zero]; decide⟩
theorem k_cap {x : Int32} (hd : 4 ≤ dd) (hw : 84 ≤ w) (h : SH H S sa P fu fd mem) (hP : P_ok P) (hD : SD sa) (hm : mem < 256) : ev_Ca G dd w m_X5_cap [.ref S, .int x] H 0 0 (ev_ok (fun r h1 => (cap_c mem x ∧ chq H S sa 0 P (cap_u P mem x) (cap_d P mem x) mem r h1) ∨ (¬ cap_c mem x ∧ chq H S sa 2 P fu fd mem r h1))) := by
  obtain ⟨dd, rfl⟩ : ∃ e, dd = e + 1 := ⟨dd - 1, by omega⟩
  refine ⟨by decide +kernel, rfl, ?_⟩
  have no : ∀ {L}, ¬ cap_c mem x → ev_J G (ev_cc G dd w) w m_X5_cap (ev_ok (fun r h1 => (cap_c mem x ∧ chq H S sa 0 P (cap_u P mem x) (cap_d P mem x) mem r h1) ∨ (¬ cap_c mem x ∧ chq H S sa 2 P fu fd mem r h1))) (35, L, [], H, 0, 0) := by
    intro L hn
    refine ev_iconst (pc := 35) (v := nI 2) dX5_cap_35 (by decide) ?_
    exact ev_iret (pc := 36) dX5_cap_36 rfl rfl (Or.inr ⟨hn, rfl, fu, fd, fun _ _ => ⟨rfl, rfl⟩, h, SF.rf⟩)
  have i1 := i32_le (x := x) (n := 1) (by decide)
  have i100 := i32_le (x := x) (n := 100) (by decide)
  have hpm := pc8_b mem hm
  refine ev_iload_n (pc := 0) dX5_cap_0 rfl ?_
  refine ev_iconst (pc := 1) (v := nI 1) dX5_cap_1 (by decide) ?_
  refine ev_icmp_lt (pc := 2) (tgt := 15) dX5_cap_2 (by decide) (fun c1 => ?_) (fun c1 => ?_)
  · have n1 := i1.2.1.mp c1
    refine ev_iconst (pc := 15) (v := nI 0) dX5_cap_15 (by decide) ?_
    refine ev_istore_n (pc := 16) dX5_cap_16 rfl ?_
    refine ev_iload_n (pc := 17) dX5_cap_17 rfl ?_
    refine ev_if_eqN (pc := 18) (tgt := 35) dX5_cap_18 (by decide) (by decide) (fun _ => ?_) (fun q => absurd q (by decide))
    exact no (fun q => by have := q.1; omega)
  · have n1 : 1 ≤ x.toInt := Int.not_lt.mp (fun q => c1 (i1.2.1.mpr q))
    refine ev_iload_n (pc := 5) dX5_cap_5 rfl ?_
    refine ev_bipush (pc := 6) (v := nI 100) dX5_cap_6 (by decide) ?_
    refine ev_icmp_gt (pc := 8) (tgt := 15) dX5_cap_8 (by decide) (fun c2 => ?_) (fun c2 => ?_)
    · have n2 := i100.2.2.1.mp c2
      refine ev_iconst (pc := 15) (v := nI 0) dX5_cap_15 (by decide) ?_
      refine ev_istore_n (pc := 16) dX5_cap_16 rfl ?_
      refine ev_iload_n (pc := 17) dX5_cap_17 rfl ?_
      refine ev_if_eqN (pc := 18) (tgt := 35) dX5_cap_18 (by decide) (by decide) (fun _ => ?_) (fun q => absurd q (by decide))
      exact no (fun q => by have := q.1; omega)
    · have n2 : x.toInt ≤ 100 := Int.not_lt.mp (fun q => c2 (i100.2.2.1.mpr q))
      obtain ⟨a, rfl, ha1, ha2⟩ := ri_nI (x := x) (lo := 1) (hi := 100) ⟨n1, n2⟩ (by decide)
      have eN : (nI a).toInt.toNat = a := nI_tn (by omega)
      refine ev_iconst (pc := 11) (v := nI 1) dX5_cap_11 (by decide) ?_
      refine ev_goto (pc := 12) (tgt := 16) dX5_cap_12 (by decide) ?_
      refine ev_istore_n (pc := 16) dX5_cap_16 rfl ?_
      refine ev_iload_n (pc := 17) dX5_cap_17 rfl ?_
      refine ev_if_eqN (pc := 18) (tgt := 35) dX5_cap_18 (by decide) (by decide) (fun q => absurd q (by decide)) (fun _ => ?_)
      have ham : a * pc8 mem ≤ 100 * 8 := Nat.mul_le_mul ha2 hpm
      refine ev_iload_n (pc := 21) dX5_cap_21 rfl ?_
      refine ev_aload_n (pc := 22) dX5_cap_22 rfl ?_
      refine ev_getf (pc := 23) dX5_cap_23 f_X5_30 h.1 rfl ?_
      refine ev_callS (pc := 26) (As := [.int (nI mem)]) dX5_cap_26 cs_X5_92 rfl rfl ⟨by show 19 + 1 ≤ w; omega, show ev_Ca _ _ (w - 20) _ _ _ _ _ _ from k_bitCount (by omega) hm⟩ rfl rfl (fun r h1 hp => ?_)
      obtain ⟨rfl, hH⟩ := hp
      rw [hH]
      clear hH h1
      refine ev_imulN (pc := 29) dX5_cap_29 ?_
      refine ev_bipush (pc := 30) (v := nI 100) dX5_cap_30 (by decide) ?_
      refine ev_icmp_geN (pc := 32) (tgt := 37) dX5_cap_32 (by decide) (by omega) (by omega) (fun c3 => ?_) (fun c3 => ?_)
      · have cc : cap_c mem (nI a) := ⟨⟨n1, n2⟩, by rw [eN]; exact c3⟩
        have ok := lgf_ok hP 9 0 (lg0 mem a)
        have eL : cap_l P mem (nI a) = lgf P mem a 9 0 := by unfold cap_l; rw [eN]
        have eU : cap_u P mem (nI a) = cpu P (lgf P mem a 9 0) (a * sw P (am mem (lgf P mem a 9 0)) 8) (100 - a * pc8 (lgf P mem a 9 0)) := by unfold cap_u; rw [eL, eN]
        have eD : cap_d P mem (nI a) = cpd P (lgf P mem a 9 0) (a * sw P (am mem (lgf P mem a 9 0)) 8) (100 - a * pc8 (lgf P mem a 9 0)) := by unfold cap_d; rw [eL, eN]
        have hsw := sw_b hP (am mem (lgf P mem a 9 0)) 8 (Nat.le_refl 8)
        have hsp := sw_pos hP ok hm c3
        have hT : a * sw P (am mem (lgf P mem a 9 0)) 8 ≤ 100 * 80000000000000000 := Nat.mul_le_mul ha2 (by omega)
        have hT0 : 0 < a * sw P (am mem (lgf P mem a 9 0)) 8 := Nat.mul_pos (by omega) hsp
        have hlp := pc8_b _ ok.1
        have hl3 := ok.2.2
        refine ev_aload_n (pc := 37) dX5_cap_37 rfl ?_
        refine ev_iload_n (pc := 38) dX5_cap_38 rfl ?_
        refine ev_callV (pc := 39) (As := [.int (nI a)]) dX5_cap_39 cv_X5_97 rfl rfl h.1 rfl ⟨by show 19 + 11 ≤ w; omega, show ev_Ca _ _ (w - 30) _ _ _ _ _ _ from k_findLarge (by omega) (by omega) h hP hm ha2 (pc8_0 c3)⟩ rfl rfl (fun r h1 hp => ?_)
        obtain ⟨rfl, hH⟩ := hp
        rw [hH]
        clear hH h1
        refine ev_istore_n (pc := 42) dX5_cap_42 rfl ?_
        refine ev_iload_n (pc := 43) dX5_cap_43 rfl ?_
        refine ev_i2lN (pc := 44) dX5_cap_44 (by omega) ?_
        refine ev_aload_n (pc := 45) dX5_cap_45 rfl ?_
        refine ev_aload_n (pc := 46) dX5_cap_46 rfl ?_
        refine ev_getf (pc := 47) dX5_cap_47 f_X5_30 h.1 rfl ?_
        refine ev_iload_n (pc := 50) dX5_cap_50 rfl ?_
        refine ev_iconst (pc := 51) (v := -1) dX5_cap_51 (by decide) ?_
        refine ev_ixor (pc := 52) dX5_cap_52 ?_
        refine ev_iand (pc := 53) dX5_cap_53 ?_
        refine ev_ti (i_am hm) ?_
        refine ev_callV (pc := 54) (As := [.int (nI (am mem (lgf P mem a 9 0)))]) dX5_cap_54 cv_X5_100 rfl rfl h.1 rfl ⟨by show 19 + 5 ≤ w; omega, show ev_Ca _ _ (w - 24) _ _ _ _ _ _ from k_plainWorthOf (by omega) (by omega) h hP (am_lt hm)⟩ rfl rfl (fun r h1 hp => ?_)
        obtain ⟨rfl, hH⟩ := hp
        rw [hH]
        clear hH h1
        refine ev_lmulN (pc := 57) dX5_cap_57 ?_
        refine ev_lstore (pc := 58) dX5_cap_58 rfl ?_
        refine ev_ldc2 (pc := 60) dX5_cap_60 k_X5_104 ?_
        refine ev_iload_n (pc := 63) dX5_cap_63 rfl ?_
        refine ev_iload_n (pc := 64) dX5_cap_64 rfl ?_
        refine ev_callS (pc := 65) (As := [.int (nI (lgf P mem a 9 0))]) dX5_cap_65 cs_X5_92 rfl rfl ⟨by show 19 + 1 ≤ w; omega, show ev_Ca _ _ (w - 20) _ _ _ _ _ _ from k_bitCount (by omega) ok.1⟩ rfl rfl (fun r h1 hp => ?_)
        obtain ⟨rfl, hH⟩ := hp
        rw [hH]
        clear hH h1
        refine ev_imulN (pc := 68) dX5_cap_68 ?_
        refine ev_i2lN (pc := 69) dX5_cap_69 (by omega) ?_
        refine ev_lsubN (pc := 70) dX5_cap_70 (by omega) ?_
        refine ev_lstore (pc := 71) dX5_cap_71 rfl ?_
        refine ev_aload_n (pc := 73) dX5_cap_73 rfl ?_
        refine ev_callV (pc := 74) (As := []) dX5_cap_74 cv_X5_27 rfl rfl h.1 rfl ⟨by show 19 + 1 ≤ w; omega, show ev_Ca _ _ (w - 20) _ _ _ _ _ _ from k_resetFactors (by omega) (by omega) h hD⟩ rfl rfl (fun r h1 hp => ?_)
        obtain ⟨rfl, fu2, fd2, g1, g2, h2, hF2⟩ := hp
        refine ev_iconst (pc := 77) (v := nI 0) dX5_cap_77 (by decide) ?_
        refine ev_istore (pc := 78) dX5_cap_78 rfl ?_
        refine ev_vs [(0, .ref S), (1, .int (nI a)), (3, .int (nI (lgf P mem a 9 0))), (4, .long (lN (a * sw P (am mem (lgf P mem a 9 0)) 8))), (6, .long (lN (100 - a * pc8 (lgf P mem a 9 0)))), (8, .int (nI 0))] ⟨rfl, rfl, rfl, rfl, rfl, rfl, trivial⟩ ?_
        refine l_cap (H0 := H) (mem := mem) (by omega) (by omega) hP hD ok.1 hT0 (by omega) (by omega) (by omega) (fun h1 fu2 fd2 e1 e2 e3 => Or.inl ⟨cc, rfl, fu2, fd2, by rw [eU, eD]; exact e1, e2, e3⟩) 8 0 _ fu2 fd2 (by omega) h2 hF2 (fun j hj => ⟨by rw [if_neg (Nat.not_lt_zero j)]; exact g1 j hj, by rw [if_neg (Nat.not_lt_zero j)]; exact g2 j hj⟩)
      · exact no (fun q => by have := q.2; rw [eN] at this; omega)
end CAP3
end
section
/-! Shares: change -/
noncomputable def ch (kd s : Nat) (a b c : Int32) (P : Nat → Nat → Nat) (fu fd : Nat → Nat) (mem : Nat) : Nat × (Nat → Nat → Nat) × (Nat → Nat) × (Nat → Nat) × Nat :=
  match kd with
  | 0 => ((sp_split P s a b).1, (sp_split P s a b).2, fu, fd, mem)
  | 1 => ((sp_rights P s a b c).1, (sp_rights P s a b c).2, fu, fd, mem)
  | 2 => ((sp_div P s a).1, (sp_div P s a).2, fu, fd, mem)
  | 3 => ((sp_div P s a).1, (sp_div P s a).2, fu, fd, mem)
  | 4 => ((sp_leave mem s).1, P, fu, fd, (sp_leave mem s).2)
  | 5 => ((sp_join mem s).1, P, (if mem / 2 ^ s % 2 = 1 then fu else va_up fu s 1), (if mem / 2 ^ s % 2 = 1 then fd else va_up fd s 1), (sp_join mem s).2)
  | 6 => ((sp_rep P s 1 a).1, (sp_rep P s 1 a).2, fu, fd, mem)
  | 7 => ((sp_rep P s 2 a).1, (sp_rep P s 2 a).2, fu, fd, mem)
  | _ => @ite _ (cap_c mem a) (Classical.propDecidable _) (0, P, cap_u P mem a, cap_d P mem a, mem) (2, P, fu, fd, mem)
section CHG
variable {G : ev_G} {w : Nat} {H : ev_H} {D S : Nat} {i j k dd s : Nat} {sa : Nat → Nat} {P : Nat → Nat → Nat} {fu fd : Nat → Nat} {mem : Nat}
theorem k_change {kd : Nat} {a b c : Int32} (hd : 5 ≤ dd) (hw : 112 ≤ w) (hG : G_ok G) (h : SH H S sa P fu fd mem) (hP : P_ok P) (hD : SD sa) (hm : mem < 256) (hs : s < 8) (hk : kd < 9) : ev_Ca G dd w m_X5_change [.ref S, .int (nI kd), .int (nI s), .int a, .int b, .int c] H 0 0 (ev_ok (chq H S sa (ch kd s a b c P fu fd mem).1 (ch kd s a b c P fu fd mem).2.1 (ch kd s a b c P fu fd mem).2.2.1 (ch kd s a b c P fu fd mem).2.2.2.1 (ch kd s a b c P fu fd mem).2.2.2.2)) := by
  obtain ⟨dd, rfl⟩ : ∃ e, dd = e + 1 := ⟨dd - 1, by omega⟩
  refine ⟨by decide +kernel, rfl, ?_⟩
  refine ev_iload_n (pc := 0) dX5_change_0 rfl ?_
  rcases (show kd = 0 ∨ kd = 1 ∨ kd = 2 ∨ kd = 3 ∨ kd = 4 ∨ kd = 5 ∨ kd = 6 ∨ kd = 7 ∨ kd = 8 by omega) with rfl | rfl | rfl | rfl | rfl | rfl | rfl | rfl | rfl
  · refine ev_tableIn (pc := 1) (tgt := 48) dX5_change_1 (by decide) (by decide) rfl (by decide) ?_
    refine ev_aload_n (pc := 48) dX5_change_48 rfl ?_
    refine ev_iload_n (pc := 49) dX5_change_49 rfl ?_
    refine ev_iload_n (pc := 50) dX5_change_50 rfl ?_
    refine ev_iload (pc := 51) dX5_change_51 rfl ?_
    refine ev_callV (pc := 53) (As := [.int (nI s), .int a, .int b]) dX5_change_53 cv_X5_47 rfl rfl h.1 rfl ⟨by show 19 + 8 ≤ w; omega, show ev_Ca _ _ (w - 27) _ _ _ _ _ _ from k_split (by omega) (by omega) hG h hP hD hs⟩ rfl rfl (fun r h1 hp => ?_)
    obtain ⟨rfl, h2, hF⟩ := hp
    exact ev_iret (pc := 56) dX5_change_56 rfl rfl ⟨rfl, _, _, fun _ _ => ⟨rfl, rfl⟩, h2, hF⟩
  · refine ev_tableIn (pc := 1) (tgt := 57) dX5_change_1 (by decide) (by decide) rfl (by decide) ?_
    refine ev_aload_n (pc := 57) dX5_change_57 rfl ?_
    refine ev_iload_n (pc := 58) dX5_change_58 rfl ?_
    refine ev_iload_n (pc := 59) dX5_change_59 rfl ?_
    refine ev_iload (pc := 60) dX5_change_60 rfl ?_
    refine ev_iload (pc := 62) dX5_change_62 rfl ?_
    refine ev_callV (pc := 64) (As := [.int (nI s), .int a, .int b, .int c]) dX5_change_64 cv_X5_51 rfl rfl h.1 rfl ⟨by show 19 + 11 ≤ w; omega, show ev_Ca _ _ (w - 30) _ _ _ _ _ _ from k_offerRights (by omega) (by omega) hG h hP hD hs⟩ rfl rfl (fun r h1 hp => ?_)
    obtain ⟨rfl, h2, hF⟩ := hp
    exact ev_iret (pc := 67) dX5_change_67 rfl rfl ⟨rfl, _, _, fun _ _ => ⟨rfl, rfl⟩, h2, hF⟩
  · refine ev_tableIn (pc := 1) (tgt := 68) dX5_change_1 (by decide) (by decide) rfl (by decide) ?_
    refine ev_aload_n (pc := 68) dX5_change_68 rfl ?_
    refine ev_iload_n (pc := 69) dX5_change_69 rfl ?_
    refine ev_iload_n (pc := 70) dX5_change_70 rfl ?_
    refine ev_callV (pc := 71) (As := [.int (nI s), .int a]) dX5_change_71 cv_X5_55 rfl rfl h.1 rfl ⟨by show 19 + 5 ≤ w; omega, show ev_Ca _ _ (w - 24) _ _ _ _ _ _ from k_payDividend (by omega) (by omega) hG h hP hD hs⟩ rfl rfl (fun r h1 hp => ?_)
    obtain ⟨rfl, h2, hF⟩ := hp
    exact ev_iret (pc := 74) dX5_change_74 rfl rfl ⟨rfl, _, _, fun _ _ => ⟨rfl, rfl⟩, h2, hF⟩
  · refine ev_tableIn (pc := 1) (tgt := 68) dX5_change_1 (by decide) (by decide) rfl (by decide) ?_
    refine ev_aload_n (pc := 68) dX5_change_68 rfl ?_
    refine ev_iload_n (pc := 69) dX5_change_69 rfl ?_
    refine ev_iload_n (pc := 70) dX5_change_70 rfl ?_
    refine ev_callV (pc := 71) (As := [.int (nI s), .int a]) dX5_change_71 cv_X5_55 rfl rfl h.1 rfl ⟨by show 19 + 5 ≤ w; omega, show ev_Ca _ _ (w - 24) _ _ _ _ _ _ from k_payDividend (by omega) (by omega) hG h hP hD hs⟩ rfl rfl (fun r h1 hp => ?_)
    obtain ⟨rfl, h2, hF⟩ := hp
    exact ev_iret (pc := 74) dX5_change_74 rfl rfl ⟨rfl, _, _, fun _ _ => ⟨rfl, rfl⟩, h2, hF⟩
  · refine ev_tableIn (pc := 1) (tgt := 75) dX5_change_1 (by decide) (by decide) rfl (by decide) ?_
    refine ev_aload_n (pc := 75) dX5_change_75 rfl ?_
    refine ev_iload_n (pc := 76) dX5_change_76 rfl ?_
    refine ev_callV (pc := 77) (As := [.int (nI s)]) dX5_change_77 cv_X5_59 rfl rfl h.1 rfl ⟨by show 19 + 2 ≤ w; omega, show ev_Ca _ _ (w - 21) _ _ _ _ _ _ from k_leave (by omega) (by omega) h hm hs⟩ rfl rfl (fun r h1 hp => ?_)
    obtain ⟨rfl, h2, hF⟩ := hp
    exact ev_iret (pc := 80) dX5_change_80 rfl rfl ⟨rfl, _, _, fun _ _ => ⟨rfl, rfl⟩, h2, hF⟩
  · refine ev_tableIn (pc := 1) (tgt := 81) dX5_change_1 (by decide) (by decide) rfl (by decide) ?_
    refine ev_aload_n (pc := 81) dX5_change_81 rfl ?_
    refine ev_iload_n (pc := 82) dX5_change_82 rfl ?_
    refine ev_callV (pc := 83) (As := [.int (nI s)]) dX5_change_83 cv_X5_63 rfl rfl h.1 rfl ⟨by show 19 + 2 ≤ w; omega, show ev_Ca _ _ (w - 21) _ _ _ _ _ _ from k_join (by omega) (by omega) h hD hm hs⟩ rfl rfl (fun r h1 hp => ?_)
    obtain ⟨rfl, h2, hF⟩ := hp
    exact ev_iret (pc := 86) dX5_change_86 rfl rfl ⟨rfl, _, _, fun _ _ => ⟨rfl, rfl⟩, h2, hF⟩
  · refine ev_tableIn (pc := 1) (tgt := 87) dX5_change_1 (by decide) (by decide) rfl (by decide) ?_
    refine ev_aload_n (pc := 87) dX5_change_87 rfl ?_
    refine ev_iload_n (pc := 88) dX5_change_88 rfl ?_
    refine ev_iconst (pc := 89) (v := nI 1) dX5_change_89 (by decide) ?_
    refine ev_iload_n (pc := 90) dX5_change_90 rfl ?_
    refine ev_callV (pc := 91) (As := [.int (nI s), .int (nI 1), .int a]) dX5_change_91 cv_X5_66 rfl rfl h.1 rfl ⟨by show 19 + 4 ≤ w; omega, show ev_Ca _ _ (w - 23) _ _ _ _ _ _ from k_replace (by omega) (by omega) hG h hD hs (by omega)⟩ rfl rfl (fun r h1 hp => ?_)
    obtain ⟨rfl, h2, hF⟩ := hp
    exact ev_iret (pc := 94) dX5_change_94 rfl rfl ⟨rfl, _, _, fun _ _ => ⟨rfl, rfl⟩, h2, hF⟩
  · refine ev_tableIn (pc := 1) (tgt := 95) dX5_change_1 (by decide) (by decide) rfl (by decide) ?_
    refine ev_aload_n (pc := 95) dX5_change_95 rfl ?_
    refine ev_iload_n (pc := 96) dX5_change_96 rfl ?_
    refine ev_iconst (pc := 97) (v := nI 2) dX5_change_97 (by decide) ?_
    refine ev_iload_n (pc := 98) dX5_change_98 rfl ?_
    refine ev_callV (pc := 99) (As := [.int (nI s), .int (nI 2), .int a]) dX5_change_99 cv_X5_66 rfl rfl h.1 rfl ⟨by show 19 + 4 ≤ w; omega, show ev_Ca _ _ (w - 23) _ _ _ _ _ _ from k_replace (by omega) (by omega) hG h hD hs (by omega)⟩ rfl rfl (fun r h1 hp => ?_)
    obtain ⟨rfl, h2, hF⟩ := hp
    exact ev_iret (pc := 102) dX5_change_102 rfl rfl ⟨rfl, _, _, fun _ _ => ⟨rfl, rfl⟩, h2, hF⟩
  · refine ev_tableOut (pc := 1) (tgt := 103) dX5_change_1 (by decide) (by decide) ?_
    refine ev_aload_n (pc := 103) dX5_change_103 rfl ?_
    refine ev_iload_n (pc := 104) dX5_change_104 rfl ?_
    refine ev_callV (pc := 105) (As := [.int a]) dX5_change_105 cv_X5_69 rfl rfl h.1 rfl ⟨by show 19 + 9 ≤ w; omega, show ev_Ca _ _ (w - 28) _ _ _ _ _ _ from k_cap (by omega) (by omega) h hP hD hm⟩ rfl rfl (fun r h1 hp => ?_)
    rcases hp with ⟨cc, rfl, fu2, fd2, e1, e2, e3⟩ | ⟨cc, rfl, fu2, fd2, e1, e2, e3⟩
    · have e : ch 8 s a b c P fu fd mem = (0, P, cap_u P mem a, cap_d P mem a, mem) := if_pos cc
      rw [e]
      exact ev_iret (pc := 108) dX5_change_108 rfl rfl ⟨rfl, _, _, e1, e2, e3⟩
    · have e : ch 8 s a b c P fu fd mem = (2, P, fu, fd, mem) := if_neg cc
      rw [e]
      exact ev_iret (pc := 108) dX5_change_108 rfl rfl ⟨rfl, _, _, e1, e2, e3⟩
end CHG
end
section
/-! Shares: copy -/
def SX (S : Nat) (sa : Nat → Nat) (S2 : Nat) (sb : Nat → Nat) : Prop := S2 ≠ S ∧ (∀ k, 1 ≤ k → k ≤ 5 → S2 ≠ sa k) ∧ ∀ j, j ≤ 5 → sb j ≠ S ∧ ∀ k, 1 ≤ k → k ≤ 5 → sb j ≠ sa k
section SCP
variable {G : ev_G} {w : Nat} {H : ev_H} {S S2 : Nat} {i j k dd s : Nat} {sa sb : Nat → Nat} {P P2 : Nat → Nat → Nat} {fu fd fu2 fd2 : Nat → Nat} {mem mem2 : Nat}
theorem sh_sf {h1 : ev_H} (hX : SX S sa S2 sb) (hF : SF S sa H h1) (h : SH H S2 sb P fu fd mem) : SH h1 S2 sb P fu fd mem := by
  obtain ⟨x1, x2, x3⟩ := hX
  obtain ⟨a1, a2, a3, a4, a5⟩ := h
  have g : ∀ j, j ≤ 5 → h1 (sb j) = H (sb j) := fun j hj => hF _ (x3 j hj).1 (x3 j hj).2
  exact ⟨(hF _ x1 x2).trans a1, (g 0 (by omega)).trans a2, fun b hb => (g (b + 1) (by omega)).trans (a3 b hb), (g 4 (by omega)).trans a4, (g 5 (by omega)).trans a5⟩
theorem sh_setP {Q : Nat → Nat} (h : SH H S sa P fu fd mem) (hD : SD sa) (hk : k < 3) : SH (ev_up H (sa (k + 1)) (.inl (.int, 8, .inl (fun j => nI (Q j))))) S sa (fun a => if a = k then Q else P a) fu fd mem ∧ SF S sa H (ev_up H (sa (k + 1)) (.inl (.int, 8, .inl (fun j => nI (Q j))))) := by
  obtain ⟨a1, a2, a3, a4, a5⟩ := h
  have e := a3 k hk
  refine ⟨⟨(ev_nee (ne_of a1 e (fun q => by cases q)) a1), (ev_nee (ne_of a2 e (fun q => by cases q)) a2), fun b hb => ?_, (ev_nee (ne_of a4 e (fun q => by cases q)) a4), (ev_nee (ne_of a5 e (fun q => by cases q)) a5)⟩, fun a _ hy => ev_nee (hy (k + 1) (by omega) (by omega)) rfl⟩
  by_cases hbk : b = k
  · subst hbk
    rw [ev_eqq]
    simp
  · rw [ev_nee (hD.ne hb hk hbk) (a3 b hb)]
    simp [hbk]
theorem sh_setU {f : Nat → Nat} (h : SH H S sa P fu fd mem) (hD : SD sa) : SH (ev_up H (sa 4) (.inl (.long, 8, .inr (.inl (fun j => lN (f j)))))) S sa P f fd mem ∧ SF S sa H (ev_up H (sa 4) (.inl (.long, 8, .inr (.inl (fun j => lN (f j)))))) := by
  obtain ⟨a1, a2, a3, a4, a5⟩ := h
  exact ⟨⟨(ev_nee (ne_of a1 a4 (fun q => by cases q)) a1), (ev_nee (ne_of a2 a4 (fun q => by cases q)) a2), fun b hb => (ev_nee (ne_of (a3 b hb) a4 (fun q => by cases q)) (a3 b hb)), ev_eqq, (ev_nee (Ne.symm hD.2.2.2) a5)⟩, fun a _ hy => ev_nee (hy 4 (by omega) (by omega)) rfl⟩
theorem sh_setD {f : Nat → Nat} (h : SH H S sa P fu fd mem) (hD : SD sa) : SH (ev_up H (sa 5) (.inl (.long, 8, .inr (.inl (fun j => lN (f j)))))) S sa P fu f mem ∧ SF S sa H (ev_up H (sa 5) (.inl (.long, 8, .inr (.inl (fun j => lN (f j)))))) := by
  obtain ⟨a1, a2, a3, a4, a5⟩ := h
  exact ⟨⟨(ev_nee (ne_of a1 a5 (fun q => by cases q)) a1), (ev_nee (ne_of a2 a5 (fun q => by cases q)) a2), fun b hb => (ev_nee (ne_of (a3 b hb) a5 (fun q => by cases q)) (a3 b hb)), (ev_nee hD.2.2.2 a4), ev_eqq⟩, fun a _ hy => ev_nee (hy 5 (by omega) (by omega)) rfl⟩
theorem cp8i (f g : Nat → Nat) : va_cpy (fun j => nI (f j)) (fun j => nI (g j)) (nI 0).toNatClampNeg (nI 0).toNatClampNeg (nI 8).toNatClampNeg = fun j => nI (va_cpy f g 0 0 8 j) := by
  rw [nI_clamp (by decide), nI_clamp (by decide)]
  funext j; unfold va_cpy; split <;> rfl
theorem cp8l (f g : Nat → Nat) : va_cpy (fun j => lN (f j)) (fun j => lN (g j)) (nI 0).toNatClampNeg (nI 0).toNatClampNeg (nI 8).toNatClampNeg = fun j => lN (va_cpy f g 0 0 8 j) := by
  rw [nI_clamp (by decide), nI_clamp (by decide)]
  funext j; unfold va_cpy; split <;> rfl
theorem cp8 (f g : Nat → Nat) {j : Nat} (hj : j < 8) : va_cpy f g 0 0 8 j = f j := by
  unfold va_cpy
  rw [if_pos (by omega)]
  congr 1
  omega
theorem l_scopy {K : ev_K} {c z : Nat} {H0 : ev_H} (hw : 26 ≤ w) (hX : SX S sa S2 sb) (hD : SD sa)
    (hK : ∀ h1 P1, (∀ k, k < 3 → ∀ j, j < 8 → P1 k j = P2 k j) → SH h1 S sa P1 fu fd mem → SH h1 S2 sb P2 fu2 fd2 mem2 → SF S sa H0 h1 → ev_J G (ev_cc G dd w) w m_X5_copy K (32, ev_lf [(0, .ref S), (1, .ref S2)], [], h1, c, z)) :
    ∀ k s H P, s + k = 3 → SH H S sa P fu fd mem → SH H S2 sb P2 fu2 fd2 mem2 → SF S sa H0 H → (∀ k, k < s → ∀ j, j < 8 → P k j = P2 k j) → ev_J G (ev_cc G dd w) w m_X5_copy K (2, ev_lf [(0, .ref S), (1, .ref S2), (2, .int (nI s))], [], H, c, z)
  | 0, s, H, P, e, h, h2, hF, hf => by
    refine ev_iload_n (pc := 2) dX5_copy_2 rfl ?_
    refine ev_iconst (pc := 3) (v := nI 3) dX5_copy_3 (by decide) ?_
    refine ev_icmp_geN (pc := 4) (tgt := 32) dX5_copy_4 (by decide) (by omega) (by omega) (fun c1 => ?_) (fun c1 => ?_)
    · refine ev_vs [(0, .ref S), (1, .ref S2)] ⟨rfl, rfl, trivial⟩ ?_
      exact hK H P (fun k hk => hf k (by omega)) h h2 hF
    · omega
  | k + 1, s, H, P, e, h, h2, hF, hf => by
    refine ev_iload_n (pc := 2) dX5_copy_2 rfl ?_
    refine ev_iconst (pc := 3) (v := nI 3) dX5_copy_3 (by decide) ?_
    refine ev_icmp_geN (pc := 4) (tgt := 32) dX5_copy_4 (by decide) (by omega) (by omega) (fun c1 => ?_) (fun c1 => ?_)
    · omega
    · refine ev_aload_n (pc := 7) dX5_copy_7 rfl ?_
      refine ev_getf (pc := 8) dX5_copy_8 f_X5_11 h2.1 rfl ?_
      refine ev_iload_n (pc := 11) dX5_copy_11 rfl ?_
      refine sh_row (pc := 12) dX5_copy_12 h2 (by omega) ?_
      refine ev_iconst (pc := 13) (v := nI 0) dX5_copy_13 (by decide) ?_
      refine ev_aload_n (pc := 14) dX5_copy_14 rfl ?_
      refine ev_getf (pc := 15) dX5_copy_15 f_X5_11 h.1 rfl ?_
      refine ev_iload_n (pc := 18) dX5_copy_18 rfl ?_
      refine sh_row (pc := 19) dX5_copy_19 h (by omega) ?_
      refine ev_iconst (pc := 20) (v := nI 0) dX5_copy_20 (by decide) ?_
      refine ev_bipush (pc := 21) (v := nI 8) dX5_copy_21 (by decide) ?_
      refine ev_copyi (pc := 23) dX5_copy_23 ac_X5_38 rfl (by omega) (h2.2.2.1 s (by omega)) (h.2.2.1 s (by omega)) (by decide) (by decide) (by decide) (by decide) (by decide) ?_
      refine ev_th (by rw [cp8i]) ?_
      obtain ⟨h3, hF3⟩ := sh_setP (k := s) (Q := va_cpy (P2 s) (P s) 0 0 8) h hD (by omega)
      refine ev_iincN (pc := 26) dX5_copy_26 rfl rfl ?_
      refine ev_goto (pc := 29) (tgt := 2) dX5_copy_29 (by decide) ?_
      refine ev_vs [(0, .ref S), (1, .ref S2), (2, .int (nI (s + 1)))] ⟨rfl, rfl, rfl, trivial⟩ ?_
      refine l_scopy hw hX hD hK k (s + 1) _ _ (by omega) h3 (sh_sf hX hF3 h2) (hF.tr hF3) (fun b hb j hj => ?_)
      show (if b = s then va_cpy (P2 s) (P s) 0 0 8 else P b) j = _
      by_cases q : b = s
      · rw [if_pos q, q]
        exact cp8 _ _ hj
      · rw [if_neg q]
        exact hf b (by omega) j hj
theorem k_scopy (hd : 1 ≤ dd) (hw : 26 ≤ w) (h : SH H S sa P fu fd mem) (h2 : SH H S2 sb P2 fu2 fd2 mem2) (hX : SX S sa S2 sb) (hD : SD sa) : ev_Ca G dd w m_X5_copy [.ref S, .ref S2] H 0 0 (ev_ok (fun r h1 => r = none ∧ ∃ P1 fu1 fd1, (∀ k, k < 3 → ∀ j, j < 8 → P1 k j = P2 k j) ∧ (∀ j, j < 8 → fu1 j = fu2 j ∧ fd1 j = fd2 j) ∧ SH h1 S sa P1 fu1 fd1 mem2 ∧ SF S sa H h1)) := by
  obtain ⟨dd, rfl⟩ : ∃ e, dd = e + 1 := ⟨dd - 1, by omega⟩
  refine ⟨by decide +kernel, rfl, ?_⟩
  refine ev_iconst (pc := 0) (v := nI 0) dX5_copy_0 (by decide) ?_
  refine ev_istore_n (pc := 1) dX5_copy_1 rfl ?_
  refine ev_vs [(0, .ref S), (1, .ref S2), (2, .int (nI 0))] ⟨rfl, rfl, rfl, trivial⟩ ?_
  refine l_scopy hw hX hD (fun h1 P1 e1 g g2 gF => ?_) 3 0 H P (by omega) h h2 SF.rf (fun k hk => absurd hk (Nat.not_lt_zero k))
  refine ev_aload_n (pc := 32) dX5_copy_32 rfl ?_
  refine ev_getf (pc := 33) dX5_copy_33 f_X5_14 g2.1 rfl ?_
  refine ev_iconst (pc := 36) (v := nI 0) dX5_copy_36 (by decide) ?_
  refine ev_aload_n (pc := 37) dX5_copy_37 rfl ?_
  refine ev_getf (pc := 38) dX5_copy_38 f_X5_14 g.1 rfl ?_
  refine ev_iconst (pc := 41) (v := nI 0) dX5_copy_41 (by decide) ?_
  refine ev_bipush (pc := 42) (v := nI 8) dX5_copy_42 (by decide) ?_
  refine ev_copyl (pc := 44) dX5_copy_44 ac_X5_38 rfl (by omega) g2.2.2.2.1 g.2.2.2.1 (by decide) (by decide) (by decide) (by decide) (by decide) ?_
  refine ev_th (by rw [cp8l]) ?_
  obtain ⟨h3, hF3⟩ := sh_setU (f := va_cpy fu2 fu 0 0 8) g hD
  have g3 := sh_sf hX hF3 g2
  refine ev_aload_n (pc := 47) dX5_copy_47 rfl ?_
  refine ev_getf (pc := 48) dX5_copy_48 f_X5_18 g3.1 rfl ?_
  refine ev_iconst (pc := 51) (v := nI 0) dX5_copy_51 (by decide) ?_
  refine ev_aload_n (pc := 52) dX5_copy_52 rfl ?_
  refine ev_getf (pc := 53) dX5_copy_53 f_X5_18 h3.1 rfl ?_
  refine ev_iconst (pc := 56) (v := nI 0) dX5_copy_56 (by decide) ?_
  refine ev_bipush (pc := 57) (v := nI 8) dX5_copy_57 (by decide) ?_
  refine ev_copyl (pc := 59) dX5_copy_59 ac_X5_38 rfl (by omega) g3.2.2.2.2 h3.2.2.2.2 (by decide) (by decide) (by decide) (by decide) (by decide) ?_
  refine ev_th (by rw [cp8l]) ?_
  obtain ⟨h4, hF4⟩ := sh_setD (f := va_cpy fd2 fd 0 0 8) h3 hD
  have g4 := sh_sf hX hF4 g3
  refine ev_aload_n (pc := 62) dX5_copy_62 rfl ?_
  refine ev_aload_n (pc := 63) dX5_copy_63 rfl ?_
  refine ev_getf (pc := 64) dX5_copy_64 f_X5_30 g4.1 rfl ?_
  refine ev_putf (pc := 67) dX5_copy_67 p_X5_30 h4.1 rfl rfl rfl ?_
  obtain ⟨h5, hF5⟩ := sh_putM (m := mem2) h4
  exact ev_vret (pc := 70) dX5_copy_70 rfl ⟨rfl, P1, _, _, e1, fun j hj => ⟨cp8 _ _ hj, cp8 _ _ hj⟩, h5, ((gF.tr hF3).tr hF4).tr hF5⟩
end SCP
end
section
/-! Agenda -/
def AG (H : ev_H) (A : Nat) (ga : Nat → Nat) (R : Nat → Nat → Int32) (wa ar : Nat) : Prop :=
  H A = some (.inr (0, [.ref (ga 0), .ref (ga 1), .ref (ga 2), .ref (ga 3), .ref (ga 4), .ref (ga 5), .ref (ga 6), .int (nI wa), .int (nI ar)])) ∧ ∀ k, k < 7 → H (ga k) = some (.inl (.int, 16, .inl (R k)))
def AD (ga : Nat → Nat) : Prop := ∀ a b, a < 7 → b < 7 → a ≠ b → ga a ≠ ga b
def AF (A : Nat) (ga : Nat → Nat) (H h1 : ev_H) : Prop := ∀ a, a ≠ A → (∀ k, k < 7 → a ≠ ga k) → h1 a = H a
theorem AF.rf {A : Nat} {ga : Nat → Nat} {H : ev_H} : AF A ga H H := fun _ _ _ => rfl
theorem AF.tr {A : Nat} {ga : Nat → Nat} {H h1 h2 : ev_H} (a : AF A ga H h1) (b : AF A ga h1 h2) : AF A ga H h2 := fun x hx hy => (b x hx hy).trans (a x hx hy)
/-- the order of the close -/
def ky (kd sh : Nat → Nat) (x : Nat) : Nat := kd x * 128 + sh x * 16 + x
def so (kd sh : Nat → Nat) (n : Nat) (od : Nat → Nat) : Prop := (∀ i, i < n → od i < n) ∧ (∀ p, p < n → ∃ i, i < n ∧ od i = p) ∧ ∀ i j, i < j → j < n → ky kd sh (od i) < ky kd sh (od j)
def oi (od : Nat → Nat) (n at_ : Nat) (j : Nat) : Nat := if j < at_ then od j else if j = at_ then n else od (j - 1)
theorem so_ins {kd sh od : Nat → Nat} {n t : Nat} (h : so kd sh n od) (ht : t ≤ n) (h1 : ∀ i, t ≤ i → i < n → ky kd sh n < ky kd sh (od i)) (h2 : t = 0 ∨ ky kd sh (od (t - 1)) < ky kd sh n) : so kd sh (n + 1) (oi od n t) := by
  obtain ⟨a1, a2, a3⟩ := h
  have lo : ∀ {j}, j < t → oi od n t j = od j := fun q => if_pos q
  have eq : oi od n t t = n := by unfold oi; rw [if_neg (Nat.lt_irrefl t), if_pos rfl]
  have hi : ∀ {j}, t < j → oi od n t j = od (j - 1) := fun q => by unfold oi; rw [if_neg (by omega), if_neg (by omega)]
  have le : ∀ i, i < t → ky kd sh (od i) < ky kd sh n := by
    intro i hi
    rcases h2 with e | e
    · omega
    · rcases Nat.lt_or_ge i (t - 1) with q | q
      · exact Nat.lt_trans (a3 i (t - 1) q (by omega)) e
      · rw [show i = t - 1 by omega]; exact e
  refine ⟨fun i hi2 => ?_, fun p hp => ?_, fun i j hij hj => ?_⟩
  · rcases Nat.lt_trichotomy i t with q | q | q
    · rw [lo q]; have := a1 i (by omega); omega
    · rw [q, eq]; omega
    · rw [hi q]; have := a1 (i - 1) (by omega); omega
  · by_cases e : p = n
    · exact ⟨t, by omega, by rw [eq, e]⟩
    · obtain ⟨i, b1, b2⟩ := a2 p (by omega)
      rcases Nat.lt_or_ge i t with q | q
      · exact ⟨i, by omega, by rw [lo q, b2]⟩
      · exact ⟨i + 1, by omega, by rw [hi (by omega), Nat.add_sub_cancel, b2]⟩
  · rcases Nat.lt_trichotomy i t with q | q | q
    · rw [lo q]
      rcases Nat.lt_trichotomy j t with r | r | r
      · rw [lo r]; exact a3 i j hij (by omega)
      · rw [r, eq]; exact le i q
      · rw [hi r]; exact a3 i (j - 1) (by omega) (by omega)
    · rw [q, eq, hi (by omega)]; exact h1 (j - 1) (by omega) (by omega)
    · rw [hi q, hi (by omega)]; exact a3 (i - 1) (j - 1) (by omega) (by omega)
section EVF
variable {G : ev_G} {C : ev_L} {w : Nat} {M : ev_M} {K : ev_K} {pc : Nat} {L : ev_V} {st : List Value} {h : ev_H} {c z : Nat}
theorem ev_iaF {i N a : Nat} {f : Nat → Int32} {v : Int32} (hd : decode M.2.1 pc = .ok (.iaload, 1)) (ha : h a = some (.inl (.int, N, .inl f))) (hi : i < N) (hN : N < 2 ^ 31) (hv : f i = v) (k : ev_J G C w M K (pc + 1, L, .int v :: st, h, c, z)) : ev_J G C w M K (pc, L, .int (nI i) :: .ref a :: st, h, c, z) := ev_iald hd ha (vp_in_nI hi hN) (ev_ti (by rw [nI_clamp (by omega)]; exact hv) k)
end EVF
section AGD
variable {G : ev_G} {w : Nat} {H : ev_H} {A : Nat} {i j k dd : Nat} {ga : Nat → Nat} {R : Nat → Nat → Int32} {wa ar : Nat}
theorem ag_put {x : Int32} (h : AG H A ga R wa ar) (hD : AD ga) (hk : k < 7) (hj : j < 16) : ∃ R1 : Nat → Nat → Int32, R1 k j = x ∧ (∀ a b, (a ≠ k ∨ b ≠ j) → R1 a b = R a b) ∧ AG (ev_up H (ga k) (.inl (.int, 16, .inl (upd (R k) (nI j).toNatClampNeg x)))) A ga R1 wa ar ∧ AF A ga H (ev_up H (ga k) (.inl (.int, 16, .inl (upd (R k) (nI j).toNatClampNeg x)))) := by
  obtain ⟨a1, a2⟩ := h
  rw [nI_clamp (by omega)]
  refine ⟨fun a => if a = k then upd (R k) j x else R a, by simp [upd], fun a b hab => ?_, ⟨ev_nee (ne_of a1 (a2 k hk) (fun q => by cases q)) a1, fun b hb => ?_⟩, fun a _ hy => ev_nee (hy k hk) rfl⟩
  · by_cases e : a = k
    · rcases hab with q | q
      · exact absurd e q
      · simp [e, upd, q]
    · simp [e]
  · by_cases e : b = k
    · subst e
      rw [ev_eqq]
      simp
    · rw [ev_nee (hD b k hb hk e) (a2 b hb)]
      simp [e]
theorem ag_w {x : Nat} (h : AG H A ga R wa ar) : AG (ev_up H A (.inr (0, [Value.ref (ga 0), .ref (ga 1), .ref (ga 2), .ref (ga 3), .ref (ga 4), .ref (ga 5), .ref (ga 6), .int (nI wa), .int (nI ar)].set 7 (.int (nI x))))) A ga R x ar ∧ AF A ga H (ev_up H A (.inr (0, [Value.ref (ga 0), .ref (ga 1), .ref (ga 2), .ref (ga 3), .ref (ga 4), .ref (ga 5), .ref (ga 6), .int (nI wa), .int (nI ar)].set 7 (.int (nI x))))) := by
  obtain ⟨a1, a2⟩ := h
  exact ⟨⟨ev_eqq, fun b hb => ev_nee (ne_of (a2 b hb) a1 (fun q => by cases q)) (a2 b hb)⟩, fun a hx _ => ev_nee hx rfl⟩
theorem ag_a {x : Nat} (h : AG H A ga R wa ar) : AG (ev_up H A (.inr (0, [Value.ref (ga 0), .ref (ga 1), .ref (ga 2), .ref (ga 3), .ref (ga 4), .ref (ga 5), .ref (ga 6), .int (nI wa), .int (nI ar)].set 8 (.int (nI x))))) A ga R wa x ∧ AF A ga H (ev_up H A (.inr (0, [Value.ref (ga 0), .ref (ga 1), .ref (ga 2), .ref (ga 3), .ref (ga 4), .ref (ga 5), .ref (ga 6), .int (nI wa), .int (nI ar)].set 8 (.int (nI x))))) := by
  obtain ⟨a1, a2⟩ := h
  exact ⟨⟨ev_eqq, fun b hb => ev_nee (ne_of (a2 b hb) a1 (fun q => by cases q)) (a2 b hb)⟩, fun a hx _ => ev_nee hx rfl⟩
theorem k_forget (hd : 1 ≤ dd) (h : AG H A ga R wa ar) : ev_Ca G dd w m_X0_forget [.ref A] H 0 0 (ev_ok (fun r h1 => r = none ∧ AG h1 A ga R 0 0 ∧ AF A ga H h1)) := by
  obtain ⟨dd, rfl⟩ : ∃ e, dd = e + 1 := ⟨dd - 1, by omega⟩
  refine ⟨by decide +kernel, rfl, ?_⟩
  refine ev_aload_n (pc := 0) dX0_forget_0 rfl ?_
  refine ev_iconst (pc := 1) (v := nI 0) dX0_forget_1 (by decide) ?_
  refine ev_putf (pc := 2) dX0_forget_2 p_X0_31 h.1 rfl rfl rfl ?_
  obtain ⟨h2, F2⟩ := ag_w (x := 0) h
  refine ev_aload_n (pc := 5) dX0_forget_5 rfl ?_
  refine ev_iconst (pc := 6) (v := nI 0) dX0_forget_6 (by decide) ?_
  refine ev_putf (pc := 7) dX0_forget_7 p_X0_35 h2.1 rfl rfl rfl ?_
  obtain ⟨h3, F3⟩ := ag_a (x := 0) h2
  exact ev_vret (pc := 10) dX0_forget_10 rfl ⟨rfl, h3, F2.tr F3⟩
theorem k_isFull (hd : 1 ≤ dd) (h : AG H A ga R wa ar) (hw : wa ≤ 16) : ev_Ca G dd w m_X0_isFull [.ref A] H 0 0 (ev_ok (fun r h1 => r = some (.int (nI (if 16 ≤ wa then 1 else 0))) ∧ h1 = H)) := by
  obtain ⟨dd, rfl⟩ : ∃ e, dd = e + 1 := ⟨dd - 1, by omega⟩
  refine ⟨by decide +kernel, rfl, ?_⟩
  refine ev_aload_n (pc := 0) dX0_isFull_0 rfl ?_
  refine ev_getf (pc := 1) dX0_isFull_1 f_X0_31 h.1 rfl ?_
  refine ev_bipush (pc := 4) (v := nI 16) dX0_isFull_4 (by decide) ?_
  refine ev_icmp_ltN (pc := 6) (tgt := 13) dX0_isFull_6 (by decide) (by omega) (by omega) (fun c1 => ?_) (fun c1 => ?_)
  · refine ev_iconst (pc := 13) (v := nI 0) dX0_isFull_13 (by decide) ?_
    exact ev_iret (pc := 14) dX0_isFull_14 rfl rfl ⟨by rw [if_neg (by omega)], rfl⟩
  · refine ev_iconst (pc := 9) (v := nI 1) dX0_isFull_9 (by decide) ?_
    refine ev_goto (pc := 10) (tgt := 14) dX0_isFull_10 (by decide) ?_
    exact ev_iret (pc := 14) dX0_isFull_14 rfl rfl ⟨by rw [if_pos (by omega)], rfl⟩
theorem k_wasArranged {x : Int32} (hd : 1 ≤ dd) (h : AG H A ga R wa ar) (hw : ar ≤ 16) : ev_Ca G dd w m_X0_wasArranged [.ref A, .int x] H 0 0 (ev_ok (fun r h1 => r = some (.int (nI (if 0 ≤ x.toInt ∧ x.toInt < ar then 1 else 0))) ∧ h1 = H)) := by
  obtain ⟨dd, rfl⟩ : ∃ e, dd = e + 1 := ⟨dd - 1, by omega⟩
  refine ⟨by decide +kernel, rfl, ?_⟩
  have i0 := i32_le (x := x) (n := 0) (by decide)
  have ia := i32_le (x := x) (n := ar) (by omega)
  refine ev_iload_n (pc := 0) dX0_wasArranged_0 rfl ?_
  refine ev_if_lt (pc := 1) (tgt := 16) dX0_wasArranged_1 (by decide) (fun c1 => ?_) (fun c1 => ?_)
  · have n1 := i0.2.1.mp c1
    refine ev_iconst (pc := 16) (v := nI 0) dX0_wasArranged_16 (by decide) ?_
    exact ev_iret (pc := 17) dX0_wasArranged_17 rfl rfl ⟨by rw [if_neg (by omega)], rfl⟩
  · have n1 : 0 ≤ x.toInt := Int.not_lt.mp (fun q => c1 (i0.2.1.mpr q))
    refine ev_iload_n (pc := 4) dX0_wasArranged_4 rfl ?_
    refine ev_aload_n (pc := 5) dX0_wasArranged_5 rfl ?_
    refine ev_getf (pc := 6) dX0_wasArranged_6 f_X0_35 h.1 rfl ?_
    refine ev_icmp_ge (pc := 9) (tgt := 16) dX0_wasArranged_9 (by decide) (fun c2 => ?_) (fun c2 => ?_)
    · have n2 := ia.1.mp c2
      refine ev_iconst (pc := 16) (v := nI 0) dX0_wasArranged_16 (by decide) ?_
      exact ev_iret (pc := 17) dX0_wasArranged_17 rfl rfl ⟨by rw [if_neg (by omega)], rfl⟩
    · have n2 : x.toInt < ar := Int.not_le.mp (fun q => c2 (ia.1.mpr q))
      refine ev_iconst (pc := 12) (v := nI 1) dX0_wasArranged_12 (by decide) ?_
      refine ev_goto (pc := 13) (tgt := 17) dX0_wasArranged_13 (by decide) ?_
      exact ev_iret (pc := 17) dX0_wasArranged_17 rfl rfl ⟨by rw [if_pos ⟨n1, n2⟩], rfl⟩
theorem k_note {x0 x1 x2 x3 x4 : Int32} (hd : 1 ≤ dd) (h : AG H A ga R wa ar) (hD : AD ga) (hw : wa < 16) : ev_Ca G dd w m_X0_note [.ref A, .int x0, .int x1, .int x2, .int x3, .int x4] H 0 0 (ev_ok (fun r h1 => r = some (.int (nI (wa + 1))) ∧ ∃ R1 : Nat → Nat → Int32, (∀ a b, (5 ≤ a ∨ b ≠ wa) → R1 a b = R a b) ∧ (R1 0 wa = x0 ∧ R1 1 wa = x1 ∧ R1 2 wa = x2 ∧ R1 3 wa = x3 ∧ R1 4 wa = x4) ∧ AG h1 A ga R1 (wa + 1) ar ∧ AF A ga H h1)) := by
  obtain ⟨dd, rfl⟩ : ∃ e, dd = e + 1 := ⟨dd - 1, by omega⟩
  refine ⟨by decide +kernel, rfl, ?_⟩
  refine ev_aload_n (pc := 0) dX0_note_0 rfl ?_
  refine ev_getf (pc := 1) dX0_note_1 f_X0_9 h.1 rfl ?_
  refine ev_aload_n (pc := 4) dX0_note_4 rfl ?_
  refine ev_getf (pc := 5) dX0_note_5 f_X0_31 h.1 rfl ?_
  refine ev_iload_n (pc := 8) dX0_note_8 rfl ?_
  refine ev_iast (pc := 9) dX0_note_9 (h.2 0 (by decide)) (vp_in_nI hw (by decide)) ?_
  obtain ⟨R0, p0, q0, h0, F0⟩ := ag_put (k := 0) (j := wa) (x := x0) h hD (by decide) hw
  refine ev_aload_n (pc := 10) dX0_note_10 rfl ?_
  refine ev_getf (pc := 11) dX0_note_11 f_X0_13 h0.1 rfl ?_
  refine ev_aload_n (pc := 14) dX0_note_14 rfl ?_
  refine ev_getf (pc := 15) dX0_note_15 f_X0_31 h0.1 rfl ?_
  refine ev_iload_n (pc := 18) dX0_note_18 rfl ?_
  refine ev_iast (pc := 19) dX0_note_19 (h0.2 1 (by decide)) (vp_in_nI hw (by decide)) ?_
  obtain ⟨R1, p1, q1, h1, F1⟩ := ag_put (k := 1) (j := wa) (x := x1) h0 hD (by decide) hw
  refine ev_aload_n (pc := 20) dX0_note_20 rfl ?_
  refine ev_getf (pc := 21) dX0_note_21 f_X0_16 h1.1 rfl ?_
  refine ev_aload_n (pc := 24) dX0_note_24 rfl ?_
  refine ev_getf (pc := 25) dX0_note_25 f_X0_31 h1.1 rfl ?_
  refine ev_iload_n (pc := 28) dX0_note_28 rfl ?_
  refine ev_iast (pc := 29) dX0_note_29 (h1.2 2 (by decide)) (vp_in_nI hw (by decide)) ?_
  obtain ⟨R2, p2, q2, h2, F2⟩ := ag_put (k := 2) (j := wa) (x := x2) h1 hD (by decide) hw
  refine ev_aload_n (pc := 30) dX0_note_30 rfl ?_
  refine ev_getf (pc := 31) dX0_note_31 f_X0_19 h2.1 rfl ?_
  refine ev_aload_n (pc := 34) dX0_note_34 rfl ?_
  refine ev_getf (pc := 35) dX0_note_35 f_X0_31 h2.1 rfl ?_
  refine ev_iload (pc := 38) dX0_note_38 rfl ?_
  refine ev_iast (pc := 40) dX0_note_40 (h2.2 3 (by decide)) (vp_in_nI hw (by decide)) ?_
  obtain ⟨R3, p3, q3, h3, F3⟩ := ag_put (k := 3) (j := wa) (x := x3) h2 hD (by decide) hw
  refine ev_aload_n (pc := 41) dX0_note_41 rfl ?_
  refine ev_getf (pc := 42) dX0_note_42 f_X0_22 h3.1 rfl ?_
  refine ev_aload_n (pc := 45) dX0_note_45 rfl ?_
  refine ev_getf (pc := 46) dX0_note_46 f_X0_31 h3.1 rfl ?_
  refine ev_iload (pc := 49) dX0_note_49 rfl ?_
  refine ev_iast (pc := 51) dX0_note_51 (h3.2 4 (by decide)) (vp_in_nI hw (by decide)) ?_
  obtain ⟨R4, p4, q4, h4, F4⟩ := ag_put (k := 4) (j := wa) (x := x4) h3 hD (by decide) hw
  refine ev_aload_n (pc := 52) dX0_note_52 rfl ?_
  refine ev_dup (pc := 53) dX0_note_53 rfl ?_
  refine ev_getf (pc := 54) dX0_note_54 f_X0_31 h4.1 rfl ?_
  refine ev_iconst (pc := 57) (v := nI 1) dX0_note_57 (by decide) ?_
  refine ev_iaddN (pc := 58) dX0_note_58 ?_
  refine ev_putf (pc := 59) dX0_note_59 p_X0_31 h4.1 rfl rfl rfl ?_
  obtain ⟨h5, F5⟩ := ag_w (x := wa + 1) h4
  refine ev_aload_n (pc := 62) dX0_note_62 rfl ?_
  refine ev_getf (pc := 63) dX0_note_63 f_X0_31 h5.1 rfl ?_
  refine ev_iret (pc := 66) dX0_note_66 rfl rfl ⟨rfl, R4, fun a b hab => ?_, ⟨?_, ?_, ?_, ?_, p4⟩, h5, ((((F0.tr F1).tr F2).tr F3).tr F4).tr F5⟩
  · rw [q4 a b (by omega), q3 a b (by omega), q2 a b (by omega), q1 a b (by omega), q0 a b (by omega)]
  · rw [q4 0 wa (by omega), q3 0 wa (by omega), q2 0 wa (by omega), q1 0 wa (by omega), p0]
  · rw [q4 1 wa (by omega), q3 1 wa (by omega), q2 1 wa (by omega), p1]
  · rw [q4 2 wa (by omega), q3 2 wa (by omega), p2]
  · rw [q4 3 wa (by omega), p3]
theorem k_isBefore {l e kl ke sl se : Nat} (hd : 1 ≤ dd) (h : AG H A ga R wa ar) (hl : l < 16) (he : e < 16) (h1 : R 0 l = nI kl) (h2 : R 0 e = nI ke) (h3 : R 1 l = nI sl) (h4 : R 1 e = nI se) (b1 : kl < 9) (b2 : ke < 9) (b3 : sl < 8) (b4 : se < 8) : ev_Ca G dd w m_X0_isBefore [.ref A, .int (nI l), .int (nI e)] H 0 0 (ev_ok (fun r h1 => r = some (.int (nI (if kl * 8 + sl < ke * 8 + se then 1 else 0))) ∧ h1 = H)) := by
  obtain ⟨dd, rfl⟩ : ∃ e, dd = e + 1 := ⟨dd - 1, by omega⟩
  refine ⟨by decide +kernel, rfl, ?_⟩
  refine ev_aload_n (pc := 0) dX0_isBefore_0 rfl ?_
  refine ev_getf (pc := 1) dX0_isBefore_1 f_X0_9 h.1 rfl ?_
  refine ev_iload_n (pc := 4) dX0_isBefore_4 rfl ?_
  refine ev_iaF (pc := 5) dX0_isBefore_5 (h.2 0 (by decide)) hl (by decide) h1 ?_
  refine ev_aload_n (pc := 6) dX0_isBefore_6 rfl ?_
  refine ev_getf (pc := 7) dX0_isBefore_7 f_X0_9 h.1 rfl ?_
  refine ev_iload_n (pc := 10) dX0_isBefore_10 rfl ?_
  refine ev_iaF (pc := 11) dX0_isBefore_11 (h.2 0 (by decide)) he (by decide) h2 ?_
  refine ev_icmp_eqN (pc := 12) (tgt := 36) dX0_isBefore_12 (by decide) (by omega) (by omega) (fun c1 => ?_) (fun c1 => ?_)
  · refine ev_aload_n (pc := 36) dX0_isBefore_36 rfl ?_
    refine ev_getf (pc := 37) dX0_isBefore_37 f_X0_13 h.1 rfl ?_
    refine ev_iload_n (pc := 40) dX0_isBefore_40 rfl ?_
    refine ev_iaF (pc := 41) dX0_isBefore_41 (h.2 1 (by decide)) hl (by decide) h3 ?_
    refine ev_aload_n (pc := 42) dX0_isBefore_42 rfl ?_
    refine ev_getf (pc := 43) dX0_isBefore_43 f_X0_13 h.1 rfl ?_
    refine ev_iload_n (pc := 46) dX0_isBefore_46 rfl ?_
    refine ev_iaF (pc := 47) dX0_isBefore_47 (h.2 1 (by decide)) he (by decide) h4 ?_
    refine ev_icmp_geN (pc := 48) (tgt := 55) dX0_isBefore_48 (by decide) (by omega) (by omega) (fun c2 => ?_) (fun c2 => ?_)
    · refine ev_iconst (pc := 55) (v := nI 0) dX0_isBefore_55 (by decide) ?_
      exact ev_iret (pc := 56) dX0_isBefore_56 rfl rfl ⟨by rw [if_neg (by omega)], rfl⟩
    · refine ev_iconst (pc := 51) (v := nI 1) dX0_isBefore_51 (by decide) ?_
      refine ev_goto (pc := 52) (tgt := 56) dX0_isBefore_52 (by decide) ?_
      exact ev_iret (pc := 56) dX0_isBefore_56 rfl rfl ⟨by rw [if_pos (by omega)], rfl⟩
  · refine ev_aload_n (pc := 15) dX0_isBefore_15 rfl ?_
    refine ev_getf (pc := 16) dX0_isBefore_16 f_X0_9 h.1 rfl ?_
    refine ev_iload_n (pc := 19) dX0_isBefore_19 rfl ?_
    refine ev_iaF (pc := 20) dX0_isBefore_20 (h.2 0 (by decide)) hl (by decide) h1 ?_
    refine ev_aload_n (pc := 21) dX0_isBefore_21 rfl ?_
    refine ev_getf (pc := 22) dX0_isBefore_22 f_X0_9 h.1 rfl ?_
    refine ev_iload_n (pc := 25) dX0_isBefore_25 rfl ?_
    refine ev_iaF (pc := 26) dX0_isBefore_26 (h.2 0 (by decide)) he (by decide) h2 ?_
    refine ev_icmp_geN (pc := 27) (tgt := 34) dX0_isBefore_27 (by decide) (by omega) (by omega) (fun c2 => ?_) (fun c2 => ?_)
    · refine ev_iconst (pc := 34) (v := nI 0) dX0_isBefore_34 (by decide) ?_
      exact ev_iret (pc := 35) dX0_isBefore_35 rfl rfl ⟨by rw [if_neg (by omega)], rfl⟩
    · refine ev_iconst (pc := 30) (v := nI 1) dX0_isBefore_30 (by decide) ?_
      refine ev_goto (pc := 31) (tgt := 35) dX0_isBefore_31 (by decide) ?_
      exact ev_iret (pc := 35) dX0_isBefore_35 rfl rfl ⟨by rw [if_pos (by omega)], rfl⟩
variable {kd sh : Nat → Nat}
theorem l_ins {K : ev_K} {c z p : Nat} {H0 : ev_H} {R0 : Nat → Nat → Int32} {od : Nat → Nat} (hd : 1 ≤ dd) (hw : 22 ≤ w) (hD : AD ga) (hp : p < wa) (hwa : wa ≤ 16)
    (hE : ∀ j, j < wa → R0 0 j = nI (kd j) ∧ R0 1 j = nI (sh j) ∧ kd j < 9 ∧ sh j < 8) (hod : ∀ i, i < p → od i < p)
    (hK : ∀ t H R, t ≤ p → AG H A ga R wa ar → AF A ga H0 H → (∀ a, a ≠ 5 → ∀ b, R a b = R0 a b) → (∀ j, j < t → R 5 j = nI (od j)) → (∀ j, t < j → j ≤ p → R 5 j = nI (od (j - 1))) → (∀ i, t ≤ i → i < p → ky kd sh p < ky kd sh (od i)) → (t = 0 ∨ ky kd sh (od (t - 1)) < ky kd sh p) → ev_J G (ev_cc G dd w) w m_X0_arrange K (52, ev_lf [(0, .ref A), (1, .int (nI p)), (2, .int (nI t))], [], H, c, z)) :
    ∀ t H R, t ≤ p → AG H A ga R wa ar → AF A ga H0 H → (∀ a, a ≠ 5 → ∀ b, R a b = R0 a b) → (∀ j, j < t → R 5 j = nI (od j)) → (∀ j, t < j → j ≤ p → R 5 j = nI (od (j - 1))) → (∀ i, t ≤ i → i < p → ky kd sh p < ky kd sh (od i)) → ev_J G (ev_cc G dd w) w m_X0_arrange K (12, ev_lf [(0, .ref A), (1, .int (nI p)), (2, .int (nI t))], [], H, c, z)
  | 0, H, R, ht, h, hF, e1, e2, e3, e4 => by
    refine ev_iload_n (pc := 12) dX0_arrange_12 rfl ?_
    refine ev_if_leN (pc := 13) (tgt := 52) dX0_arrange_13 (by decide) (by omega) (fun c1 => ?_) (fun c1 => ?_)
    · refine ev_vs [(0, .ref A), (1, .int (nI p)), (2, .int (nI 0))] ⟨rfl, rfl, rfl, trivial⟩ ?_
      exact hK 0 H R ht h hF e1 e2 e3 e4 (Or.inl rfl)
    · omega
  | t + 1, H, R, ht, h, hF, e1, e2, e3, e4 => by
    have hot := hod t (by omega)
    obtain ⟨y1, y2, y3, y4⟩ := hE p hp
    obtain ⟨y5, y6, y7, y8⟩ := hE (od t) (by omega)
    refine ev_iload_n (pc := 12) dX0_arrange_12 rfl ?_
    refine ev_if_leN (pc := 13) (tgt := 52) dX0_arrange_13 (by decide) (by omega) (fun c1 => ?_) (fun c1 => ?_)
    · omega
    · refine ev_aload_n (pc := 16) dX0_arrange_16 rfl ?_
      refine ev_iload_n (pc := 17) dX0_arrange_17 rfl ?_
      refine ev_aload_n (pc := 18) dX0_arrange_18 rfl ?_
      refine ev_getf (pc := 19) dX0_arrange_19 f_X0_25 h.1 rfl ?_
      refine ev_iload_n (pc := 22) dX0_arrange_22 rfl ?_
      refine ev_iconst (pc := 23) (v := nI 1) dX0_arrange_23 (by decide) ?_
      refine ev_isubN (pc := 24) dX0_arrange_24 (by omega) ?_
      refine ev_iaF (pc := 25) (i := t) dX0_arrange_25 (h.2 5 (by decide)) (by omega) (by decide) (e2 t (by omega)) ?_
      refine ev_callV (pc := 26) (As := [.int (nI p), .int (nI (od t))]) dX0_arrange_26 cv_X0_38 rfl rfl h.1 rfl ⟨by show 19 + 3 ≤ w; omega, show ev_Ca _ _ (w - 22) _ _ _ _ _ _ from k_isBefore (by omega) h (by omega) (by omega) ((e1 0 (by decide) _).trans y1) ((e1 0 (by decide) _).trans y5) ((e1 1 (by decide) _).trans y2) ((e1 1 (by decide) _).trans y6) y3 y7 y4 y8⟩ rfl rfl (fun r h1 hp => ?_)
      obtain ⟨rfl, hH⟩ := hp
      rw [hH]
      clear hH h1
      by_cases cc : kd p * 8 + sh p < kd (od t) * 8 + sh (od t)
      · rw [if_pos cc]
        refine ev_if_eqN (pc := 29) (tgt := 52) dX0_arrange_29 (by decide) (by decide) (fun q => absurd q (by decide)) (fun _ => ?_)
        refine ev_aload_n (pc := 32) dX0_arrange_32 rfl ?_
        refine ev_getf (pc := 33) dX0_arrange_33 f_X0_25 h.1 rfl ?_
        refine ev_iload_n (pc := 36) dX0_arrange_36 rfl ?_
        refine ev_aload_n (pc := 37) dX0_arrange_37 rfl ?_
        refine ev_getf (pc := 38) dX0_arrange_38 f_X0_25 h.1 rfl ?_
        refine ev_iload_n (pc := 41) dX0_arrange_41 rfl ?_
        refine ev_iconst (pc := 42) (v := nI 1) dX0_arrange_42 (by decide) ?_
        refine ev_isubN (pc := 43) dX0_arrange_43 (by omega) ?_
        refine ev_iaF (pc := 44) (i := t) dX0_arrange_44 (h.2 5 (by decide)) (by omega) (by decide) (e2 t (by omega)) ?_
        refine ev_iast (pc := 45) dX0_arrange_45 (h.2 5 (by decide)) (vp_in_nI (by omega) (by decide)) ?_
        obtain ⟨R1, p1, q1, h2, F2⟩ := ag_put (k := 5) (j := t + 1) (x := nI (od t)) h hD (by decide) (by omega)
        refine ev_iincD (pc := 46) dX0_arrange_46 rfl rfl (by omega) ?_
        refine ev_goto (pc := 49) (tgt := 12) dX0_arrange_49 (by decide) ?_
        refine ev_vs [(0, .ref A), (1, .int (nI p)), (2, .int (nI t))] ⟨rfl, rfl, rfl, trivial⟩ ?_
        refine l_ins hd hw hD hp hwa hE hod hK t _ R1 (by omega) h2 (hF.tr F2) (fun a ha b => (q1 a b (Or.inl ha)).trans (e1 a ha b)) (fun j hj => (q1 5 j (by omega)).trans (e2 j (by omega))) (fun j hj hjp => ?_) (fun i hi hip => ?_)
        · by_cases q : j = t + 1
          · rw [q, p1]; rfl
          · rw [q1 5 j (by omega), e3 j (by omega) hjp]
        · by_cases q : i = t
          · rw [q]; unfold ky; omega
          · exact e4 i (by omega) hip
      · rw [if_neg cc]
        refine ev_if_eqN (pc := 29) (tgt := 52) dX0_arrange_29 (by decide) (by decide) (fun _ => ?_) (fun q => absurd q (by decide))
        refine ev_vs [(0, .ref A), (1, .int (nI p)), (2, .int (nI (t + 1)))] ⟨rfl, rfl, rfl, trivial⟩ ?_
        exact hK (t + 1) H R ht h hF e1 e2 e3 e4 (Or.inr (by rw [Nat.add_sub_cancel]; unfold ky; omega))
theorem l_arr {K : ev_K} {c z : Nat} {H0 : ev_H} {R0 : Nat → Nat → Int32} (hd : 1 ≤ dd) (hw : 22 ≤ w) (hD : AD ga) (hwa : wa ≤ 16)
    (hE : ∀ j, j < wa → R0 0 j = nI (kd j) ∧ R0 1 j = nI (sh j) ∧ kd j < 9 ∧ sh j < 8)
    (hK : ∀ H R od, AG H A ga R wa ar → AF A ga H0 H → (∀ a, a ≠ 5 → ∀ b, R a b = R0 a b) → (∀ j, j < wa → R 5 j = nI (od j)) → so kd sh wa od → ev_J G (ev_cc G dd w) w m_X0_arrange K (65, ev_lf [(0, .ref A)], [], H, c, z)) :
    ∀ k p H R od, p + k = wa → AG H A ga R wa ar → AF A ga H0 H → (∀ a, a ≠ 5 → ∀ b, R a b = R0 a b) → (∀ j, j < p → R 5 j = nI (od j)) → so kd sh p od → ev_J G (ev_cc G dd w) w m_X0_arrange K (2, ev_lf [(0, .ref A), (1, .int (nI p))], [], H, c, z)
  | 0, p, H, R, od, e, h, hF, e1, e2, e3 => by
    refine ev_iload_n (pc := 2) dX0_arrange_2 rfl ?_
    refine ev_aload_n (pc := 3) dX0_arrange_3 rfl ?_
    refine ev_getf (pc := 4) dX0_arrange_4 f_X0_31 h.1 rfl ?_
    refine ev_icmp_geN (pc := 7) (tgt := 65) dX0_arrange_7 (by decide) (by omega) (by omega) (fun c1 => ?_) (fun c1 => ?_)
    · refine ev_vs [(0, .ref A)] ⟨rfl, trivial⟩ ?_
      have : p = wa := by omega
      subst this
      exact hK H R od h hF e1 e2 e3
    · omega
  | k + 1, p, H, R, od, e, h, hF, e1, e2, e3 => by
    refine ev_iload_n (pc := 2) dX0_arrange_2 rfl ?_
    refine ev_aload_n (pc := 3) dX0_arrange_3 rfl ?_
    refine ev_getf (pc := 4) dX0_arrange_4 f_X0_31 h.1 rfl ?_
    refine ev_icmp_geN (pc := 7) (tgt := 65) dX0_arrange_7 (by decide) (by omega) (by omega) (fun c1 => ?_) (fun c1 => ?_)
    · omega
    · refine ev_iload_n (pc := 10) dX0_arrange_10 rfl ?_
      refine ev_istore_n (pc := 11) dX0_arrange_11 rfl ?_
      refine ev_vs [(0, .ref A), (1, .int (nI p)), (2, .int (nI p))] ⟨rfl, rfl, rfl, trivial⟩ ?_
      refine l_ins (H0 := H0) (R0 := R0) (od := od) hd hw hD c1 hwa hE e3.1 (fun t H2 R2 ht g gF g1 g2 g3 g4 g5 => ?_) p H R (Nat.le_refl p) h hF e1 e2 (fun j hj hjp => by omega) (fun i hi hip => by omega)
      refine ev_aload_n (pc := 52) dX0_arrange_52 rfl ?_
      refine ev_getf (pc := 53) dX0_arrange_53 f_X0_25 g.1 rfl ?_
      refine ev_iload_n (pc := 56) dX0_arrange_56 rfl ?_
      refine ev_iload_n (pc := 57) dX0_arrange_57 rfl ?_
      refine ev_iast (pc := 58) dX0_arrange_58 (g.2 5 (by decide)) (vp_in_nI (by omega) (by decide)) ?_
      obtain ⟨R3, p3, q3, h3, F3⟩ := ag_put (k := 5) (j := t) (x := nI p) g hD (by decide) (by omega)
      refine ev_iincN (pc := 59) dX0_arrange_59 rfl rfl ?_
      refine ev_goto (pc := 62) (tgt := 2) dX0_arrange_62 (by decide) ?_
      refine ev_vs [(0, .ref A), (1, .int (nI (p + 1)))] ⟨rfl, rfl, trivial⟩ ?_
      refine l_arr hd hw hD hwa hE hK k (p + 1) _ R3 (oi od p t) (by omega) h3 (gF.tr F3) (fun a ha b => (q3 a b (Or.inl ha)).trans (g1 a ha b)) (fun j hj => ?_) (so_ins e3 ht g4 g5)
      unfold oi
      rcases Nat.lt_trichotomy j t with q | q | q
      · rw [if_pos q, q3 5 j (by omega)]; exact g2 j q
      · rw [if_neg (by omega), if_pos q, q]; exact p3
      · rw [if_neg (by omega), if_neg (by omega), q3 5 j (by omega)]; exact g3 j q (by omega)
theorem k_arrange (hd : 2 ≤ dd) (hw : 22 ≤ w) (h : AG H A ga R wa ar) (hD : AD ga) (hwa : wa ≤ 16) (hE : ∀ j, j < wa → R 0 j = nI (kd j) ∧ R 1 j = nI (sh j) ∧ kd j < 9 ∧ sh j < 8) : ev_Ca G dd w m_X0_arrange [.ref A] H 0 0 (ev_ok (fun r h1 => r = none ∧ ∃ R1 od, (∀ a, a ≠ 5 → ∀ b, R1 a b = R a b) ∧ (∀ j, j < wa → R1 5 j = nI (od j)) ∧ so kd sh wa od ∧ AG h1 A ga R1 0 wa ∧ AF A ga H h1)) := by
  obtain ⟨dd, rfl⟩ : ∃ e, dd = e + 1 := ⟨dd - 1, by omega⟩
  refine ⟨by decide +kernel, rfl, ?_⟩
  refine ev_iconst (pc := 0) (v := nI 0) dX0_arrange_0 (by decide) ?_
  refine ev_istore_n (pc := 1) dX0_arrange_1 rfl ?_
  refine ev_vs [(0, .ref A), (1, .int (nI 0))] ⟨rfl, rfl, trivial⟩ ?_
  refine l_arr (H0 := H) (R0 := R) (by omega) hw hD hwa hE (fun H2 R2 od g gF g1 g2 g3 => ?_) wa 0 H R (fun _ => 0) (by omega) h AF.rf (fun _ _ _ => rfl) (fun j hj => absurd hj (Nat.not_lt_zero j)) ⟨fun i hi => absurd hi (Nat.not_lt_zero i), fun i hi => absurd hi (Nat.not_lt_zero i), fun i j _ hj => absurd hj (Nat.not_lt_zero j)⟩
  refine ev_aload_n (pc := 65) dX0_arrange_65 rfl ?_
  refine ev_aload_n (pc := 66) dX0_arrange_66 rfl ?_
  refine ev_getf (pc := 67) dX0_arrange_67 f_X0_31 g.1 rfl ?_
  refine ev_putf (pc := 70) dX0_arrange_70 p_X0_35 g.1 rfl rfl rfl ?_
  obtain ⟨h4, F4⟩ := ag_a (x := wa) g
  refine ev_aload_n (pc := 73) dX0_arrange_73 rfl ?_
  refine ev_iconst (pc := 74) (v := nI 0) dX0_arrange_74 (by decide) ?_
  refine ev_putf (pc := 75) dX0_arrange_75 p_X0_31 h4.1 rfl rfl rfl ?_
  obtain ⟨h5, F5⟩ := ag_w (x := 0) h4
  exact ev_vret (pc := 78) dX0_arrange_78 rfl ⟨rfl, R2, od, g1, g2, g3, h5, (gF.tr F4).tr F5⟩
end AGD
end
