section
-- ===== PART A: goes FIRST, ahead of the names: the tables' words, and 'selects' of the private methods out of them =====
/-- a private method of a class that the tables say can be made, by its rows of tables_1 -/
def lw_okq (q : MethodName × Nat) : Prop := (q.1.cls ≠ "java/lang/invoke/MethodHandle" ∧ q.1.cls ≠ "java/lang/invoke/VarHandle") ∧ Cond.instantiable q.1.cls q.2 ∈ tables_1 ∧ Cond.privateMethod q.1 ∈ tables_1 ∧ Cond.instanceMethod q.1 ∈ tables_1
theorem lw_p0 : lw_okq (⟨"IndexBureau", "roundedLevel", "()J"⟩, 14) := ⟨⟨by decide +kernel, by decide +kernel⟩, List.mem_of_getElem? (i := 20) (by decide +kernel), List.mem_of_getElem? (i := 290) (by decide +kernel), List.mem_of_getElem? (i := 291) (by decide +kernel)⟩
theorem lw_p1 : lw_okq (⟨"IndexBureau", "exactLevel", "()V"⟩, 14) := ⟨⟨by decide +kernel, by decide +kernel⟩, List.mem_of_getElem? (i := 20) (by decide +kernel), List.mem_of_getElem? (i := 294) (by decide +kernel), List.mem_of_getElem? (i := 295) (by decide +kernel)⟩
theorem lw_p2 : lw_okq (⟨"IndexBureau$Whole", "clear", "()V"⟩, 2) := ⟨⟨by decide +kernel, by decide +kernel⟩, List.mem_of_getElem? (i := 115) (by decide +kernel), List.mem_of_getElem? (i := 310) (by decide +kernel), List.mem_of_getElem? (i := 311) (by decide +kernel)⟩
theorem lw_p3 : lw_okq (⟨"IndexBureau$Desk", "addTo", "(LIndexBureau$Fraction;JJJ)V"⟩, 9) := ⟨⟨by decide +kernel, by decide +kernel⟩, List.mem_of_getElem? (i := 109) (by decide +kernel), List.mem_of_getElem? (i := 327) (by decide +kernel), List.mem_of_getElem? (i := 328) (by decide +kernel)⟩
theorem lw_p4 : lw_okq (⟨"IndexBureau$Whole", "digitAt", "(I)I"⟩, 2) := ⟨⟨by decide +kernel, by decide +kernel⟩, List.mem_of_getElem? (i := 115) (by decide +kernel), List.mem_of_getElem? (i := 404) (by decide +kernel), List.mem_of_getElem? (i := 405) (by decide +kernel)⟩
theorem lw_p5 : lw_okq (⟨"IndexBureau$Text", "writeWhole", "(LIndexBureau$Whole;)V"⟩, 3) := ⟨⟨by decide +kernel, by decide +kernel⟩, List.mem_of_getElem? (i := 161) (by decide +kernel), List.mem_of_getElem? (i := 468) (by decide +kernel), List.mem_of_getElem? (i := 469) (by decide +kernel)⟩
theorem lw_p6 : lw_okq (⟨"IndexBureau$Text", "writeBackwards", "(IZ)V"⟩, 3) := ⟨⟨by decide +kernel, by decide +kernel⟩, List.mem_of_getElem? (i := 161) (by decide +kernel), List.mem_of_getElem? (i := 476) (by decide +kernel), List.mem_of_getElem? (i := 477) (by decide +kernel)⟩
theorem lw_p7 : lw_okq (⟨"IndexBureau$Text", "append", "(C)V"⟩, 3) := ⟨⟨by decide +kernel, by decide +kernel⟩, List.mem_of_getElem? (i := 161) (by decide +kernel), List.mem_of_getElem? (i := 480) (by decide +kernel), List.mem_of_getElem? (i := 481) (by decide +kernel)⟩
theorem lw_p8 : lw_okq (⟨"IndexBureau$Text", "turnRound", "(I)V"⟩, 3) := ⟨⟨by decide +kernel, by decide +kernel⟩, List.mem_of_getElem? (i := 161) (by decide +kernel), List.mem_of_getElem? (i := 484) (by decide +kernel), List.mem_of_getElem? (i := 485) (by decide +kernel)⟩
theorem lw_p9 : lw_okq (⟨"java/lang/Throwable", "fillInStackTrace", "(I)Ljava/lang/Throwable;"⟩, 6) := ⟨⟨by decide +kernel, by decide +kernel⟩, List.mem_of_getElem? (i := 556) (by decide +kernel), List.mem_of_getElem? (i := 554) (by decide +kernel), List.mem_of_getElem? (i := 555) (by decide +kernel)⟩
theorem lw_p10 : lw_okq (⟨"IndexBureau$Agenda", "isBefore", "(II)Z"⟩, 9) := ⟨⟨by decide +kernel, by decide +kernel⟩, List.mem_of_getElem? (i := 67) (by decide +kernel), List.mem_of_getElem? (i := 648) (by decide +kernel), List.mem_of_getElem? (i := 649) (by decide +kernel)⟩
theorem lw_p11 : lw_okq (⟨"IndexBureau", "perform", "(I)I"⟩, 14) := ⟨⟨by decide +kernel, by decide +kernel⟩, List.mem_of_getElem? (i := 20) (by decide +kernel), List.mem_of_getElem? (i := 652) (by decide +kernel), List.mem_of_getElem? (i := 653) (by decide +kernel)⟩
theorem lw_p12 : lw_okq (⟨"IndexBureau$Shares", "split", "(III)I"⟩, 4) := ⟨⟨by decide +kernel, by decide +kernel⟩, List.mem_of_getElem? (i := 28) (by decide +kernel), List.mem_of_getElem? (i := 665) (by decide +kernel), List.mem_of_getElem? (i := 666) (by decide +kernel)⟩
theorem lw_p13 : lw_okq (⟨"IndexBureau$Shares", "exchange", "(IJIJI)I"⟩, 4) := ⟨⟨by decide +kernel, by decide +kernel⟩, List.mem_of_getElem? (i := 28) (by decide +kernel), List.mem_of_getElem? (i := 672) (by decide +kernel), List.mem_of_getElem? (i := 673) (by decide +kernel)⟩
theorem lw_p14 : lw_okq (⟨"IndexBureau$Shares", "offerRights", "(IIII)I"⟩, 4) := ⟨⟨by decide +kernel, by decide +kernel⟩, List.mem_of_getElem? (i := 28) (by decide +kernel), List.mem_of_getElem? (i := 678) (by decide +kernel), List.mem_of_getElem? (i := 679) (by decide +kernel)⟩
theorem lw_p15 : lw_okq (⟨"IndexBureau$Shares", "payDividend", "(II)I"⟩, 4) := ⟨⟨by decide +kernel, by decide +kernel⟩, List.mem_of_getElem? (i := 28) (by decide +kernel), List.mem_of_getElem? (i := 682) (by decide +kernel), List.mem_of_getElem? (i := 683) (by decide +kernel)⟩
def lw_privs_1 : List (MethodName × Nat) := [(⟨"IndexBureau", "roundedLevel", "()J"⟩, 14), (⟨"IndexBureau", "exactLevel", "()V"⟩, 14), (⟨"IndexBureau$Whole", "clear", "()V"⟩, 2), (⟨"IndexBureau$Desk", "addTo", "(LIndexBureau$Fraction;JJJ)V"⟩, 9), (⟨"IndexBureau$Whole", "digitAt", "(I)I"⟩, 2), (⟨"IndexBureau$Text", "writeWhole", "(LIndexBureau$Whole;)V"⟩, 3), (⟨"IndexBureau$Text", "writeBackwards", "(IZ)V"⟩, 3), (⟨"IndexBureau$Text", "append", "(C)V"⟩, 3), (⟨"IndexBureau$Text", "turnRound", "(I)V"⟩, 3), (⟨"java/lang/Throwable", "fillInStackTrace", "(I)Ljava/lang/Throwable;"⟩, 6), (⟨"IndexBureau$Agenda", "isBefore", "(II)Z"⟩, 9), (⟨"IndexBureau", "perform", "(I)I"⟩, 14), (⟨"IndexBureau$Shares", "split", "(III)I"⟩, 4), (⟨"IndexBureau$Shares", "exchange", "(IJIJI)I"⟩, 4), (⟨"IndexBureau$Shares", "offerRights", "(IIII)I"⟩, 4), (⟨"IndexBureau$Shares", "payDividend", "(II)I"⟩, 4)]
theorem lw_r1 : ∀ q ∈ lw_privs_1, lw_okq q := List.forall_mem_cons.mpr ⟨lw_p0, List.forall_mem_cons.mpr ⟨lw_p1, List.forall_mem_cons.mpr ⟨lw_p2, List.forall_mem_cons.mpr ⟨lw_p3, List.forall_mem_cons.mpr ⟨lw_p4, List.forall_mem_cons.mpr ⟨lw_p5, List.forall_mem_cons.mpr ⟨lw_p6, List.forall_mem_cons.mpr ⟨lw_p7, List.forall_mem_cons.mpr ⟨lw_p8, List.forall_mem_cons.mpr ⟨lw_p9, List.forall_mem_cons.mpr ⟨lw_p10, List.forall_mem_cons.mpr ⟨lw_p11, List.forall_mem_cons.mpr ⟨lw_p12, List.forall_mem_cons.mpr ⟨lw_p13, List.forall_mem_cons.mpr ⟨lw_p14, List.forall_mem_cons.mpr ⟨lw_p15, fun _ h => absurd h List.not_mem_nil⟩⟩⟩⟩⟩⟩⟩⟩⟩⟩⟩⟩⟩⟩⟩⟩
theorem lw_p16 : lw_okq (⟨"IndexBureau$Shares", "leave", "(I)I"⟩, 4) := ⟨⟨by decide +kernel, by decide +kernel⟩, List.mem_of_getElem? (i := 28) (by decide +kernel), List.mem_of_getElem? (i := 686) (by decide +kernel), List.mem_of_getElem? (i := 687) (by decide +kernel)⟩
theorem lw_p17 : lw_okq (⟨"IndexBureau$Shares", "join", "(I)I"⟩, 4) := ⟨⟨by decide +kernel, by decide +kernel⟩, List.mem_of_getElem? (i := 28) (by decide +kernel), List.mem_of_getElem? (i := 697) (by decide +kernel), List.mem_of_getElem? (i := 698) (by decide +kernel)⟩
theorem lw_p18 : lw_okq (⟨"IndexBureau$Shares", "replace", "(III)I"⟩, 4) := ⟨⟨by decide +kernel, by decide +kernel⟩, List.mem_of_getElem? (i := 28) (by decide +kernel), List.mem_of_getElem? (i := 701) (by decide +kernel), List.mem_of_getElem? (i := 702) (by decide +kernel)⟩
theorem lw_p19 : lw_okq (⟨"IndexBureau$Shares", "cap", "(I)I"⟩, 4) := ⟨⟨by decide +kernel, by decide +kernel⟩, List.mem_of_getElem? (i := 28) (by decide +kernel), List.mem_of_getElem? (i := 705) (by decide +kernel), List.mem_of_getElem? (i := 706) (by decide +kernel)⟩
theorem lw_p20 : lw_okq (⟨"IndexBureau$Shares", "findLarge", "(I)I"⟩, 4) := ⟨⟨by decide +kernel, by decide +kernel⟩, List.mem_of_getElem? (i := 28) (by decide +kernel), List.mem_of_getElem? (i := 709) (by decide +kernel), List.mem_of_getElem? (i := 710) (by decide +kernel)⟩
theorem lw_p21 : lw_okq (⟨"IndexBureau$Shares", "plainWorthOf", "(I)J"⟩, 4) := ⟨⟨by decide +kernel, by decide +kernel⟩, List.mem_of_getElem? (i := 28) (by decide +kernel), List.mem_of_getElem? (i := 713) (by decide +kernel), List.mem_of_getElem? (i := 714) (by decide +kernel)⟩
theorem lw_p22 : lw_okq (⟨"IndexBureau$Shares", "putFactor", "(IJJ)V"⟩, 4) := ⟨⟨by decide +kernel, by decide +kernel⟩, List.mem_of_getElem? (i := 28) (by decide +kernel), List.mem_of_getElem? (i := 719) (by decide +kernel), List.mem_of_getElem? (i := 720) (by decide +kernel)⟩
theorem lw_p23 : lw_okq (⟨"IndexBureau", "findNextDivisor", "()V"⟩, 14) := ⟨⟨by decide +kernel, by decide +kernel⟩, List.mem_of_getElem? (i := 20) (by decide +kernel), List.mem_of_getElem? (i := 724) (by decide +kernel), List.mem_of_getElem? (i := 725) (by decide +kernel)⟩
theorem lw_p24 : lw_okq (⟨"IndexBureau", "isCapped", "(I)Z"⟩, 14) := ⟨⟨by decide +kernel, by decide +kernel⟩, List.mem_of_getElem? (i := 20) (by decide +kernel), List.mem_of_getElem? (i := 738) (by decide +kernel), List.mem_of_getElem? (i := 739) (by decide +kernel)⟩
theorem lw_p25 : lw_okq (⟨"IndexBureauModel", "set", "(IJ)V"⟩, 25) := ⟨⟨by decide +kernel, by decide +kernel⟩, List.mem_of_getElem? (i := 747) (by decide +kernel), List.mem_of_getElem? (i := 753) (by decide +kernel), List.mem_of_getElem? (i := 754) (by decide +kernel)⟩
theorem lw_p26 : lw_okq (⟨"IndexBureauModel", "isMember", "(I)Z"⟩, 25) := ⟨⟨by decide +kernel, by decide +kernel⟩, List.mem_of_getElem? (i := 747) (by decide +kernel), List.mem_of_getElem? (i := 849) (by decide +kernel), List.mem_of_getElem? (i := 850) (by decide +kernel)⟩
theorem lw_p27 : lw_okq (⟨"IndexBureauModel", "sum", "()V"⟩, 25) := ⟨⟨by decide +kernel, by decide +kernel⟩, List.mem_of_getElem? (i := 747) (by decide +kernel), List.mem_of_getElem? (i := 862) (by decide +kernel), List.mem_of_getElem? (i := 863) (by decide +kernel)⟩
theorem lw_p28 : lw_okq (⟨"IndexBureauModel", "plain", "(I)J"⟩, 25) := ⟨⟨by decide +kernel, by decide +kernel⟩, List.mem_of_getElem? (i := 747) (by decide +kernel), List.mem_of_getElem? (i := 866) (by decide +kernel), List.mem_of_getElem? (i := 867) (by decide +kernel)⟩
theorem lw_p29 : lw_okq (⟨"IndexBureauModel", "multiply", "(III)V"⟩, 25) := ⟨⟨by decide +kernel, by decide +kernel⟩, List.mem_of_getElem? (i := 747) (by decide +kernel), List.mem_of_getElem? (i := 870) (by decide +kernel), List.mem_of_getElem? (i := 871) (by decide +kernel)⟩
theorem lw_p30 : lw_okq (⟨"IndexBureauModel", "trim", "(I)V"⟩, 25) := ⟨⟨by decide +kernel, by decide +kernel⟩, List.mem_of_getElem? (i := 747) (by decide +kernel), List.mem_of_getElem? (i := 875) (by decide +kernel), List.mem_of_getElem? (i := 876) (by decide +kernel)⟩
theorem lw_p31 : lw_okq (⟨"IndexBureauModel", "add", "(II)V"⟩, 25) := ⟨⟨by decide +kernel, by decide +kernel⟩, List.mem_of_getElem? (i := 747) (by decide +kernel), List.mem_of_getElem? (i := 879) (by decide +kernel), List.mem_of_getElem? (i := 880) (by decide +kernel)⟩
def lw_privs_2 : List (MethodName × Nat) := [(⟨"IndexBureau$Shares", "leave", "(I)I"⟩, 4), (⟨"IndexBureau$Shares", "join", "(I)I"⟩, 4), (⟨"IndexBureau$Shares", "replace", "(III)I"⟩, 4), (⟨"IndexBureau$Shares", "cap", "(I)I"⟩, 4), (⟨"IndexBureau$Shares", "findLarge", "(I)I"⟩, 4), (⟨"IndexBureau$Shares", "plainWorthOf", "(I)J"⟩, 4), (⟨"IndexBureau$Shares", "putFactor", "(IJJ)V"⟩, 4), (⟨"IndexBureau", "findNextDivisor", "()V"⟩, 14), (⟨"IndexBureau", "isCapped", "(I)Z"⟩, 14), (⟨"IndexBureauModel", "set", "(IJ)V"⟩, 25), (⟨"IndexBureauModel", "isMember", "(I)Z"⟩, 25), (⟨"IndexBureauModel", "sum", "()V"⟩, 25), (⟨"IndexBureauModel", "plain", "(I)J"⟩, 25), (⟨"IndexBureauModel", "multiply", "(III)V"⟩, 25), (⟨"IndexBureauModel", "trim", "(I)V"⟩, 25), (⟨"IndexBureauModel", "add", "(II)V"⟩, 25)]
theorem lw_r2 : ∀ q ∈ lw_privs_2, lw_okq q := List.forall_mem_cons.mpr ⟨lw_p16, List.forall_mem_cons.mpr ⟨lw_p17, List.forall_mem_cons.mpr ⟨lw_p18, List.forall_mem_cons.mpr ⟨lw_p19, List.forall_mem_cons.mpr ⟨lw_p20, List.forall_mem_cons.mpr ⟨lw_p21, List.forall_mem_cons.mpr ⟨lw_p22, List.forall_mem_cons.mpr ⟨lw_p23, List.forall_mem_cons.mpr ⟨lw_p24, List.forall_mem_cons.mpr ⟨lw_p25, List.forall_mem_cons.mpr ⟨lw_p26, List.forall_mem_cons.mpr ⟨lw_p27, List.forall_mem_cons.mpr ⟨lw_p28, List.forall_mem_cons.mpr ⟨lw_p29, List.forall_mem_cons.mpr ⟨lw_p30, List.forall_mem_cons.mpr ⟨lw_p31, fun _ h => absurd h List.not_mem_nil⟩⟩⟩⟩⟩⟩⟩⟩⟩⟩⟩⟩⟩⟩⟩⟩
theorem lw_p32 : lw_okq (⟨"IndexBureauModel", "limb", "(II)I"⟩, 25) := ⟨⟨by decide +kernel, by decide +kernel⟩, List.mem_of_getElem? (i := 747) (by decide +kernel), List.mem_of_getElem? (i := 883) (by decide +kernel), List.mem_of_getElem? (i := 884) (by decide +kernel)⟩
theorem lw_p33 : lw_okq (⟨"IndexBureauModel", "copy", "(II)V"⟩, 25) := ⟨⟨by decide +kernel, by decide +kernel⟩, List.mem_of_getElem? (i := 747) (by decide +kernel), List.mem_of_getElem? (i := 888) (by decide +kernel), List.mem_of_getElem? (i := 889) (by decide +kernel)⟩
theorem lw_p34 : lw_okq (⟨"IndexBureauModel", "reduce", "(II)V"⟩, 25) := ⟨⟨by decide +kernel, by decide +kernel⟩, List.mem_of_getElem? (i := 747) (by decide +kernel), List.mem_of_getElem? (i := 892) (by decide +kernel), List.mem_of_getElem? (i := 893) (by decide +kernel)⟩
theorem lw_p35 : lw_okq (⟨"IndexBureauModel", "common", "(II)V"⟩, 25) := ⟨⟨by decide +kernel, by decide +kernel⟩, List.mem_of_getElem? (i := 747) (by decide +kernel), List.mem_of_getElem? (i := 896) (by decide +kernel), List.mem_of_getElem? (i := 897) (by decide +kernel)⟩
theorem lw_p36 : lw_okq (⟨"IndexBureauModel", "isEven", "(I)Z"⟩, 25) := ⟨⟨by decide +kernel, by decide +kernel⟩, List.mem_of_getElem? (i := 747) (by decide +kernel), List.mem_of_getElem? (i := 900) (by decide +kernel), List.mem_of_getElem? (i := 901) (by decide +kernel)⟩
theorem lw_p37 : lw_okq (⟨"IndexBureauModel", "half", "(I)V"⟩, 25) := ⟨⟨by decide +kernel, by decide +kernel⟩, List.mem_of_getElem? (i := 747) (by decide +kernel), List.mem_of_getElem? (i := 904) (by decide +kernel), List.mem_of_getElem? (i := 905) (by decide +kernel)⟩
theorem lw_p38 : lw_okq (⟨"IndexBureauModel", "compare", "(II)I"⟩, 25) := ⟨⟨by decide +kernel, by decide +kernel⟩, List.mem_of_getElem? (i := 747) (by decide +kernel), List.mem_of_getElem? (i := 908) (by decide +kernel), List.mem_of_getElem? (i := 909) (by decide +kernel)⟩
theorem lw_p39 : lw_okq (⟨"IndexBureauModel", "subtract", "(II)V"⟩, 25) := ⟨⟨by decide +kernel, by decide +kernel⟩, List.mem_of_getElem? (i := 747) (by decide +kernel), List.mem_of_getElem? (i := 912) (by decide +kernel), List.mem_of_getElem? (i := 913) (by decide +kernel)⟩
theorem lw_p40 : lw_okq (⟨"IndexBureauModel", "swap", "()V"⟩, 25) := ⟨⟨by decide +kernel, by decide +kernel⟩, List.mem_of_getElem? (i := 747) (by decide +kernel), List.mem_of_getElem? (i := 917) (by decide +kernel), List.mem_of_getElem? (i := 918) (by decide +kernel)⟩
theorem lw_p41 : lw_okq (⟨"IndexBureauModel", "twice", "(II)V"⟩, 25) := ⟨⟨by decide +kernel, by decide +kernel⟩, List.mem_of_getElem? (i := 747) (by decide +kernel), List.mem_of_getElem? (i := 921) (by decide +kernel), List.mem_of_getElem? (i := 922) (by decide +kernel)⟩
theorem lw_p42 : lw_okq (⟨"IndexBureauModel", "isOne", "(I)Z"⟩, 25) := ⟨⟨by decide +kernel, by decide +kernel⟩, List.mem_of_getElem? (i := 747) (by decide +kernel), List.mem_of_getElem? (i := 925) (by decide +kernel), List.mem_of_getElem? (i := 926) (by decide +kernel)⟩
theorem lw_p43 : lw_okq (⟨"IndexBureauModel", "quotient", "(IIII)V"⟩, 25) := ⟨⟨by decide +kernel, by decide +kernel⟩, List.mem_of_getElem? (i := 747) (by decide +kernel), List.mem_of_getElem? (i := 929) (by decide +kernel), List.mem_of_getElem? (i := 930) (by decide +kernel)⟩
theorem lw_p44 : lw_okq (⟨"IndexBureauModel", "bits", "(I)I"⟩, 25) := ⟨⟨by decide +kernel, by decide +kernel⟩, List.mem_of_getElem? (i := 747) (by decide +kernel), List.mem_of_getElem? (i := 933) (by decide +kernel), List.mem_of_getElem? (i := 934) (by decide +kernel)⟩
theorem lw_p45 : lw_okq (⟨"IndexBureauModel", "scale", "(II)V"⟩, 25) := ⟨⟨by decide +kernel, by decide +kernel⟩, List.mem_of_getElem? (i := 747) (by decide +kernel), List.mem_of_getElem? (i := 937) (by decide +kernel), List.mem_of_getElem? (i := 938) (by decide +kernel)⟩
theorem lw_p46 : lw_okq (⟨"IndexBureauModel", "perform", "(I)I"⟩, 25) := ⟨⟨by decide +kernel, by decide +kernel⟩, List.mem_of_getElem? (i := 747) (by decide +kernel), List.mem_of_getElem? (i := 953) (by decide +kernel), List.mem_of_getElem? (i := 954) (by decide +kernel)⟩
theorem lw_p47 : lw_okq (⟨"IndexBureauModel", "remember", "()V"⟩, 25) := ⟨⟨by decide +kernel, by decide +kernel⟩, List.mem_of_getElem? (i := 747) (by decide +kernel), List.mem_of_getElem? (i := 957) (by decide +kernel), List.mem_of_getElem? (i := 958) (by decide +kernel)⟩
def lw_privs_3 : List (MethodName × Nat) := [(⟨"IndexBureauModel", "limb", "(II)I"⟩, 25), (⟨"IndexBureauModel", "copy", "(II)V"⟩, 25), (⟨"IndexBureauModel", "reduce", "(II)V"⟩, 25), (⟨"IndexBureauModel", "common", "(II)V"⟩, 25), (⟨"IndexBureauModel", "isEven", "(I)Z"⟩, 25), (⟨"IndexBureauModel", "half", "(I)V"⟩, 25), (⟨"IndexBureauModel", "compare", "(II)I"⟩, 25), (⟨"IndexBureauModel", "subtract", "(II)V"⟩, 25), (⟨"IndexBureauModel", "swap", "()V"⟩, 25), (⟨"IndexBureauModel", "twice", "(II)V"⟩, 25), (⟨"IndexBureauModel", "isOne", "(I)Z"⟩, 25), (⟨"IndexBureauModel", "quotient", "(IIII)V"⟩, 25), (⟨"IndexBureauModel", "bits", "(I)I"⟩, 25), (⟨"IndexBureauModel", "scale", "(II)V"⟩, 25), (⟨"IndexBureauModel", "perform", "(I)I"⟩, 25), (⟨"IndexBureauModel", "remember", "()V"⟩, 25)]
theorem lw_r3 : ∀ q ∈ lw_privs_3, lw_okq q := List.forall_mem_cons.mpr ⟨lw_p32, List.forall_mem_cons.mpr ⟨lw_p33, List.forall_mem_cons.mpr ⟨lw_p34, List.forall_mem_cons.mpr ⟨lw_p35, List.forall_mem_cons.mpr ⟨lw_p36, List.forall_mem_cons.mpr ⟨lw_p37, List.forall_mem_cons.mpr ⟨lw_p38, List.forall_mem_cons.mpr ⟨lw_p39, List.forall_mem_cons.mpr ⟨lw_p40, List.forall_mem_cons.mpr ⟨lw_p41, List.forall_mem_cons.mpr ⟨lw_p42, List.forall_mem_cons.mpr ⟨lw_p43, List.forall_mem_cons.mpr ⟨lw_p44, List.forall_mem_cons.mpr ⟨lw_p45, List.forall_mem_cons.mpr ⟨lw_p46, List.forall_mem_cons.mpr ⟨lw_p47, fun _ h => absurd h List.not_mem_nil⟩⟩⟩⟩⟩⟩⟩⟩⟩⟩⟩⟩⟩⟩⟩⟩
theorem lw_p48 : lw_okq (⟨"IndexBureauModel", "change", "(IIIII)I"⟩, 25) := ⟨⟨by decide +kernel, by decide +kernel⟩, List.mem_of_getElem? (i := 747) (by decide +kernel), List.mem_of_getElem? (i := 961) (by decide +kernel), List.mem_of_getElem? (i := 962) (by decide +kernel)⟩
theorem lw_p49 : lw_okq (⟨"IndexBureauModel", "split", "(III)I"⟩, 25) := ⟨⟨by decide +kernel, by decide +kernel⟩, List.mem_of_getElem? (i := 747) (by decide +kernel), List.mem_of_getElem? (i := 965) (by decide +kernel), List.mem_of_getElem? (i := 966) (by decide +kernel)⟩
theorem lw_p50 : lw_okq (⟨"IndexBureauModel", "become", "(IJJI)I"⟩, 25) := ⟨⟨by decide +kernel, by decide +kernel⟩, List.mem_of_getElem? (i := 747) (by decide +kernel), List.mem_of_getElem? (i := 973) (by decide +kernel), List.mem_of_getElem? (i := 974) (by decide +kernel)⟩
theorem lw_p51 : lw_okq (⟨"IndexBureauModel", "rights", "(IIII)I"⟩, 25) := ⟨⟨by decide +kernel, by decide +kernel⟩, List.mem_of_getElem? (i := 747) (by decide +kernel), List.mem_of_getElem? (i := 978) (by decide +kernel), List.mem_of_getElem? (i := 979) (by decide +kernel)⟩
theorem lw_p52 : lw_okq (⟨"IndexBureauModel", "dividend", "(II)I"⟩, 25) := ⟨⟨by decide +kernel, by decide +kernel⟩, List.mem_of_getElem? (i := 747) (by decide +kernel), List.mem_of_getElem? (i := 982) (by decide +kernel), List.mem_of_getElem? (i := 983) (by decide +kernel)⟩
theorem lw_p53 : lw_okq (⟨"IndexBureauModel", "count", "(I)I"⟩, 25) := ⟨⟨by decide +kernel, by decide +kernel⟩, List.mem_of_getElem? (i := 747) (by decide +kernel), List.mem_of_getElem? (i := 986) (by decide +kernel), List.mem_of_getElem? (i := 987) (by decide +kernel)⟩
theorem lw_p54 : lw_okq (⟨"IndexBureauModel", "cap", "(I)I"⟩, 25) := ⟨⟨by decide +kernel, by decide +kernel⟩, List.mem_of_getElem? (i := 747) (by decide +kernel), List.mem_of_getElem? (i := 990) (by decide +kernel), List.mem_of_getElem? (i := 991) (by decide +kernel)⟩
theorem lw_p55 : lw_okq (⟨"IndexBureauModel", "putBack", "()V"⟩, 25) := ⟨⟨by decide +kernel, by decide +kernel⟩, List.mem_of_getElem? (i := 747) (by decide +kernel), List.mem_of_getElem? (i := 995) (by decide +kernel), List.mem_of_getElem? (i := 996) (by decide +kernel)⟩
theorem lw_p56 : lw_okq (⟨"IndexBureauModel", "printWhole", "(I)V"⟩, 25) := ⟨⟨by decide +kernel, by decide +kernel⟩, List.mem_of_getElem? (i := 747) (by decide +kernel), List.mem_of_getElem? (i := 1031) (by decide +kernel), List.mem_of_getElem? (i := 1032) (by decide +kernel)⟩
theorem lw_p57 : lw_okq (⟨"IndexBureauModel", "divide", "(II)I"⟩, 25) := ⟨⟨by decide +kernel, by decide +kernel⟩, List.mem_of_getElem? (i := 747) (by decide +kernel), List.mem_of_getElem? (i := 1035) (by decide +kernel), List.mem_of_getElem? (i := 1036) (by decide +kernel)⟩
def lw_privs_4 : List (MethodName × Nat) := [(⟨"IndexBureauModel", "change", "(IIIII)I"⟩, 25), (⟨"IndexBureauModel", "split", "(III)I"⟩, 25), (⟨"IndexBureauModel", "become", "(IJJI)I"⟩, 25), (⟨"IndexBureauModel", "rights", "(IIII)I"⟩, 25), (⟨"IndexBureauModel", "dividend", "(II)I"⟩, 25), (⟨"IndexBureauModel", "count", "(I)I"⟩, 25), (⟨"IndexBureauModel", "cap", "(I)I"⟩, 25), (⟨"IndexBureauModel", "putBack", "()V"⟩, 25), (⟨"IndexBureauModel", "printWhole", "(I)V"⟩, 25), (⟨"IndexBureauModel", "divide", "(II)I"⟩, 25)]
theorem lw_r4 : ∀ q ∈ lw_privs_4, lw_okq q := List.forall_mem_cons.mpr ⟨lw_p48, List.forall_mem_cons.mpr ⟨lw_p49, List.forall_mem_cons.mpr ⟨lw_p50, List.forall_mem_cons.mpr ⟨lw_p51, List.forall_mem_cons.mpr ⟨lw_p52, List.forall_mem_cons.mpr ⟨lw_p53, List.forall_mem_cons.mpr ⟨lw_p54, List.forall_mem_cons.mpr ⟨lw_p55, List.forall_mem_cons.mpr ⟨lw_p56, List.forall_mem_cons.mpr ⟨lw_p57, fun _ h => absurd h List.not_mem_nil⟩⟩⟩⟩⟩⟩⟩⟩⟩⟩
def lw_privs : List (MethodName × Nat) := lw_privs_1 ++ (lw_privs_2 ++ (lw_privs_3 ++ (lw_privs_4)))
def lw_tbl : List Cond := k2_sels lw_privs ++ tables_1
theorem lw_privs_ok : ∀ q ∈ lw_privs, lw_okq q := by
  show ∀ q ∈ lw_privs_1 ++ (lw_privs_2 ++ (lw_privs_3 ++ (lw_privs_4))), lw_okq q
  exact List.forall_mem_append.mpr ⟨lw_r1, List.forall_mem_append.mpr ⟨lw_r2, List.forall_mem_append.mpr ⟨lw_r3, lw_r4⟩⟩⟩
end
section
section VXS
variable {p : Program} {l : Launch} {e : Env} {R : Room} {s : State} {m : MethodId} {args : Array Value} {below : List Frame} {meth : Method} {c : Code} {T : State} {H : Heap} {locs : List Loc} {cells slots : Nat}
abbrev vx_CSW (R : Room) (s : State) (args : Array Value) (own : String) (index : Nat) (y : MethodName) (bytes : ByteArray) (maxL : Nat) (ret : Option FieldType) (hh : List (Nat × Nat × Nat × Nat)) (ws : List Cond) (rm : Room) (mc ms n : Nat) : Prop :=
  (rm.cells = mc ∧ rm.slots = ms ∧ rm.frames + 1 ≤ R.frames ∧ 8 + (maxL + 11) + rm.locals ≤ R.locals ∧ (∀ w ∈ ws, ∀ (a' : Array Value) (U : State), s.WarmedH U.vm → w.before a' U = true) ∧ Cond.codeWith y bytes maxL ret hh ∈ ws) ∧
  (Cond.codeWith y bytes maxL ret hh).before args s = true ∧ (Cond.initialized y.cls).before args s = true ∧ (y.cls ≠ "java/lang/invoke/MethodHandle" ∧ y.cls ≠ "java/lang/invoke/VarHandle") ∧
  (∀ sig, parseMethodDescriptor y.desc = some sig → n = sig.parameters.length) ∧ (Cond.methodLink own index y).before args s = true ∧ (Cond.static y).before args s = true
theorem vx_cwSW {own : String} {index maxL mc ms : Nat} {y : MethodName} {bytes : ByteArray} {ret : Option FieldType} {hh : List (Nat × Nat × Nat × Nat)} {Ts ws ws' : List Cond} {rm : Room} (n : Nat) (ht : ∀ w ∈ Ts, w.before args s = true) (hT : GoodIn Ts (va_wsS own index y ws)) (hw : ws = Cond.codeWith y bytes maxL ret hh :: ws') (hrc : rm.cells = mc) (hrs : rm.slots = ms)
    (hd : y.cls ≠ "java/lang/invoke/MethodHandle" ∧ y.cls ≠ "java/lang/invoke/VarHandle" ∧ (parseMethodDescriptor y.desc).map (fun d => d.parameters.length) = some n) (hR : rm.frames + 1 ≤ R.frames ∧ 8 + (maxL + 11) + rm.locals ≤ R.locals) :
    vx_CSW R s args own index y bytes maxL ret hh ws rm mc ms n := by
  have ok : ∀ w ∈ va_wsS own index y ws, w.before args s = true := fun w h => ht w (hT w h).1
  have hG : GoodIn Ts ws := fun w h => hT w (by unfold va_wsS; exact List.mem_append_right _ h)
  have hc : Cond.codeWith y bytes maxL ret hh ∈ ws := by rw [hw]; exact List.mem_cons_self
  refine ⟨⟨hrc, hrs, hR.1, hR.2, pay_in ht hG, hc⟩, ht _ (hG _ hc).1, ok _ (by simp [va_wsS]), ⟨hd.1, hd.2.1⟩, fun sig h => ?_, ok _ (by simp [va_wsS]), ok _ (by simp [va_wsS])⟩
  have h2 := hd.2.2
  rw [h] at h2
  exact (Option.some.inj h2).symm
theorem vx_callSW (X : Stand p l e R s m args below meth c T locs cells slots) (hexec : p.tables.exec = Jvm.exec) {own : String} {index : Nat} {y : MethodName} {bytes : ByteArray} {maxL : Nat} {ret : Option FieldType} {hh : List (Nat × Nat × Nat × Nat)}
    (hown : s.vm.findClass own = some m.cls) (hlink : (Cond.methodLink own index y).before args s = true) (hstat : (Cond.static y).before args s = true) (hinit : (Cond.initialized y.cls).before args s = true)
    (hcode : (Cond.codeWith y bytes maxL ret hh).before args s = true) (hy : y.cls ≠ "java/lang/invoke/MethodHandle" ∧ y.cls ≠ "java/lang/invoke/VarHandle")
    {W9 : Nat} {Pre : Pt → Array Value → Prop} {Post : Pt → Array Value → Option Value → Pt → Prop} (hK : Back l R p e below s args y 3 W9 Pre Post)
    {g : JFrame} (hg : g.method = m) (hsize : g.locals.size = c.maxLocals) {argsL rest : List Value} (hlen : ∀ sig, parseMethodDescriptor y.desc = some sig → argsL.length = sig.parameters.length)
    (hstack : g.stack = argsL.reverse ++ rest) (hW : 2 * g.monitorRoom + (rest.map fun v => v.category).sum ≤ W9) (hdg : decode c.code g.pc = .ok (.invokestatic index, 3))
    (hpre : ∀ vm₁, s.WarmedH vm₁ → Pre ⟨T.setVm vm₁, locs, cells, slots⟩ argsL.toArray) :
    ∃ (v : Option Value) (vm₁ : Vm) (B : Pt), s.WarmedH vm₁ ∧ Stand p l e R s m args below meth c B.U B.locs B.cells B.slots ∧ Post ⟨T.setVm vm₁, locs, cells, slots⟩ argsL.toArray v B ∧
      ∀ target, Steps p.tables e below (B.U.setTop { g with pc := g.pc + 3, stack := v.toList ++ rest }) target → Steps p.tables e below (T.setTop g) target := by
  obtain ⟨mk, methM, cM, hnamed, hmethM, -, -, -, -, -, -, hsigM⟩ := Cond.codeWith_spec hcode
  have hstatic : methM.isStatic = true := Cond.static_spec hnamed hmethM hstat
  obtain ⟨kP, hkP, -⟩ := className_of_methodNamed hnamed
  have hinitP : kP.init = .initialized := Cond.initialized_spec (findClass_of_methodNamed hnamed) hkP hinit
  obtain ⟨vm₁, X₁, hstep₁⟩ := X.invokestatic hexec hown hlink hnamed hmethM hstatic hkP hinitP hy (g := g) hg (argsL := argsL) (rest := rest) (hlen _ hsigM) hstack hdg
  obtain ⟨v, B, X', hpost, hsteps⟩ := hK m meth c ⟨T.setVm vm₁, locs, cells, slots⟩ { g with stack := rest } (.invokestatic index) mk argsL.toArray X₁ hg hsize hdg hW (X₁.named hnamed) (hpre vm₁ X₁.warmed)
  exact ⟨v, vm₁, B, X₁.warmed, X', hpost, fun target h => hstep₁ _ fun acts => by rw [doInvoke_state]; exact hsteps.trans h⟩
theorem vx_runSW {y : MethodName} {bytes cc : ByteArray} {maxL nL mc ms n index : Nat} {ret : Option FieldType} {hh : List (Nat × Nat × Nat × Nat)} {ws : List Cond} {rm : Room} {Pc : Array Value → State → Prop} {Qc : Array Value → State → Outcome → State → Prop} {free : Addr → Prop} {Ts : List Cond} {own : String} {As rest : List Value} {g : JFrame}
    (S : CallFix p m c cc nL s args Ts own) (hM : Met l y ws rm Pc Qc mc ms free) (cw : vx_CSW R s args own index y bytes maxL ret hh ws rm mc ms n) (hp : PreS s H Pc As)
    (hg : g.method = m) (hn : As.length = n) (hsize : g.locals.size = nL) (hstack : g.stack = As.reverse ++ rest) (hW : 2 * g.monitorRoom + (rest.map fun v => v.category).sum ≤ 8) (hdg : decode cc g.pc = .ok (.invokestatic index, 3)) (hf : cells + mc ≤ R.cells ∧ slots + ms ≤ R.slots) :
    va_Run p l e R s m args below meth c H locs cells slots mc ms g rest (Qc As.toArray) (free) := by
  obtain ⟨⟨hrc, hrs, hfr, hlo, hws, hcw⟩, hcode, hini, hy, hlen, hl, hstt⟩ := cw
  have hK : Back l R p e below s args y 3 8 (PreOf R mc ms Pc) (PostOf Qc mc ms free) := va_backW (hh := hh) (bytes := bytes) (maxL := maxL) (ret := ret) hM hp.1 hrc hrs hfr hlo hws hcw (fun a' U hW => word_at hW (Or.inl (by first | rfl | simp [Cond.onTables, Cond.keeps, Cond.steady])) hini)
  obtain ⟨hx, hb, hml, ho, -⟩ := S
  intro T hT X
  obtain ⟨v, vm₁, ⟨U', l2, c2, s2⟩, hW₁, X', ⟨g', mk, t, L, e1, e2, hq, h1, hL, h2, h3⟩, st⟩ := vx_callSW X hx (hh := hh) (bytes := bytes) (maxL := maxL) (ret := ret) ho hl hstt hini hcode hy hK hg (hsize.trans hml.symm) (argsL := As) (rest := rest) (fun sig h => hn.trans (hlen sig h)) hstack hW (by rw [hb]; exact hdg)
    (fun vm₁ hW₁ => ⟨hf.1, hf.2, hp.2 (T.setVm vm₁) hT hW₁⟩)
  dsimp only [Pt.U, Pt.locs, Pt.cells, Pt.slots] at X' e1 e2 h1 h2 h3 st
  subst h1; subst h2; subst h3
  exact ⟨v, (T.setVm vm₁).calling g' mk As.toArray, t, U', L, hT, X', hL, e1, e2, hq, st⟩
end VXS
end
section
def RX0 : String := "IndexBureau$Agenda"
def TX0 : u_T := fun k => match k with
  | 0 => ("IndexBureau$Agenda", "kind", "[I", true)
  | 1 => ("IndexBureau$Agenda", "share", "[I", true)
  | 2 => ("IndexBureau$Agenda", "a", "[I", true)
  | 3 => ("IndexBureau$Agenda", "b", "[I", true)
  | 4 => ("IndexBureau$Agenda", "c", "[I", true)
  | 5 => ("IndexBureau$Agenda", "order", "[I", true)
  | 6 => ("IndexBureau$Agenda", "outcome", "[I", true)
  | 7 => ("IndexBureau$Agenda", "waiting", "I", false)
  | _ => ("IndexBureau$Agenda", "arranged", "I", false)
def tyX0 : Nat → FieldType := fun k => match k with
  | 0 => .array .int
  | 1 => .array .int
  | 2 => .array .int
  | 3 => .array .int
  | 4 => .array .int
  | 5 => .array .int
  | 6 => .array .int
  | 7 => .int
  | _ => .int
abbrev wsX00 : List Cond := u_ws RX0 TX0 9
theorem nmX0 : ∀ a, a < 9 → ∀ b, b < 9 → a ≠ b → (TX0 a).2.1 ≠ (TX0 b).2.1 := by decide +kernel
theorem tyX0_ok : ∀ k, k < 9 → parseFieldDescriptor (TX0 k).2.2.1 = some (tyX0 k) := by decide +kernel
abbrev cX0_init : ByteArray := prog_2_method_1_code
def yX0_init : MethodName := ⟨RX0, "<init>", "()V"⟩
abbrev cX0_forget : ByteArray := prog_2_method_2_code
def yX0_forget : MethodName := ⟨RX0, "forget", "()V"⟩
abbrev cX0_isFull : ByteArray := prog_2_method_3_code
def yX0_isFull : MethodName := ⟨RX0, "isFull", "()Z"⟩
abbrev cX0_wasArranged : ByteArray := prog_2_method_4_code
def yX0_wasArranged : MethodName := ⟨RX0, "wasArranged", "(I)Z"⟩
abbrev cX0_note : ByteArray := prog_2_method_5_code
def yX0_note : MethodName := ⟨RX0, "note", "(IIIII)I"⟩
abbrev cX0_arrange : ByteArray := prog_2_method_6_code
def yX0_arrange : MethodName := ⟨RX0, "arrange", "()V"⟩
abbrev cX0_isBefore : ByteArray := prog_2_method_7_code
def yX0_isBefore : MethodName := ⟨RX0, "isBefore", "(II)Z"⟩
def RX1 : String := "IndexBureau$Desk"
def TX1 : u_T := fun k => match k with
  | 0 => ("IndexBureau$Desk", "quotient", "LIndexBureau$Whole;", true)
  | 1 => ("IndexBureau$Desk", "left", "LIndexBureau$Whole;", true)
  | 2 => ("IndexBureau$Desk", "right", "LIndexBureau$Whole;", true)
  | 3 => ("IndexBureau$Desk", "product", "LIndexBureau$Whole;", true)
  | 4 => ("IndexBureau$Desk", "factor", "LIndexBureau$Whole;", true)
  | 5 => ("IndexBureau$Desk", "term", "LIndexBureau$Whole;", true)
  | 6 => ("IndexBureau$Desk", "shifted", "LIndexBureau$Whole;", true)
  | 7 => ("IndexBureau$Desk", "greater", "LIndexBureau$Whole;", true)
  | _ => ("IndexBureau$Desk", "lesser", "LIndexBureau$Whole;", true)
def tyX1 : Nat → FieldType := fun k => match k with
  | 0 => .object "IndexBureau$Whole"
  | 1 => .object "IndexBureau$Whole"
  | 2 => .object "IndexBureau$Whole"
  | 3 => .object "IndexBureau$Whole"
  | 4 => .object "IndexBureau$Whole"
  | 5 => .object "IndexBureau$Whole"
  | 6 => .object "IndexBureau$Whole"
  | 7 => .object "IndexBureau$Whole"
  | _ => .object "IndexBureau$Whole"
abbrev wsX10 : List Cond := u_ws RX1 TX1 9
theorem nmX1 : ∀ a, a < 9 → ∀ b, b < 9 → a ≠ b → (TX1 a).2.1 ≠ (TX1 b).2.1 := by decide +kernel
theorem tyX1_ok : ∀ k, k < 9 → parseFieldDescriptor (TX1 k).2.2.1 = some (tyX1 k) := by decide +kernel
abbrev cX1_init : ByteArray := prog_3_method_1_code
def yX1_init : MethodName := ⟨RX1, "<init>", "()V"⟩
abbrev cX1_commonDivisor : ByteArray := prog_3_method_2_code
def yX1_commonDivisor : MethodName := ⟨RX1, "commonDivisor", "(JJ)J"⟩
abbrev cX1_multiply : ByteArray := prog_3_method_3_code
def yX1_multiply : MethodName := ⟨RX1, "multiply", "(LIndexBureau$Whole;LIndexBureau$Whole;)V"⟩
abbrev cX1_scale : ByteArray := prog_3_method_4_code
def yX1_scale : MethodName := ⟨RX1, "scale", "(LIndexBureau$Whole;J)V"⟩
abbrev cX1_divide : ByteArray := prog_3_method_5_code
def yX1_divide : MethodName := ⟨RX1, "divide", "(LIndexBureau$Whole;LIndexBureau$Whole;)V"⟩
abbrev cX1_cancel : ByteArray := prog_3_method_6_code
def yX1_cancel : MethodName := ⟨RX1, "cancel", "(LIndexBureau$Whole;LIndexBureau$Whole;)V"⟩
abbrev cX1_addUp : ByteArray := prog_3_method_7_code
def yX1_addUp : MethodName := ⟨RX1, "addUp", "(LIndexBureau$Shares;LIndexBureau$Fraction;)V"⟩
abbrev cX1_addTo : ByteArray := prog_3_method_8_code
def yX1_addTo : MethodName := ⟨RX1, "addTo", "(LIndexBureau$Fraction;JJJ)V"⟩
abbrev cX1_weigh : ByteArray := prog_3_method_9_code
def yX1_weigh : MethodName := ⟨RX1, "weigh", "(LIndexBureau$Shares;IILIndexBureau$Fraction;I)V"⟩
abbrev cX1_sameLevel : ByteArray := prog_3_method_10_code
def yX1_sameLevel : MethodName := ⟨RX1, "sameLevel", "(LIndexBureau$Fraction;LIndexBureau$Fraction;LIndexBureau$Fraction;LIndexBureau$Fraction;)Z"⟩
def RX2 : String := "IndexBureau$Fraction"
def TX2 : u_T := fun k => match k with
  | 0 => ("IndexBureau$Fraction", "up", "LIndexBureau$Whole;", true)
  | _ => ("IndexBureau$Fraction", "down", "LIndexBureau$Whole;", true)
def tyX2 : Nat → FieldType := fun k => match k with
  | 0 => .object "IndexBureau$Whole"
  | _ => .object "IndexBureau$Whole"
abbrev wsX20 : List Cond := u_ws RX2 TX2 2
theorem nmX2 : ∀ a, a < 2 → ∀ b, b < 2 → a ≠ b → (TX2 a).2.1 ≠ (TX2 b).2.1 := by decide +kernel
theorem tyX2_ok : ∀ k, k < 2 → parseFieldDescriptor (TX2 k).2.2.1 = some (tyX2 k) := by decide +kernel
abbrev cX2_init : ByteArray := prog_4_method_1_code
def yX2_init : MethodName := ⟨RX2, "<init>", "()V"⟩
abbrev cX2_become : ByteArray := prog_4_method_2_code
def yX2_become : MethodName := ⟨RX2, "become", "(JJ)V"⟩
abbrev cX2_copy : ByteArray := prog_4_method_3_code
def yX2_copy : MethodName := ⟨RX2, "copy", "(LIndexBureau$Fraction;)V"⟩
abbrev cX2_mostDigits : ByteArray := prog_4_method_4_code
def yX2_mostDigits : MethodName := ⟨RX2, "mostDigits", "()I"⟩
def RX3 : String := "IndexBureau$Kind"
def TX3 : u_T := fun k => match k with
  | _ => ("", "", "", false)
def tyX3 : Nat → FieldType := fun k => match k with
  | _ => .int
abbrev wsX30 : List Cond := u_ws RX3 TX3 0
theorem nmX3 : ∀ a, a < 0 → ∀ b, b < 0 → a ≠ b → (TX3 a).2.1 ≠ (TX3 b).2.1 := by decide +kernel
theorem tyX3_ok : ∀ k, k < 0 → parseFieldDescriptor (TX3 k).2.2.1 = some (tyX3 k) := by decide +kernel
def RX4 : String := "IndexBureau$Outcome"
def TX4 : u_T := fun k => match k with
  | _ => ("", "", "", false)
def tyX4 : Nat → FieldType := fun k => match k with
  | _ => .int
abbrev wsX40 : List Cond := u_ws RX4 TX4 0
theorem nmX4 : ∀ a, a < 0 → ∀ b, b < 0 → a ≠ b → (TX4 a).2.1 ≠ (TX4 b).2.1 := by decide +kernel
theorem tyX4_ok : ∀ k, k < 0 → parseFieldDescriptor (TX4 k).2.2.1 = some (tyX4 k) := by decide +kernel
def RX5 : String := "IndexBureau$Shares"
def TX5 : u_T := fun k => match k with
  | 0 => ("IndexBureau$Shares", "value", "[[I", true)
  | 1 => ("IndexBureau$Shares", "factorUp", "[J", true)
  | 2 => ("IndexBureau$Shares", "factorDown", "[J", true)
  | _ => ("IndexBureau$Shares", "members", "I", false)
def tyX5 : Nat → FieldType := fun k => match k with
  | 0 => .array (.array .int)
  | 1 => .array .long
  | 2 => .array .long
  | _ => .int
abbrev wsX50 : List Cond := u_ws RX5 TX5 4
theorem nmX5 : ∀ a, a < 4 → ∀ b, b < 4 → a ≠ b → (TX5 a).2.1 ≠ (TX5 b).2.1 := by decide +kernel
theorem tyX5_ok : ∀ k, k < 4 → parseFieldDescriptor (TX5 k).2.2.1 = some (tyX5 k) := by decide +kernel
abbrev cX5_init : ByteArray := prog_7_method_1_code
def yX5_init : MethodName := ⟨RX5, "<init>", "()V"⟩
abbrev cX5_has : ByteArray := prog_7_method_2_code
def yX5_has : MethodName := ⟨RX5, "has", "(I)Z"⟩
abbrev cX5_fits : ByteArray := prog_7_method_3_code
def yX5_fits : MethodName := ⟨RX5, "fits", "(IJ)Z"⟩
abbrev cX5_isMember : ByteArray := prog_7_method_4_code
def yX5_isMember : MethodName := ⟨RX5, "isMember", "(I)Z"⟩
abbrev cX5_hasFactorOne : ByteArray := prog_7_method_5_code
def yX5_hasFactorOne : MethodName := ⟨RX5, "hasFactorOne", "(I)Z"⟩
abbrev cX5_plainWorth : ByteArray := prog_7_method_6_code
def yX5_plainWorth : MethodName := ⟨RX5, "plainWorth", "(I)J"⟩
abbrev cX5_copy : ByteArray := prog_7_method_7_code
def yX5_copy : MethodName := ⟨RX5, "copy", "(LIndexBureau$Shares;)V"⟩
abbrev cX5_resetFactors : ByteArray := prog_7_method_8_code
def yX5_resetFactors : MethodName := ⟨RX5, "resetFactors", "()V"⟩
abbrev cX5_change : ByteArray := prog_7_method_9_code
def yX5_change : MethodName := ⟨RX5, "change", "(IIIII)I"⟩
abbrev cX5_split : ByteArray := prog_7_method_10_code
def yX5_split : MethodName := ⟨RX5, "split", "(III)I"⟩
abbrev cX5_offerRights : ByteArray := prog_7_method_11_code
def yX5_offerRights : MethodName := ⟨RX5, "offerRights", "(IIII)I"⟩
abbrev cX5_isRatio : ByteArray := prog_7_method_12_code
def yX5_isRatio : MethodName := ⟨RX5, "isRatio", "(II)Z"⟩
abbrev cX5_exchange : ByteArray := prog_7_method_13_code
def yX5_exchange : MethodName := ⟨RX5, "exchange", "(IJIJI)I"⟩
abbrev cX5_payDividend : ByteArray := prog_7_method_14_code
def yX5_payDividend : MethodName := ⟨RX5, "payDividend", "(II)I"⟩
abbrev cX5_leave : ByteArray := prog_7_method_15_code
def yX5_leave : MethodName := ⟨RX5, "leave", "(I)I"⟩
abbrev cX5_join : ByteArray := prog_7_method_16_code
def yX5_join : MethodName := ⟨RX5, "join", "(I)I"⟩
abbrev cX5_replace : ByteArray := prog_7_method_17_code
def yX5_replace : MethodName := ⟨RX5, "replace", "(III)I"⟩
abbrev cX5_cap : ByteArray := prog_7_method_18_code
def yX5_cap : MethodName := ⟨RX5, "cap", "(I)I"⟩
abbrev cX5_findLarge : ByteArray := prog_7_method_19_code
def yX5_findLarge : MethodName := ⟨RX5, "findLarge", "(I)I"⟩
abbrev cX5_plainWorthOf : ByteArray := prog_7_method_20_code
def yX5_plainWorthOf : MethodName := ⟨RX5, "plainWorthOf", "(I)J"⟩
abbrev cX5_putFactor : ByteArray := prog_7_method_21_code
def yX5_putFactor : MethodName := ⟨RX5, "putFactor", "(IJJ)V"⟩
def RX6 : String := "IndexBureau$Text"
def TX6 : u_T := fun k => match k with
  | 0 => ("IndexBureau$Text", "characters", "[C", true)
  | 1 => ("IndexBureau$Text", "rest", "LIndexBureau$Whole;", true)
  | _ => ("IndexBureau$Text", "length", "I", false)
def tyX6 : Nat → FieldType := fun k => match k with
  | 0 => .array .char
  | 1 => .object "IndexBureau$Whole"
  | _ => .int
abbrev wsX60 : List Cond := u_ws RX6 TX6 3
theorem nmX6 : ∀ a, a < 3 → ∀ b, b < 3 → a ≠ b → (TX6 a).2.1 ≠ (TX6 b).2.1 := by decide +kernel
theorem tyX6_ok : ∀ k, k < 3 → parseFieldDescriptor (TX6 k).2.2.1 = some (tyX6 k) := by decide +kernel
abbrev cX6_init : ByteArray := prog_8_method_1_code
def yX6_init : MethodName := ⟨RX6, "<init>", "()V"⟩
abbrev cX6_write : ByteArray := prog_8_method_2_code
def yX6_write : MethodName := ⟨RX6, "write", "(LIndexBureau$Fraction;)V"⟩
abbrev cX6_writeWhole : ByteArray := prog_8_method_3_code
def yX6_writeWhole : MethodName := ⟨RX6, "writeWhole", "(LIndexBureau$Whole;)V"⟩
abbrev cX6_writeBackwards : ByteArray := prog_8_method_4_code
def yX6_writeBackwards : MethodName := ⟨RX6, "writeBackwards", "(IZ)V"⟩
abbrev cX6_append : ByteArray := prog_8_method_5_code
def yX6_append : MethodName := ⟨RX6, "append", "(C)V"⟩
abbrev cX6_turnRound : ByteArray := prog_8_method_6_code
def yX6_turnRound : MethodName := ⟨RX6, "turnRound", "(I)V"⟩
def RX7 : String := "IndexBureau$Whole"
def TX7 : u_T := fun k => match k with
  | 0 => ("IndexBureau$Whole", "digits", "[I", true)
  | _ => ("IndexBureau$Whole", "size", "I", false)
def tyX7 : Nat → FieldType := fun k => match k with
  | 0 => .array .int
  | _ => .int
abbrev wsX70 : List Cond := u_ws RX7 TX7 2
theorem nmX7 : ∀ a, a < 2 → ∀ b, b < 2 → a ≠ b → (TX7 a).2.1 ≠ (TX7 b).2.1 := by decide +kernel
theorem tyX7_ok : ∀ k, k < 2 → parseFieldDescriptor (TX7 k).2.2.1 = some (tyX7 k) := by decide +kernel
abbrev cX7_init : ByteArray := prog_9_method_1_code
def yX7_init : MethodName := ⟨RX7, "<init>", "()V"⟩
abbrev cX7_become : ByteArray := prog_9_method_2_code
def yX7_become : MethodName := ⟨RX7, "become", "(J)V"⟩
abbrev cX7_copy : ByteArray := prog_9_method_3_code
def yX7_copy : MethodName := ⟨RX7, "copy", "(LIndexBureau$Whole;)V"⟩
abbrev cX7_clear : ByteArray := prog_9_method_4_code
def yX7_clear : MethodName := ⟨RX7, "clear", "()V"⟩
abbrev cX7_trim : ByteArray := prog_9_method_5_code
def yX7_trim : MethodName := ⟨RX7, "trim", "(I)V"⟩
abbrev cX7_isZero : ByteArray := prog_9_method_6_code
def yX7_isZero : MethodName := ⟨RX7, "isZero", "()Z"⟩
abbrev cX7_isOne : ByteArray := prog_9_method_7_code
def yX7_isOne : MethodName := ⟨RX7, "isOne", "()Z"⟩
abbrev cX7_isShort : ByteArray := prog_9_method_8_code
def yX7_isShort : MethodName := ⟨RX7, "isShort", "()Z"⟩
abbrev cX7_asLong : ByteArray := prog_9_method_9_code
def yX7_asLong : MethodName := ⟨RX7, "asLong", "()J"⟩
abbrev cX7_binaryDigits : ByteArray := prog_9_method_10_code
def yX7_binaryDigits : MethodName := ⟨RX7, "binaryDigits", "()I"⟩
abbrev cX7_freeBits : ByteArray := prog_9_method_11_code
def yX7_freeBits : MethodName := ⟨RX7, "freeBits", "()I"⟩
abbrev cX7_compareWith : ByteArray := prog_9_method_12_code
def yX7_compareWith : MethodName := ⟨RX7, "compareWith", "(LIndexBureau$Whole;)I"⟩
abbrev cX7_add : ByteArray := prog_9_method_13_code
def yX7_add : MethodName := ⟨RX7, "add", "(LIndexBureau$Whole;)V"⟩
abbrev cX7_setProduct : ByteArray := prog_9_method_14_code
def yX7_setProduct : MethodName := ⟨RX7, "setProduct", "(LIndexBureau$Whole;LIndexBureau$Whole;)V"⟩
abbrev cX7_divideBySmall : ByteArray := prog_9_method_15_code
def yX7_divideBySmall : MethodName := ⟨RX7, "divideBySmall", "(I)I"⟩
abbrev cX7_shiftUp : ByteArray := prog_9_method_16_code
def yX7_shiftUp : MethodName := ⟨RX7, "shiftUp", "(I)V"⟩
abbrev cX7_shiftDown : ByteArray := prog_9_method_17_code
def yX7_shiftDown : MethodName := ⟨RX7, "shiftDown", "(I)V"⟩
abbrev cX7_digitAt : ByteArray := prog_9_method_18_code
def yX7_digitAt : MethodName := ⟨RX7, "digitAt", "(I)I"⟩
abbrev cX7_guessDigit : ByteArray := prog_9_method_19_code
def yX7_guessDigit : MethodName := ⟨RX7, "guessDigit", "(LIndexBureau$Whole;I)I"⟩
abbrev cX7_subtractAt : ByteArray := prog_9_method_20_code
def yX7_subtractAt : MethodName := ⟨RX7, "subtractAt", "(ILIndexBureau$Whole;I)Z"⟩
abbrev cX7_addAt : ByteArray := prog_9_method_21_code
def yX7_addAt : MethodName := ⟨RX7, "addAt", "(ILIndexBureau$Whole;)V"⟩
def RX8 : String := "IndexBureau"
def TX8 : u_T := fun k => match k with
  | 0 => ("IndexBureau", "shares", "LIndexBureau$Shares;", true)
  | 1 => ("IndexBureau", "sharesBefore", "LIndexBureau$Shares;", true)
  | 2 => ("IndexBureau", "agenda", "LIndexBureau$Agenda;", true)
  | 3 => ("IndexBureau", "desk", "LIndexBureau$Desk;", true)
  | 4 => ("IndexBureau", "text", "LIndexBureau$Text;", true)
  | 5 => ("IndexBureau", "divisor", "LIndexBureau$Fraction;", true)
  | 6 => ("IndexBureau", "nextDivisor", "LIndexBureau$Fraction;", true)
  | 7 => ("IndexBureau", "worth", "LIndexBureau$Fraction;", true)
  | 8 => ("IndexBureau", "worthBefore", "LIndexBureau$Fraction;", true)
  | 9 => ("IndexBureau", "result", "LIndexBureau$Fraction;", true)
  | 10 => ("IndexBureau", "levelOfDay", "[J", true)
  | 11 => ("IndexBureau", "daysNoted", "I", false)
  | 12 => ("IndexBureau", "based", "Z", false)
  | _ => ("IndexBureau", "allSound", "Z", false)
def tyX8 : Nat → FieldType := fun k => match k with
  | 0 => .object "IndexBureau$Shares"
  | 1 => .object "IndexBureau$Shares"
  | 2 => .object "IndexBureau$Agenda"
  | 3 => .object "IndexBureau$Desk"
  | 4 => .object "IndexBureau$Text"
  | 5 => .object "IndexBureau$Fraction"
  | 6 => .object "IndexBureau$Fraction"
  | 7 => .object "IndexBureau$Fraction"
  | 8 => .object "IndexBureau$Fraction"
  | 9 => .object "IndexBureau$Fraction"
  | 10 => .array .long
  | 11 => .int
  | 12 => .boolean
  | _ => .boolean
abbrev wsX80 : List Cond := u_ws RX8 TX8 14
theorem nmX8 : ∀ a, a < 14 → ∀ b, b < 14 → a ≠ b → (TX8 a).2.1 ≠ (TX8 b).2.1 := by decide +kernel
theorem tyX8_ok : ∀ k, k < 14 → parseFieldDescriptor (TX8 k).2.2.1 = some (tyX8 k) := by decide +kernel
abbrev cX8_init : ByteArray := prog_1_method_1_code
def yX8_init : MethodName := ⟨RX8, "<init>", "()V"⟩
abbrev cX8_set : ByteArray := prog_1_method_2_code
def yX8_set : MethodName := ⟨RX8, "set", "(III)I"⟩
abbrev cX8_get : ByteArray := prog_1_method_3_code
def yX8_get : MethodName := ⟨RX8, "get", "(II)I"⟩
abbrev cX8_base : ByteArray := prog_1_method_4_code
def yX8_base : MethodName := ⟨RX8, "base", "(II)V"⟩
abbrev cX8_members : ByteArray := prog_1_method_5_code
def yX8_members : MethodName := ⟨RX8, "members", "()I"⟩
abbrev cX8_event : ByteArray := prog_1_method_6_code
def yX8_event : MethodName := ⟨RX8, "event", "(IIIII)I"⟩
abbrev cX8_close : ByteArray := prog_1_method_7_code
def yX8_close : MethodName := ⟨RX8, "close", "()I"⟩
abbrev cX8_outcome : ByteArray := prog_1_method_8_code
def yX8_outcome : MethodName := ⟨RX8, "outcome", "(I)I"⟩
abbrev cX8_noted : ByteArray := prog_1_method_9_code
def yX8_noted : MethodName := ⟨RX8, "noted", "(I)I"⟩
abbrev cX8_days : ByteArray := prog_1_method_10_code
def yX8_days : MethodName := ⟨RX8, "days", "()I"⟩
abbrev cX8_published : ByteArray := prog_1_method_11_code
def yX8_published : MethodName := ⟨RX8, "published", "(I)J"⟩
abbrev cX8_level : ByteArray := prog_1_method_12_code
def yX8_level : MethodName := ⟨RX8, "level", "()J"⟩
abbrev cX8_weight : ByteArray := prog_1_method_13_code
def yX8_weight : MethodName := ⟨RX8, "weight", "(I)I"⟩
abbrev cX8_print : ByteArray := prog_1_method_14_code
def yX8_print : MethodName := ⟨RX8, "print", "(II)I"⟩
abbrev cX8_character : ByteArray := prog_1_method_15_code
def yX8_character : MethodName := ⟨RX8, "character", "(I)I"⟩
abbrev cX8_places : ByteArray := prog_1_method_16_code
def yX8_places : MethodName := ⟨RX8, "places", "(I)I"⟩
abbrev cX8_check : ByteArray := prog_1_method_17_code
def yX8_check : MethodName := ⟨RX8, "check", "()I"⟩
abbrev cX8_refuseUnknown : ByteArray := prog_1_method_18_code
def yX8_refuseUnknown : MethodName := ⟨RX8, "refuseUnknown", "(II)V"⟩
abbrev cX8_perform : ByteArray := prog_1_method_19_code
def yX8_perform : MethodName := ⟨RX8, "perform", "(I)I"⟩
abbrev cX8_findNextDivisor : ByteArray := prog_1_method_20_code
def yX8_findNextDivisor : MethodName := ⟨RX8, "findNextDivisor", "()V"⟩
abbrev cX8_isCapped : ByteArray := prog_1_method_21_code
def yX8_isCapped : MethodName := ⟨RX8, "isCapped", "(I)Z"⟩
abbrev cX8_exactLevel : ByteArray := prog_1_method_22_code
def yX8_exactLevel : MethodName := ⟨RX8, "exactLevel", "()V"⟩
abbrev cX8_roundedLevel : ByteArray := prog_1_method_23_code
def yX8_roundedLevel : MethodName := ⟨RX8, "roundedLevel", "()J"⟩
def RX9 : String := "IndexBureauModel"
def TX9 : u_T := fun k => match k with
  | 0 => ("IndexBureauModel", "limbs", "[I", true)
  | 1 => ("IndexBureauModel", "size", "[I", true)
  | 2 => ("IndexBureauModel", "prices", "[I", true)
  | 3 => ("IndexBureauModel", "counts", "[I", true)
  | 4 => ("IndexBureauModel", "floats", "[I", true)
  | 5 => ("IndexBureauModel", "members", "I", false)
  | 6 => ("IndexBureauModel", "isBased", "Z", false)
  | 7 => ("IndexBureauModel", "oldPrices", "[I", true)
  | 8 => ("IndexBureauModel", "oldCounts", "[I", true)
  | 9 => ("IndexBureauModel", "oldFloats", "[I", true)
  | 10 => ("IndexBureauModel", "oldMembers", "I", false)
  | 11 => ("IndexBureauModel", "noted", "I", false)
  | 12 => ("IndexBureauModel", "kinds", "[I", true)
  | 13 => ("IndexBureauModel", "shares", "[I", true)
  | 14 => ("IndexBureauModel", "as", "[I", true)
  | 15 => ("IndexBureauModel", "bs", "[I", true)
  | 16 => ("IndexBureauModel", "cs", "[I", true)
  | 17 => ("IndexBureauModel", "closed", "I", false)
  | 18 => ("IndexBureauModel", "outcomes", "[I", true)
  | 19 => ("IndexBureauModel", "places", "[I", true)
  | 20 => ("IndexBureauModel", "days", "I", false)
  | 21 => ("IndexBureauModel", "levels", "[J", true)
  | 22 => ("IndexBureauModel", "printed", "I", false)
  | 23 => ("IndexBureauModel", "print", "[I", true)
  | _ => ("IndexBureauModel", "code", "I", false)
def tyX9 : Nat → FieldType := fun k => match k with
  | 0 => .array .int
  | 1 => .array .int
  | 2 => .array .int
  | 3 => .array .int
  | 4 => .array .int
  | 5 => .int
  | 6 => .boolean
  | 7 => .array .int
  | 8 => .array .int
  | 9 => .array .int
  | 10 => .int
  | 11 => .int
  | 12 => .array .int
  | 13 => .array .int
  | 14 => .array .int
  | 15 => .array .int
  | 16 => .array .int
  | 17 => .int
  | 18 => .array .int
  | 19 => .array .int
  | 20 => .int
  | 21 => .array .long
  | 22 => .int
  | 23 => .array .int
  | _ => .int
abbrev wsX90 : List Cond := u_ws RX9 TX9 25
theorem nmX9 : ∀ a, a < 25 → ∀ b, b < 25 → a ≠ b → (TX9 a).2.1 ≠ (TX9 b).2.1 := by decide +kernel
theorem tyX9_ok : ∀ k, k < 25 → parseFieldDescriptor (TX9 k).2.2.1 = some (tyX9 k) := by decide +kernel
abbrev cX9_init : ByteArray := prog_11_method_1_code
def yX9_init : MethodName := ⟨RX9, "<init>", "()V"⟩
abbrev cX9_thrown : ByteArray := prog_11_method_2_code
def yX9_thrown : MethodName := ⟨RX9, "thrown", "()I"⟩
abbrev cX9_in : ByteArray := prog_11_method_3_code
def yX9_in : MethodName := ⟨RX9, "in", "(III)Z"⟩
abbrev cX9_isMember : ByteArray := prog_11_method_4_code
def yX9_isMember : MethodName := ⟨RX9, "isMember", "(I)Z"⟩
abbrev cX9_set : ByteArray := prog_11_method_5_code
def yX9_set : MethodName := ⟨RX9, "set", "(IJ)V"⟩
abbrev cX9_copy : ByteArray := prog_11_method_6_code
def yX9_copy : MethodName := ⟨RX9, "copy", "(II)V"⟩
abbrev cX9_trim : ByteArray := prog_11_method_7_code
def yX9_trim : MethodName := ⟨RX9, "trim", "(I)V"⟩
abbrev cX9_isOne : ByteArray := prog_11_method_8_code
def yX9_isOne : MethodName := ⟨RX9, "isOne", "(I)Z"⟩
abbrev cX9_isEven : ByteArray := prog_11_method_9_code
def yX9_isEven : MethodName := ⟨RX9, "isEven", "(I)Z"⟩
abbrev cX9_bits : ByteArray := prog_11_method_10_code
def yX9_bits : MethodName := ⟨RX9, "bits", "(I)I"⟩
abbrev cX9_limb : ByteArray := prog_11_method_11_code
def yX9_limb : MethodName := ⟨RX9, "limb", "(II)I"⟩
abbrev cX9_add : ByteArray := prog_11_method_12_code
def yX9_add : MethodName := ⟨RX9, "add", "(II)V"⟩
abbrev cX9_compare : ByteArray := prog_11_method_13_code
def yX9_compare : MethodName := ⟨RX9, "compare", "(II)I"⟩
abbrev cX9_multiply : ByteArray := prog_11_method_14_code
def yX9_multiply : MethodName := ⟨RX9, "multiply", "(III)V"⟩
abbrev cX9_scale : ByteArray := prog_11_method_15_code
def yX9_scale : MethodName := ⟨RX9, "scale", "(II)V"⟩
abbrev cX9_divide : ByteArray := prog_11_method_16_code
def yX9_divide : MethodName := ⟨RX9, "divide", "(II)I"⟩
abbrev cX9_twice : ByteArray := prog_11_method_17_code
def yX9_twice : MethodName := ⟨RX9, "twice", "(II)V"⟩
abbrev cX9_subtract : ByteArray := prog_11_method_18_code
def yX9_subtract : MethodName := ⟨RX9, "subtract", "(II)V"⟩
abbrev cX9_half : ByteArray := prog_11_method_19_code
def yX9_half : MethodName := ⟨RX9, "half", "(I)V"⟩
abbrev cX9_quotient : ByteArray := prog_11_method_20_code
def yX9_quotient : MethodName := ⟨RX9, "quotient", "(IIII)V"⟩
abbrev cX9_common : ByteArray := prog_11_method_21_code
def yX9_common : MethodName := ⟨RX9, "common", "(II)V"⟩
abbrev cX9_swap : ByteArray := prog_11_method_22_code
def yX9_swap : MethodName := ⟨RX9, "swap", "()V"⟩
abbrev cX9_reduce : ByteArray := prog_11_method_23_code
def yX9_reduce : MethodName := ⟨RX9, "reduce", "(II)V"⟩
abbrev cX9_plain : ByteArray := prog_11_method_24_code
def yX9_plain : MethodName := ⟨RX9, "plain", "(I)J"⟩
abbrev cX9_sum : ByteArray := prog_11_method_25_code
def yX9_sum : MethodName := ⟨RX9, "sum", "()V"⟩
abbrev cX9_fits : ByteArray := prog_11_method_26_code
def yX9_fits : MethodName := ⟨RX9, "fits", "(II)Z"⟩
abbrev cX9_set_ : ByteArray := prog_11_method_27_code
def yX9_set_ : MethodName := ⟨RX9, "set", "(III)I"⟩
abbrev cX9_get : ByteArray := prog_11_method_28_code
def yX9_get : MethodName := ⟨RX9, "get", "(II)I"⟩
abbrev cX9_base : ByteArray := prog_11_method_29_code
def yX9_base : MethodName := ⟨RX9, "base", "(II)V"⟩
abbrev cX9_members : ByteArray := prog_11_method_30_code
def yX9_members : MethodName := ⟨RX9, "members", "()I"⟩
abbrev cX9_event : ByteArray := prog_11_method_31_code
def yX9_event : MethodName := ⟨RX9, "event", "(IIIII)I"⟩
abbrev cX9_remember : ByteArray := prog_11_method_32_code
def yX9_remember : MethodName := ⟨RX9, "remember", "()V"⟩
abbrev cX9_putBack : ByteArray := prog_11_method_33_code
def yX9_putBack : MethodName := ⟨RX9, "putBack", "()V"⟩
abbrev cX9_become : ByteArray := prog_11_method_34_code
def yX9_become : MethodName := ⟨RX9, "become", "(IJJI)I"⟩
abbrev cX9_rounded : ByteArray := prog_11_method_35_code
def yX9_rounded : MethodName := ⟨RX9, "rounded", "(JJ)J"⟩
abbrev cX9_split : ByteArray := prog_11_method_36_code
def yX9_split : MethodName := ⟨RX9, "split", "(III)I"⟩
abbrev cX9_rights : ByteArray := prog_11_method_37_code
def yX9_rights : MethodName := ⟨RX9, "rights", "(IIII)I"⟩
abbrev cX9_dividend : ByteArray := prog_11_method_38_code
def yX9_dividend : MethodName := ⟨RX9, "dividend", "(II)I"⟩
abbrev cX9_count : ByteArray := prog_11_method_39_code
def yX9_count : MethodName := ⟨RX9, "count", "(I)I"⟩
abbrev cX9_cap : ByteArray := prog_11_method_40_code
def yX9_cap : MethodName := ⟨RX9, "cap", "(I)I"⟩
abbrev cX9_change : ByteArray := prog_11_method_41_code
def yX9_change : MethodName := ⟨RX9, "change", "(IIIII)I"⟩
abbrev cX9_perform : ByteArray := prog_11_method_42_code
def yX9_perform : MethodName := ⟨RX9, "perform", "(I)I"⟩
abbrev cX9_close : ByteArray := prog_11_method_43_code
def yX9_close : MethodName := ⟨RX9, "close", "()I"⟩
abbrev cX9_outcome : ByteArray := prog_11_method_44_code
def yX9_outcome : MethodName := ⟨RX9, "outcome", "(I)I"⟩
abbrev cX9_noted : ByteArray := prog_11_method_45_code
def yX9_noted : MethodName := ⟨RX9, "noted", "(I)I"⟩
abbrev cX9_days : ByteArray := prog_11_method_46_code
def yX9_days : MethodName := ⟨RX9, "days", "()I"⟩
abbrev cX9_published : ByteArray := prog_11_method_47_code
def yX9_published : MethodName := ⟨RX9, "published", "(I)J"⟩
abbrev cX9_level : ByteArray := prog_11_method_48_code
def yX9_level : MethodName := ⟨RX9, "level", "()J"⟩
abbrev cX9_weight : ByteArray := prog_11_method_49_code
def yX9_weight : MethodName := ⟨RX9, "weight", "(I)I"⟩
abbrev cX9_printWhole : ByteArray := prog_11_method_50_code
def yX9_printWhole : MethodName := ⟨RX9, "printWhole", "(I)V"⟩
abbrev cX9_print : ByteArray := prog_11_method_51_code
def yX9_print : MethodName := ⟨RX9, "print", "(II)I"⟩
abbrev cX9_character : ByteArray := prog_11_method_52_code
def yX9_character : MethodName := ⟨RX9, "character", "(I)I"⟩
abbrev cX9_places : ByteArray := prog_11_method_53_code
def yX9_places : MethodName := ⟨RX9, "places", "(I)I"⟩
abbrev cX9_check : ByteArray := prog_11_method_54_code
def yX9_check : MethodName := ⟨RX9, "check", "()I"⟩
def RJ6 : String := "java/lang/Integer"
def TJ6 : u_T := fun k => match k with
  | _ => ("", "", "", false)
def tyJ6 : Nat → FieldType := fun k => match k with
  | _ => .int
abbrev wsJ60 : List Cond := u_ws RJ6 TJ6 0
theorem nmJ6 : ∀ a, a < 0 → ∀ b, b < 0 → a ≠ b → (TJ6 a).2.1 ≠ (TJ6 b).2.1 := by decide +kernel
theorem tyJ6_ok : ∀ k, k < 0 → parseFieldDescriptor (TJ6 k).2.2.1 = some (tyJ6 k) := by decide +kernel
abbrev cJ6_compare_7cf53 : ByteArray := prog_16_method_40_code
def yJ6_compare_7cf53 : MethodName := ⟨RJ6, "compare", "(II)I"⟩
abbrev cJ6_bitCount_0f7a4 : ByteArray := prog_16_method_49_code
def yJ6_bitCount_0f7a4 : MethodName := ⟨RJ6, "bitCount", "(I)I"⟩
def RJ9 : String := "java/lang/Math"
def TJ9 : u_T := fun k => match k with
  | _ => ("", "", "", false)
def tyJ9 : Nat → FieldType := fun k => match k with
  | _ => .int
abbrev wsJ90 : List Cond := u_ws RJ9 TJ9 0
theorem nmJ9 : ∀ a, a < 0 → ∀ b, b < 0 → a ≠ b → (TJ9 a).2.1 ≠ (TJ9 b).2.1 := by decide +kernel
theorem tyJ9_ok : ∀ k, k < 0 → parseFieldDescriptor (TJ9 k).2.2.1 = some (tyJ9 k) := by decide +kernel
abbrev cJ9_max_7cf53 : ByteArray := prog_17_method_65_code
def yJ9_max_7cf53 : MethodName := ⟨RJ9, "max", "(II)I"⟩
abbrev cJ9_max_f86c9 : ByteArray := prog_17_method_66_code
def yJ9_max_f86c9 : MethodName := ⟨RJ9, "max", "(JJ)J"⟩
abbrev cJ9_min_7cf53 : ByteArray := prog_17_method_69_code
def yJ9_min_7cf53 : MethodName := ⟨RJ9, "min", "(II)I"⟩
abbrev cJ9_min_f86c9 : ByteArray := prog_17_method_70_code
def yJ9_min_f86c9 : MethodName := ⟨RJ9, "min", "(JJ)J"⟩
def RJ10 : String := "java/lang/System"
def TJ10 : u_T := fun k => match k with
  | _ => ("", "", "", false)
def tyJ10 : Nat → FieldType := fun k => match k with
  | _ => .int
abbrev wsJ100 : List Cond := u_ws RJ10 TJ10 0
theorem nmJ10 : ∀ a, a < 0 → ∀ b, b < 0 → a ≠ b → (TJ10 a).2.1 ≠ (TJ10 b).2.1 := by decide +kernel
theorem tyJ10_ok : ∀ k, k < 0 → parseFieldDescriptor (TJ10 k).2.2.1 = some (tyJ10 k) := by decide +kernel
def RJ7 : String := "java/util/Arrays"
def TJ7 : u_T := fun k => match k with
  | _ => ("", "", "", false)
def tyJ7 : Nat → FieldType := fun k => match k with
  | _ => .int
abbrev wsJ70 : List Cond := u_ws RJ7 TJ7 0
theorem nmJ7 : ∀ a, a < 0 → ∀ b, b < 0 → a ≠ b → (TJ7 a).2.1 ≠ (TJ7 b).2.1 := by decide +kernel
theorem tyJ7_ok : ∀ k, k < 0 → parseFieldDescriptor (TJ7 k).2.2.1 = some (tyJ7 k) := by decide +kernel
abbrev cJ7_fill_d0a16 : ByteArray := prog_21_method_101_code
def yJ7_fill_d0a16 : MethodName := ⟨RJ7, "fill", "([JJ)V"⟩
abbrev cJ7_fill_53178 : ByteArray := prog_21_method_103_code
def yJ7_fill_53178 : MethodName := ⟨RJ7, "fill", "([II)V"⟩
def RL : String := "IndexBureauLaw"
abbrev cL_set : ByteArray := method_3_code
def yL_set : MethodName := ⟨RL, "set", "(LIndexBureau;III[J)I"⟩
abbrev cL_get : ByteArray := method_4_code
def yL_get : MethodName := ⟨RL, "get", "(LIndexBureau;II[J)I"⟩
abbrev cL_base : ByteArray := method_5_code
def yL_base : MethodName := ⟨RL, "base", "(LIndexBureau;II)I"⟩
abbrev cL_close : ByteArray := method_6_code
def yL_close : MethodName := ⟨RL, "close", "(LIndexBureau;[J)I"⟩
abbrev cL_law : ByteArray := code
def yL_law : MethodName := ⟨RL, "law", "([I)Z"⟩
abbrev classes : List vw_C := [(RX0, TX0, 9), (RX1, TX1, 9), (RX2, TX2, 2), (RX5, TX5, 4), (RX6, TX6, 3), (RX7, TX7, 2), (RX8, TX8, 14), (RX9, TX9, 25)]
/-- the words that a call carries on -/
def ev_ws : List Cond := lw_tbl.filter goodWord
theorem ev_in_RX0 : ∀ w ∈ u_ws RX0 TX0 9, w ∈ ev_ws := by decide +kernel
theorem ev_in_RX1 : ∀ w ∈ u_ws RX1 TX1 9, w ∈ ev_ws := by decide +kernel
theorem ev_in_RX2 : ∀ w ∈ u_ws RX2 TX2 2, w ∈ ev_ws := by decide +kernel
theorem ev_in_RX5 : ∀ w ∈ u_ws RX5 TX5 4, w ∈ ev_ws := by decide +kernel
theorem ev_in_RX6 : ∀ w ∈ u_ws RX6 TX6 3, w ∈ ev_ws := by decide +kernel
theorem ev_in_RX7 : ∀ w ∈ u_ws RX7 TX7 2, w ∈ ev_ws := by decide +kernel
theorem ev_in_RX8 : ∀ w ∈ u_ws RX8 TX8 14, w ∈ ev_ws := by decide +kernel
theorem ev_in_RX9 : ∀ w ∈ u_ws RX9 TX9 25, w ∈ ev_ws := by decide +kernel
theorem ev_cl {ci : Nat} {C : String} {T : u_T} {N : Nat} (h : classes[ci]? = some (C, T, N)) : (∀ w ∈ u_ws C T N, w ∈ ev_ws) ∧ (∀ a, a < N → ∀ b, b < N → a ≠ b → (T a).2.1 ≠ (T b).2.1) ∧ ∃ tt : Nat → FieldType, ∀ k, k < N → parseFieldDescriptor (T k).2.2.1 = some (tt k) := by
  match ci, h with
  | 0, h => cases h; exact ⟨ev_in_RX0, nmX0, tyX0, tyX0_ok⟩
  | 1, h => cases h; exact ⟨ev_in_RX1, nmX1, tyX1, tyX1_ok⟩
  | 2, h => cases h; exact ⟨ev_in_RX2, nmX2, tyX2, tyX2_ok⟩
  | 3, h => cases h; exact ⟨ev_in_RX5, nmX5, tyX5, tyX5_ok⟩
  | 4, h => cases h; exact ⟨ev_in_RX6, nmX6, tyX6, tyX6_ok⟩
  | 5, h => cases h; exact ⟨ev_in_RX7, nmX7, tyX7, tyX7_ok⟩
  | 6, h => cases h; exact ⟨ev_in_RX8, nmX8, tyX8, tyX8_ok⟩
  | 7, h => cases h; exact ⟨ev_in_RX9, nmX9, tyX9, tyX9_ok⟩
  | _ + 8, h => cases h
end
section
/-! THE LIGHT JUDGEMENT: a method's frame over a heap that is a function from addresses to cells. 'ev_J' is the least set of configurations that is closed under the rules (a rule an instruction); the machine keeps every rule (evw). Written by a program: wip/whole/gen/ev.py -/
/-- a cell: an array (its element type, its length, its contents) or an object (the number of its class, its fields) -/
abbrev ev_C : Type := (FieldType × vp_A) ⊕ (Nat × List Value)
abbrev ev_H : Type := Nat → Option ev_C
def ev_up (h : ev_H) (a : Nat) (c : ev_C) : ev_H := fun q => if q = a then some c else h q
/-- locals -/
abbrev ev_V : Type := Nat → Option Value
def ev_s1 (L : ev_V) (i : Nat) (v : Value) : ev_V := fun j => if j = i then some v else if j + 1 = i then (match L j with | some w => if w.category = 2 then none else some w | none => none) else L j
def ev_s2 (L : ev_V) (i : Nat) (v : Value) : ev_V := fun j => if j = i then some v else if j = i + 1 then none else if j + 1 = i then (match L j with | some w => if w.category = 2 then none else some w | none => none) else L j
def ev_lf (l : List (Nat × Value)) : ev_V := fun i => (l.find? (fun q => q.1 == i)).map (fun q => q.2)
/-- how a method ends, or where its walk stops: the place, the stack, what is left -/
abbrev ev_R : Type := Option Value ⊕ (Nat × List Value × Nat × Nat)
/-- a method: name, bytes, room for locals, what it answers -/
abbrev ev_M : Type := MethodName × ByteArray × Nat × Option FieldType
abbrev ev_S : Type := Nat × ev_V × List Value × ev_H × Nat × Nat
abbrev ev_K : Type := ev_R → ev_H → Prop
abbrev ev_L : Type := ev_M → List Value → ev_H → Nat → Nat → ev_K → Prop
/-- what nobody writes: int arrays by their addresses, static fields that hold a reference -/
abbrev ev_G : Type := (Nat → Option (Nat × (Nat → Int32))) × (String → String → String → Option Nat)
def ev_ok (post : Option Value → ev_H → Prop) : ev_K := fun r h => match r with
  | .inl v => post v h
  | .inr _ => False
def ev_isN : Cond → Bool
  | .methodLinkNest _ _ _ _ => true
  | _ => false
def ev_ns : List Cond := lw_tbl.filter ev_isN
def ev_mok (N : ev_M) (n : Nat) : Prop := N.1.cls ≠ "java/lang/invoke/MethodHandle" ∧ N.1.cls ≠ "java/lang/invoke/VarHandle" ∧ (parseMethodDescriptor N.1.desc).map (fun d => d.parameters.length) = some n
def ev_code (N : ev_M) : Cond := .code N.1 N.2.1 N.2.2.1 N.2.2.2
def ev_cv (own : String) (i : Nat) (N : ev_M) (n : Nat) : Prop := Cond.methodLink own i N.1 ∈ ev_ws ∧ Cond.instanceMethod N.1 ∈ ev_ws ∧ Cond.selects N.1.cls N.1 N.1 ∈ ev_ws ∧ Cond.initialized N.1.cls ∈ ev_ws ∧ ev_code N ∈ ev_ws ∧ ev_mok N n
def ev_cs (own : String) (i : Nat) (N : ev_M) (n : Nat) : Prop := Cond.methodLink own i N.1 ∈ ev_ws ∧ Cond.static N.1 ∈ ev_ws ∧ Cond.initialized N.1.cls ∈ ev_ws ∧ ev_code N ∈ ev_ws ∧ ev_mok N n
def ev_ci (own : String) (i : Nat) (N : ev_M) (n : Nat) : Prop := Cond.methodLink own i N.1 ∈ ev_ws ∧ Cond.instanceMethod N.1 ∈ ev_ws ∧ Cond.initialized N.1.cls ∈ ev_ws ∧ ev_code N ∈ ev_ws ∧ N.1.name = "<init>" ∧ N.2.2.2 = none ∧ ev_mok N n
def ev_csw (own : String) (i : Nat) (N : ev_M) (hh : List (Nat × Nat × Nat × Nat)) (n : Nat) : Prop := Cond.methodLink own i N.1 ∈ ev_ws ∧ Cond.static N.1 ∈ ev_ws ∧ Cond.initialized N.1.cls ∈ ev_ws ∧ Cond.codeWith N.1 N.2.1 N.2.2.1 N.2.2.2 hh ∈ ev_ws ∧ ev_mok N n
/-- two heaps as one -/
def ev_jn (h1 hf : ev_H) : ev_H := fun a => match hf a with
  | some x => some x
  | none => h1 a
def ev_cvn (own : String) (i : Nat) (N : ev_M) (n : Nat) : Prop := ∃ host, Cond.methodLinkNest own i N.1 host ∈ ev_ns ∧ Cond.instanceMethod N.1 ∈ ev_ws ∧ Cond.selects N.1.cls N.1 N.1 ∈ ev_ws ∧ Cond.initialized N.1.cls ∈ ev_ws ∧ ev_code N ∈ ev_ws ∧ ev_mok N n
def ev_csn (own : String) (i : Nat) (N : ev_M) (n : Nat) : Prop := ∃ host, Cond.methodLinkNest own i N.1 host ∈ ev_ns ∧ Cond.static N.1 ∈ ev_ws ∧ Cond.initialized N.1.cls ∈ ev_ws ∧ ev_code N ∈ ev_ws ∧ ev_mok N n
def ev_cin (own : String) (i : Nat) (N : ev_M) (n : Nat) : Prop := ∃ host, Cond.methodLinkNest own i N.1 host ∈ ev_ns ∧ Cond.instanceMethod N.1 ∈ ev_ws ∧ Cond.initialized N.1.cls ∈ ev_ws ∧ ev_code N ∈ ev_ws ∧ N.1.name = "<init>" ∧ N.2.2.2 = none ∧ ev_mok N n
def ev_fl (own : String) (i ci k : Nat) : Prop := ∃ C T N, classes[ci]? = some (C, T, N) ∧ k < N ∧ Cond.fieldLink own i (T k).1 (T k).2.1 (T k).2.2.1 ∈ ev_ws
def ev_fp (own : String) (i ci k : Nat) (ty : FieldType) : Prop := ∃ C T N, classes[ci]? = some (C, T, N) ∧ k < N ∧ Cond.fieldLink own i (T k).1 (T k).2.1 (T k).2.2.1 ∈ ev_ws ∧ (T k).2.2.2 = false ∧ parseFieldDescriptor (T k).2.2.1 = some ty
def ev_fF (own : String) (i ci k : Nat) (ty : FieldType) : Prop := ∃ C T N, classes[ci]? = some (C, T, N) ∧ k < N ∧ Cond.fieldLink own i (T k).1 (T k).2.1 (T k).2.2.1 ∈ ev_ws ∧ (T k).2.2.2 = true ∧ parseFieldDescriptor (T k).2.2.1 = some ty ∧ (T k).1 = own
def ev_nw (own : String) (i ci N : Nat) (fs : List Value) : Prop := ∃ C T, classes[ci]? = some (C, T, N) ∧ Cond.classLink own i C ∈ ev_ws ∧ Cond.instantiable C N ∈ ev_ws ∧ Cond.initialized C ∈ ev_ws ∧ ∃ tt : Nat → FieldType, (∀ k, k < N → parseFieldDescriptor (T k).2.2.1 = some (tt k)) ∧ ∀ j, j < N → defaultValue (tt j) = vp_V fs j

def ru_iconst (G : ev_G) (C : ev_L) (w : Nat) (M : ev_M) (K : ev_K) (X : ev_S → Prop) : Prop := ∀ {pc : Nat} {L : ev_V} {st : List Value} {h : ev_H} {c z : Nat} {n : Int} {v : Int32}, (decode M.2.1 pc = .ok (.iconst n, 1)) → (Int32.ofInt n = v) → (X ((pc + 1), L, (.int v :: st), h, c, z)) → X (pc, L, st, h, c, z)
def ru_bipush (G : ev_G) (C : ev_L) (w : Nat) (M : ev_M) (K : ev_K) (X : ev_S → Prop) : Prop := ∀ {pc : Nat} {L : ev_V} {st : List Value} {h : ev_H} {c z : Nat} {n : Int} {v : Int32}, (decode M.2.1 pc = .ok (.bipush n, 2)) → ((Int8.ofInt n).toInt32 = v) → (X ((pc + 2), L, (.int v :: st), h, c, z)) → X (pc, L, st, h, c, z)
def ru_sipush (G : ev_G) (C : ev_L) (w : Nat) (M : ev_M) (K : ev_K) (X : ev_S → Prop) : Prop := ∀ {pc : Nat} {L : ev_V} {st : List Value} {h : ev_H} {c z : Nat} {n : Int} {v : Int32}, (decode M.2.1 pc = .ok (.sipush n, 3)) → ((Int16.ofInt n).toInt32 = v) → (X ((pc + 3), L, (.int v :: st), h, c, z)) → X (pc, L, st, h, c, z)
def ru_lconst (G : ev_G) (C : ev_L) (w : Nat) (M : ev_M) (K : ev_K) (X : ev_S → Prop) : Prop := ∀ {pc : Nat} {L : ev_V} {st : List Value} {h : ev_H} {c z : Nat} {n : Fin 2} {v : Int64}, (decode M.2.1 pc = .ok (.lconst n, 1)) → (Int64.ofNat (n : Nat) = v) → (X ((pc + 1), L, (.long v :: st), h, c, z)) → X (pc, L, st, h, c, z)
def ru_null (G : ev_G) (C : ev_L) (w : Nat) (M : ev_M) (K : ev_K) (X : ev_S → Prop) : Prop := ∀ {pc : Nat} {L : ev_V} {st : List Value} {h : ev_H} {c z : Nat} , (decode M.2.1 pc = .ok (.aconst_null, 1)) → (X ((pc + 1), L, (.null :: st), h, c, z)) → X (pc, L, st, h, c, z)
def ru_ldc (G : ev_G) (C : ev_L) (w : Nat) (M : ev_M) (K : ev_K) (X : ev_S → Prop) : Prop := ∀ {pc : Nat} {L : ev_V} {st : List Value} {h : ev_H} {c z : Nat} {i : Nat} {v : Int32}, (decode M.2.1 pc = .ok (.ldc i, 2)) → (Cond.constant M.1.cls i v ∈ ev_ws) → (X ((pc + 2), L, (.int v :: st), h, c, z)) → X (pc, L, st, h, c, z)
def ru_ldc2 (G : ev_G) (C : ev_L) (w : Nat) (M : ev_M) (K : ev_K) (X : ev_S → Prop) : Prop := ∀ {pc : Nat} {L : ev_V} {st : List Value} {h : ev_H} {c z : Nat} {i : Nat} {v : Int64}, (decode M.2.1 pc = .ok (.ldc2_w i, 3)) → (Cond.constantLong M.1.cls i v ∈ ev_ws) → (X ((pc + 3), L, (.long v :: st), h, c, z)) → X (pc, L, st, h, c, z)
def ru_ldcw (G : ev_G) (C : ev_L) (w : Nat) (M : ev_M) (K : ev_K) (X : ev_S → Prop) : Prop := ∀ {pc : Nat} {L : ev_V} {st : List Value} {h : ev_H} {c z : Nat} {i : Nat} {v : Int32}, (decode M.2.1 pc = .ok (.ldc_w i, 3)) → (Cond.constant M.1.cls i v ∈ ev_ws) → (X ((pc + 3), L, (.int v :: st), h, c, z)) → X (pc, L, st, h, c, z)
def ru_iload_n (G : ev_G) (C : ev_L) (w : Nat) (M : ev_M) (K : ev_K) (X : ev_S → Prop) : Prop := ∀ {pc : Nat} {L : ev_V} {st : List Value} {h : ev_H} {c z : Nat} {j : Fin 4} {x : Int32}, (decode M.2.1 pc = .ok (.iload_n j, 1)) → (L (j : Nat) = some (.int x)) → (X ((pc + 1), L, (.int x :: st), h, c, z)) → X (pc, L, st, h, c, z)
def ru_iload (G : ev_G) (C : ev_L) (w : Nat) (M : ev_M) (K : ev_K) (X : ev_S → Prop) : Prop := ∀ {pc : Nat} {L : ev_V} {st : List Value} {h : ev_H} {c z : Nat} {i : Nat} {x : Int32}, (decode M.2.1 pc = .ok (.iload i, 2)) → (L i = some (.int x)) → (X ((pc + 2), L, (.int x :: st), h, c, z)) → X (pc, L, st, h, c, z)
def ru_istore_n (G : ev_G) (C : ev_L) (w : Nat) (M : ev_M) (K : ev_K) (X : ev_S → Prop) : Prop := ∀ {pc : Nat} {L : ev_V} {st : List Value} {h : ev_H} {c z : Nat} {j : Fin 4} {x : Int32}, (decode M.2.1 pc = .ok (.istore_n j, 1)) → (Nat.blt ((j : Nat)) M.2.2.1 = true) → (X ((pc + 1), (ev_s1 L (j : Nat) (.int x)), st, h, c, z)) → X (pc, L, (.int x :: st), h, c, z)
def ru_istore (G : ev_G) (C : ev_L) (w : Nat) (M : ev_M) (K : ev_K) (X : ev_S → Prop) : Prop := ∀ {pc : Nat} {L : ev_V} {st : List Value} {h : ev_H} {c z : Nat} {i : Nat} {x : Int32}, (decode M.2.1 pc = .ok (.istore i, 2)) → (Nat.blt (i) M.2.2.1 = true) → (X ((pc + 2), (ev_s1 L i (.int x)), st, h, c, z)) → X (pc, L, (.int x :: st), h, c, z)
def ru_lload_n (G : ev_G) (C : ev_L) (w : Nat) (M : ev_M) (K : ev_K) (X : ev_S → Prop) : Prop := ∀ {pc : Nat} {L : ev_V} {st : List Value} {h : ev_H} {c z : Nat} {j : Fin 4} {x : Int64}, (decode M.2.1 pc = .ok (.lload_n j, 1)) → (L (j : Nat) = some (.long x)) → (X ((pc + 1), L, (.long x :: st), h, c, z)) → X (pc, L, st, h, c, z)
def ru_lload (G : ev_G) (C : ev_L) (w : Nat) (M : ev_M) (K : ev_K) (X : ev_S → Prop) : Prop := ∀ {pc : Nat} {L : ev_V} {st : List Value} {h : ev_H} {c z : Nat} {i : Nat} {x : Int64}, (decode M.2.1 pc = .ok (.lload i, 2)) → (L i = some (.long x)) → (X ((pc + 2), L, (.long x :: st), h, c, z)) → X (pc, L, st, h, c, z)
def ru_lstore_n (G : ev_G) (C : ev_L) (w : Nat) (M : ev_M) (K : ev_K) (X : ev_S → Prop) : Prop := ∀ {pc : Nat} {L : ev_V} {st : List Value} {h : ev_H} {c z : Nat} {j : Fin 4} {x : Int64}, (decode M.2.1 pc = .ok (.lstore_n j, 1)) → (Nat.blt ((j : Nat) + 1) M.2.2.1 = true) → (X ((pc + 1), (ev_s2 L (j : Nat) (.long x)), st, h, c, z)) → X (pc, L, (.long x :: st), h, c, z)
def ru_lstore (G : ev_G) (C : ev_L) (w : Nat) (M : ev_M) (K : ev_K) (X : ev_S → Prop) : Prop := ∀ {pc : Nat} {L : ev_V} {st : List Value} {h : ev_H} {c z : Nat} {i : Nat} {x : Int64}, (decode M.2.1 pc = .ok (.lstore i, 2)) → (Nat.blt (i + 1) M.2.2.1 = true) → (X ((pc + 2), (ev_s2 L i (.long x)), st, h, c, z)) → X (pc, L, (.long x :: st), h, c, z)
def ru_aload_n (G : ev_G) (C : ev_L) (w : Nat) (M : ev_M) (K : ev_K) (X : ev_S → Prop) : Prop := ∀ {pc : Nat} {L : ev_V} {st : List Value} {h : ev_H} {c z : Nat} {j : Fin 4} {x : Nat}, (decode M.2.1 pc = .ok (.aload_n j, 1)) → (L (j : Nat) = some (.ref x)) → (X ((pc + 1), L, (.ref x :: st), h, c, z)) → X (pc, L, st, h, c, z)
def ru_aload (G : ev_G) (C : ev_L) (w : Nat) (M : ev_M) (K : ev_K) (X : ev_S → Prop) : Prop := ∀ {pc : Nat} {L : ev_V} {st : List Value} {h : ev_H} {c z : Nat} {i : Nat} {x : Nat}, (decode M.2.1 pc = .ok (.aload i, 2)) → (L i = some (.ref x)) → (X ((pc + 2), L, (.ref x :: st), h, c, z)) → X (pc, L, st, h, c, z)
def ru_astore_n (G : ev_G) (C : ev_L) (w : Nat) (M : ev_M) (K : ev_K) (X : ev_S → Prop) : Prop := ∀ {pc : Nat} {L : ev_V} {st : List Value} {h : ev_H} {c z : Nat} {j : Fin 4} {x : Nat}, (decode M.2.1 pc = .ok (.astore_n j, 1)) → (Nat.blt ((j : Nat)) M.2.2.1 = true) → (X ((pc + 1), (ev_s1 L (j : Nat) (.ref x)), st, h, c, z)) → X (pc, L, (.ref x :: st), h, c, z)
def ru_astore (G : ev_G) (C : ev_L) (w : Nat) (M : ev_M) (K : ev_K) (X : ev_S → Prop) : Prop := ∀ {pc : Nat} {L : ev_V} {st : List Value} {h : ev_H} {c z : Nat} {i : Nat} {x : Nat}, (decode M.2.1 pc = .ok (.astore i, 2)) → (Nat.blt (i) M.2.2.1 = true) → (X ((pc + 2), (ev_s1 L i (.ref x)), st, h, c, z)) → X (pc, L, (.ref x :: st), h, c, z)
def ru_iinc (G : ev_G) (C : ev_L) (w : Nat) (M : ev_M) (K : ev_K) (X : ev_S → Prop) : Prop := ∀ {pc : Nat} {L : ev_V} {st : List Value} {h : ev_H} {c z : Nat} {i : Nat} {n : Int} {x : Int32}, (decode M.2.1 pc = .ok (.iinc i n, 3)) → (L i = some (.int x)) → (Nat.blt i M.2.2.1 = true) → (X ((pc + 3), (ev_s1 L i (.int (x + Int32.ofInt n))), st, h, c, z)) → X (pc, L, st, h, c, z)
def ru_iadd (G : ev_G) (C : ev_L) (w : Nat) (M : ev_M) (K : ev_K) (X : ev_S → Prop) : Prop := ∀ {pc : Nat} {L : ev_V} {st : List Value} {h : ev_H} {c z : Nat} {x y : Int32}, (decode M.2.1 pc = .ok (.iadd, 1)) → (X ((pc + 1), L, (.int (x + y) :: st), h, c, z)) → X (pc, L, (.int y :: .int x :: st), h, c, z)
def ru_isub (G : ev_G) (C : ev_L) (w : Nat) (M : ev_M) (K : ev_K) (X : ev_S → Prop) : Prop := ∀ {pc : Nat} {L : ev_V} {st : List Value} {h : ev_H} {c z : Nat} {x y : Int32}, (decode M.2.1 pc = .ok (.isub, 1)) → (X ((pc + 1), L, (.int (x - y) :: st), h, c, z)) → X (pc, L, (.int y :: .int x :: st), h, c, z)
def ru_imul (G : ev_G) (C : ev_L) (w : Nat) (M : ev_M) (K : ev_K) (X : ev_S → Prop) : Prop := ∀ {pc : Nat} {L : ev_V} {st : List Value} {h : ev_H} {c z : Nat} {x y : Int32}, (decode M.2.1 pc = .ok (.imul, 1)) → (X ((pc + 1), L, (.int (x * y) :: st), h, c, z)) → X (pc, L, (.int y :: .int x :: st), h, c, z)
def ru_iand (G : ev_G) (C : ev_L) (w : Nat) (M : ev_M) (K : ev_K) (X : ev_S → Prop) : Prop := ∀ {pc : Nat} {L : ev_V} {st : List Value} {h : ev_H} {c z : Nat} {x y : Int32}, (decode M.2.1 pc = .ok (.iand, 1)) → (X ((pc + 1), L, (.int (x &&& y) :: st), h, c, z)) → X (pc, L, (.int y :: .int x :: st), h, c, z)
def ru_ior (G : ev_G) (C : ev_L) (w : Nat) (M : ev_M) (K : ev_K) (X : ev_S → Prop) : Prop := ∀ {pc : Nat} {L : ev_V} {st : List Value} {h : ev_H} {c z : Nat} {x y : Int32}, (decode M.2.1 pc = .ok (.ior, 1)) → (X ((pc + 1), L, (.int (x ||| y) :: st), h, c, z)) → X (pc, L, (.int y :: .int x :: st), h, c, z)
def ru_ixor (G : ev_G) (C : ev_L) (w : Nat) (M : ev_M) (K : ev_K) (X : ev_S → Prop) : Prop := ∀ {pc : Nat} {L : ev_V} {st : List Value} {h : ev_H} {c z : Nat} {x y : Int32}, (decode M.2.1 pc = .ok (.ixor, 1)) → (X ((pc + 1), L, (.int (x ^^^ y) :: st), h, c, z)) → X (pc, L, (.int y :: .int x :: st), h, c, z)
def ru_ishl (G : ev_G) (C : ev_L) (w : Nat) (M : ev_M) (K : ev_K) (X : ev_S → Prop) : Prop := ∀ {pc : Nat} {L : ev_V} {st : List Value} {h : ev_H} {c z : Nat} {x y : Int32}, (decode M.2.1 pc = .ok (.ishl, 1)) → (X ((pc + 1), L, (.int (x <<< (y &&& 31)) :: st), h, c, z)) → X (pc, L, (.int y :: .int x :: st), h, c, z)
def ru_ishr (G : ev_G) (C : ev_L) (w : Nat) (M : ev_M) (K : ev_K) (X : ev_S → Prop) : Prop := ∀ {pc : Nat} {L : ev_V} {st : List Value} {h : ev_H} {c z : Nat} {x y : Int32}, (decode M.2.1 pc = .ok (.ishr, 1)) → (X ((pc + 1), L, (.int (x >>> (y &&& 31)) :: st), h, c, z)) → X (pc, L, (.int y :: .int x :: st), h, c, z)
def ru_iushr (G : ev_G) (C : ev_L) (w : Nat) (M : ev_M) (K : ev_K) (X : ev_S → Prop) : Prop := ∀ {pc : Nat} {L : ev_V} {st : List Value} {h : ev_H} {c z : Nat} {x y : Int32}, (decode M.2.1 pc = .ok (.iushr, 1)) → (X ((pc + 1), L, (.int ((x.toUInt32 >>> (y.toUInt32 &&& Int32.toUInt32 31)).toInt32) :: st), h, c, z)) → X (pc, L, (.int y :: .int x :: st), h, c, z)
def ru_idiv (G : ev_G) (C : ev_L) (w : Nat) (M : ev_M) (K : ev_K) (X : ev_S → Prop) : Prop := ∀ {pc : Nat} {L : ev_V} {st : List Value} {h : ev_H} {c z : Nat} {x y : Int32}, (decode M.2.1 pc = .ok (.idiv, 1)) → (¬ y = 0) → (X ((pc + 1), L, (.int (x / y) :: st), h, c, z)) → X (pc, L, (.int y :: .int x :: st), h, c, z)
def ru_irem (G : ev_G) (C : ev_L) (w : Nat) (M : ev_M) (K : ev_K) (X : ev_S → Prop) : Prop := ∀ {pc : Nat} {L : ev_V} {st : List Value} {h : ev_H} {c z : Nat} {x y : Int32}, (decode M.2.1 pc = .ok (.irem, 1)) → (¬ y = 0) → (X ((pc + 1), L, (.int (x - x / y * y) :: st), h, c, z)) → X (pc, L, (.int y :: .int x :: st), h, c, z)
def ru_ineg (G : ev_G) (C : ev_L) (w : Nat) (M : ev_M) (K : ev_K) (X : ev_S → Prop) : Prop := ∀ {pc : Nat} {L : ev_V} {st : List Value} {h : ev_H} {c z : Nat} {x : Int32}, (decode M.2.1 pc = .ok (.ineg, 1)) → (X ((pc + 1), L, (.int (-x) :: st), h, c, z)) → X (pc, L, (.int x :: st), h, c, z)
def ru_ladd (G : ev_G) (C : ev_L) (w : Nat) (M : ev_M) (K : ev_K) (X : ev_S → Prop) : Prop := ∀ {pc : Nat} {L : ev_V} {st : List Value} {h : ev_H} {c z : Nat} {x y : Int64}, (decode M.2.1 pc = .ok (.ladd, 1)) → (X ((pc + 1), L, (.long (x + y) :: st), h, c, z)) → X (pc, L, (.long y :: .long x :: st), h, c, z)
def ru_lsub (G : ev_G) (C : ev_L) (w : Nat) (M : ev_M) (K : ev_K) (X : ev_S → Prop) : Prop := ∀ {pc : Nat} {L : ev_V} {st : List Value} {h : ev_H} {c z : Nat} {x y : Int64}, (decode M.2.1 pc = .ok (.lsub, 1)) → (X ((pc + 1), L, (.long (x - y) :: st), h, c, z)) → X (pc, L, (.long y :: .long x :: st), h, c, z)
def ru_lmul (G : ev_G) (C : ev_L) (w : Nat) (M : ev_M) (K : ev_K) (X : ev_S → Prop) : Prop := ∀ {pc : Nat} {L : ev_V} {st : List Value} {h : ev_H} {c z : Nat} {x y : Int64}, (decode M.2.1 pc = .ok (.lmul, 1)) → (X ((pc + 1), L, (.long (x * y) :: st), h, c, z)) → X (pc, L, (.long y :: .long x :: st), h, c, z)
def ru_land (G : ev_G) (C : ev_L) (w : Nat) (M : ev_M) (K : ev_K) (X : ev_S → Prop) : Prop := ∀ {pc : Nat} {L : ev_V} {st : List Value} {h : ev_H} {c z : Nat} {x y : Int64}, (decode M.2.1 pc = .ok (.land, 1)) → (X ((pc + 1), L, (.long (x &&& y) :: st), h, c, z)) → X (pc, L, (.long y :: .long x :: st), h, c, z)
def ru_lor (G : ev_G) (C : ev_L) (w : Nat) (M : ev_M) (K : ev_K) (X : ev_S → Prop) : Prop := ∀ {pc : Nat} {L : ev_V} {st : List Value} {h : ev_H} {c z : Nat} {x y : Int64}, (decode M.2.1 pc = .ok (.lor, 1)) → (X ((pc + 1), L, (.long (x ||| y) :: st), h, c, z)) → X (pc, L, (.long y :: .long x :: st), h, c, z)
def ru_lxor (G : ev_G) (C : ev_L) (w : Nat) (M : ev_M) (K : ev_K) (X : ev_S → Prop) : Prop := ∀ {pc : Nat} {L : ev_V} {st : List Value} {h : ev_H} {c z : Nat} {x y : Int64}, (decode M.2.1 pc = .ok (.lxor, 1)) → (X ((pc + 1), L, (.long (x ^^^ y) :: st), h, c, z)) → X (pc, L, (.long y :: .long x :: st), h, c, z)
def ru_ldiv (G : ev_G) (C : ev_L) (w : Nat) (M : ev_M) (K : ev_K) (X : ev_S → Prop) : Prop := ∀ {pc : Nat} {L : ev_V} {st : List Value} {h : ev_H} {c z : Nat} {x y : Int64}, (decode M.2.1 pc = .ok (.ldiv, 1)) → (¬ y = 0) → (X ((pc + 1), L, (.long (x / y) :: st), h, c, z)) → X (pc, L, (.long y :: .long x :: st), h, c, z)
def ru_lrem (G : ev_G) (C : ev_L) (w : Nat) (M : ev_M) (K : ev_K) (X : ev_S → Prop) : Prop := ∀ {pc : Nat} {L : ev_V} {st : List Value} {h : ev_H} {c z : Nat} {x y : Int64}, (decode M.2.1 pc = .ok (.lrem, 1)) → (¬ y = 0) → (X ((pc + 1), L, (.long (x - x / y * y) :: st), h, c, z)) → X (pc, L, (.long y :: .long x :: st), h, c, z)
def ru_lshl (G : ev_G) (C : ev_L) (w : Nat) (M : ev_M) (K : ev_K) (X : ev_S → Prop) : Prop := ∀ {pc : Nat} {L : ev_V} {st : List Value} {h : ev_H} {c z : Nat} {x : Int64} {y : Int32}, (decode M.2.1 pc = .ok (.lshl, 1)) → (X ((pc + 1), L, (.long (x <<< (y.toInt64 &&& 63)) :: st), h, c, z)) → X (pc, L, (.int y :: .long x :: st), h, c, z)
def ru_lshr (G : ev_G) (C : ev_L) (w : Nat) (M : ev_M) (K : ev_K) (X : ev_S → Prop) : Prop := ∀ {pc : Nat} {L : ev_V} {st : List Value} {h : ev_H} {c z : Nat} {x : Int64} {y : Int32}, (decode M.2.1 pc = .ok (.lshr, 1)) → (X ((pc + 1), L, (.long (x >>> (y.toInt64 &&& 63)) :: st), h, c, z)) → X (pc, L, (.int y :: .long x :: st), h, c, z)
def ru_lushr (G : ev_G) (C : ev_L) (w : Nat) (M : ev_M) (K : ev_K) (X : ev_S → Prop) : Prop := ∀ {pc : Nat} {L : ev_V} {st : List Value} {h : ev_H} {c z : Nat} {x : Int64} {y : Int32}, (decode M.2.1 pc = .ok (.lushr, 1)) → (X ((pc + 1), L, (.long ((x.toUInt64 >>> (y.toInt64.toUInt64 &&& Int64.toUInt64 63)).toInt64) :: st), h, c, z)) → X (pc, L, (.int y :: .long x :: st), h, c, z)
def ru_lneg (G : ev_G) (C : ev_L) (w : Nat) (M : ev_M) (K : ev_K) (X : ev_S → Prop) : Prop := ∀ {pc : Nat} {L : ev_V} {st : List Value} {h : ev_H} {c z : Nat} {x : Int64}, (decode M.2.1 pc = .ok (.lneg, 1)) → (X ((pc + 1), L, (.long (-x) :: st), h, c, z)) → X (pc, L, (.long x :: st), h, c, z)
def ru_i2l (G : ev_G) (C : ev_L) (w : Nat) (M : ev_M) (K : ev_K) (X : ev_S → Prop) : Prop := ∀ {pc : Nat} {L : ev_V} {st : List Value} {h : ev_H} {c z : Nat} {x : Int32}, (decode M.2.1 pc = .ok (.i2l, 1)) → (X ((pc + 1), L, (.long x.toInt64 :: st), h, c, z)) → X (pc, L, (.int x :: st), h, c, z)
def ru_l2i (G : ev_G) (C : ev_L) (w : Nat) (M : ev_M) (K : ev_K) (X : ev_S → Prop) : Prop := ∀ {pc : Nat} {L : ev_V} {st : List Value} {h : ev_H} {c z : Nat} {x : Int64}, (decode M.2.1 pc = .ok (.l2i, 1)) → (X ((pc + 1), L, (.int x.toInt32 :: st), h, c, z)) → X (pc, L, (.long x :: st), h, c, z)
def ru_i2c (G : ev_G) (C : ev_L) (w : Nat) (M : ev_M) (K : ev_K) (X : ev_S → Prop) : Prop := ∀ {pc : Nat} {L : ev_V} {st : List Value} {h : ev_H} {c z : Nat} {x : Int32}, (decode M.2.1 pc = .ok (.i2c, 1)) → (X ((pc + 1), L, (.int (x.toUInt32 % 65536).toInt32 :: st), h, c, z)) → X (pc, L, (.int x :: st), h, c, z)
def ru_i2b (G : ev_G) (C : ev_L) (w : Nat) (M : ev_M) (K : ev_K) (X : ev_S → Prop) : Prop := ∀ {pc : Nat} {L : ev_V} {st : List Value} {h : ev_H} {c z : Nat} {x : Int32}, (decode M.2.1 pc = .ok (.i2b, 1)) → (X ((pc + 1), L, (.int x.toInt8.toInt32 :: st), h, c, z)) → X (pc, L, (.int x :: st), h, c, z)
def ru_lcmp (G : ev_G) (C : ev_L) (w : Nat) (M : ev_M) (K : ev_K) (X : ev_S → Prop) : Prop := ∀ {pc : Nat} {L : ev_V} {st : List Value} {h : ev_H} {c z : Nat} {x y : Int64}, (decode M.2.1 pc = .ok (.lcmp, 1)) → (X ((pc + 1), L, (.int (lg_cmp x y) :: st), h, c, z)) → X (pc, L, (.long y :: .long x :: st), h, c, z)
def ru_dup (G : ev_G) (C : ev_L) (w : Nat) (M : ev_M) (K : ev_K) (X : ev_S → Prop) : Prop := ∀ {pc : Nat} {L : ev_V} {st : List Value} {h : ev_H} {c z : Nat} {va : Value}, (decode M.2.1 pc = .ok (.dup, 1)) → (va.category = 1) → (X ((pc + 1), L, (va :: va :: st), h, c, z)) → X (pc, L, (va :: st), h, c, z)
def ru_pop (G : ev_G) (C : ev_L) (w : Nat) (M : ev_M) (K : ev_K) (X : ev_S → Prop) : Prop := ∀ {pc : Nat} {L : ev_V} {st : List Value} {h : ev_H} {c z : Nat} {va : Value}, (decode M.2.1 pc = .ok (.pop, 1)) → (va.category = 1) → (X ((pc + 1), L, st, h, c, z)) → X (pc, L, (va :: st), h, c, z)
def ru_dup_x1 (G : ev_G) (C : ev_L) (w : Nat) (M : ev_M) (K : ev_K) (X : ev_S → Prop) : Prop := ∀ {pc : Nat} {L : ev_V} {st : List Value} {h : ev_H} {c z : Nat} {va vb : Value}, (decode M.2.1 pc = .ok (.dup_x1, 1)) → (va.category = 1) → (vb.category = 1) → (X ((pc + 1), L, (va :: vb :: va :: st), h, c, z)) → X (pc, L, (va :: vb :: st), h, c, z)
def ru_dup_x2 (G : ev_G) (C : ev_L) (w : Nat) (M : ev_M) (K : ev_K) (X : ev_S → Prop) : Prop := ∀ {pc : Nat} {L : ev_V} {st : List Value} {h : ev_H} {c z : Nat} {va vb vd : Value}, (decode M.2.1 pc = .ok (.dup_x2, 1)) → (va.category = 1) → (vb.category = 1) → (vd.category = 1) → (X ((pc + 1), L, (va :: vb :: vd :: va :: st), h, c, z)) → X (pc, L, (va :: vb :: vd :: st), h, c, z)
def ru_dup2_11 (G : ev_G) (C : ev_L) (w : Nat) (M : ev_M) (K : ev_K) (X : ev_S → Prop) : Prop := ∀ {pc : Nat} {L : ev_V} {st : List Value} {h : ev_H} {c z : Nat} {va vb : Value}, (decode M.2.1 pc = .ok (.dup2, 1)) → (va.category = 1) → (vb.category = 1) → (X ((pc + 1), L, (va :: vb :: va :: vb :: st), h, c, z)) → X (pc, L, (va :: vb :: st), h, c, z)
def ru_dup2_2 (G : ev_G) (C : ev_L) (w : Nat) (M : ev_M) (K : ev_K) (X : ev_S → Prop) : Prop := ∀ {pc : Nat} {L : ev_V} {st : List Value} {h : ev_H} {c z : Nat} {va : Value}, (decode M.2.1 pc = .ok (.dup2, 1)) → (va.category = 2) → (X ((pc + 1), L, (va :: va :: st), h, c, z)) → X (pc, L, (va :: st), h, c, z)
def ru_pop2_2 (G : ev_G) (C : ev_L) (w : Nat) (M : ev_M) (K : ev_K) (X : ev_S → Prop) : Prop := ∀ {pc : Nat} {L : ev_V} {st : List Value} {h : ev_H} {c z : Nat} {va : Value}, (decode M.2.1 pc = .ok (.pop2, 1)) → (va.category = 2) → (X ((pc + 1), L, st, h, c, z)) → X (pc, L, (va :: st), h, c, z)
def ru_dup2_x1_2 (G : ev_G) (C : ev_L) (w : Nat) (M : ev_M) (K : ev_K) (X : ev_S → Prop) : Prop := ∀ {pc : Nat} {L : ev_V} {st : List Value} {h : ev_H} {c z : Nat} {va vb : Value}, (decode M.2.1 pc = .ok (.dup2_x1, 1)) → (va.category = 2) → (vb.category = 1) → (X ((pc + 1), L, (va :: vb :: va :: st), h, c, z)) → X (pc, L, (va :: vb :: st), h, c, z)
def ru_dup2_x2_2 (G : ev_G) (C : ev_L) (w : Nat) (M : ev_M) (K : ev_K) (X : ev_S → Prop) : Prop := ∀ {pc : Nat} {L : ev_V} {st : List Value} {h : ev_H} {c z : Nat} {va vb vd : Value}, (decode M.2.1 pc = .ok (.dup2_x2, 1)) → (va.category = 2) → (vb.category = 1) → (vd.category = 1) → (X ((pc + 1), L, (va :: vb :: vd :: va :: st), h, c, z)) → X (pc, L, (va :: vb :: vd :: st), h, c, z)
def ru_if_eq (G : ev_G) (C : ev_L) (w : Nat) (M : ev_M) (K : ev_K) (X : ev_S → Prop) : Prop := ∀ {pc : Nat} {L : ev_V} {st : List Value} {h : ev_H} {c z : Nat} {off : Int} {tgt : Nat} {x : Int32}, (decode M.2.1 pc = .ok (.ifCond .eq off, 3)) → ((pc : Int) + off = (tgt : Int)) → ((x = 0 → X (tgt, L, st, h, c, z))) → ((¬ x = 0 → X ((pc + 3), L, st, h, c, z))) → X (pc, L, (.int x :: st), h, c, z)
def ru_icmp_eq (G : ev_G) (C : ev_L) (w : Nat) (M : ev_M) (K : ev_K) (X : ev_S → Prop) : Prop := ∀ {pc : Nat} {L : ev_V} {st : List Value} {h : ev_H} {c z : Nat} {off : Int} {tgt : Nat} {x y : Int32}, (decode M.2.1 pc = .ok (.if_icmp .eq off, 3)) → ((pc : Int) + off = (tgt : Int)) → ((x = y → X (tgt, L, st, h, c, z))) → ((¬ x = y → X ((pc + 3), L, st, h, c, z))) → X (pc, L, (.int y :: .int x :: st), h, c, z)
def ru_if_ne (G : ev_G) (C : ev_L) (w : Nat) (M : ev_M) (K : ev_K) (X : ev_S → Prop) : Prop := ∀ {pc : Nat} {L : ev_V} {st : List Value} {h : ev_H} {c z : Nat} {off : Int} {tgt : Nat} {x : Int32}, (decode M.2.1 pc = .ok (.ifCond .ne off, 3)) → ((pc : Int) + off = (tgt : Int)) → ((¬ x = 0 → X (tgt, L, st, h, c, z))) → ((x = 0 → X ((pc + 3), L, st, h, c, z))) → X (pc, L, (.int x :: st), h, c, z)
def ru_icmp_ne (G : ev_G) (C : ev_L) (w : Nat) (M : ev_M) (K : ev_K) (X : ev_S → Prop) : Prop := ∀ {pc : Nat} {L : ev_V} {st : List Value} {h : ev_H} {c z : Nat} {off : Int} {tgt : Nat} {x y : Int32}, (decode M.2.1 pc = .ok (.if_icmp .ne off, 3)) → ((pc : Int) + off = (tgt : Int)) → ((¬ x = y → X (tgt, L, st, h, c, z))) → ((x = y → X ((pc + 3), L, st, h, c, z))) → X (pc, L, (.int y :: .int x :: st), h, c, z)
def ru_if_lt (G : ev_G) (C : ev_L) (w : Nat) (M : ev_M) (K : ev_K) (X : ev_S → Prop) : Prop := ∀ {pc : Nat} {L : ev_V} {st : List Value} {h : ev_H} {c z : Nat} {off : Int} {tgt : Nat} {x : Int32}, (decode M.2.1 pc = .ok (.ifCond .lt off, 3)) → ((pc : Int) + off = (tgt : Int)) → ((x < 0 → X (tgt, L, st, h, c, z))) → ((¬ x < 0 → X ((pc + 3), L, st, h, c, z))) → X (pc, L, (.int x :: st), h, c, z)
def ru_icmp_lt (G : ev_G) (C : ev_L) (w : Nat) (M : ev_M) (K : ev_K) (X : ev_S → Prop) : Prop := ∀ {pc : Nat} {L : ev_V} {st : List Value} {h : ev_H} {c z : Nat} {off : Int} {tgt : Nat} {x y : Int32}, (decode M.2.1 pc = .ok (.if_icmp .lt off, 3)) → ((pc : Int) + off = (tgt : Int)) → ((x < y → X (tgt, L, st, h, c, z))) → ((¬ x < y → X ((pc + 3), L, st, h, c, z))) → X (pc, L, (.int y :: .int x :: st), h, c, z)
def ru_if_ge (G : ev_G) (C : ev_L) (w : Nat) (M : ev_M) (K : ev_K) (X : ev_S → Prop) : Prop := ∀ {pc : Nat} {L : ev_V} {st : List Value} {h : ev_H} {c z : Nat} {off : Int} {tgt : Nat} {x : Int32}, (decode M.2.1 pc = .ok (.ifCond .ge off, 3)) → ((pc : Int) + off = (tgt : Int)) → ((0 ≤ x → X (tgt, L, st, h, c, z))) → ((¬ 0 ≤ x → X ((pc + 3), L, st, h, c, z))) → X (pc, L, (.int x :: st), h, c, z)
def ru_icmp_ge (G : ev_G) (C : ev_L) (w : Nat) (M : ev_M) (K : ev_K) (X : ev_S → Prop) : Prop := ∀ {pc : Nat} {L : ev_V} {st : List Value} {h : ev_H} {c z : Nat} {off : Int} {tgt : Nat} {x y : Int32}, (decode M.2.1 pc = .ok (.if_icmp .ge off, 3)) → ((pc : Int) + off = (tgt : Int)) → ((y ≤ x → X (tgt, L, st, h, c, z))) → ((¬ y ≤ x → X ((pc + 3), L, st, h, c, z))) → X (pc, L, (.int y :: .int x :: st), h, c, z)
def ru_if_gt (G : ev_G) (C : ev_L) (w : Nat) (M : ev_M) (K : ev_K) (X : ev_S → Prop) : Prop := ∀ {pc : Nat} {L : ev_V} {st : List Value} {h : ev_H} {c z : Nat} {off : Int} {tgt : Nat} {x : Int32}, (decode M.2.1 pc = .ok (.ifCond .gt off, 3)) → ((pc : Int) + off = (tgt : Int)) → ((0 < x → X (tgt, L, st, h, c, z))) → ((¬ 0 < x → X ((pc + 3), L, st, h, c, z))) → X (pc, L, (.int x :: st), h, c, z)
def ru_icmp_gt (G : ev_G) (C : ev_L) (w : Nat) (M : ev_M) (K : ev_K) (X : ev_S → Prop) : Prop := ∀ {pc : Nat} {L : ev_V} {st : List Value} {h : ev_H} {c z : Nat} {off : Int} {tgt : Nat} {x y : Int32}, (decode M.2.1 pc = .ok (.if_icmp .gt off, 3)) → ((pc : Int) + off = (tgt : Int)) → ((y < x → X (tgt, L, st, h, c, z))) → ((¬ y < x → X ((pc + 3), L, st, h, c, z))) → X (pc, L, (.int y :: .int x :: st), h, c, z)
def ru_if_le (G : ev_G) (C : ev_L) (w : Nat) (M : ev_M) (K : ev_K) (X : ev_S → Prop) : Prop := ∀ {pc : Nat} {L : ev_V} {st : List Value} {h : ev_H} {c z : Nat} {off : Int} {tgt : Nat} {x : Int32}, (decode M.2.1 pc = .ok (.ifCond .le off, 3)) → ((pc : Int) + off = (tgt : Int)) → ((x ≤ 0 → X (tgt, L, st, h, c, z))) → ((¬ x ≤ 0 → X ((pc + 3), L, st, h, c, z))) → X (pc, L, (.int x :: st), h, c, z)
def ru_icmp_le (G : ev_G) (C : ev_L) (w : Nat) (M : ev_M) (K : ev_K) (X : ev_S → Prop) : Prop := ∀ {pc : Nat} {L : ev_V} {st : List Value} {h : ev_H} {c z : Nat} {off : Int} {tgt : Nat} {x y : Int32}, (decode M.2.1 pc = .ok (.if_icmp .le off, 3)) → ((pc : Int) + off = (tgt : Int)) → ((x ≤ y → X (tgt, L, st, h, c, z))) → ((¬ x ≤ y → X ((pc + 3), L, st, h, c, z))) → X (pc, L, (.int y :: .int x :: st), h, c, z)
def ru_goto (G : ev_G) (C : ev_L) (w : Nat) (M : ev_M) (K : ev_K) (X : ev_S → Prop) : Prop := ∀ {pc : Nat} {L : ev_V} {st : List Value} {h : ev_H} {c z : Nat} {off : Int} {tgt : Nat}, (decode M.2.1 pc = .ok (.goto off, 3)) → ((pc : Int) + off = (tgt : Int)) → (X (tgt, L, st, h, c, z)) → X (pc, L, st, h, c, z)
def ru_tableIn (G : ev_G) (C : ev_L) (w : Nat) (M : ev_M) (K : ev_K) (X : ev_S → Prop) : Prop := ∀ {pc : Nat} {L : ev_V} {st : List Value} {h : ev_H} {c z : Nat} {dflt lo hi : Int} {offs : Array Int} {len : Nat} {x : Int32} {off : Int} {tgt : Nat}, (decode M.2.1 pc = .ok (.tableswitch dflt lo hi offs, len)) → (¬ x.toInt < lo) → (¬ hi < x.toInt) → (offs[(x.toInt - lo).toNat]? = some off) → ((pc : Int) + off = (tgt : Int)) → (X (tgt, L, st, h, c, z)) → X (pc, L, (.int x :: st), h, c, z)
def ru_tableOut (G : ev_G) (C : ev_L) (w : Nat) (M : ev_M) (K : ev_K) (X : ev_S → Prop) : Prop := ∀ {pc : Nat} {L : ev_V} {st : List Value} {h : ev_H} {c z : Nat} {dflt lo hi : Int} {offs : Array Int} {len : Nat} {x : Int32} {tgt : Nat}, (decode M.2.1 pc = .ok (.tableswitch dflt lo hi offs, len)) → (x.toInt < lo ∨ hi < x.toInt) → ((pc : Int) + dflt = (tgt : Int)) → (X (tgt, L, st, h, c, z)) → X (pc, L, (.int x :: st), h, c, z)
def ru_iald (G : ev_G) (C : ev_L) (w : Nat) (M : ev_M) (K : ev_K) (X : ev_S → Prop) : Prop := ∀ {pc : Nat} {L : ev_V} {st : List Value} {h : ev_H} {c z : Nat} {a n : Nat} {f : Nat → Int32} {i : Int32}, (decode M.2.1 pc = .ok (.iaload, 1)) → (h a = some (.inl (.int, n, .inl f))) → (vp_in i n) → (X ((pc + 1), L, (.int (f i.toNatClampNeg) :: st), h, c, z)) → X (pc, L, (.int i :: .ref a :: st), h, c, z)
def ru_cald (G : ev_G) (C : ev_L) (w : Nat) (M : ev_M) (K : ev_K) (X : ev_S → Prop) : Prop := ∀ {pc : Nat} {L : ev_V} {st : List Value} {h : ev_H} {c z : Nat} {a n : Nat} {f : Nat → Int32} {i : Int32}, (decode M.2.1 pc = .ok (.caload, 1)) → (h a = some (.inl (.char, n, .inl f))) → (vp_in i n) → (X ((pc + 1), L, (.int (f i.toNatClampNeg) :: st), h, c, z)) → X (pc, L, (.int i :: .ref a :: st), h, c, z)
def ru_bald (G : ev_G) (C : ev_L) (w : Nat) (M : ev_M) (K : ev_K) (X : ev_S → Prop) : Prop := ∀ {pc : Nat} {L : ev_V} {st : List Value} {h : ev_H} {c z : Nat} {a n : Nat} {f : Nat → Int32} {i : Int32}, (decode M.2.1 pc = .ok (.baload, 1)) → (h a = some (.inl (.byte, n, .inl f))) → (vp_in i n) → (X ((pc + 1), L, (.int (f i.toNatClampNeg) :: st), h, c, z)) → X (pc, L, (.int i :: .ref a :: st), h, c, z)
def ru_zald (G : ev_G) (C : ev_L) (w : Nat) (M : ev_M) (K : ev_K) (X : ev_S → Prop) : Prop := ∀ {pc : Nat} {L : ev_V} {st : List Value} {h : ev_H} {c z : Nat} {a n : Nat} {f : Nat → Int32} {i : Int32}, (decode M.2.1 pc = .ok (.baload, 1)) → (h a = some (.inl (.boolean, n, .inl f))) → (vp_in i n) → (X ((pc + 1), L, (.int (f i.toNatClampNeg) :: st), h, c, z)) → X (pc, L, (.int i :: .ref a :: st), h, c, z)
def ru_lald (G : ev_G) (C : ev_L) (w : Nat) (M : ev_M) (K : ev_K) (X : ev_S → Prop) : Prop := ∀ {pc : Nat} {L : ev_V} {st : List Value} {h : ev_H} {c z : Nat} {a n : Nat} {f : Nat → Int64} {i : Int32}, (decode M.2.1 pc = .ok (.laload, 1)) → (h a = some (.inl (.long, n, .inr (.inl f)))) → (vp_in i n) → (X ((pc + 1), L, (.long (f i.toNatClampNeg) :: st), h, c, z)) → X (pc, L, (.int i :: .ref a :: st), h, c, z)
def ru_aald (G : ev_G) (C : ev_L) (w : Nat) (M : ev_M) (K : ev_K) (X : ev_S → Prop) : Prop := ∀ {pc : Nat} {L : ev_V} {st : List Value} {h : ev_H} {c z : Nat} {a n q : Nat} {f : Nat → Option Nat} {i : Int32}, (decode M.2.1 pc = .ok (.aaload, 1)) → (h a = some (.inl (.array .int, n, .inr (.inr (.inr (.inr f)))))) → (vp_in i n) → (f i.toNatClampNeg = some q) → (X ((pc + 1), L, (.ref q :: st), h, c, z)) → X (pc, L, (.int i :: .ref a :: st), h, c, z)
def ru_iast (G : ev_G) (C : ev_L) (w : Nat) (M : ev_M) (K : ev_K) (X : ev_S → Prop) : Prop := ∀ {pc : Nat} {L : ev_V} {st : List Value} {h : ev_H} {c z : Nat} {a n : Nat} {f : Nat → Int32} {i x : Int32}, (decode M.2.1 pc = .ok (.iastore, 1)) → (h a = some (.inl (.int, n, .inl f))) → (vp_in i n) → (X ((pc + 1), L, st, (ev_up h a (.inl (.int, n, .inl (upd f i.toNatClampNeg x)))), c, z)) → X (pc, L, (.int x :: .int i :: .ref a :: st), h, c, z)
def ru_cast (G : ev_G) (C : ev_L) (w : Nat) (M : ev_M) (K : ev_K) (X : ev_S → Prop) : Prop := ∀ {pc : Nat} {L : ev_V} {st : List Value} {h : ev_H} {c z : Nat} {a n : Nat} {f : Nat → Int32} {i x : Int32}, (decode M.2.1 pc = .ok (.castore, 1)) → (h a = some (.inl (.char, n, .inl f))) → (vp_in i n) → (X ((pc + 1), L, st, (ev_up h a (.inl (.char, n, .inl (upd f i.toNatClampNeg (vp_nar .char x))))), c, z)) → X (pc, L, (.int x :: .int i :: .ref a :: st), h, c, z)
def ru_zast (G : ev_G) (C : ev_L) (w : Nat) (M : ev_M) (K : ev_K) (X : ev_S → Prop) : Prop := ∀ {pc : Nat} {L : ev_V} {st : List Value} {h : ev_H} {c z : Nat} {a n : Nat} {f : Nat → Int32} {i x : Int32}, (decode M.2.1 pc = .ok (.bastore, 1)) → (h a = some (.inl (.boolean, n, .inl f))) → (vp_in i n) → (X ((pc + 1), L, st, (ev_up h a (.inl (.boolean, n, .inl (upd f i.toNatClampNeg (vp_nar .boolean x))))), c, z)) → X (pc, L, (.int x :: .int i :: .ref a :: st), h, c, z)
def ru_bast (G : ev_G) (C : ev_L) (w : Nat) (M : ev_M) (K : ev_K) (X : ev_S → Prop) : Prop := ∀ {pc : Nat} {L : ev_V} {st : List Value} {h : ev_H} {c z : Nat} {a n : Nat} {f : Nat → Int32} {i x : Int32}, (decode M.2.1 pc = .ok (.bastore, 1)) → (h a = some (.inl (.byte, n, .inl f))) → (vp_in i n) → (X ((pc + 1), L, st, (ev_up h a (.inl (.byte, n, .inl (upd f i.toNatClampNeg (vp_nar .byte x))))), c, z)) → X (pc, L, (.int x :: .int i :: .ref a :: st), h, c, z)
def ru_last (G : ev_G) (C : ev_L) (w : Nat) (M : ev_M) (K : ev_K) (X : ev_S → Prop) : Prop := ∀ {pc : Nat} {L : ev_V} {st : List Value} {h : ev_H} {c z : Nat} {a n : Nat} {f : Nat → Int64} {i : Int32} {x : Int64}, (decode M.2.1 pc = .ok (.lastore, 1)) → (h a = some (.inl (.long, n, .inr (.inl f)))) → (vp_in i n) → (X ((pc + 1), L, st, (ev_up h a (.inl (.long, n, .inr (.inl (vp_updL f i.toNatClampNeg x))))), c, z)) → X (pc, L, (.long x :: .int i :: .ref a :: st), h, c, z)
def ru_alen (G : ev_G) (C : ev_L) (w : Nat) (M : ev_M) (K : ev_K) (X : ev_S → Prop) : Prop := ∀ {pc : Nat} {L : ev_V} {st : List Value} {h : ev_H} {c z : Nat} {a : Nat} {ft : FieldType} {x : vp_A}, (decode M.2.1 pc = .ok (.arraylength, 1)) → (h a = some (.inl (ft, x))) → (X ((pc + 1), L, (.int (nI x.1) :: st), h, c, z)) → X (pc, L, (.ref a :: st), h, c, z)
def ru_riald (G : ev_G) (C : ev_L) (w : Nat) (M : ev_M) (K : ev_K) (X : ev_S → Prop) : Prop := ∀ {pc : Nat} {L : ev_V} {st : List Value} {h : ev_H} {c z : Nat} {a n : Nat} {f : Nat → Int32} {i : Int32}, (decode M.2.1 pc = .ok (.iaload, 1)) → (G.1 a = some (n, f)) → (vp_in i n) → (X ((pc + 1), L, (.int (f i.toNatClampNeg) :: st), h, c, z)) → X (pc, L, (.int i :: .ref a :: st), h, c, z)
def ru_ralen (G : ev_G) (C : ev_L) (w : Nat) (M : ev_M) (K : ev_K) (X : ev_S → Prop) : Prop := ∀ {pc : Nat} {L : ev_V} {st : List Value} {h : ev_H} {c z : Nat} {a n : Nat} {f : Nat → Int32}, (decode M.2.1 pc = .ok (.arraylength, 1)) → (G.1 a = some (n, f)) → (X ((pc + 1), L, (.int (nI n) :: st), h, c, z)) → X (pc, L, (.ref a :: st), h, c, z)
def ru_gets (G : ev_G) (C : ev_L) (w : Nat) (M : ev_M) (K : ev_K) (X : ev_S → Prop) : Prop := ∀ {pc : Nat} {L : ev_V} {st : List Value} {h : ev_H} {c z : Nat} {i : Nat} {Cn n d : String} {a : Nat}, (decode M.2.1 pc = .ok (.getstatic i, 3)) → (Cond.fieldLink M.1.cls i Cn n d ∈ ev_ws) → (G.2 Cn n d = some a) → (X ((pc + 3), L, (.ref a :: st), h, c, z)) → X (pc, L, st, h, c, z)
def ru_getf (G : ev_G) (C : ev_L) (w : Nat) (M : ev_M) (K : ev_K) (X : ev_S → Prop) : Prop := ∀ {pc : Nat} {L : ev_V} {st : List Value} {h : ev_H} {c z : Nat} {i a ci kf : Nat} {fs : List Value} {v : Value}, (decode M.2.1 pc = .ok (.getfield i, 3)) → (ev_fl M.1.cls i ci kf) → (h a = some (.inr (ci, fs))) → (fs[kf]? = some v) → (X ((pc + 3), L, (v :: st), h, c, z)) → X (pc, L, (.ref a :: st), h, c, z)
def ru_putf (G : ev_G) (C : ev_L) (w : Nat) (M : ev_M) (K : ev_K) (X : ev_S → Prop) : Prop := ∀ {pc : Nat} {L : ev_V} {st : List Value} {h : ev_H} {c z : Nat} {i a ci kf : Nat} {ty : FieldType} {fs : List Value} {v : Value}, (decode M.2.1 pc = .ok (.putfield i, 3)) → (ev_fp M.1.cls i ci kf ty) → (h a = some (.inr (ci, fs))) → (Nat.blt kf fs.length = true) → (narrow ty v = v) → (fits ty v = true) → (X ((pc + 3), L, st, (ev_up h a (.inr (ci, fs.set kf v))), c, z)) → X (pc, L, (v :: .ref a :: st), h, c, z)
def ru_putF (G : ev_G) (C : ev_L) (w : Nat) (M : ev_M) (K : ev_K) (X : ev_S → Prop) : Prop := ∀ {pc : Nat} {L : ev_V} {st : List Value} {h : ev_H} {c z : Nat} {i a ci kf : Nat} {ty : FieldType} {fs : List Value} {v : Value}, (decode M.2.1 pc = .ok (.putfield i, 3)) → (ev_fF M.1.cls i ci kf ty) → (M.1.name = "<init>") → (h a = some (.inr (ci, fs))) → (Nat.blt kf fs.length = true) → (narrow ty v = v) → (fits ty v = true) → (X ((pc + 3), L, st, (ev_up h a (.inr (ci, fs.set kf v))), c, z)) → X (pc, L, (v :: .ref a :: st), h, c, z)
def ru_newi (G : ev_G) (C : ev_L) (w : Nat) (M : ev_M) (K : ev_K) (X : ev_S → Prop) : Prop := ∀ {pc : Nat} {L : ev_V} {st : List Value} {h : ev_H} {c z : Nat} {n : Int32} {N : Nat}, (decode M.2.1 pc = .ok (.newarray .int, 2)) → (Cond.arrayClass .int ∈ ev_ws) → (¬ n < 0) → (n.toNatClampNeg = N) → (N ≤ 60000000) → ((∀ q, h q = none → X ((pc + 2), L, (.ref q :: st), (ev_up h q (.inl (.int, N, .inl (fun _ => 0)))), c, z))) → X (pc, L, (.int n :: st), h, (c + 1), (z + N))
def ru_newc (G : ev_G) (C : ev_L) (w : Nat) (M : ev_M) (K : ev_K) (X : ev_S → Prop) : Prop := ∀ {pc : Nat} {L : ev_V} {st : List Value} {h : ev_H} {c z : Nat} {n : Int32} {N : Nat}, (decode M.2.1 pc = .ok (.newarray .char, 2)) → (Cond.arrayClass .char ∈ ev_ws) → (¬ n < 0) → (n.toNatClampNeg = N) → (N ≤ 60000000) → ((∀ q, h q = none → X ((pc + 2), L, (.ref q :: st), (ev_up h q (.inl (.char, N, .inl (fun _ => 0)))), c, z))) → X (pc, L, (.int n :: st), h, (c + 1), (z + N))
def ru_newl (G : ev_G) (C : ev_L) (w : Nat) (M : ev_M) (K : ev_K) (X : ev_S → Prop) : Prop := ∀ {pc : Nat} {L : ev_V} {st : List Value} {h : ev_H} {c z : Nat} {n : Int32} {N : Nat}, (decode M.2.1 pc = .ok (.newarray .long, 2)) → (Cond.arrayClass .long ∈ ev_ws) → (¬ n < 0) → (n.toNatClampNeg = N) → (N ≤ 60000000) → ((∀ q, h q = none → X ((pc + 2), L, (.ref q :: st), (ev_up h q (.inl (.long, N, .inr (.inl (fun _ => 0))))), c, z))) → X (pc, L, (.int n :: st), h, (c + 1), (z + N))
def ru_newz (G : ev_G) (C : ev_L) (w : Nat) (M : ev_M) (K : ev_K) (X : ev_S → Prop) : Prop := ∀ {pc : Nat} {L : ev_V} {st : List Value} {h : ev_H} {c z : Nat} {n : Int32} {N : Nat}, (decode M.2.1 pc = .ok (.newarray .boolean, 2)) → (Cond.arrayClass .boolean ∈ ev_ws) → (¬ n < 0) → (n.toNatClampNeg = N) → (N ≤ 60000000) → ((∀ q, h q = none → X ((pc + 2), L, (.ref q :: st), (ev_up h q (.inl (.boolean, N, .inl (fun _ => 0)))), c, z))) → X (pc, L, (.int n :: st), h, (c + 1), (z + N))
def ru_new (G : ev_G) (C : ev_L) (w : Nat) (M : ev_M) (K : ev_K) (X : ev_S → Prop) : Prop := ∀ {pc : Nat} {L : ev_V} {st : List Value} {h : ev_H} {c z : Nat} {i ci N : Nat} {fs : List Value}, (decode M.2.1 pc = .ok (.new i, 3)) → (ev_nw M.1.cls i ci N fs) → ((∀ q, h q = none → X ((pc + 3), L, (.ref q :: st), (ev_up h q (.inr (ci, fs))), c, z))) → X (pc, L, st, h, (c + 1), (z + N))
def ru_iret (G : ev_G) (C : ev_L) (w : Nat) (M : ev_M) (K : ev_K) (X : ev_S → Prop) : Prop := ∀ {pc : Nat} {L : ev_V} {h : ev_H} {c z : Nat} {x : Int32} {ty : FieldType}, (decode M.2.1 pc = .ok (.ireturn, 1)) → (M.2.2.2 = some ty) → (narrow ty (.int x) = .int x) → (K (.inl (some (.int x))) h) → X (pc, L, [.int x], h, c, z)
def ru_lret (G : ev_G) (C : ev_L) (w : Nat) (M : ev_M) (K : ev_K) (X : ev_S → Prop) : Prop := ∀ {pc : Nat} {L : ev_V} {h : ev_H} {c z : Nat} {x : Int64}, (decode M.2.1 pc = .ok (.lreturn, 1)) → (M.2.2.2 = some .long) → (K (.inl (some (.long x))) h) → X (pc, L, [.long x], h, c, z)
def ru_aret (G : ev_G) (C : ev_L) (w : Nat) (M : ev_M) (K : ev_K) (X : ev_S → Prop) : Prop := ∀ {pc : Nat} {L : ev_V} {h : ev_H} {c z : Nat} {x : Nat} {ty : FieldType}, (decode M.2.1 pc = .ok (.areturn, 1)) → (M.2.2.2 = some ty) → ((∃ n, ty = .object n) ∨ ∃ t, ty = .array t) → (K (.inl (some (.ref x))) h) → X (pc, L, [.ref x], h, c, z)
def ru_vret (G : ev_G) (C : ev_L) (w : Nat) (M : ev_M) (K : ev_K) (X : ev_S → Prop) : Prop := ∀ {pc : Nat} {L : ev_V} {h : ev_H} {c z : Nat}, (decode M.2.1 pc = .ok (.return_, 1)) → (M.2.2.2 = none) → (K (.inl none) h) → X (pc, L, [], h, c, z)
def ru_stop (G : ev_G) (C : ev_L) (w : Nat) (M : ev_M) (K : ev_K) (X : ev_S → Prop) : Prop := ∀ {pc : Nat} {L : ev_V} {st : List Value} {h : ev_H} {c z : Nat}, (K (.inr (pc, st, c, z)) h) → X (pc, L, st, h, c, z)
def ru_callV (G : ev_G) (C : ev_L) (w : Nat) (M : ev_M) (K : ev_K) (X : ev_S → Prop) : Prop := ∀ {pc : Nat} {L : ev_V} {st : List Value} {h : ev_H} {c z : Nat} {i c1 z1 : Nat} {b : Nat} {ci : Nat} {fs : List Value} {N : ev_M} {As stk : List Value} {post : Option Value → ev_H → Prop}, (decode M.2.1 pc = .ok (.invokevirtual i, 3)) → (ev_cv M.1.cls i N As.length) → (stk = As.reverse ++ .ref b :: st) → (Nat.ble ((st.map (fun v => v.category)).sum) 8 = true) → (h b = some (.inr (ci, fs))) → ((classes[ci]?).map (fun q => q.1) = some N.1.cls) → (C N (.ref b :: As) h c1 z1 (ev_ok post)) → (Nat.ble c1 c = true) → (Nat.ble z1 z = true) → ((∀ r h1, post r h1 → X (pc + 3, L, r.toList ++ st, h1, c - c1, z - z1))) → X (pc, L, stk, h, c, z)
def ru_callS (G : ev_G) (C : ev_L) (w : Nat) (M : ev_M) (K : ev_K) (X : ev_S → Prop) : Prop := ∀ {pc : Nat} {L : ev_V} {st : List Value} {h : ev_H} {c z : Nat} {i c1 z1 : Nat} {N : ev_M} {As stk : List Value} {post : Option Value → ev_H → Prop}, (decode M.2.1 pc = .ok (.invokestatic i, 3)) → (ev_cs M.1.cls i N As.length) → (stk = As.reverse ++ st) → (Nat.ble ((st.map (fun v => v.category)).sum) 8 = true) → (C N As h c1 z1 (ev_ok post)) → (Nat.ble c1 c = true) → (Nat.ble z1 z = true) → ((∀ r h1, post r h1 → X (pc + 3, L, r.toList ++ st, h1, c - c1, z - z1))) → X (pc, L, stk, h, c, z)
def ru_callI (G : ev_G) (C : ev_L) (w : Nat) (M : ev_M) (K : ev_K) (X : ev_S → Prop) : Prop := ∀ {pc : Nat} {L : ev_V} {st : List Value} {h : ev_H} {c z : Nat} {i c1 z1 : Nat} {b : Nat} {N : ev_M} {As stk : List Value} {post : Option Value → ev_H → Prop}, (decode M.2.1 pc = .ok (.invokespecial i, 3)) → (ev_ci M.1.cls i N As.length) → (stk = As.reverse ++ .ref b :: st) → (Nat.ble ((st.map (fun v => v.category)).sum) 8 = true) → (C N (.ref b :: As) h c1 z1 (ev_ok post)) → (Nat.ble c1 c = true) → (Nat.ble z1 z = true) → ((∀ r h1, post r h1 → X (pc + 3, L, r.toList ++ st, h1, c - c1, z - z1))) → X (pc, L, stk, h, c, z)
def ru_callIN (G : ev_G) (C : ev_L) (w : Nat) (M : ev_M) (K : ev_K) (X : ev_S → Prop) : Prop := ∀ {pc : Nat} {L : ev_V} {st : List Value} {h : ev_H} {c z : Nat} {i c1 z1 : Nat} {b : Nat} {N : ev_M} {As stk : List Value} {post : Option Value → ev_H → Prop}, (decode M.2.1 pc = .ok (.invokespecial i, 3)) → (ev_cin M.1.cls i N As.length) → (stk = As.reverse ++ .ref b :: st) → (Nat.ble ((st.map (fun v => v.category)).sum) 8 = true) → (C N (.ref b :: As) h c1 z1 (ev_ok post)) → (Nat.ble c1 c = true) → (Nat.ble z1 z = true) → ((∀ r h1, post r h1 → X (pc + 3, L, r.toList ++ st, h1, c - c1, z - z1))) → X (pc, L, stk, h, c, z)
def ru_callVf (G : ev_G) (C : ev_L) (w : Nat) (M : ev_M) (K : ev_K) (X : ev_S → Prop) : Prop := ∀ {pc : Nat} {L : ev_V} {st : List Value} {h : ev_H} {c z : Nat} {i c1 z1 : Nat} {b : Nat} {ci : Nat} {fs : List Value} {N : ev_M} {As stk : List Value} {post : Option Value → ev_H → Prop} {hs hf : ev_H}, (decode M.2.1 pc = .ok (.invokevirtual i, 3)) → (ev_cv M.1.cls i N As.length) → (stk = As.reverse ++ .ref b :: st) → (Nat.ble ((st.map (fun v => v.category)).sum) 8 = true) → (hs b = some (.inr (ci, fs))) → ((classes[ci]?).map (fun q => q.1) = some N.1.cls) → (C N (.ref b :: As) hs c1 z1 (ev_ok post)) → (Nat.ble c1 c = true) → (Nat.ble z1 z = true) → (h = ev_jn hs hf) → (∀ a x, hf a = some x → hs a = none) → ((∀ r h1, post r h1 → (∀ a x, hf a = some x → h1 a = none) → X (pc + 3, L, r.toList ++ st, ev_jn h1 hf, c - c1, z - z1))) → X (pc, L, stk, h, c, z)
def ru_callIf (G : ev_G) (C : ev_L) (w : Nat) (M : ev_M) (K : ev_K) (X : ev_S → Prop) : Prop := ∀ {pc : Nat} {L : ev_V} {st : List Value} {h : ev_H} {c z : Nat} {i c1 z1 : Nat} {b : Nat} {N : ev_M} {As stk : List Value} {post : Option Value → ev_H → Prop} {hs hf : ev_H}, (decode M.2.1 pc = .ok (.invokespecial i, 3)) → (ev_ci M.1.cls i N As.length) → (stk = As.reverse ++ .ref b :: st) → (Nat.ble ((st.map (fun v => v.category)).sum) 8 = true) → (C N (.ref b :: As) hs c1 z1 (ev_ok post)) → (Nat.ble c1 c = true) → (Nat.ble z1 z = true) → (h = ev_jn hs hf) → (∀ a x, hf a = some x → hs a = none) → ((∀ r h1, post r h1 → (∀ a x, hf a = some x → h1 a = none) → X (pc + 3, L, r.toList ++ st, ev_jn h1 hf, c - c1, z - z1))) → X (pc, L, stk, h, c, z)
def ru_callSW (G : ev_G) (C : ev_L) (w : Nat) (M : ev_M) (K : ev_K) (X : ev_S → Prop) : Prop := ∀ {pc : Nat} {L : ev_V} {st : List Value} {h : ev_H} {c z : Nat} {i c1 z1 : Nat} {N : ev_M} {As stk : List Value} {post : Option Value → ev_H → Prop} {hh : List (Nat × Nat × Nat × Nat)}, (decode M.2.1 pc = .ok (.invokestatic i, 3)) → (ev_csw M.1.cls i N hh As.length) → (stk = As.reverse ++ st) → (Nat.ble ((st.map (fun v => v.category)).sum) 8 = true) → (C N As h c1 z1 (ev_ok post)) → (Nat.ble c1 c = true) → (Nat.ble z1 z = true) → ((∀ r h1, post r h1 → X (pc + 3, L, r.toList ++ st, h1, c - c1, z - z1))) → X (pc, L, stk, h, c, z)
def ru_callSWf (G : ev_G) (C : ev_L) (w : Nat) (M : ev_M) (K : ev_K) (X : ev_S → Prop) : Prop := ∀ {pc : Nat} {L : ev_V} {st : List Value} {h : ev_H} {c z : Nat} {i c1 z1 : Nat} {N : ev_M} {As stk : List Value} {post : Option Value → ev_H → Prop} {hh : List (Nat × Nat × Nat × Nat)} {hs hf : ev_H}, (decode M.2.1 pc = .ok (.invokestatic i, 3)) → (ev_csw M.1.cls i N hh As.length) → (stk = As.reverse ++ st) → (Nat.ble ((st.map (fun v => v.category)).sum) 8 = true) → (C N As hs c1 z1 (ev_ok post)) → (Nat.ble c1 c = true) → (Nat.ble z1 z = true) → (h = ev_jn hs hf) → (∀ a x, hf a = some x → hs a = none) → ((∀ r h1, post r h1 → (∀ a x, hf a = some x → h1 a = none) → X (pc + 3, L, r.toList ++ st, ev_jn h1 hf, c - c1, z - z1))) → X (pc, L, stk, h, c, z)
def ru_objInit (G : ev_G) (C : ev_L) (w : Nat) (M : ev_M) (K : ev_K) (X : ev_S → Prop) : Prop := ∀ {pc : Nat} {L : ev_V} {st : List Value} {h : ev_H} {c z : Nat} {i a : Nat}, (decode M.2.1 pc = .ok (.invokespecial i, 3)) → (Cond.methodLink M.1.cls i Lib.objectInit ∈ ev_ws ∧ Cond.instanceMethod Lib.objectInit ∈ ev_ws ∧ Cond.code Lib.objectInit ⟨#[0xb1]⟩ 1 none ∈ ev_ws) → (Nat.ble ((st.map (fun v => v.category)).sum) 8 = true) → (20 ≤ w) → (X ((pc + 3), L, st, h, c, z)) → X (pc, L, (.ref a :: st), h, c, z)
def ru_mmax (G : ev_G) (C : ev_L) (w : Nat) (M : ev_M) (K : ev_K) (X : ev_S → Prop) : Prop := ∀ {pc : Nat} {L : ev_V} {st : List Value} {h : ev_H} {c z : Nat} {i : Nat} {x y : Int32}, (decode M.2.1 pc = .ok (.invokestatic i, 3)) → (Cond.methodLink M.1.cls i Lib.Math.max.name ∈ ev_ws ∧ Cond.static Lib.Math.max.name ∈ ev_ws ∧ Cond.initialized "java/lang/Math" ∈ ev_ws ∧ Cond.code Lib.Math.max.name Lib.Math.max.code 2 (some .int) ∈ ev_ws) → (Nat.ble ((st.map (fun v => v.category)).sum) 8 = true) → (23 ≤ w) → (X ((pc + 3), L, (.int (if x < y then y else x) :: st), h, c, z)) → X (pc, L, (.int y :: .int x :: st), h, c, z)
def ru_mmin (G : ev_G) (C : ev_L) (w : Nat) (M : ev_M) (K : ev_K) (X : ev_S → Prop) : Prop := ∀ {pc : Nat} {L : ev_V} {st : List Value} {h : ev_H} {c z : Nat} {i : Nat} {x y : Int32}, (decode M.2.1 pc = .ok (.invokestatic i, 3)) → (Cond.methodLink M.1.cls i Lib.Math.min.name ∈ ev_ws ∧ Cond.static Lib.Math.min.name ∈ ev_ws ∧ Cond.initialized "java/lang/Math" ∈ ev_ws ∧ Cond.code Lib.Math.min.name Lib.Math.min.code 2 (some .int) ∈ ev_ws) → (Nat.ble ((st.map (fun v => v.category)).sum) 8 = true) → (23 ≤ w) → (X ((pc + 3), L, (.int (if y < x then y else x) :: st), h, c, z)) → X (pc, L, (.int y :: .int x :: st), h, c, z)
def ru_mmaxl (G : ev_G) (C : ev_L) (w : Nat) (M : ev_M) (K : ev_K) (X : ev_S → Prop) : Prop := ∀ {pc : Nat} {L : ev_V} {st : List Value} {h : ev_H} {c z : Nat} {i : Nat} {x y : Int64}, (decode M.2.1 pc = .ok (.invokestatic i, 3)) → (Cond.methodLink M.1.cls i Lib.MathLoose.max_long.x ∈ ev_ws ∧ Cond.static Lib.MathLoose.max_long.x ∈ ev_ws ∧ Cond.initialized "java/lang/Math" ∈ ev_ws ∧ Cond.code Lib.MathLoose.max_long.x Lib.MathLoose.max_long.code 4 (some .long) ∈ ev_ws) → (Nat.ble ((st.map (fun v => v.category)).sum) 8 = true) → (23 ≤ w) → (X ((pc + 3), L, (.long (if y < x then x else y) :: st), h, c, z)) → X (pc, L, (.long y :: .long x :: st), h, c, z)
def ru_mminl (G : ev_G) (C : ev_L) (w : Nat) (M : ev_M) (K : ev_K) (X : ev_S → Prop) : Prop := ∀ {pc : Nat} {L : ev_V} {st : List Value} {h : ev_H} {c z : Nat} {i : Nat} {x y : Int64}, (decode M.2.1 pc = .ok (.invokestatic i, 3)) → (Cond.methodLink M.1.cls i Lib.MathLoose.min_long.x ∈ ev_ws ∧ Cond.static Lib.MathLoose.min_long.x ∈ ev_ws ∧ Cond.initialized "java/lang/Math" ∈ ev_ws ∧ Cond.code Lib.MathLoose.min_long.x Lib.MathLoose.min_long.code 4 (some .long) ∈ ev_ws) → (Nat.ble ((st.map (fun v => v.category)).sum) 8 = true) → (23 ≤ w) → (X ((pc + 3), L, (.long (if y < x then y else x) :: st), h, c, z)) → X (pc, L, (.long y :: .long x :: st), h, c, z)
def ru_copyi (G : ev_G) (C : ev_L) (w : Nat) (M : ev_M) (K : ev_K) (X : ev_S → Prop) : Prop := ∀ {pc : Nat} {L : ev_V} {st : List Value} {h : ev_H} {c z : Nat} {i a0 a n0 n1 : Nat} {f g : Nat → Int32} {sp dp n : Int32}, (decode M.2.1 pc = .ok (.invokestatic i, 3)) → (Cond.methodLink M.1.cls i arraycopyName ∈ ev_ws ∧ Cond.native arraycopyName ∈ ev_ws ∧ Cond.static arraycopyName ∈ ev_ws ∧ Cond.initialized "java/lang/System" ∈ ev_ws) → (Nat.ble ((st.map (fun v => v.category)).sum) 8 = true) → (26 ≤ w) → (h a0 = some (.inl (.int, n0, .inl f))) → (h a = some (.inl (.int, n1, .inl g))) → (¬ sp < 0) → (¬ dp < 0) → (¬ n < 0) → (sp.toNatClampNeg + n.toNatClampNeg ≤ n0) → (dp.toNatClampNeg + n.toNatClampNeg ≤ n1) → (X ((pc + 3), L, st, (ev_up h a (.inl (.int, n1, .inl (va_cpy f g sp.toNatClampNeg dp.toNatClampNeg n.toNatClampNeg)))), c, z)) → X (pc, L, (.int n :: .int dp :: .ref a :: .int sp :: .ref a0 :: st), h, c, z)
def ru_copyl (G : ev_G) (C : ev_L) (w : Nat) (M : ev_M) (K : ev_K) (X : ev_S → Prop) : Prop := ∀ {pc : Nat} {L : ev_V} {st : List Value} {h : ev_H} {c z : Nat} {i a0 a n0 n1 : Nat} {f g : Nat → Int64} {sp dp n : Int32}, (decode M.2.1 pc = .ok (.invokestatic i, 3)) → (Cond.methodLink M.1.cls i arraycopyName ∈ ev_ws ∧ Cond.native arraycopyName ∈ ev_ws ∧ Cond.static arraycopyName ∈ ev_ws ∧ Cond.initialized "java/lang/System" ∈ ev_ws) → (Nat.ble ((st.map (fun v => v.category)).sum) 8 = true) → (26 ≤ w) → (h a0 = some (.inl (.long, n0, .inr (.inl f)))) → (h a = some (.inl (.long, n1, .inr (.inl g)))) → (¬ sp < 0) → (¬ dp < 0) → (¬ n < 0) → (sp.toNatClampNeg + n.toNatClampNeg ≤ n0) → (dp.toNatClampNeg + n.toNatClampNeg ≤ n1) → (X ((pc + 3), L, st, (ev_up h a (.inl (.long, n1, .inr (.inl (va_cpy f g sp.toNatClampNeg dp.toNatClampNeg n.toNatClampNeg))))), c, z)) → X (pc, L, (.int n :: .int dp :: .ref a :: .int sp :: .ref a0 :: st), h, c, z)
def ru_wk (G : ev_G) (C : ev_L) (w : Nat) (M : ev_M) (K : ev_K) (X : ev_S → Prop) : Prop := ∀ {pc : Nat} {L : ev_V} {st : List Value} {h : ev_H} {c z : Nat} {L2 : ev_V}, (∀ i v, L2 i = some v → L i = some v) → (X (pc, L2, st, h, c, z)) → X (pc, L, st, h, c, z)
def ru_hw (G : ev_G) (C : ev_L) (w : Nat) (M : ev_M) (K : ev_K) (X : ev_S → Prop) : Prop := ∀ {pc : Nat} {L : ev_V} {st : List Value} {h : ev_H} {c z : Nat} {h2 : ev_H}, (∀ q x, h2 q = some x → h q = some x) → (X (pc, L, st, h2, c, z)) → X (pc, L, st, h, c, z)
def ru_cw (G : ev_G) (C : ev_L) (w : Nat) (M : ev_M) (K : ev_K) (X : ev_S → Prop) : Prop := ∀ {pc : Nat} {L : ev_V} {st : List Value} {h : ev_H} {c z : Nat} {c2 z2 : Nat}, (c2 ≤ c) → (z2 ≤ z) → (X (pc, L, st, h, c2, z2)) → X (pc, L, st, h, c, z)
def ev_ru (G : ev_G) (C : ev_L) (w : Nat) (M : ev_M) (K : ev_K) (X : ev_S → Prop) : Nat → Prop
  | 0 => ru_iconst G C w M K X
  | 1 => ru_bipush G C w M K X
  | 2 => ru_sipush G C w M K X
  | 3 => ru_lconst G C w M K X
  | 4 => ru_null G C w M K X
  | 5 => ru_ldc G C w M K X
  | 6 => ru_ldc2 G C w M K X
  | 7 => ru_ldcw G C w M K X
  | 8 => ru_iload_n G C w M K X
  | 9 => ru_iload G C w M K X
  | 10 => ru_istore_n G C w M K X
  | 11 => ru_istore G C w M K X
  | 12 => ru_lload_n G C w M K X
  | 13 => ru_lload G C w M K X
  | 14 => ru_lstore_n G C w M K X
  | 15 => ru_lstore G C w M K X
  | 16 => ru_aload_n G C w M K X
  | 17 => ru_aload G C w M K X
  | 18 => ru_astore_n G C w M K X
  | 19 => ru_astore G C w M K X
  | 20 => ru_iinc G C w M K X
  | 21 => ru_iadd G C w M K X
  | 22 => ru_isub G C w M K X
  | 23 => ru_imul G C w M K X
  | 24 => ru_iand G C w M K X
  | 25 => ru_ior G C w M K X
  | 26 => ru_ixor G C w M K X
  | 27 => ru_ishl G C w M K X
  | 28 => ru_ishr G C w M K X
  | 29 => ru_iushr G C w M K X
  | 30 => ru_idiv G C w M K X
  | 31 => ru_irem G C w M K X
  | 32 => ru_ineg G C w M K X
  | 33 => ru_ladd G C w M K X
  | 34 => ru_lsub G C w M K X
  | 35 => ru_lmul G C w M K X
  | 36 => ru_land G C w M K X
  | 37 => ru_lor G C w M K X
  | 38 => ru_lxor G C w M K X
  | 39 => ru_ldiv G C w M K X
  | 40 => ru_lrem G C w M K X
  | 41 => ru_lshl G C w M K X
  | 42 => ru_lshr G C w M K X
  | 43 => ru_lushr G C w M K X
  | 44 => ru_lneg G C w M K X
  | 45 => ru_i2l G C w M K X
  | 46 => ru_l2i G C w M K X
  | 47 => ru_i2c G C w M K X
  | 48 => ru_i2b G C w M K X
  | 49 => ru_lcmp G C w M K X
  | 50 => ru_dup G C w M K X
  | 51 => ru_pop G C w M K X
  | 52 => ru_dup_x1 G C w M K X
  | 53 => ru_dup_x2 G C w M K X
  | 54 => ru_dup2_11 G C w M K X
  | 55 => ru_dup2_2 G C w M K X
  | 56 => ru_pop2_2 G C w M K X
  | 57 => ru_dup2_x1_2 G C w M K X
  | 58 => ru_dup2_x2_2 G C w M K X
  | 59 => ru_if_eq G C w M K X
  | 60 => ru_icmp_eq G C w M K X
  | 61 => ru_if_ne G C w M K X
  | 62 => ru_icmp_ne G C w M K X
  | 63 => ru_if_lt G C w M K X
  | 64 => ru_icmp_lt G C w M K X
  | 65 => ru_if_ge G C w M K X
  | 66 => ru_icmp_ge G C w M K X
  | 67 => ru_if_gt G C w M K X
  | 68 => ru_icmp_gt G C w M K X
  | 69 => ru_if_le G C w M K X
  | 70 => ru_icmp_le G C w M K X
  | 71 => ru_goto G C w M K X
  | 72 => ru_tableIn G C w M K X
  | 73 => ru_tableOut G C w M K X
  | 74 => ru_iald G C w M K X
  | 75 => ru_cald G C w M K X
  | 76 => ru_bald G C w M K X
  | 77 => ru_zald G C w M K X
  | 78 => ru_lald G C w M K X
  | 79 => ru_aald G C w M K X
  | 80 => ru_iast G C w M K X
  | 81 => ru_cast G C w M K X
  | 82 => ru_zast G C w M K X
  | 83 => ru_bast G C w M K X
  | 84 => ru_last G C w M K X
  | 85 => ru_alen G C w M K X
  | 86 => ru_riald G C w M K X
  | 87 => ru_ralen G C w M K X
  | 88 => ru_gets G C w M K X
  | 89 => ru_getf G C w M K X
  | 90 => ru_putf G C w M K X
  | 91 => ru_putF G C w M K X
  | 92 => ru_newi G C w M K X
  | 93 => ru_newc G C w M K X
  | 94 => ru_newl G C w M K X
  | 95 => ru_newz G C w M K X
  | 96 => ru_new G C w M K X
  | 97 => ru_iret G C w M K X
  | 98 => ru_lret G C w M K X
  | 99 => ru_aret G C w M K X
  | 100 => ru_vret G C w M K X
  | 101 => ru_stop G C w M K X
  | 102 => ru_callV G C w M K X
  | 103 => ru_callS G C w M K X
  | 104 => ru_callI G C w M K X
  | 105 => ru_callIN G C w M K X
  | 106 => ru_callVf G C w M K X
  | 107 => ru_callIf G C w M K X
  | 108 => ru_callSW G C w M K X
  | 109 => ru_callSWf G C w M K X
  | 110 => ru_objInit G C w M K X
  | 111 => ru_mmax G C w M K X
  | 112 => ru_mmin G C w M K X
  | 113 => ru_mmaxl G C w M K X
  | 114 => ru_mminl G C w M K X
  | 115 => ru_copyi G C w M K X
  | 116 => ru_copyl G C w M K X
  | 117 => ru_wk G C w M K X
  | 118 => ru_hw G C w M K X
  | 119 => ru_cw G C w M K X
  | _ => True
/-- the judgement -/
def ev_J (G : ev_G) (C : ev_L) (w : Nat) (M : ev_M) (K : ev_K) (s : ev_S) : Prop := ∀ X : ev_S → Prop, (∀ n, ev_ru G C w M K X n) → X s
/-- a method, called; d: how deep calls may go; w: how many words of the stack they may take -/
def ev_Ca (G : ev_G) : Nat → Nat → ev_L
  | 0, _ => fun _ _ _ _ _ _ => False
  | d + 1, w => fun M args h c z K => plainName M.1.cls = true ∧ Nat.ble (lg_sl args).length M.2.2.1 = true ∧ ev_J G (fun N a2 h2 c2 z2 K2 => 19 + N.2.2.1 ≤ w ∧ ev_Ca G d (w - (19 + N.2.2.1)) N a2 h2 c2 z2 K2) w M K (0, ev_lf (lv_args 0 args), [], h, c, z)
theorem ev_iconst {G : ev_G} {C : ev_L} {w : Nat} {M : ev_M} {K : ev_K} {pc : Nat} {L : ev_V} {st : List Value} {h : ev_H} {c z : Nat} {n : Int} {v : Int32} (hd : decode M.2.1 pc = .ok (.iconst n, 1)) (hv : Int32.ofInt n = v) (k : ev_J G C w M K ((pc + 1), L, (.int v :: st), h, c, z)) : ev_J G C w M K (pc, L, st, h, c, z) := fun X hX => hX 0 hd hv (k X hX)
theorem ev_bipush {G : ev_G} {C : ev_L} {w : Nat} {M : ev_M} {K : ev_K} {pc : Nat} {L : ev_V} {st : List Value} {h : ev_H} {c z : Nat} {n : Int} {v : Int32} (hd : decode M.2.1 pc = .ok (.bipush n, 2)) (hv : (Int8.ofInt n).toInt32 = v) (k : ev_J G C w M K ((pc + 2), L, (.int v :: st), h, c, z)) : ev_J G C w M K (pc, L, st, h, c, z) := fun X hX => hX 1 hd hv (k X hX)
theorem ev_sipush {G : ev_G} {C : ev_L} {w : Nat} {M : ev_M} {K : ev_K} {pc : Nat} {L : ev_V} {st : List Value} {h : ev_H} {c z : Nat} {n : Int} {v : Int32} (hd : decode M.2.1 pc = .ok (.sipush n, 3)) (hv : (Int16.ofInt n).toInt32 = v) (k : ev_J G C w M K ((pc + 3), L, (.int v :: st), h, c, z)) : ev_J G C w M K (pc, L, st, h, c, z) := fun X hX => hX 2 hd hv (k X hX)
theorem ev_lconst {G : ev_G} {C : ev_L} {w : Nat} {M : ev_M} {K : ev_K} {pc : Nat} {L : ev_V} {st : List Value} {h : ev_H} {c z : Nat} {n : Fin 2} {v : Int64} (hd : decode M.2.1 pc = .ok (.lconst n, 1)) (hv : Int64.ofNat (n : Nat) = v) (k : ev_J G C w M K ((pc + 1), L, (.long v :: st), h, c, z)) : ev_J G C w M K (pc, L, st, h, c, z) := fun X hX => hX 3 hd hv (k X hX)
theorem ev_null {G : ev_G} {C : ev_L} {w : Nat} {M : ev_M} {K : ev_K} {pc : Nat} {L : ev_V} {st : List Value} {h : ev_H} {c z : Nat}  (hd : decode M.2.1 pc = .ok (.aconst_null, 1)) (k : ev_J G C w M K ((pc + 1), L, (.null :: st), h, c, z)) : ev_J G C w M K (pc, L, st, h, c, z) := fun X hX => hX 4 hd (k X hX)
theorem ev_ldc {G : ev_G} {C : ev_L} {w : Nat} {M : ev_M} {K : ev_K} {pc : Nat} {L : ev_V} {st : List Value} {h : ev_H} {c z : Nat} {i : Nat} {v : Int32} (hd : decode M.2.1 pc = .ok (.ldc i, 2)) (hw : Cond.constant M.1.cls i v ∈ ev_ws) (k : ev_J G C w M K ((pc + 2), L, (.int v :: st), h, c, z)) : ev_J G C w M K (pc, L, st, h, c, z) := fun X hX => hX 5 hd hw (k X hX)
theorem ev_ldc2 {G : ev_G} {C : ev_L} {w : Nat} {M : ev_M} {K : ev_K} {pc : Nat} {L : ev_V} {st : List Value} {h : ev_H} {c z : Nat} {i : Nat} {v : Int64} (hd : decode M.2.1 pc = .ok (.ldc2_w i, 3)) (hw : Cond.constantLong M.1.cls i v ∈ ev_ws) (k : ev_J G C w M K ((pc + 3), L, (.long v :: st), h, c, z)) : ev_J G C w M K (pc, L, st, h, c, z) := fun X hX => hX 6 hd hw (k X hX)
theorem ev_ldcw {G : ev_G} {C : ev_L} {w : Nat} {M : ev_M} {K : ev_K} {pc : Nat} {L : ev_V} {st : List Value} {h : ev_H} {c z : Nat} {i : Nat} {v : Int32} (hd : decode M.2.1 pc = .ok (.ldc_w i, 3)) (hw : Cond.constant M.1.cls i v ∈ ev_ws) (k : ev_J G C w M K ((pc + 3), L, (.int v :: st), h, c, z)) : ev_J G C w M K (pc, L, st, h, c, z) := fun X hX => hX 7 hd hw (k X hX)
theorem ev_iload_n {G : ev_G} {C : ev_L} {w : Nat} {M : ev_M} {K : ev_K} {pc : Nat} {L : ev_V} {st : List Value} {h : ev_H} {c z : Nat} {j : Fin 4} {x : Int32} (hd : decode M.2.1 pc = .ok (.iload_n j, 1)) (hx1 : L (j : Nat) = some (.int x)) (k : ev_J G C w M K ((pc + 1), L, (.int x :: st), h, c, z)) : ev_J G C w M K (pc, L, st, h, c, z) := fun X hX => hX 8 hd hx1 (k X hX)
theorem ev_iload {G : ev_G} {C : ev_L} {w : Nat} {M : ev_M} {K : ev_K} {pc : Nat} {L : ev_V} {st : List Value} {h : ev_H} {c z : Nat} {i : Nat} {x : Int32} (hd : decode M.2.1 pc = .ok (.iload i, 2)) (hx1 : L i = some (.int x)) (k : ev_J G C w M K ((pc + 2), L, (.int x :: st), h, c, z)) : ev_J G C w M K (pc, L, st, h, c, z) := fun X hX => hX 9 hd hx1 (k X hX)
theorem ev_istore_n {G : ev_G} {C : ev_L} {w : Nat} {M : ev_M} {K : ev_K} {pc : Nat} {L : ev_V} {st : List Value} {h : ev_H} {c z : Nat} {j : Fin 4} {x : Int32} (hd : decode M.2.1 pc = .ok (.istore_n j, 1)) (hn : Nat.blt ((j : Nat)) M.2.2.1 = true) (k : ev_J G C w M K ((pc + 1), (ev_s1 L (j : Nat) (.int x)), st, h, c, z)) : ev_J G C w M K (pc, L, (.int x :: st), h, c, z) := fun X hX => hX 10 hd hn (k X hX)
theorem ev_istore {G : ev_G} {C : ev_L} {w : Nat} {M : ev_M} {K : ev_K} {pc : Nat} {L : ev_V} {st : List Value} {h : ev_H} {c z : Nat} {i : Nat} {x : Int32} (hd : decode M.2.1 pc = .ok (.istore i, 2)) (hn : Nat.blt (i) M.2.2.1 = true) (k : ev_J G C w M K ((pc + 2), (ev_s1 L i (.int x)), st, h, c, z)) : ev_J G C w M K (pc, L, (.int x :: st), h, c, z) := fun X hX => hX 11 hd hn (k X hX)
theorem ev_lload_n {G : ev_G} {C : ev_L} {w : Nat} {M : ev_M} {K : ev_K} {pc : Nat} {L : ev_V} {st : List Value} {h : ev_H} {c z : Nat} {j : Fin 4} {x : Int64} (hd : decode M.2.1 pc = .ok (.lload_n j, 1)) (hx1 : L (j : Nat) = some (.long x)) (k : ev_J G C w M K ((pc + 1), L, (.long x :: st), h, c, z)) : ev_J G C w M K (pc, L, st, h, c, z) := fun X hX => hX 12 hd hx1 (k X hX)
theorem ev_lload {G : ev_G} {C : ev_L} {w : Nat} {M : ev_M} {K : ev_K} {pc : Nat} {L : ev_V} {st : List Value} {h : ev_H} {c z : Nat} {i : Nat} {x : Int64} (hd : decode M.2.1 pc = .ok (.lload i, 2)) (hx1 : L i = some (.long x)) (k : ev_J G C w M K ((pc + 2), L, (.long x :: st), h, c, z)) : ev_J G C w M K (pc, L, st, h, c, z) := fun X hX => hX 13 hd hx1 (k X hX)
theorem ev_lstore_n {G : ev_G} {C : ev_L} {w : Nat} {M : ev_M} {K : ev_K} {pc : Nat} {L : ev_V} {st : List Value} {h : ev_H} {c z : Nat} {j : Fin 4} {x : Int64} (hd : decode M.2.1 pc = .ok (.lstore_n j, 1)) (hn : Nat.blt ((j : Nat) + 1) M.2.2.1 = true) (k : ev_J G C w M K ((pc + 1), (ev_s2 L (j : Nat) (.long x)), st, h, c, z)) : ev_J G C w M K (pc, L, (.long x :: st), h, c, z) := fun X hX => hX 14 hd hn (k X hX)
theorem ev_lstore {G : ev_G} {C : ev_L} {w : Nat} {M : ev_M} {K : ev_K} {pc : Nat} {L : ev_V} {st : List Value} {h : ev_H} {c z : Nat} {i : Nat} {x : Int64} (hd : decode M.2.1 pc = .ok (.lstore i, 2)) (hn : Nat.blt (i + 1) M.2.2.1 = true) (k : ev_J G C w M K ((pc + 2), (ev_s2 L i (.long x)), st, h, c, z)) : ev_J G C w M K (pc, L, (.long x :: st), h, c, z) := fun X hX => hX 15 hd hn (k X hX)
theorem ev_aload_n {G : ev_G} {C : ev_L} {w : Nat} {M : ev_M} {K : ev_K} {pc : Nat} {L : ev_V} {st : List Value} {h : ev_H} {c z : Nat} {j : Fin 4} {x : Nat} (hd : decode M.2.1 pc = .ok (.aload_n j, 1)) (hx1 : L (j : Nat) = some (.ref x)) (k : ev_J G C w M K ((pc + 1), L, (.ref x :: st), h, c, z)) : ev_J G C w M K (pc, L, st, h, c, z) := fun X hX => hX 16 hd hx1 (k X hX)
theorem ev_aload {G : ev_G} {C : ev_L} {w : Nat} {M : ev_M} {K : ev_K} {pc : Nat} {L : ev_V} {st : List Value} {h : ev_H} {c z : Nat} {i : Nat} {x : Nat} (hd : decode M.2.1 pc = .ok (.aload i, 2)) (hx1 : L i = some (.ref x)) (k : ev_J G C w M K ((pc + 2), L, (.ref x :: st), h, c, z)) : ev_J G C w M K (pc, L, st, h, c, z) := fun X hX => hX 17 hd hx1 (k X hX)
theorem ev_astore_n {G : ev_G} {C : ev_L} {w : Nat} {M : ev_M} {K : ev_K} {pc : Nat} {L : ev_V} {st : List Value} {h : ev_H} {c z : Nat} {j : Fin 4} {x : Nat} (hd : decode M.2.1 pc = .ok (.astore_n j, 1)) (hn : Nat.blt ((j : Nat)) M.2.2.1 = true) (k : ev_J G C w M K ((pc + 1), (ev_s1 L (j : Nat) (.ref x)), st, h, c, z)) : ev_J G C w M K (pc, L, (.ref x :: st), h, c, z) := fun X hX => hX 18 hd hn (k X hX)
theorem ev_astore {G : ev_G} {C : ev_L} {w : Nat} {M : ev_M} {K : ev_K} {pc : Nat} {L : ev_V} {st : List Value} {h : ev_H} {c z : Nat} {i : Nat} {x : Nat} (hd : decode M.2.1 pc = .ok (.astore i, 2)) (hn : Nat.blt (i) M.2.2.1 = true) (k : ev_J G C w M K ((pc + 2), (ev_s1 L i (.ref x)), st, h, c, z)) : ev_J G C w M K (pc, L, (.ref x :: st), h, c, z) := fun X hX => hX 19 hd hn (k X hX)
theorem ev_iinc {G : ev_G} {C : ev_L} {w : Nat} {M : ev_M} {K : ev_K} {pc : Nat} {L : ev_V} {st : List Value} {h : ev_H} {c z : Nat} {i : Nat} {n : Int} {x : Int32} (hd : decode M.2.1 pc = .ok (.iinc i n, 3)) (hx1 : L i = some (.int x)) (hn : Nat.blt i M.2.2.1 = true) (k : ev_J G C w M K ((pc + 3), (ev_s1 L i (.int (x + Int32.ofInt n))), st, h, c, z)) : ev_J G C w M K (pc, L, st, h, c, z) := fun X hX => hX 20 hd hx1 hn (k X hX)
theorem ev_iadd {G : ev_G} {C : ev_L} {w : Nat} {M : ev_M} {K : ev_K} {pc : Nat} {L : ev_V} {st : List Value} {h : ev_H} {c z : Nat} {x y : Int32} (hd : decode M.2.1 pc = .ok (.iadd, 1)) (k : ev_J G C w M K ((pc + 1), L, (.int (x + y) :: st), h, c, z)) : ev_J G C w M K (pc, L, (.int y :: .int x :: st), h, c, z) := fun X hX => hX 21 hd (k X hX)
theorem ev_isub {G : ev_G} {C : ev_L} {w : Nat} {M : ev_M} {K : ev_K} {pc : Nat} {L : ev_V} {st : List Value} {h : ev_H} {c z : Nat} {x y : Int32} (hd : decode M.2.1 pc = .ok (.isub, 1)) (k : ev_J G C w M K ((pc + 1), L, (.int (x - y) :: st), h, c, z)) : ev_J G C w M K (pc, L, (.int y :: .int x :: st), h, c, z) := fun X hX => hX 22 hd (k X hX)
theorem ev_imul {G : ev_G} {C : ev_L} {w : Nat} {M : ev_M} {K : ev_K} {pc : Nat} {L : ev_V} {st : List Value} {h : ev_H} {c z : Nat} {x y : Int32} (hd : decode M.2.1 pc = .ok (.imul, 1)) (k : ev_J G C w M K ((pc + 1), L, (.int (x * y) :: st), h, c, z)) : ev_J G C w M K (pc, L, (.int y :: .int x :: st), h, c, z) := fun X hX => hX 23 hd (k X hX)
theorem ev_iand {G : ev_G} {C : ev_L} {w : Nat} {M : ev_M} {K : ev_K} {pc : Nat} {L : ev_V} {st : List Value} {h : ev_H} {c z : Nat} {x y : Int32} (hd : decode M.2.1 pc = .ok (.iand, 1)) (k : ev_J G C w M K ((pc + 1), L, (.int (x &&& y) :: st), h, c, z)) : ev_J G C w M K (pc, L, (.int y :: .int x :: st), h, c, z) := fun X hX => hX 24 hd (k X hX)
theorem ev_ior {G : ev_G} {C : ev_L} {w : Nat} {M : ev_M} {K : ev_K} {pc : Nat} {L : ev_V} {st : List Value} {h : ev_H} {c z : Nat} {x y : Int32} (hd : decode M.2.1 pc = .ok (.ior, 1)) (k : ev_J G C w M K ((pc + 1), L, (.int (x ||| y) :: st), h, c, z)) : ev_J G C w M K (pc, L, (.int y :: .int x :: st), h, c, z) := fun X hX => hX 25 hd (k X hX)
theorem ev_ixor {G : ev_G} {C : ev_L} {w : Nat} {M : ev_M} {K : ev_K} {pc : Nat} {L : ev_V} {st : List Value} {h : ev_H} {c z : Nat} {x y : Int32} (hd : decode M.2.1 pc = .ok (.ixor, 1)) (k : ev_J G C w M K ((pc + 1), L, (.int (x ^^^ y) :: st), h, c, z)) : ev_J G C w M K (pc, L, (.int y :: .int x :: st), h, c, z) := fun X hX => hX 26 hd (k X hX)
theorem ev_ishl {G : ev_G} {C : ev_L} {w : Nat} {M : ev_M} {K : ev_K} {pc : Nat} {L : ev_V} {st : List Value} {h : ev_H} {c z : Nat} {x y : Int32} (hd : decode M.2.1 pc = .ok (.ishl, 1)) (k : ev_J G C w M K ((pc + 1), L, (.int (x <<< (y &&& 31)) :: st), h, c, z)) : ev_J G C w M K (pc, L, (.int y :: .int x :: st), h, c, z) := fun X hX => hX 27 hd (k X hX)
theorem ev_ishr {G : ev_G} {C : ev_L} {w : Nat} {M : ev_M} {K : ev_K} {pc : Nat} {L : ev_V} {st : List Value} {h : ev_H} {c z : Nat} {x y : Int32} (hd : decode M.2.1 pc = .ok (.ishr, 1)) (k : ev_J G C w M K ((pc + 1), L, (.int (x >>> (y &&& 31)) :: st), h, c, z)) : ev_J G C w M K (pc, L, (.int y :: .int x :: st), h, c, z) := fun X hX => hX 28 hd (k X hX)
theorem ev_iushr {G : ev_G} {C : ev_L} {w : Nat} {M : ev_M} {K : ev_K} {pc : Nat} {L : ev_V} {st : List Value} {h : ev_H} {c z : Nat} {x y : Int32} (hd : decode M.2.1 pc = .ok (.iushr, 1)) (k : ev_J G C w M K ((pc + 1), L, (.int ((x.toUInt32 >>> (y.toUInt32 &&& Int32.toUInt32 31)).toInt32) :: st), h, c, z)) : ev_J G C w M K (pc, L, (.int y :: .int x :: st), h, c, z) := fun X hX => hX 29 hd (k X hX)
theorem ev_idiv {G : ev_G} {C : ev_L} {w : Nat} {M : ev_M} {K : ev_K} {pc : Nat} {L : ev_V} {st : List Value} {h : ev_H} {c z : Nat} {x y : Int32} (hd : decode M.2.1 pc = .ok (.idiv, 1)) (hne : ¬ y = 0) (k : ev_J G C w M K ((pc + 1), L, (.int (x / y) :: st), h, c, z)) : ev_J G C w M K (pc, L, (.int y :: .int x :: st), h, c, z) := fun X hX => hX 30 hd hne (k X hX)
theorem ev_irem {G : ev_G} {C : ev_L} {w : Nat} {M : ev_M} {K : ev_K} {pc : Nat} {L : ev_V} {st : List Value} {h : ev_H} {c z : Nat} {x y : Int32} (hd : decode M.2.1 pc = .ok (.irem, 1)) (hne : ¬ y = 0) (k : ev_J G C w M K ((pc + 1), L, (.int (x - x / y * y) :: st), h, c, z)) : ev_J G C w M K (pc, L, (.int y :: .int x :: st), h, c, z) := fun X hX => hX 31 hd hne (k X hX)
theorem ev_ineg {G : ev_G} {C : ev_L} {w : Nat} {M : ev_M} {K : ev_K} {pc : Nat} {L : ev_V} {st : List Value} {h : ev_H} {c z : Nat} {x : Int32} (hd : decode M.2.1 pc = .ok (.ineg, 1)) (k : ev_J G C w M K ((pc + 1), L, (.int (-x) :: st), h, c, z)) : ev_J G C w M K (pc, L, (.int x :: st), h, c, z) := fun X hX => hX 32 hd (k X hX)
theorem ev_ladd {G : ev_G} {C : ev_L} {w : Nat} {M : ev_M} {K : ev_K} {pc : Nat} {L : ev_V} {st : List Value} {h : ev_H} {c z : Nat} {x y : Int64} (hd : decode M.2.1 pc = .ok (.ladd, 1)) (k : ev_J G C w M K ((pc + 1), L, (.long (x + y) :: st), h, c, z)) : ev_J G C w M K (pc, L, (.long y :: .long x :: st), h, c, z) := fun X hX => hX 33 hd (k X hX)
theorem ev_lsub {G : ev_G} {C : ev_L} {w : Nat} {M : ev_M} {K : ev_K} {pc : Nat} {L : ev_V} {st : List Value} {h : ev_H} {c z : Nat} {x y : Int64} (hd : decode M.2.1 pc = .ok (.lsub, 1)) (k : ev_J G C w M K ((pc + 1), L, (.long (x - y) :: st), h, c, z)) : ev_J G C w M K (pc, L, (.long y :: .long x :: st), h, c, z) := fun X hX => hX 34 hd (k X hX)
theorem ev_lmul {G : ev_G} {C : ev_L} {w : Nat} {M : ev_M} {K : ev_K} {pc : Nat} {L : ev_V} {st : List Value} {h : ev_H} {c z : Nat} {x y : Int64} (hd : decode M.2.1 pc = .ok (.lmul, 1)) (k : ev_J G C w M K ((pc + 1), L, (.long (x * y) :: st), h, c, z)) : ev_J G C w M K (pc, L, (.long y :: .long x :: st), h, c, z) := fun X hX => hX 35 hd (k X hX)
theorem ev_land {G : ev_G} {C : ev_L} {w : Nat} {M : ev_M} {K : ev_K} {pc : Nat} {L : ev_V} {st : List Value} {h : ev_H} {c z : Nat} {x y : Int64} (hd : decode M.2.1 pc = .ok (.land, 1)) (k : ev_J G C w M K ((pc + 1), L, (.long (x &&& y) :: st), h, c, z)) : ev_J G C w M K (pc, L, (.long y :: .long x :: st), h, c, z) := fun X hX => hX 36 hd (k X hX)
theorem ev_lor {G : ev_G} {C : ev_L} {w : Nat} {M : ev_M} {K : ev_K} {pc : Nat} {L : ev_V} {st : List Value} {h : ev_H} {c z : Nat} {x y : Int64} (hd : decode M.2.1 pc = .ok (.lor, 1)) (k : ev_J G C w M K ((pc + 1), L, (.long (x ||| y) :: st), h, c, z)) : ev_J G C w M K (pc, L, (.long y :: .long x :: st), h, c, z) := fun X hX => hX 37 hd (k X hX)
theorem ev_lxor {G : ev_G} {C : ev_L} {w : Nat} {M : ev_M} {K : ev_K} {pc : Nat} {L : ev_V} {st : List Value} {h : ev_H} {c z : Nat} {x y : Int64} (hd : decode M.2.1 pc = .ok (.lxor, 1)) (k : ev_J G C w M K ((pc + 1), L, (.long (x ^^^ y) :: st), h, c, z)) : ev_J G C w M K (pc, L, (.long y :: .long x :: st), h, c, z) := fun X hX => hX 38 hd (k X hX)
theorem ev_ldiv {G : ev_G} {C : ev_L} {w : Nat} {M : ev_M} {K : ev_K} {pc : Nat} {L : ev_V} {st : List Value} {h : ev_H} {c z : Nat} {x y : Int64} (hd : decode M.2.1 pc = .ok (.ldiv, 1)) (hne : ¬ y = 0) (k : ev_J G C w M K ((pc + 1), L, (.long (x / y) :: st), h, c, z)) : ev_J G C w M K (pc, L, (.long y :: .long x :: st), h, c, z) := fun X hX => hX 39 hd hne (k X hX)
theorem ev_lrem {G : ev_G} {C : ev_L} {w : Nat} {M : ev_M} {K : ev_K} {pc : Nat} {L : ev_V} {st : List Value} {h : ev_H} {c z : Nat} {x y : Int64} (hd : decode M.2.1 pc = .ok (.lrem, 1)) (hne : ¬ y = 0) (k : ev_J G C w M K ((pc + 1), L, (.long (x - x / y * y) :: st), h, c, z)) : ev_J G C w M K (pc, L, (.long y :: .long x :: st), h, c, z) := fun X hX => hX 40 hd hne (k X hX)
theorem ev_lshl {G : ev_G} {C : ev_L} {w : Nat} {M : ev_M} {K : ev_K} {pc : Nat} {L : ev_V} {st : List Value} {h : ev_H} {c z : Nat} {x : Int64} {y : Int32} (hd : decode M.2.1 pc = .ok (.lshl, 1)) (k : ev_J G C w M K ((pc + 1), L, (.long (x <<< (y.toInt64 &&& 63)) :: st), h, c, z)) : ev_J G C w M K (pc, L, (.int y :: .long x :: st), h, c, z) := fun X hX => hX 41 hd (k X hX)
theorem ev_lshr {G : ev_G} {C : ev_L} {w : Nat} {M : ev_M} {K : ev_K} {pc : Nat} {L : ev_V} {st : List Value} {h : ev_H} {c z : Nat} {x : Int64} {y : Int32} (hd : decode M.2.1 pc = .ok (.lshr, 1)) (k : ev_J G C w M K ((pc + 1), L, (.long (x >>> (y.toInt64 &&& 63)) :: st), h, c, z)) : ev_J G C w M K (pc, L, (.int y :: .long x :: st), h, c, z) := fun X hX => hX 42 hd (k X hX)
theorem ev_lushr {G : ev_G} {C : ev_L} {w : Nat} {M : ev_M} {K : ev_K} {pc : Nat} {L : ev_V} {st : List Value} {h : ev_H} {c z : Nat} {x : Int64} {y : Int32} (hd : decode M.2.1 pc = .ok (.lushr, 1)) (k : ev_J G C w M K ((pc + 1), L, (.long ((x.toUInt64 >>> (y.toInt64.toUInt64 &&& Int64.toUInt64 63)).toInt64) :: st), h, c, z)) : ev_J G C w M K (pc, L, (.int y :: .long x :: st), h, c, z) := fun X hX => hX 43 hd (k X hX)
theorem ev_lneg {G : ev_G} {C : ev_L} {w : Nat} {M : ev_M} {K : ev_K} {pc : Nat} {L : ev_V} {st : List Value} {h : ev_H} {c z : Nat} {x : Int64} (hd : decode M.2.1 pc = .ok (.lneg, 1)) (k : ev_J G C w M K ((pc + 1), L, (.long (-x) :: st), h, c, z)) : ev_J G C w M K (pc, L, (.long x :: st), h, c, z) := fun X hX => hX 44 hd (k X hX)
theorem ev_i2l {G : ev_G} {C : ev_L} {w : Nat} {M : ev_M} {K : ev_K} {pc : Nat} {L : ev_V} {st : List Value} {h : ev_H} {c z : Nat} {x : Int32} (hd : decode M.2.1 pc = .ok (.i2l, 1)) (k : ev_J G C w M K ((pc + 1), L, (.long x.toInt64 :: st), h, c, z)) : ev_J G C w M K (pc, L, (.int x :: st), h, c, z) := fun X hX => hX 45 hd (k X hX)
theorem ev_l2i {G : ev_G} {C : ev_L} {w : Nat} {M : ev_M} {K : ev_K} {pc : Nat} {L : ev_V} {st : List Value} {h : ev_H} {c z : Nat} {x : Int64} (hd : decode M.2.1 pc = .ok (.l2i, 1)) (k : ev_J G C w M K ((pc + 1), L, (.int x.toInt32 :: st), h, c, z)) : ev_J G C w M K (pc, L, (.long x :: st), h, c, z) := fun X hX => hX 46 hd (k X hX)
theorem ev_i2c {G : ev_G} {C : ev_L} {w : Nat} {M : ev_M} {K : ev_K} {pc : Nat} {L : ev_V} {st : List Value} {h : ev_H} {c z : Nat} {x : Int32} (hd : decode M.2.1 pc = .ok (.i2c, 1)) (k : ev_J G C w M K ((pc + 1), L, (.int (x.toUInt32 % 65536).toInt32 :: st), h, c, z)) : ev_J G C w M K (pc, L, (.int x :: st), h, c, z) := fun X hX => hX 47 hd (k X hX)
theorem ev_i2b {G : ev_G} {C : ev_L} {w : Nat} {M : ev_M} {K : ev_K} {pc : Nat} {L : ev_V} {st : List Value} {h : ev_H} {c z : Nat} {x : Int32} (hd : decode M.2.1 pc = .ok (.i2b, 1)) (k : ev_J G C w M K ((pc + 1), L, (.int x.toInt8.toInt32 :: st), h, c, z)) : ev_J G C w M K (pc, L, (.int x :: st), h, c, z) := fun X hX => hX 48 hd (k X hX)
theorem ev_lcmp {G : ev_G} {C : ev_L} {w : Nat} {M : ev_M} {K : ev_K} {pc : Nat} {L : ev_V} {st : List Value} {h : ev_H} {c z : Nat} {x y : Int64} (hd : decode M.2.1 pc = .ok (.lcmp, 1)) (k : ev_J G C w M K ((pc + 1), L, (.int (lg_cmp x y) :: st), h, c, z)) : ev_J G C w M K (pc, L, (.long y :: .long x :: st), h, c, z) := fun X hX => hX 49 hd (k X hX)
theorem ev_dup {G : ev_G} {C : ev_L} {w : Nat} {M : ev_M} {K : ev_K} {pc : Nat} {L : ev_V} {st : List Value} {h : ev_H} {c z : Nat} {va : Value} (hd : decode M.2.1 pc = .ok (.dup, 1)) (hva : va.category = 1) (k : ev_J G C w M K ((pc + 1), L, (va :: va :: st), h, c, z)) : ev_J G C w M K (pc, L, (va :: st), h, c, z) := fun X hX => hX 50 hd hva (k X hX)
theorem ev_pop {G : ev_G} {C : ev_L} {w : Nat} {M : ev_M} {K : ev_K} {pc : Nat} {L : ev_V} {st : List Value} {h : ev_H} {c z : Nat} {va : Value} (hd : decode M.2.1 pc = .ok (.pop, 1)) (hva : va.category = 1) (k : ev_J G C w M K ((pc + 1), L, st, h, c, z)) : ev_J G C w M K (pc, L, (va :: st), h, c, z) := fun X hX => hX 51 hd hva (k X hX)
theorem ev_dup_x1 {G : ev_G} {C : ev_L} {w : Nat} {M : ev_M} {K : ev_K} {pc : Nat} {L : ev_V} {st : List Value} {h : ev_H} {c z : Nat} {va vb : Value} (hd : decode M.2.1 pc = .ok (.dup_x1, 1)) (hva : va.category = 1) (hvb : vb.category = 1) (k : ev_J G C w M K ((pc + 1), L, (va :: vb :: va :: st), h, c, z)) : ev_J G C w M K (pc, L, (va :: vb :: st), h, c, z) := fun X hX => hX 52 hd hva hvb (k X hX)
theorem ev_dup_x2 {G : ev_G} {C : ev_L} {w : Nat} {M : ev_M} {K : ev_K} {pc : Nat} {L : ev_V} {st : List Value} {h : ev_H} {c z : Nat} {va vb vd : Value} (hd : decode M.2.1 pc = .ok (.dup_x2, 1)) (hva : va.category = 1) (hvb : vb.category = 1) (hvd : vd.category = 1) (k : ev_J G C w M K ((pc + 1), L, (va :: vb :: vd :: va :: st), h, c, z)) : ev_J G C w M K (pc, L, (va :: vb :: vd :: st), h, c, z) := fun X hX => hX 53 hd hva hvb hvd (k X hX)
theorem ev_dup2_11 {G : ev_G} {C : ev_L} {w : Nat} {M : ev_M} {K : ev_K} {pc : Nat} {L : ev_V} {st : List Value} {h : ev_H} {c z : Nat} {va vb : Value} (hd : decode M.2.1 pc = .ok (.dup2, 1)) (hva : va.category = 1) (hvb : vb.category = 1) (k : ev_J G C w M K ((pc + 1), L, (va :: vb :: va :: vb :: st), h, c, z)) : ev_J G C w M K (pc, L, (va :: vb :: st), h, c, z) := fun X hX => hX 54 hd hva hvb (k X hX)
theorem ev_dup2_2 {G : ev_G} {C : ev_L} {w : Nat} {M : ev_M} {K : ev_K} {pc : Nat} {L : ev_V} {st : List Value} {h : ev_H} {c z : Nat} {va : Value} (hd : decode M.2.1 pc = .ok (.dup2, 1)) (hva : va.category = 2) (k : ev_J G C w M K ((pc + 1), L, (va :: va :: st), h, c, z)) : ev_J G C w M K (pc, L, (va :: st), h, c, z) := fun X hX => hX 55 hd hva (k X hX)
theorem ev_pop2_2 {G : ev_G} {C : ev_L} {w : Nat} {M : ev_M} {K : ev_K} {pc : Nat} {L : ev_V} {st : List Value} {h : ev_H} {c z : Nat} {va : Value} (hd : decode M.2.1 pc = .ok (.pop2, 1)) (hva : va.category = 2) (k : ev_J G C w M K ((pc + 1), L, st, h, c, z)) : ev_J G C w M K (pc, L, (va :: st), h, c, z) := fun X hX => hX 56 hd hva (k X hX)
theorem ev_dup2_x1_2 {G : ev_G} {C : ev_L} {w : Nat} {M : ev_M} {K : ev_K} {pc : Nat} {L : ev_V} {st : List Value} {h : ev_H} {c z : Nat} {va vb : Value} (hd : decode M.2.1 pc = .ok (.dup2_x1, 1)) (hva : va.category = 2) (hvb : vb.category = 1) (k : ev_J G C w M K ((pc + 1), L, (va :: vb :: va :: st), h, c, z)) : ev_J G C w M K (pc, L, (va :: vb :: st), h, c, z) := fun X hX => hX 57 hd hva hvb (k X hX)
theorem ev_dup2_x2_2 {G : ev_G} {C : ev_L} {w : Nat} {M : ev_M} {K : ev_K} {pc : Nat} {L : ev_V} {st : List Value} {h : ev_H} {c z : Nat} {va vb vd : Value} (hd : decode M.2.1 pc = .ok (.dup2_x2, 1)) (hva : va.category = 2) (hvb : vb.category = 1) (hvd : vd.category = 1) (k : ev_J G C w M K ((pc + 1), L, (va :: vb :: vd :: va :: st), h, c, z)) : ev_J G C w M K (pc, L, (va :: vb :: vd :: st), h, c, z) := fun X hX => hX 58 hd hva hvb hvd (k X hX)
theorem ev_if_eq {G : ev_G} {C : ev_L} {w : Nat} {M : ev_M} {K : ev_K} {pc : Nat} {L : ev_V} {st : List Value} {h : ev_H} {c z : Nat} {off : Int} {tgt : Nat} {x : Int32} (hd : decode M.2.1 pc = .ok (.ifCond .eq off, 3)) (ht : (pc : Int) + off = (tgt : Int)) (kt : (x = 0 → ev_J G C w M K (tgt, L, st, h, c, z))) (kf : (¬ x = 0 → ev_J G C w M K ((pc + 3), L, st, h, c, z))) : ev_J G C w M K (pc, L, (.int x :: st), h, c, z) := fun X hX => hX 59 hd ht (fun q => kt q X hX) (fun q => kf q X hX)
theorem ev_icmp_eq {G : ev_G} {C : ev_L} {w : Nat} {M : ev_M} {K : ev_K} {pc : Nat} {L : ev_V} {st : List Value} {h : ev_H} {c z : Nat} {off : Int} {tgt : Nat} {x y : Int32} (hd : decode M.2.1 pc = .ok (.if_icmp .eq off, 3)) (ht : (pc : Int) + off = (tgt : Int)) (kt : (x = y → ev_J G C w M K (tgt, L, st, h, c, z))) (kf : (¬ x = y → ev_J G C w M K ((pc + 3), L, st, h, c, z))) : ev_J G C w M K (pc, L, (.int y :: .int x :: st), h, c, z) := fun X hX => hX 60 hd ht (fun q => kt q X hX) (fun q => kf q X hX)
theorem ev_if_ne {G : ev_G} {C : ev_L} {w : Nat} {M : ev_M} {K : ev_K} {pc : Nat} {L : ev_V} {st : List Value} {h : ev_H} {c z : Nat} {off : Int} {tgt : Nat} {x : Int32} (hd : decode M.2.1 pc = .ok (.ifCond .ne off, 3)) (ht : (pc : Int) + off = (tgt : Int)) (kt : (¬ x = 0 → ev_J G C w M K (tgt, L, st, h, c, z))) (kf : (x = 0 → ev_J G C w M K ((pc + 3), L, st, h, c, z))) : ev_J G C w M K (pc, L, (.int x :: st), h, c, z) := fun X hX => hX 61 hd ht (fun q => kt q X hX) (fun q => kf q X hX)
theorem ev_icmp_ne {G : ev_G} {C : ev_L} {w : Nat} {M : ev_M} {K : ev_K} {pc : Nat} {L : ev_V} {st : List Value} {h : ev_H} {c z : Nat} {off : Int} {tgt : Nat} {x y : Int32} (hd : decode M.2.1 pc = .ok (.if_icmp .ne off, 3)) (ht : (pc : Int) + off = (tgt : Int)) (kt : (¬ x = y → ev_J G C w M K (tgt, L, st, h, c, z))) (kf : (x = y → ev_J G C w M K ((pc + 3), L, st, h, c, z))) : ev_J G C w M K (pc, L, (.int y :: .int x :: st), h, c, z) := fun X hX => hX 62 hd ht (fun q => kt q X hX) (fun q => kf q X hX)
theorem ev_if_lt {G : ev_G} {C : ev_L} {w : Nat} {M : ev_M} {K : ev_K} {pc : Nat} {L : ev_V} {st : List Value} {h : ev_H} {c z : Nat} {off : Int} {tgt : Nat} {x : Int32} (hd : decode M.2.1 pc = .ok (.ifCond .lt off, 3)) (ht : (pc : Int) + off = (tgt : Int)) (kt : (x < 0 → ev_J G C w M K (tgt, L, st, h, c, z))) (kf : (¬ x < 0 → ev_J G C w M K ((pc + 3), L, st, h, c, z))) : ev_J G C w M K (pc, L, (.int x :: st), h, c, z) := fun X hX => hX 63 hd ht (fun q => kt q X hX) (fun q => kf q X hX)
theorem ev_icmp_lt {G : ev_G} {C : ev_L} {w : Nat} {M : ev_M} {K : ev_K} {pc : Nat} {L : ev_V} {st : List Value} {h : ev_H} {c z : Nat} {off : Int} {tgt : Nat} {x y : Int32} (hd : decode M.2.1 pc = .ok (.if_icmp .lt off, 3)) (ht : (pc : Int) + off = (tgt : Int)) (kt : (x < y → ev_J G C w M K (tgt, L, st, h, c, z))) (kf : (¬ x < y → ev_J G C w M K ((pc + 3), L, st, h, c, z))) : ev_J G C w M K (pc, L, (.int y :: .int x :: st), h, c, z) := fun X hX => hX 64 hd ht (fun q => kt q X hX) (fun q => kf q X hX)
theorem ev_if_ge {G : ev_G} {C : ev_L} {w : Nat} {M : ev_M} {K : ev_K} {pc : Nat} {L : ev_V} {st : List Value} {h : ev_H} {c z : Nat} {off : Int} {tgt : Nat} {x : Int32} (hd : decode M.2.1 pc = .ok (.ifCond .ge off, 3)) (ht : (pc : Int) + off = (tgt : Int)) (kt : (0 ≤ x → ev_J G C w M K (tgt, L, st, h, c, z))) (kf : (¬ 0 ≤ x → ev_J G C w M K ((pc + 3), L, st, h, c, z))) : ev_J G C w M K (pc, L, (.int x :: st), h, c, z) := fun X hX => hX 65 hd ht (fun q => kt q X hX) (fun q => kf q X hX)
theorem ev_icmp_ge {G : ev_G} {C : ev_L} {w : Nat} {M : ev_M} {K : ev_K} {pc : Nat} {L : ev_V} {st : List Value} {h : ev_H} {c z : Nat} {off : Int} {tgt : Nat} {x y : Int32} (hd : decode M.2.1 pc = .ok (.if_icmp .ge off, 3)) (ht : (pc : Int) + off = (tgt : Int)) (kt : (y ≤ x → ev_J G C w M K (tgt, L, st, h, c, z))) (kf : (¬ y ≤ x → ev_J G C w M K ((pc + 3), L, st, h, c, z))) : ev_J G C w M K (pc, L, (.int y :: .int x :: st), h, c, z) := fun X hX => hX 66 hd ht (fun q => kt q X hX) (fun q => kf q X hX)
theorem ev_if_gt {G : ev_G} {C : ev_L} {w : Nat} {M : ev_M} {K : ev_K} {pc : Nat} {L : ev_V} {st : List Value} {h : ev_H} {c z : Nat} {off : Int} {tgt : Nat} {x : Int32} (hd : decode M.2.1 pc = .ok (.ifCond .gt off, 3)) (ht : (pc : Int) + off = (tgt : Int)) (kt : (0 < x → ev_J G C w M K (tgt, L, st, h, c, z))) (kf : (¬ 0 < x → ev_J G C w M K ((pc + 3), L, st, h, c, z))) : ev_J G C w M K (pc, L, (.int x :: st), h, c, z) := fun X hX => hX 67 hd ht (fun q => kt q X hX) (fun q => kf q X hX)
theorem ev_icmp_gt {G : ev_G} {C : ev_L} {w : Nat} {M : ev_M} {K : ev_K} {pc : Nat} {L : ev_V} {st : List Value} {h : ev_H} {c z : Nat} {off : Int} {tgt : Nat} {x y : Int32} (hd : decode M.2.1 pc = .ok (.if_icmp .gt off, 3)) (ht : (pc : Int) + off = (tgt : Int)) (kt : (y < x → ev_J G C w M K (tgt, L, st, h, c, z))) (kf : (¬ y < x → ev_J G C w M K ((pc + 3), L, st, h, c, z))) : ev_J G C w M K (pc, L, (.int y :: .int x :: st), h, c, z) := fun X hX => hX 68 hd ht (fun q => kt q X hX) (fun q => kf q X hX)
theorem ev_if_le {G : ev_G} {C : ev_L} {w : Nat} {M : ev_M} {K : ev_K} {pc : Nat} {L : ev_V} {st : List Value} {h : ev_H} {c z : Nat} {off : Int} {tgt : Nat} {x : Int32} (hd : decode M.2.1 pc = .ok (.ifCond .le off, 3)) (ht : (pc : Int) + off = (tgt : Int)) (kt : (x ≤ 0 → ev_J G C w M K (tgt, L, st, h, c, z))) (kf : (¬ x ≤ 0 → ev_J G C w M K ((pc + 3), L, st, h, c, z))) : ev_J G C w M K (pc, L, (.int x :: st), h, c, z) := fun X hX => hX 69 hd ht (fun q => kt q X hX) (fun q => kf q X hX)
theorem ev_icmp_le {G : ev_G} {C : ev_L} {w : Nat} {M : ev_M} {K : ev_K} {pc : Nat} {L : ev_V} {st : List Value} {h : ev_H} {c z : Nat} {off : Int} {tgt : Nat} {x y : Int32} (hd : decode M.2.1 pc = .ok (.if_icmp .le off, 3)) (ht : (pc : Int) + off = (tgt : Int)) (kt : (x ≤ y → ev_J G C w M K (tgt, L, st, h, c, z))) (kf : (¬ x ≤ y → ev_J G C w M K ((pc + 3), L, st, h, c, z))) : ev_J G C w M K (pc, L, (.int y :: .int x :: st), h, c, z) := fun X hX => hX 70 hd ht (fun q => kt q X hX) (fun q => kf q X hX)
theorem ev_goto {G : ev_G} {C : ev_L} {w : Nat} {M : ev_M} {K : ev_K} {pc : Nat} {L : ev_V} {st : List Value} {h : ev_H} {c z : Nat} {off : Int} {tgt : Nat} (hd : decode M.2.1 pc = .ok (.goto off, 3)) (ht : (pc : Int) + off = (tgt : Int)) (k : ev_J G C w M K (tgt, L, st, h, c, z)) : ev_J G C w M K (pc, L, st, h, c, z) := fun X hX => hX 71 hd ht (k X hX)
theorem ev_tableIn {G : ev_G} {C : ev_L} {w : Nat} {M : ev_M} {K : ev_K} {pc : Nat} {L : ev_V} {st : List Value} {h : ev_H} {c z : Nat} {dflt lo hi : Int} {offs : Array Int} {len : Nat} {x : Int32} {off : Int} {tgt : Nat} (hd : decode M.2.1 pc = .ok (.tableswitch dflt lo hi offs, len)) (h1 : ¬ x.toInt < lo) (h2 : ¬ hi < x.toInt) (ho : offs[(x.toInt - lo).toNat]? = some off) (ht : (pc : Int) + off = (tgt : Int)) (k : ev_J G C w M K (tgt, L, st, h, c, z)) : ev_J G C w M K (pc, L, (.int x :: st), h, c, z) := fun X hX => hX 72 hd h1 h2 ho ht (k X hX)
theorem ev_tableOut {G : ev_G} {C : ev_L} {w : Nat} {M : ev_M} {K : ev_K} {pc : Nat} {L : ev_V} {st : List Value} {h : ev_H} {c z : Nat} {dflt lo hi : Int} {offs : Array Int} {len : Nat} {x : Int32} {tgt : Nat} (hd : decode M.2.1 pc = .ok (.tableswitch dflt lo hi offs, len)) (h1 : x.toInt < lo ∨ hi < x.toInt) (ht : (pc : Int) + dflt = (tgt : Int)) (k : ev_J G C w M K (tgt, L, st, h, c, z)) : ev_J G C w M K (pc, L, (.int x :: st), h, c, z) := fun X hX => hX 73 hd h1 ht (k X hX)
theorem ev_iald {G : ev_G} {C : ev_L} {w : Nat} {M : ev_M} {K : ev_K} {pc : Nat} {L : ev_V} {st : List Value} {h : ev_H} {c z : Nat} {a n : Nat} {f : Nat → Int32} {i : Int32} (hd : decode M.2.1 pc = .ok (.iaload, 1)) (ha : h a = some (.inl (.int, n, .inl f))) (hi : vp_in i n) (k : ev_J G C w M K ((pc + 1), L, (.int (f i.toNatClampNeg) :: st), h, c, z)) : ev_J G C w M K (pc, L, (.int i :: .ref a :: st), h, c, z) := fun X hX => hX 74 hd ha hi (k X hX)
theorem ev_cald {G : ev_G} {C : ev_L} {w : Nat} {M : ev_M} {K : ev_K} {pc : Nat} {L : ev_V} {st : List Value} {h : ev_H} {c z : Nat} {a n : Nat} {f : Nat → Int32} {i : Int32} (hd : decode M.2.1 pc = .ok (.caload, 1)) (ha : h a = some (.inl (.char, n, .inl f))) (hi : vp_in i n) (k : ev_J G C w M K ((pc + 1), L, (.int (f i.toNatClampNeg) :: st), h, c, z)) : ev_J G C w M K (pc, L, (.int i :: .ref a :: st), h, c, z) := fun X hX => hX 75 hd ha hi (k X hX)
theorem ev_bald {G : ev_G} {C : ev_L} {w : Nat} {M : ev_M} {K : ev_K} {pc : Nat} {L : ev_V} {st : List Value} {h : ev_H} {c z : Nat} {a n : Nat} {f : Nat → Int32} {i : Int32} (hd : decode M.2.1 pc = .ok (.baload, 1)) (ha : h a = some (.inl (.byte, n, .inl f))) (hi : vp_in i n) (k : ev_J G C w M K ((pc + 1), L, (.int (f i.toNatClampNeg) :: st), h, c, z)) : ev_J G C w M K (pc, L, (.int i :: .ref a :: st), h, c, z) := fun X hX => hX 76 hd ha hi (k X hX)
theorem ev_zald {G : ev_G} {C : ev_L} {w : Nat} {M : ev_M} {K : ev_K} {pc : Nat} {L : ev_V} {st : List Value} {h : ev_H} {c z : Nat} {a n : Nat} {f : Nat → Int32} {i : Int32} (hd : decode M.2.1 pc = .ok (.baload, 1)) (ha : h a = some (.inl (.boolean, n, .inl f))) (hi : vp_in i n) (k : ev_J G C w M K ((pc + 1), L, (.int (f i.toNatClampNeg) :: st), h, c, z)) : ev_J G C w M K (pc, L, (.int i :: .ref a :: st), h, c, z) := fun X hX => hX 77 hd ha hi (k X hX)
theorem ev_lald {G : ev_G} {C : ev_L} {w : Nat} {M : ev_M} {K : ev_K} {pc : Nat} {L : ev_V} {st : List Value} {h : ev_H} {c z : Nat} {a n : Nat} {f : Nat → Int64} {i : Int32} (hd : decode M.2.1 pc = .ok (.laload, 1)) (ha : h a = some (.inl (.long, n, .inr (.inl f)))) (hi : vp_in i n) (k : ev_J G C w M K ((pc + 1), L, (.long (f i.toNatClampNeg) :: st), h, c, z)) : ev_J G C w M K (pc, L, (.int i :: .ref a :: st), h, c, z) := fun X hX => hX 78 hd ha hi (k X hX)
theorem ev_aald {G : ev_G} {C : ev_L} {w : Nat} {M : ev_M} {K : ev_K} {pc : Nat} {L : ev_V} {st : List Value} {h : ev_H} {c z : Nat} {a n q : Nat} {f : Nat → Option Nat} {i : Int32} (hd : decode M.2.1 pc = .ok (.aaload, 1)) (ha : h a = some (.inl (.array .int, n, .inr (.inr (.inr (.inr f)))))) (hi : vp_in i n) (hf : f i.toNatClampNeg = some q) (k : ev_J G C w M K ((pc + 1), L, (.ref q :: st), h, c, z)) : ev_J G C w M K (pc, L, (.int i :: .ref a :: st), h, c, z) := fun X hX => hX 79 hd ha hi hf (k X hX)
theorem ev_iast {G : ev_G} {C : ev_L} {w : Nat} {M : ev_M} {K : ev_K} {pc : Nat} {L : ev_V} {st : List Value} {h : ev_H} {c z : Nat} {a n : Nat} {f : Nat → Int32} {i x : Int32} (hd : decode M.2.1 pc = .ok (.iastore, 1)) (ha : h a = some (.inl (.int, n, .inl f))) (hi : vp_in i n) (k : ev_J G C w M K ((pc + 1), L, st, (ev_up h a (.inl (.int, n, .inl (upd f i.toNatClampNeg x)))), c, z)) : ev_J G C w M K (pc, L, (.int x :: .int i :: .ref a :: st), h, c, z) := fun X hX => hX 80 hd ha hi (k X hX)
theorem ev_cast {G : ev_G} {C : ev_L} {w : Nat} {M : ev_M} {K : ev_K} {pc : Nat} {L : ev_V} {st : List Value} {h : ev_H} {c z : Nat} {a n : Nat} {f : Nat → Int32} {i x : Int32} (hd : decode M.2.1 pc = .ok (.castore, 1)) (ha : h a = some (.inl (.char, n, .inl f))) (hi : vp_in i n) (k : ev_J G C w M K ((pc + 1), L, st, (ev_up h a (.inl (.char, n, .inl (upd f i.toNatClampNeg (vp_nar .char x))))), c, z)) : ev_J G C w M K (pc, L, (.int x :: .int i :: .ref a :: st), h, c, z) := fun X hX => hX 81 hd ha hi (k X hX)
theorem ev_zast {G : ev_G} {C : ev_L} {w : Nat} {M : ev_M} {K : ev_K} {pc : Nat} {L : ev_V} {st : List Value} {h : ev_H} {c z : Nat} {a n : Nat} {f : Nat → Int32} {i x : Int32} (hd : decode M.2.1 pc = .ok (.bastore, 1)) (ha : h a = some (.inl (.boolean, n, .inl f))) (hi : vp_in i n) (k : ev_J G C w M K ((pc + 1), L, st, (ev_up h a (.inl (.boolean, n, .inl (upd f i.toNatClampNeg (vp_nar .boolean x))))), c, z)) : ev_J G C w M K (pc, L, (.int x :: .int i :: .ref a :: st), h, c, z) := fun X hX => hX 82 hd ha hi (k X hX)
theorem ev_bast {G : ev_G} {C : ev_L} {w : Nat} {M : ev_M} {K : ev_K} {pc : Nat} {L : ev_V} {st : List Value} {h : ev_H} {c z : Nat} {a n : Nat} {f : Nat → Int32} {i x : Int32} (hd : decode M.2.1 pc = .ok (.bastore, 1)) (ha : h a = some (.inl (.byte, n, .inl f))) (hi : vp_in i n) (k : ev_J G C w M K ((pc + 1), L, st, (ev_up h a (.inl (.byte, n, .inl (upd f i.toNatClampNeg (vp_nar .byte x))))), c, z)) : ev_J G C w M K (pc, L, (.int x :: .int i :: .ref a :: st), h, c, z) := fun X hX => hX 83 hd ha hi (k X hX)
theorem ev_last {G : ev_G} {C : ev_L} {w : Nat} {M : ev_M} {K : ev_K} {pc : Nat} {L : ev_V} {st : List Value} {h : ev_H} {c z : Nat} {a n : Nat} {f : Nat → Int64} {i : Int32} {x : Int64} (hd : decode M.2.1 pc = .ok (.lastore, 1)) (ha : h a = some (.inl (.long, n, .inr (.inl f)))) (hi : vp_in i n) (k : ev_J G C w M K ((pc + 1), L, st, (ev_up h a (.inl (.long, n, .inr (.inl (vp_updL f i.toNatClampNeg x))))), c, z)) : ev_J G C w M K (pc, L, (.long x :: .int i :: .ref a :: st), h, c, z) := fun X hX => hX 84 hd ha hi (k X hX)
theorem ev_alen {G : ev_G} {C : ev_L} {w : Nat} {M : ev_M} {K : ev_K} {pc : Nat} {L : ev_V} {st : List Value} {h : ev_H} {c z : Nat} {a : Nat} {ft : FieldType} {x : vp_A} (hd : decode M.2.1 pc = .ok (.arraylength, 1)) (ha : h a = some (.inl (ft, x))) (k : ev_J G C w M K ((pc + 1), L, (.int (nI x.1) :: st), h, c, z)) : ev_J G C w M K (pc, L, (.ref a :: st), h, c, z) := fun X hX => hX 85 hd ha (k X hX)
theorem ev_riald {G : ev_G} {C : ev_L} {w : Nat} {M : ev_M} {K : ev_K} {pc : Nat} {L : ev_V} {st : List Value} {h : ev_H} {c z : Nat} {a n : Nat} {f : Nat → Int32} {i : Int32} (hd : decode M.2.1 pc = .ok (.iaload, 1)) (ha : G.1 a = some (n, f)) (hi : vp_in i n) (k : ev_J G C w M K ((pc + 1), L, (.int (f i.toNatClampNeg) :: st), h, c, z)) : ev_J G C w M K (pc, L, (.int i :: .ref a :: st), h, c, z) := fun X hX => hX 86 hd ha hi (k X hX)
theorem ev_ralen {G : ev_G} {C : ev_L} {w : Nat} {M : ev_M} {K : ev_K} {pc : Nat} {L : ev_V} {st : List Value} {h : ev_H} {c z : Nat} {a n : Nat} {f : Nat → Int32} (hd : decode M.2.1 pc = .ok (.arraylength, 1)) (ha : G.1 a = some (n, f)) (k : ev_J G C w M K ((pc + 1), L, (.int (nI n) :: st), h, c, z)) : ev_J G C w M K (pc, L, (.ref a :: st), h, c, z) := fun X hX => hX 87 hd ha (k X hX)
theorem ev_gets {G : ev_G} {C : ev_L} {w : Nat} {M : ev_M} {K : ev_K} {pc : Nat} {L : ev_V} {st : List Value} {h : ev_H} {c z : Nat} {i : Nat} {Cn n d : String} {a : Nat} (hd : decode M.2.1 pc = .ok (.getstatic i, 3)) (hw : Cond.fieldLink M.1.cls i Cn n d ∈ ev_ws) (ha : G.2 Cn n d = some a) (k : ev_J G C w M K ((pc + 3), L, (.ref a :: st), h, c, z)) : ev_J G C w M K (pc, L, st, h, c, z) := fun X hX => hX 88 hd hw ha (k X hX)
theorem ev_getf {G : ev_G} {C : ev_L} {w : Nat} {M : ev_M} {K : ev_K} {pc : Nat} {L : ev_V} {st : List Value} {h : ev_H} {c z : Nat} {i a ci kf : Nat} {fs : List Value} {v : Value} (hd : decode M.2.1 pc = .ok (.getfield i, 3)) (hw : ev_fl M.1.cls i ci kf) (ha : h a = some (.inr (ci, fs))) (hv : fs[kf]? = some v) (k : ev_J G C w M K ((pc + 3), L, (v :: st), h, c, z)) : ev_J G C w M K (pc, L, (.ref a :: st), h, c, z) := fun X hX => hX 89 hd hw ha hv (k X hX)
theorem ev_putf {G : ev_G} {C : ev_L} {w : Nat} {M : ev_M} {K : ev_K} {pc : Nat} {L : ev_V} {st : List Value} {h : ev_H} {c z : Nat} {i a ci kf : Nat} {ty : FieldType} {fs : List Value} {v : Value} (hd : decode M.2.1 pc = .ok (.putfield i, 3)) (hw : ev_fp M.1.cls i ci kf ty) (ha : h a = some (.inr (ci, fs))) (hl1 : Nat.blt kf fs.length = true) (hn : narrow ty v = v) (hf : fits ty v = true) (k : ev_J G C w M K ((pc + 3), L, st, (ev_up h a (.inr (ci, fs.set kf v))), c, z)) : ev_J G C w M K (pc, L, (v :: .ref a :: st), h, c, z) := fun X hX => hX 90 hd hw ha hl1 hn hf (k X hX)
theorem ev_putF {G : ev_G} {C : ev_L} {w : Nat} {M : ev_M} {K : ev_K} {pc : Nat} {L : ev_V} {st : List Value} {h : ev_H} {c z : Nat} {i a ci kf : Nat} {ty : FieldType} {fs : List Value} {v : Value} (hd : decode M.2.1 pc = .ok (.putfield i, 3)) (hw : ev_fF M.1.cls i ci kf ty) (hi : M.1.name = "<init>") (ha : h a = some (.inr (ci, fs))) (hl1 : Nat.blt kf fs.length = true) (hn : narrow ty v = v) (hf : fits ty v = true) (k : ev_J G C w M K ((pc + 3), L, st, (ev_up h a (.inr (ci, fs.set kf v))), c, z)) : ev_J G C w M K (pc, L, (v :: .ref a :: st), h, c, z) := fun X hX => hX 91 hd hw hi ha hl1 hn hf (k X hX)
theorem ev_newi {G : ev_G} {C : ev_L} {w : Nat} {M : ev_M} {K : ev_K} {pc : Nat} {L : ev_V} {st : List Value} {h : ev_H} {c z : Nat} {n : Int32} {N : Nat} (hd : decode M.2.1 pc = .ok (.newarray .int, 2)) (hw : Cond.arrayClass .int ∈ ev_ws) (hn : ¬ n < 0) (hN : n.toNatClampNeg = N) (hB : N ≤ 60000000) (k : (∀ q, h q = none → ev_J G C w M K ((pc + 2), L, (.ref q :: st), (ev_up h q (.inl (.int, N, .inl (fun _ => 0)))), c, z))) : ev_J G C w M K (pc, L, (.int n :: st), h, (c + 1), (z + N)) := fun X hX => hX 92 hd hw hn hN hB (fun q hq => k q hq X hX)
theorem ev_newc {G : ev_G} {C : ev_L} {w : Nat} {M : ev_M} {K : ev_K} {pc : Nat} {L : ev_V} {st : List Value} {h : ev_H} {c z : Nat} {n : Int32} {N : Nat} (hd : decode M.2.1 pc = .ok (.newarray .char, 2)) (hw : Cond.arrayClass .char ∈ ev_ws) (hn : ¬ n < 0) (hN : n.toNatClampNeg = N) (hB : N ≤ 60000000) (k : (∀ q, h q = none → ev_J G C w M K ((pc + 2), L, (.ref q :: st), (ev_up h q (.inl (.char, N, .inl (fun _ => 0)))), c, z))) : ev_J G C w M K (pc, L, (.int n :: st), h, (c + 1), (z + N)) := fun X hX => hX 93 hd hw hn hN hB (fun q hq => k q hq X hX)
theorem ev_newl {G : ev_G} {C : ev_L} {w : Nat} {M : ev_M} {K : ev_K} {pc : Nat} {L : ev_V} {st : List Value} {h : ev_H} {c z : Nat} {n : Int32} {N : Nat} (hd : decode M.2.1 pc = .ok (.newarray .long, 2)) (hw : Cond.arrayClass .long ∈ ev_ws) (hn : ¬ n < 0) (hN : n.toNatClampNeg = N) (hB : N ≤ 60000000) (k : (∀ q, h q = none → ev_J G C w M K ((pc + 2), L, (.ref q :: st), (ev_up h q (.inl (.long, N, .inr (.inl (fun _ => 0))))), c, z))) : ev_J G C w M K (pc, L, (.int n :: st), h, (c + 1), (z + N)) := fun X hX => hX 94 hd hw hn hN hB (fun q hq => k q hq X hX)
theorem ev_newz {G : ev_G} {C : ev_L} {w : Nat} {M : ev_M} {K : ev_K} {pc : Nat} {L : ev_V} {st : List Value} {h : ev_H} {c z : Nat} {n : Int32} {N : Nat} (hd : decode M.2.1 pc = .ok (.newarray .boolean, 2)) (hw : Cond.arrayClass .boolean ∈ ev_ws) (hn : ¬ n < 0) (hN : n.toNatClampNeg = N) (hB : N ≤ 60000000) (k : (∀ q, h q = none → ev_J G C w M K ((pc + 2), L, (.ref q :: st), (ev_up h q (.inl (.boolean, N, .inl (fun _ => 0)))), c, z))) : ev_J G C w M K (pc, L, (.int n :: st), h, (c + 1), (z + N)) := fun X hX => hX 95 hd hw hn hN hB (fun q hq => k q hq X hX)
theorem ev_new {G : ev_G} {C : ev_L} {w : Nat} {M : ev_M} {K : ev_K} {pc : Nat} {L : ev_V} {st : List Value} {h : ev_H} {c z : Nat} {i ci N : Nat} {fs : List Value} (hd : decode M.2.1 pc = .ok (.new i, 3)) (hw : ev_nw M.1.cls i ci N fs) (k : (∀ q, h q = none → ev_J G C w M K ((pc + 3), L, (.ref q :: st), (ev_up h q (.inr (ci, fs))), c, z))) : ev_J G C w M K (pc, L, st, h, (c + 1), (z + N)) := fun X hX => hX 96 hd hw (fun q hq => k q hq X hX)
theorem ev_iret {G : ev_G} {C : ev_L} {w : Nat} {M : ev_M} {K : ev_K} {pc : Nat} {L : ev_V} {h : ev_H} {c z : Nat} {x : Int32} {ty : FieldType} (hd : decode M.2.1 pc = .ok (.ireturn, 1)) (hr1 : M.2.2.2 = some ty) (hn : narrow ty (.int x) = .int x) (hk : K (.inl (some (.int x))) h)  : ev_J G C w M K (pc, L, [.int x], h, c, z) := fun X hX => hX 97 hd hr1 hn hk 
theorem ev_lret {G : ev_G} {C : ev_L} {w : Nat} {M : ev_M} {K : ev_K} {pc : Nat} {L : ev_V} {h : ev_H} {c z : Nat} {x : Int64} (hd : decode M.2.1 pc = .ok (.lreturn, 1)) (hr1 : M.2.2.2 = some .long) (hk : K (.inl (some (.long x))) h)  : ev_J G C w M K (pc, L, [.long x], h, c, z) := fun X hX => hX 98 hd hr1 hk 
theorem ev_aret {G : ev_G} {C : ev_L} {w : Nat} {M : ev_M} {K : ev_K} {pc : Nat} {L : ev_V} {h : ev_H} {c z : Nat} {x : Nat} {ty : FieldType} (hd : decode M.2.1 pc = .ok (.areturn, 1)) (hr1 : M.2.2.2 = some ty) (hrt : (∃ n, ty = .object n) ∨ ∃ t, ty = .array t) (hk : K (.inl (some (.ref x))) h)  : ev_J G C w M K (pc, L, [.ref x], h, c, z) := fun X hX => hX 99 hd hr1 hrt hk 
theorem ev_vret {G : ev_G} {C : ev_L} {w : Nat} {M : ev_M} {K : ev_K} {pc : Nat} {L : ev_V} {h : ev_H} {c z : Nat} (hd : decode M.2.1 pc = .ok (.return_, 1)) (hr1 : M.2.2.2 = none) (hk : K (.inl none) h)  : ev_J G C w M K (pc, L, [], h, c, z) := fun X hX => hX 100 hd hr1 hk 
theorem ev_stop {G : ev_G} {C : ev_L} {w : Nat} {M : ev_M} {K : ev_K} {pc : Nat} {L : ev_V} {st : List Value} {h : ev_H} {c z : Nat} (hk : K (.inr (pc, st, c, z)) h)  : ev_J G C w M K (pc, L, st, h, c, z) := fun X hX => hX 101 hk 
theorem ev_callV {G : ev_G} {C : ev_L} {w : Nat} {M : ev_M} {K : ev_K} {pc : Nat} {L : ev_V} {st : List Value} {h : ev_H} {c z : Nat} {i c1 z1 : Nat} {b : Nat} {ci : Nat} {fs : List Value} {N : ev_M} {As stk : List Value} {post : Option Value → ev_H → Prop} (hd : decode M.2.1 pc = .ok (.invokevirtual i, 3)) (hw : ev_cv M.1.cls i N As.length) (hs : stk = As.reverse ++ .ref b :: st) (hq : Nat.ble ((st.map (fun v => v.category)).sum) 8 = true) (hb1 : h b = some (.inr (ci, fs))) (hci : (classes[ci]?).map (fun q => q.1) = some N.1.cls) (hC : C N (.ref b :: As) h c1 z1 (ev_ok post)) (hc1 : Nat.ble c1 c = true) (hz1 : Nat.ble z1 z = true) (k : (∀ r h1, post r h1 → ev_J G C w M K (pc + 3, L, r.toList ++ st, h1, c - c1, z - z1))) : ev_J G C w M K (pc, L, stk, h, c, z) := fun X hX => hX 102 hd hw hs hq hb1 hci hC hc1 hz1 (fun r h1 hp => k r h1 hp X hX)
theorem ev_callS {G : ev_G} {C : ev_L} {w : Nat} {M : ev_M} {K : ev_K} {pc : Nat} {L : ev_V} {st : List Value} {h : ev_H} {c z : Nat} {i c1 z1 : Nat} {N : ev_M} {As stk : List Value} {post : Option Value → ev_H → Prop} (hd : decode M.2.1 pc = .ok (.invokestatic i, 3)) (hw : ev_cs M.1.cls i N As.length) (hs : stk = As.reverse ++ st) (hq : Nat.ble ((st.map (fun v => v.category)).sum) 8 = true) (hC : C N As h c1 z1 (ev_ok post)) (hc1 : Nat.ble c1 c = true) (hz1 : Nat.ble z1 z = true) (k : (∀ r h1, post r h1 → ev_J G C w M K (pc + 3, L, r.toList ++ st, h1, c - c1, z - z1))) : ev_J G C w M K (pc, L, stk, h, c, z) := fun X hX => hX 103 hd hw hs hq hC hc1 hz1 (fun r h1 hp => k r h1 hp X hX)
theorem ev_callI {G : ev_G} {C : ev_L} {w : Nat} {M : ev_M} {K : ev_K} {pc : Nat} {L : ev_V} {st : List Value} {h : ev_H} {c z : Nat} {i c1 z1 : Nat} {b : Nat} {N : ev_M} {As stk : List Value} {post : Option Value → ev_H → Prop} (hd : decode M.2.1 pc = .ok (.invokespecial i, 3)) (hw : ev_ci M.1.cls i N As.length) (hs : stk = As.reverse ++ .ref b :: st) (hq : Nat.ble ((st.map (fun v => v.category)).sum) 8 = true) (hC : C N (.ref b :: As) h c1 z1 (ev_ok post)) (hc1 : Nat.ble c1 c = true) (hz1 : Nat.ble z1 z = true) (k : (∀ r h1, post r h1 → ev_J G C w M K (pc + 3, L, r.toList ++ st, h1, c - c1, z - z1))) : ev_J G C w M K (pc, L, stk, h, c, z) := fun X hX => hX 104 hd hw hs hq hC hc1 hz1 (fun r h1 hp => k r h1 hp X hX)
theorem ev_callIN {G : ev_G} {C : ev_L} {w : Nat} {M : ev_M} {K : ev_K} {pc : Nat} {L : ev_V} {st : List Value} {h : ev_H} {c z : Nat} {i c1 z1 : Nat} {b : Nat} {N : ev_M} {As stk : List Value} {post : Option Value → ev_H → Prop} (hd : decode M.2.1 pc = .ok (.invokespecial i, 3)) (hw : ev_cin M.1.cls i N As.length) (hs : stk = As.reverse ++ .ref b :: st) (hq : Nat.ble ((st.map (fun v => v.category)).sum) 8 = true) (hC : C N (.ref b :: As) h c1 z1 (ev_ok post)) (hc1 : Nat.ble c1 c = true) (hz1 : Nat.ble z1 z = true) (k : (∀ r h1, post r h1 → ev_J G C w M K (pc + 3, L, r.toList ++ st, h1, c - c1, z - z1))) : ev_J G C w M K (pc, L, stk, h, c, z) := fun X hX => hX 105 hd hw hs hq hC hc1 hz1 (fun r h1 hp => k r h1 hp X hX)
theorem ev_callVf {G : ev_G} {C : ev_L} {w : Nat} {M : ev_M} {K : ev_K} {pc : Nat} {L : ev_V} {st : List Value} {h : ev_H} {c z : Nat} {i c1 z1 : Nat} {b : Nat} {ci : Nat} {fs : List Value} {N : ev_M} {As stk : List Value} {post : Option Value → ev_H → Prop} {hs hf : ev_H} (hd : decode M.2.1 pc = .ok (.invokevirtual i, 3)) (hw : ev_cv M.1.cls i N As.length) (hsk : stk = As.reverse ++ .ref b :: st) (hq : Nat.ble ((st.map (fun v => v.category)).sum) 8 = true) (hb1 : hs b = some (.inr (ci, fs))) (hci : (classes[ci]?).map (fun q => q.1) = some N.1.cls) (hC : C N (.ref b :: As) hs c1 z1 (ev_ok post)) (hc1 : Nat.ble c1 c = true) (hz1 : Nat.ble z1 z = true) (hj : h = ev_jn hs hf) (hdj : ∀ a x, hf a = some x → hs a = none) (k : (∀ r h1, post r h1 → (∀ a x, hf a = some x → h1 a = none) → ev_J G C w M K (pc + 3, L, r.toList ++ st, ev_jn h1 hf, c - c1, z - z1))) : ev_J G C w M K (pc, L, stk, h, c, z) := fun X hX => hX 106 hd hw hsk hq hb1 hci hC hc1 hz1 hj hdj (fun r h1 hp hq => k r h1 hp hq X hX)
theorem ev_callIf {G : ev_G} {C : ev_L} {w : Nat} {M : ev_M} {K : ev_K} {pc : Nat} {L : ev_V} {st : List Value} {h : ev_H} {c z : Nat} {i c1 z1 : Nat} {b : Nat} {N : ev_M} {As stk : List Value} {post : Option Value → ev_H → Prop} {hs hf : ev_H} (hd : decode M.2.1 pc = .ok (.invokespecial i, 3)) (hw : ev_ci M.1.cls i N As.length) (hsk : stk = As.reverse ++ .ref b :: st) (hq : Nat.ble ((st.map (fun v => v.category)).sum) 8 = true) (hC : C N (.ref b :: As) hs c1 z1 (ev_ok post)) (hc1 : Nat.ble c1 c = true) (hz1 : Nat.ble z1 z = true) (hj : h = ev_jn hs hf) (hdj : ∀ a x, hf a = some x → hs a = none) (k : (∀ r h1, post r h1 → (∀ a x, hf a = some x → h1 a = none) → ev_J G C w M K (pc + 3, L, r.toList ++ st, ev_jn h1 hf, c - c1, z - z1))) : ev_J G C w M K (pc, L, stk, h, c, z) := fun X hX => hX 107 hd hw hsk hq hC hc1 hz1 hj hdj (fun r h1 hp hq => k r h1 hp hq X hX)
theorem ev_callSW {G : ev_G} {C : ev_L} {w : Nat} {M : ev_M} {K : ev_K} {pc : Nat} {L : ev_V} {st : List Value} {h : ev_H} {c z : Nat} {i c1 z1 : Nat} {N : ev_M} {As stk : List Value} {post : Option Value → ev_H → Prop} {hh : List (Nat × Nat × Nat × Nat)} (hd : decode M.2.1 pc = .ok (.invokestatic i, 3)) (hw : ev_csw M.1.cls i N hh As.length) (hs : stk = As.reverse ++ st) (hq : Nat.ble ((st.map (fun v => v.category)).sum) 8 = true) (hC : C N As h c1 z1 (ev_ok post)) (hc1 : Nat.ble c1 c = true) (hz1 : Nat.ble z1 z = true) (k : (∀ r h1, post r h1 → ev_J G C w M K (pc + 3, L, r.toList ++ st, h1, c - c1, z - z1))) : ev_J G C w M K (pc, L, stk, h, c, z) := fun X hX => hX 108 hd hw hs hq hC hc1 hz1 (fun r h1 hp => k r h1 hp X hX)
theorem ev_callSWf {G : ev_G} {C : ev_L} {w : Nat} {M : ev_M} {K : ev_K} {pc : Nat} {L : ev_V} {st : List Value} {h : ev_H} {c z : Nat} {i c1 z1 : Nat} {N : ev_M} {As stk : List Value} {post : Option Value → ev_H → Prop} {hh : List (Nat × Nat × Nat × Nat)} {hs hf : ev_H} (hd : decode M.2.1 pc = .ok (.invokestatic i, 3)) (hw : ev_csw M.1.cls i N hh As.length) (hsk : stk = As.reverse ++ st) (hq : Nat.ble ((st.map (fun v => v.category)).sum) 8 = true) (hC : C N As hs c1 z1 (ev_ok post)) (hc1 : Nat.ble c1 c = true) (hz1 : Nat.ble z1 z = true) (hj : h = ev_jn hs hf) (hdj : ∀ a x, hf a = some x → hs a = none) (k : (∀ r h1, post r h1 → (∀ a x, hf a = some x → h1 a = none) → ev_J G C w M K (pc + 3, L, r.toList ++ st, ev_jn h1 hf, c - c1, z - z1))) : ev_J G C w M K (pc, L, stk, h, c, z) := fun X hX => hX 109 hd hw hsk hq hC hc1 hz1 hj hdj (fun r h1 hp hq => k r h1 hp hq X hX)
theorem ev_objInit {G : ev_G} {C : ev_L} {w : Nat} {M : ev_M} {K : ev_K} {pc : Nat} {L : ev_V} {st : List Value} {h : ev_H} {c z : Nat} {i a : Nat} (hd : decode M.2.1 pc = .ok (.invokespecial i, 3)) (hw : Cond.methodLink M.1.cls i Lib.objectInit ∈ ev_ws ∧ Cond.instanceMethod Lib.objectInit ∈ ev_ws ∧ Cond.code Lib.objectInit ⟨#[0xb1]⟩ 1 none ∈ ev_ws) (hq : Nat.ble ((st.map (fun v => v.category)).sum) 8 = true) (hw9 : 20 ≤ w) (k : ev_J G C w M K ((pc + 3), L, st, h, c, z)) : ev_J G C w M K (pc, L, (.ref a :: st), h, c, z) := fun X hX => hX 110 hd hw hq hw9 (k X hX)
theorem ev_mmax {G : ev_G} {C : ev_L} {w : Nat} {M : ev_M} {K : ev_K} {pc : Nat} {L : ev_V} {st : List Value} {h : ev_H} {c z : Nat} {i : Nat} {x y : Int32} (hd : decode M.2.1 pc = .ok (.invokestatic i, 3)) (hw : Cond.methodLink M.1.cls i Lib.Math.max.name ∈ ev_ws ∧ Cond.static Lib.Math.max.name ∈ ev_ws ∧ Cond.initialized "java/lang/Math" ∈ ev_ws ∧ Cond.code Lib.Math.max.name Lib.Math.max.code 2 (some .int) ∈ ev_ws) (hq : Nat.ble ((st.map (fun v => v.category)).sum) 8 = true) (hw9 : 23 ≤ w) (k : ev_J G C w M K ((pc + 3), L, (.int (if x < y then y else x) :: st), h, c, z)) : ev_J G C w M K (pc, L, (.int y :: .int x :: st), h, c, z) := fun X hX => hX 111 hd hw hq hw9 (k X hX)
theorem ev_mmin {G : ev_G} {C : ev_L} {w : Nat} {M : ev_M} {K : ev_K} {pc : Nat} {L : ev_V} {st : List Value} {h : ev_H} {c z : Nat} {i : Nat} {x y : Int32} (hd : decode M.2.1 pc = .ok (.invokestatic i, 3)) (hw : Cond.methodLink M.1.cls i Lib.Math.min.name ∈ ev_ws ∧ Cond.static Lib.Math.min.name ∈ ev_ws ∧ Cond.initialized "java/lang/Math" ∈ ev_ws ∧ Cond.code Lib.Math.min.name Lib.Math.min.code 2 (some .int) ∈ ev_ws) (hq : Nat.ble ((st.map (fun v => v.category)).sum) 8 = true) (hw9 : 23 ≤ w) (k : ev_J G C w M K ((pc + 3), L, (.int (if y < x then y else x) :: st), h, c, z)) : ev_J G C w M K (pc, L, (.int y :: .int x :: st), h, c, z) := fun X hX => hX 112 hd hw hq hw9 (k X hX)
theorem ev_mmaxl {G : ev_G} {C : ev_L} {w : Nat} {M : ev_M} {K : ev_K} {pc : Nat} {L : ev_V} {st : List Value} {h : ev_H} {c z : Nat} {i : Nat} {x y : Int64} (hd : decode M.2.1 pc = .ok (.invokestatic i, 3)) (hw : Cond.methodLink M.1.cls i Lib.MathLoose.max_long.x ∈ ev_ws ∧ Cond.static Lib.MathLoose.max_long.x ∈ ev_ws ∧ Cond.initialized "java/lang/Math" ∈ ev_ws ∧ Cond.code Lib.MathLoose.max_long.x Lib.MathLoose.max_long.code 4 (some .long) ∈ ev_ws) (hq : Nat.ble ((st.map (fun v => v.category)).sum) 8 = true) (hw9 : 23 ≤ w) (k : ev_J G C w M K ((pc + 3), L, (.long (if y < x then x else y) :: st), h, c, z)) : ev_J G C w M K (pc, L, (.long y :: .long x :: st), h, c, z) := fun X hX => hX 113 hd hw hq hw9 (k X hX)
theorem ev_mminl {G : ev_G} {C : ev_L} {w : Nat} {M : ev_M} {K : ev_K} {pc : Nat} {L : ev_V} {st : List Value} {h : ev_H} {c z : Nat} {i : Nat} {x y : Int64} (hd : decode M.2.1 pc = .ok (.invokestatic i, 3)) (hw : Cond.methodLink M.1.cls i Lib.MathLoose.min_long.x ∈ ev_ws ∧ Cond.static Lib.MathLoose.min_long.x ∈ ev_ws ∧ Cond.initialized "java/lang/Math" ∈ ev_ws ∧ Cond.code Lib.MathLoose.min_long.x Lib.MathLoose.min_long.code 4 (some .long) ∈ ev_ws) (hq : Nat.ble ((st.map (fun v => v.category)).sum) 8 = true) (hw9 : 23 ≤ w) (k : ev_J G C w M K ((pc + 3), L, (.long (if y < x then y else x) :: st), h, c, z)) : ev_J G C w M K (pc, L, (.long y :: .long x :: st), h, c, z) := fun X hX => hX 114 hd hw hq hw9 (k X hX)
theorem ev_copyi {G : ev_G} {C : ev_L} {w : Nat} {M : ev_M} {K : ev_K} {pc : Nat} {L : ev_V} {st : List Value} {h : ev_H} {c z : Nat} {i a0 a n0 n1 : Nat} {f g : Nat → Int32} {sp dp n : Int32} (hd : decode M.2.1 pc = .ok (.invokestatic i, 3)) (hw : Cond.methodLink M.1.cls i arraycopyName ∈ ev_ws ∧ Cond.native arraycopyName ∈ ev_ws ∧ Cond.static arraycopyName ∈ ev_ws ∧ Cond.initialized "java/lang/System" ∈ ev_ws) (hq : Nat.ble ((st.map (fun v => v.category)).sum) 8 = true) (hw9 : 26 ≤ w) (ha0 : h a0 = some (.inl (.int, n0, .inl f))) (ha : h a = some (.inl (.int, n1, .inl g))) (h1 : ¬ sp < 0) (h2 : ¬ dp < 0) (h3 : ¬ n < 0) (h4 : sp.toNatClampNeg + n.toNatClampNeg ≤ n0) (h5 : dp.toNatClampNeg + n.toNatClampNeg ≤ n1) (k : ev_J G C w M K ((pc + 3), L, st, (ev_up h a (.inl (.int, n1, .inl (va_cpy f g sp.toNatClampNeg dp.toNatClampNeg n.toNatClampNeg)))), c, z)) : ev_J G C w M K (pc, L, (.int n :: .int dp :: .ref a :: .int sp :: .ref a0 :: st), h, c, z) := fun X hX => hX 115 hd hw hq hw9 ha0 ha h1 h2 h3 h4 h5 (k X hX)
theorem ev_copyl {G : ev_G} {C : ev_L} {w : Nat} {M : ev_M} {K : ev_K} {pc : Nat} {L : ev_V} {st : List Value} {h : ev_H} {c z : Nat} {i a0 a n0 n1 : Nat} {f g : Nat → Int64} {sp dp n : Int32} (hd : decode M.2.1 pc = .ok (.invokestatic i, 3)) (hw : Cond.methodLink M.1.cls i arraycopyName ∈ ev_ws ∧ Cond.native arraycopyName ∈ ev_ws ∧ Cond.static arraycopyName ∈ ev_ws ∧ Cond.initialized "java/lang/System" ∈ ev_ws) (hq : Nat.ble ((st.map (fun v => v.category)).sum) 8 = true) (hw9 : 26 ≤ w) (ha0 : h a0 = some (.inl (.long, n0, .inr (.inl f)))) (ha : h a = some (.inl (.long, n1, .inr (.inl g)))) (h1 : ¬ sp < 0) (h2 : ¬ dp < 0) (h3 : ¬ n < 0) (h4 : sp.toNatClampNeg + n.toNatClampNeg ≤ n0) (h5 : dp.toNatClampNeg + n.toNatClampNeg ≤ n1) (k : ev_J G C w M K ((pc + 3), L, st, (ev_up h a (.inl (.long, n1, .inr (.inl (va_cpy f g sp.toNatClampNeg dp.toNatClampNeg n.toNatClampNeg))))), c, z)) : ev_J G C w M K (pc, L, (.int n :: .int dp :: .ref a :: .int sp :: .ref a0 :: st), h, c, z) := fun X hX => hX 116 hd hw hq hw9 ha0 ha h1 h2 h3 h4 h5 (k X hX)
theorem ev_wk {G : ev_G} {C : ev_L} {w : Nat} {M : ev_M} {K : ev_K} {pc : Nat} {L : ev_V} {st : List Value} {h : ev_H} {c z : Nat} {L2 : ev_V} (hw : ∀ i v, L2 i = some v → L i = some v) (k : ev_J G C w M K (pc, L2, st, h, c, z)) : ev_J G C w M K (pc, L, st, h, c, z) := fun X hX => hX 117 hw (k X hX)
theorem ev_hw {G : ev_G} {C : ev_L} {w : Nat} {M : ev_M} {K : ev_K} {pc : Nat} {L : ev_V} {st : List Value} {h : ev_H} {c z : Nat} {h2 : ev_H} (hw : ∀ q x, h2 q = some x → h q = some x) (k : ev_J G C w M K (pc, L, st, h2, c, z)) : ev_J G C w M K (pc, L, st, h, c, z) := fun X hX => hX 118 hw (k X hX)
theorem ev_cw {G : ev_G} {C : ev_L} {w : Nat} {M : ev_M} {K : ev_K} {pc : Nat} {L : ev_V} {st : List Value} {h : ev_H} {c z : Nat} {c2 z2 : Nat} (h1 : c2 ≤ c) (h2 : z2 ≤ z) (k : ev_J G C w M K (pc, L, st, h, c2, z2)) : ev_J G C w M K (pc, L, st, h, c, z) := fun X hX => hX 119 h1 h2 (k X hX)
end
section
/-! THE MACHINE KEEPS THE RULES (written by wip/whole/gen/ev.py) -/
/-- a cell of the light heap and a cell of the kit's world -/
def ev_m (tys : List (ClassId × FieldType)) (c : ev_C) (e : va_E) : Prop := match c, e with
  | .inl (ty, a), .inl (cA, b) => a = b ∧ ∃ t : Nat, tys[t]? = some (cA, ty)
  | .inr x, .inr y => x = y
  | _, _ => False
def ev_hr (tys : List (ClassId × FieldType)) (h : ev_H) (ws : va_W) : Prop := ∀ q c, h q = some c → ∃ (k : Nat) (e : va_E), ws[k]? = some (q, e) ∧ ev_m tys c e
def ev_rel (D : va_G) (A : Nat → Prop) (s : State) (h : ev_H) (H : Heap) : Prop := ∃ (ws : va_W) (tys : List (ClassId × FieldType)), va_P D classes ws H ∧ va_K D classes tys s ∧ va_D A ws ∧ ev_hr tys h ws
theorem ev_arr {tys : List (ClassId × FieldType)} {h : ev_H} {ws : va_W} (hR : ev_hr tys h ws) {a : Nat} {ty : FieldType} {x : vp_A} (ha : h a = some (.inl (ty, x))) : ∃ (q0 : Nat) (cA : ClassId) (t0 : Nat), ws[q0]? = some (a, .inl (cA, x)) ∧ tys[t0]? = some (cA, ty) := by
  obtain ⟨k, e, h1, h2⟩ := hR a _ ha
  cases e with
  | inl y => obtain ⟨cA, b⟩ := y; obtain ⟨h3, t, h4⟩ := h2; subst h3; exact ⟨k, cA, t, h1, h4⟩
  | inr y => exact h2.elim
theorem ev_obj {tys : List (ClassId × FieldType)} {h : ev_H} {ws : va_W} (hR : ev_hr tys h ws) {a : Nat} {x : Nat × List Value} (ha : h a = some (.inr x)) : ∃ q0 : Nat, ws[q0]? = some (a, .inr x) := by
  obtain ⟨k, e, h1, h2⟩ := hR a _ ha
  cases e with
  | inl y => exact h2.elim
  | inr y => cases (show x = y from h2); exact ⟨k, h1⟩
theorem ev_set {A : Nat → Prop} {tys : List (ClassId × FieldType)} {h : ev_H} {ws : va_W} (hD : va_D A ws) (hR : ev_hr tys h ws) {q0 a : Nat} {e0 e : va_E} (h1 : ws[q0]? = some (a, e0)) {c : ev_C} (hm : ev_m tys c e) : ev_hr tys (ev_up h a c) (ws.set q0 (a, e)) := by
  have hlt : q0 < ws.length := (List.getElem?_eq_some_iff.mp h1).1
  intro q x hq
  unfold ev_up at hq
  by_cases hqa : q = a
  · subst hqa
    rw [if_pos rfl] at hq
    cases hq
    exact ⟨q0, e, by simp [hlt], hm⟩
  · rw [if_neg hqa] at hq
    obtain ⟨k, e2, h3, h4⟩ := hR q x hq
    refine ⟨k, e2, ?_, h4⟩
    have hk : q0 ≠ k := by
      intro hk
      subst hk
      rw [h1] at h3
      exact hqa (by cases h3; rfl)
    rw [List.getElem?_set_ne hk]
    exact h3
theorem ev_mono {tys t2 : List (ClassId × FieldType)} {c : ev_C} {e : va_E} (h : ev_m tys c e) : ev_m (tys ++ t2) c e := by
  cases c with
  | inl x =>
    cases e with
    | inl y =>
      obtain ⟨h1, t, h2⟩ := h
      exact ⟨h1, t, by rw [List.getElem?_append_left (List.getElem?_eq_some_iff.mp h2).1]; exact h2⟩
    | inr y => exact h.elim
  | inr x =>
    cases e with
    | inl y => exact h.elim
    | inr y => exact h
theorem ev_lastty {tys : List (ClassId × FieldType)} {q : ClassId × FieldType} : ∃ t : Nat, (tys ++ [q])[t]? = some q := ⟨tys.length, by simp⟩
theorem ev_push {D : va_G} {A : Nat → Prop} {tys tys2 : List (ClassId × FieldType)} {h : ev_H} {ws : va_W} {H : Heap} {q : Nat} {e : va_E} (_hP : va_P D classes ws H) (hD : va_D A ws) (hD1 : va_D A (ws ++ [(q, e)])) (hR : ev_hr tys h ws) {c : ev_C} (hm : ev_m (tys ++ tys2) c e) : h q = none ∧ ev_hr (tys ++ tys2) (ev_up h q c) (ws ++ [(q, e)]) := by
  have hn : h q = none := by
    cases hh : h q with
    | none => rfl
    | some x =>
      obtain ⟨k, e2, h1, -⟩ := hR q x hh
      have hk : k < ws.length := (List.getElem?_eq_some_iff.mp h1).1
      have h2 : (ws ++ [(q, e)])[k]? = some (q, e2) := by rw [List.getElem?_append_left hk]; exact h1
      have h3 : (ws ++ [(q, e)])[ws.length]? = some (q, e) := by simp
      have := hD1.1 k ws.length _ _ h2 h3 rfl
      omega
  refine ⟨hn, ?_⟩
  intro a x ha
  unfold ev_up at ha
  by_cases hqa : a = q
  · subst hqa
    rw [if_pos rfl] at ha
    cases ha
    exact ⟨ws.length, e, by simp, hm⟩
  · rw [if_neg hqa] at ha
    obtain ⟨k, e2, h1, h2⟩ := hR a x ha
    exact ⟨k, e2, by rw [List.getElem?_append_left (List.getElem?_eq_some_iff.mp h1).1]; exact h1, ev_mono h2⟩
/-- locals -/
def ev_lr (ls : Array Slot) (nL : Nat) (L : ev_V) : Prop := ∃ lv : List (Nat × Value), lv_has ls nL lv ∧ ∀ i v, L i = some v → (i, v) ∈ lv
theorem ev_lr.at {ls : Array Slot} {nL : Nat} {L : ev_V} (h : ev_lr ls nL L) {i : Nat} {v : Value} (hv : L i = some v) : ls[i]? = some (.val v) := by
  obtain ⟨lv, h1, h2⟩ := h
  exact h1.2.2 _ (h2 i v hv)
theorem ev_lr.size {ls : Array Slot} {nL : Nat} {L : ev_V} (h : ev_lr ls nL L) : ls.size = nL := by
  obtain ⟨lv, h1, -⟩ := h
  exact h1.1
theorem ev_lt1 {L : ev_V} {lv : List (Nat × Value)} (h : ∀ i v, L i = some v → (i, v) ∈ lv) {ls : Array Slot} {nL i : Nat} {v : Value} (hl : lv_has ls nL ((i, v) :: lv.filter (fun q => !(q.1 == i) && !(q.1 + 1 == i && q.2.category == 2)))) : ev_lr ls nL (ev_s1 L i v) := by
  refine ⟨_, hl, fun j w hw => ?_⟩
  unfold ev_s1 at hw
  by_cases h1 : j = i
  · rw [if_pos h1] at hw; cases hw; rw [h1]; exact List.mem_cons_self
  · rw [if_neg h1] at hw
    refine List.mem_cons_of_mem _ (List.mem_filter.mpr ?_)
    by_cases h2 : j + 1 = i
    · rw [if_pos h2] at hw
      cases hL : L j with
      | none => rw [hL] at hw; cases hw
      | some w2 =>
        rw [hL] at hw
        dsimp only at hw
        by_cases h3 : w2.category = 2
        · rw [if_pos h3] at hw; cases hw
        · rw [if_neg h3] at hw; cases hw; exact ⟨h j w hL, by simp [h1, h3]⟩
    · rw [if_neg h2] at hw
      exact ⟨h j w hw, by simp [h1, h2]⟩
theorem ev_lt2 {L : ev_V} {lv : List (Nat × Value)} (h : ∀ i v, L i = some v → (i, v) ∈ lv) {ls : Array Slot} {nL i : Nat} {v : Value} (hl : lv_has ls nL ((i, v) :: lv.filter (fun q => !(q.1 == i) && (!(q.1 == i + 1) && !(q.1 + 1 == i && q.2.category == 2))))) : ev_lr ls nL (ev_s2 L i v) := by
  refine ⟨_, hl, fun j w hw => ?_⟩
  unfold ev_s2 at hw
  by_cases h1 : j = i
  · rw [if_pos h1] at hw; cases hw; rw [h1]; exact List.mem_cons_self
  · rw [if_neg h1] at hw
    refine List.mem_cons_of_mem _ (List.mem_filter.mpr ?_)
    by_cases h4 : j = i + 1
    · rw [if_pos h4] at hw; cases hw
    · rw [if_neg h4] at hw
      by_cases h2 : j + 1 = i
      · rw [if_pos h2] at hw
        cases hL : L j with
        | none => rw [hL] at hw; cases hw
        | some w2 =>
          rw [hL] at hw
          dsimp only at hw
          by_cases h3 : w2.category = 2
          · rw [if_pos h3] at hw; cases hw
          · rw [if_neg h3] at hw; cases hw; exact ⟨h j w hL, by simp [h1, h3, h4]⟩
      · rw [if_neg h2] at hw
        exact ⟨h j w hw, by simp [h1, h2, h4]⟩
theorem ev_lfm {l : List (Nat × Value)} {i : Nat} {v : Value} (h : ev_lf l i = some v) : (i, v) ∈ l := by
  unfold ev_lf at h
  obtain ⟨q, h1, h2⟩ := Option.map_eq_some_iff.mp h
  have h3 := List.find?_some h1
  have h4 := List.mem_of_find?_eq_some h1
  simp at h3
  rw [← h2, ← h3]
  exact h4
/-- what nobody writes -/
def ev_GG (G : ev_G) (A : Nat → Prop) (U : State) (H : Heap) : Prop := (∀ a n f, G.1 a = some (n, f) → va_T .int a n (fun j => .int (f j)) A U H) ∧ ∀ C n d a, G.2 C n d = some a → va_Z C n d (.ref a) A U H
def ev_NN (U : State) : Prop := ∀ w ∈ ev_ns, va_Nw w U
theorem ev_NN.warm {s U : State} (hW : s.WarmedH U.vm) (h : ev_NN s) : ev_NN U := by
  intro w hw
  have h1 := h w hw
  unfold ev_ns at hw
  have h2 := (List.mem_filter.mp hw).2
  cases w <;> first | exact va_Nw.warmM hW h1 | (simp [ev_isN] at h2)
theorem ev_NN.same {s U : State} (hv : s.vm = U.vm) (h : ev_NN s) : ev_NN U := by
  intro w hw
  have h1 := h w hw
  unfold ev_ns at hw
  have h2 := (List.mem_filter.mp hw).2
  cases w <;> first | exact va_Nw.same rfl hv h1 | (simp [ev_isN] at h2)
/-- the start and the end of a method's contract -/
def ev_Pc (D : va_G) (G : ev_G) (ws : va_W) (tys : List (ClassId × FieldType)) (sz : Nat) (args : List Value) : Array Value → State → Prop := va_Pc args (fun U => U.heap.size = sz ∧ va_P D classes ws U.heap ∧ va_K D classes tys U ∧ va_D (fun _ => True) ws ∧ ev_GG G (va_A ws sz) U U.heap ∧ ev_NN U)
def ev_Qc (D : va_G) (A : Nat → Prop) (K : ev_K) : Array Value → State → Outcome → State → Prop := fun _ st o t => (∃ (r : Option Value) (h1 : ev_H), o = .returned r ∧ K (.inl r) h1 ∧ ev_rel D A t h1 t.heap) ∧ va_F A st t
def ev_rm (d w c z : Nat) : Room := { frames := d, cells := c, slots := z, locals := w }
def ev_met (l : Launch) (G : ev_G) (d w : Nat) (C : ev_L) : Prop := ∀ N args h c z K, C N args h c z K → (∀ x y, ¬ K (.inr x) y) → ∃ w2, 8 + (N.2.2.1 + 11) + w2 ≤ w ∧ ∀ (D : va_G) (ws : va_W) (tys : List (ClassId × FieldType)) (sz : Nat), ev_hr tys h ws → Met l N.1 (ev_code N :: ev_ws) (ev_rm d w2 c z) (ev_Pc D G ws tys sz args) (ev_Qc D (va_A ws sz) K) c z (va_A ws sz)
def ev_metW (l : Launch) (G : ev_G) (d w : Nat) (C : ev_L) : Prop := ∀ N hh args h c z K, C N args h c z K → (∀ x y, ¬ K (.inr x) y) → Cond.codeWith N.1 N.2.1 N.2.2.1 N.2.2.2 hh ∈ ev_ws → ∃ w2, 8 + (N.2.2.1 + 11) + w2 ≤ w ∧ ∀ (D : va_G) (ws : va_W) (tys : List (ClassId × FieldType)) (sz : Nat), ev_hr tys h ws → Met l N.1 (Cond.codeWith N.1 N.2.1 N.2.2.1 N.2.2.2 hh :: ev_ws) (ev_rm d w2 c z) (ev_Pc D G ws tys sz args) (ev_Qc D (va_A ws sz) K) c z (va_A ws sz)
theorem ev_good {N : ev_M} (h : ev_code N ∈ ev_ws) : GoodIn ev_ws (ev_code N :: ev_ws) := by
  have g : ∀ w ∈ ev_ws, w ∈ ev_ws ∧ ((w.onTables && w.keeps) = true ∨ ∃ ty, w = .arrayClass ty) := fun w hw => ⟨hw, good_of_word (List.mem_filter.mp hw).2⟩
  intro w hw
  rcases List.mem_cons.mp hw with h1 | h1
  · subst h1; exact g _ h
  · exact g _ h1
theorem ev_g1 {w : Cond} (h : w ∈ ev_ws) : w ∈ ev_ws ∧ ((w.onTables && w.keeps) = true ∨ ∃ ty, w = .arrayClass ty) := ⟨h, good_of_word (List.mem_filter.mp h).2⟩
theorem ev_gI {N : ev_M} (h : ev_code N ∈ ev_ws) : GoodIn ev_ws (ev_code N :: ev_ws) := ev_good h
theorem ev_gV {own : String} {i : Nat} {N : ev_M} (w1 : Cond.methodLink own i N.1 ∈ ev_ws) (w2 : Cond.instanceMethod N.1 ∈ ev_ws) (w3 : Cond.selects N.1.cls N.1 N.1 ∈ ev_ws) (w4 : Cond.initialized N.1.cls ∈ ev_ws) (w5 : ev_code N ∈ ev_ws) : GoodIn ev_ws (wsV own i N.1.cls N.1 (ev_code N :: ev_ws)) := by
  intro w hw
  unfold wsV at hw
  rcases List.mem_append.mp hw with h | h
  · simp only [List.mem_cons, List.not_mem_nil, or_false] at h
    rcases h with rfl | rfl | rfl | rfl
    · exact ev_g1 w1
    · exact ev_g1 w2
    · exact ev_g1 w3
    · exact ev_g1 w4
  · exact ev_good w5 w h
theorem ev_gS {own : String} {i : Nat} {N : ev_M} (w1 : Cond.methodLink own i N.1 ∈ ev_ws) (w2 : Cond.static N.1 ∈ ev_ws) (w4 : Cond.initialized N.1.cls ∈ ev_ws) (w5 : ev_code N ∈ ev_ws) : GoodIn ev_ws (va_wsS own i N.1 (ev_code N :: ev_ws)) := by
  intro w hw
  unfold va_wsS at hw
  rcases List.mem_append.mp hw with h | h
  · simp only [List.mem_cons, List.not_mem_nil, or_false] at h
    rcases h with rfl | rfl | rfl
    · exact ev_g1 w1
    · exact ev_g1 w2
    · exact ev_g1 w4
  · exact ev_good w5 w h
theorem ev_gSW {own : String} {i : Nat} {N : ev_M} {hh : List (Nat × Nat × Nat × Nat)} (w1 : Cond.methodLink own i N.1 ∈ ev_ws) (w2 : Cond.static N.1 ∈ ev_ws) (w4 : Cond.initialized N.1.cls ∈ ev_ws) (w5 : Cond.codeWith N.1 N.2.1 N.2.2.1 N.2.2.2 hh ∈ ev_ws) : GoodIn ev_ws (va_wsS own i N.1 (Cond.codeWith N.1 N.2.1 N.2.2.1 N.2.2.2 hh :: ev_ws)) := by
  intro w hw
  unfold va_wsS at hw
  rcases List.mem_append.mp hw with h | h
  · simp only [List.mem_cons, List.not_mem_nil, or_false] at h
    rcases h with rfl | rfl | rfl
    · exact ev_g1 w1
    · exact ev_g1 w2
    · exact ev_g1 w4
  · rcases List.mem_cons.mp h with h1 | h1
    · subst h1; exact ev_g1 w5
    · exact ev_g1 h1
theorem ev_rmok {R : Room} {d w w2 c z n : Nat} (hRf : d + 1 ≤ R.frames) (hRl : w ≤ R.locals) (h : 8 + (n + 11) + w2 ≤ w) : (ev_rm d w2 c z).frames + 1 ≤ R.frames ∧ 8 + (n + 11) + (ev_rm d w2 c z).locals ≤ R.locals := ⟨hRf, Nat.le_trans h hRl⟩
theorem ev_GG.moved {G : ev_G} {A : Nat → Prop} {u U : State} {H : Heap} (hvm : u.vm.Alike U.vm) (h : ev_GG G A u H) : ev_GG G A U H := ⟨fun a n f q => (h.1 a n f q).moved hvm, fun C n d a q => (h.2 C n d a q).moved hvm⟩
theorem ev_blind {D : va_G} {G : ev_G} {ws : va_W} {tys : List (ClassId × FieldType)} {sz : Nat} {args : List Value} : FrameBlind (ev_Pc D G ws tys sz args) := by
  intro a U g mk q
  obtain ⟨q0, q1, qP, qK, qD, qG, qN⟩ := q
  exact ⟨q0, q1, qP, va_K.moved (u := U) (U := U.calling g mk a) (Vm.Alike.refl U.vm) qK, qD, ev_GG.moved (u := U) (U := U.calling g mk a) (Vm.Alike.refl U.vm) qG, ev_NN.same (s := U) (U := U.calling g mk a) rfl qN⟩
theorem ev_sub {A : Nat → Prop} {H0 H : Heap} {locs : List Loc} {ws : va_W} (hD : va_D A ws) (hS : va_S A H0 H locs) (hA : ∀ q, H0.size ≤ q → A q) : ∀ q, va_A ws H.size q → A q := by
  intro q h
  rcases h with ⟨k, e, h⟩ | h
  · exact hD.2 k _ h
  · exact hA q (Nat.le_trans hS.1 h)
theorem ev_pre {D : va_G} {G : ev_G} {A : Nat → Prop} {ws : va_W} {tys : List (ClassId × FieldType)} {s : State} {H : Heap} {locs : List Loc} {h : ev_H} {args : List Value} (hP : va_P D classes ws H) (hK : va_K D classes tys s) (hD : va_D A ws) (_hR : ev_hr tys h ws) (hS : va_S A s.heap H locs) (hA : ∀ q, s.heap.size ≤ q → A q) (hG : ev_GG G A s s.heap) (hnw : ev_NN s) : ∀ U : State, U.heap = H → s.WarmedH U.vm → ev_Pc D G ws tys H.size args args.toArray U := by
  intro U hU hW
  have hs := ev_sub hD hS hA
  refine ⟨rfl, by rw [hU], by rw [hU]; exact hP, va_K.moved hW.alike hK, hD.weaken (fun _ _ _ _ => trivial), ?_, hnw.warm hW⟩
  rw [hU]
  exact ⟨fun a n f q => (((hG.1 a n f q).kept (fun b hb1 hb2 => hS.2.1 b hb1 hb2)).narrow hs).moved hW.alike, fun C n d a q => (((hG.2 C n d a q).kept (fun b hb1 hb2 => hS.2.1 b hb1 hb2)).narrow hs).moved hW.alike⟩
theorem ev_back {p : Program} {l : Launch} {e : Env} {R : Room} {s : State} {m : MethodId} {args : Array Value} {below : List Frame} {meth : Method} {c : Code} {H : Heap} {locs : List Loc} {cells slots : Nat} {Q : State → Prop} {pc : Nat} {ls : Array Slot} {rest st0 : List Value} {D : va_G} {G : ev_G} {A : Nat → Prop} {ws : va_W} {tys : List (ClassId × FieldType)} {h : ev_H} {mc ms : Nat} {post : Option Value → ev_H → Prop} {av : Array Value}
    (_hG : ev_GG G A s s.heap) (_hnw : ev_NN s) (_hP : va_P D classes ws H) (_hK : va_K D classes tys s) (hD : va_D A ws) (_hR : ev_hr tys h ws) (hS : va_S A s.heap H locs) (hA : ∀ q, s.heap.size ≤ q → A q)
    (hrun : va_Run p l e R s m args below meth c H locs cells slots mc ms (F0 m pc ls st0) rest (ev_Qc D (va_A ws H.size) (ev_ok post) av) (va_A ws H.size))
    (kk : ∀ (r : Option Value) (h1 : ev_H) (H1 : Heap) (locs1 : List Loc), post r h1 → ev_rel D A s h1 H1 → va_S A s.heap H1 locs1 → W p l e R s m args below meth c H1 locs1 (cells + mc) (slots + ms) Q (F0 m (pc + 3) ls (r.toList ++ rest))) : W p l e R s m args below meth c H locs cells slots Q (F0 m pc ls st0) := by
  have hs := ev_sub hD hS hA
  intro T hT X
  obtain ⟨v, st₀, t, T', L, h0, X', hL, e1, e2, ⟨⟨r, h1, hv, hp, ws1, tys1, hP1, hK1, hD1, hR1⟩, hz, hk⟩, st⟩ := hrun T hT X
  cases hv
  rw [h0] at hz hk
  have hal : s.vm.Alike t.vm := by rw [← e2]; exact X'.warmed.alike
  obtain ⟨t2, a1, b1⟩ := kk v h1 T'.heap (locs ++ L) hp ⟨ws1, tys1, by rw [e1]; exact hP1, va_K.moved hal.symm hK1, hD1.weaken (fun _ q _ z => hs q.1 z), hR1⟩
    ⟨Nat.le_trans hS.1 (by rw [e1]; exact hz), fun q g1 g2 => by rw [e1, hk q (Nat.lt_of_lt_of_le g1 hS.1) (fun z => g2 (hs q z))]; exact hS.2.1 q g1 g2, fun q hq => by
      rcases List.mem_append.mp hq with g | g
      · exact hS.2.2 q g
      · exact hs _ (hL q g)⟩ T' rfl X'
  exact ⟨t2, st t2 a1, b1⟩
theorem ev_pw {ws : va_W} : (∀ (i j : Nat) (p q : Nat × va_E), ws[i]? = some p → ws[j]? = some q → p.1 = q.1 → i = j) ↔ ws.Pairwise (fun a b => a.1 ≠ b.1) := by
  rw [List.pairwise_iff_getElem]
  constructor
  · intro h i j hi hj hij e
    have := h i j ws[i] ws[j] (List.getElem?_eq_getElem hi) (List.getElem?_eq_getElem hj) e
    omega
  · intro h i j p q h1 h2 e
    obtain ⟨i1, i2⟩ := List.getElem?_eq_some_iff.mp h1
    obtain ⟨j1, j2⟩ := List.getElem?_eq_some_iff.mp h2
    rcases Nat.lt_trichotomy i j with c | c | c
    · exact absurd (by rw [i2, j2]; exact e) (h i j i1 j1 c)
    · exact c
    · exact absurd (by rw [i2, j2]; exact e.symm) (h j i j1 i1 c)
theorem ev_fD {A : Nat → Prop} {ws : va_W} (f : Nat × va_E → Bool) (h : va_D A ws) : va_D A (ws.filter f) := by
  refine ⟨ev_pw.mpr ((ev_pw.mp h.1).filter _), fun k q hq => ?_⟩
  have h1 := (List.mem_filter.mp (List.mem_of_getElem? hq)).1
  obtain ⟨j, hj⟩ := List.getElem?_of_mem h1
  exact h.2 j q hj
theorem ev_fP {D : va_G} {ws : va_W} {H : Heap} (f : Nat × va_E → Bool) (h : va_P D classes ws H) : va_P D classes (ws.filter f) H := by
  intro k q hq
  have h1 := (List.mem_filter.mp (List.mem_of_getElem? hq)).1
  obtain ⟨j, hj⟩ := List.getElem?_of_mem h1
  exact h j q hj
theorem ev_fR {tys : List (ClassId × FieldType)} {h h2 : ev_H} {ws : va_W} (hR : ev_hr tys h ws) (hs : ∀ q c, h2 q = some c → h q = some c) : ev_hr tys h2 (ws.filter (fun q => (h2 q.1).isSome)) := by
  intro q c hq
  obtain ⟨k, e, h1, h3⟩ := hR q c (hs q c hq)
  have hm : (q, e) ∈ ws.filter (fun q => (h2 q.1).isSome) := List.mem_filter.mpr ⟨List.mem_of_getElem? h1, by show (h2 q).isSome = true; rw [hq]; rfl⟩
  obtain ⟨j, hj⟩ := List.getElem?_of_mem hm
  exact ⟨j, e, hj, h3⟩
/-- a world in two parts -/
theorem ev_frame {D : va_G} {A : Nat → Prop} {tys : List (ClassId × FieldType)} {h hs hf : ev_H} {ws : va_W} {H : Heap} (hP : va_P D classes ws H) (hD : va_D A ws) (hR : ev_hr tys h ws) (hj : h = ev_jn hs hf) (hdj : ∀ a x, hf a = some x → hs a = none) : ∃ w1 wf : va_W, va_P D classes w1 H ∧ va_D A w1 ∧ ev_hr tys hs w1 ∧ va_P D classes wf H ∧ va_D A wf ∧ ev_hr tys hf wf ∧ ∀ (i j : Nat) (p q : Nat × va_E), w1[i]? = some p → wf[j]? = some q → p.1 ≠ q.1 := by
  refine ⟨ws.filter (fun q => (hs q.1).isSome), ws.filter (fun q => (hf q.1).isSome), ev_fP _ hP, ev_fD _ hD, ev_fR hR (fun q c e => ?_), ev_fP _ hP, ev_fD _ hD, ev_fR hR (fun q c e => ?_), fun i j p q h1 h2 e => ?_⟩
  · rw [hj]
    unfold ev_jn
    cases hh : hf q with
    | none => exact e
    | some x => rw [hdj q x hh] at e; cases e
  · rw [hj]
    unfold ev_jn
    rw [e]
  · have a1 := (List.mem_filter.mp (List.mem_of_getElem? h1)).2
    have a2 := (List.mem_filter.mp (List.mem_of_getElem? h2)).2
    rw [e] at a1
    obtain ⟨x, hx⟩ := Option.isSome_iff_exists.mp a2
    rw [hdj _ x hx] at a1
    cases a1
theorem ev_monoR {tys t2 : List (ClassId × FieldType)} {c : ev_C} {e : va_E} (h : ev_m tys c e) : ev_m (t2 ++ tys) c e := by
  cases c with
  | inl x =>
    cases e with
    | inl y =>
      obtain ⟨h1, t, h2⟩ := h
      exact ⟨h1, t2.length + t, by rw [List.getElem?_append_right (by omega), Nat.add_sub_cancel_left]; exact h2⟩
    | inr y => exact h.elim
  | inr x =>
    cases e with
    | inl y => exact h.elim
    | inr y => exact h
theorem ev_backF {p : Program} {l : Launch} {e : Env} {R : Room} {s : State} {m : MethodId} {args : Array Value} {below : List Frame} {meth : Method} {c : Code} {H : Heap} {locs : List Loc} {cells slots : Nat} {Q : State → Prop} {pc : Nat} {ls : Array Slot} {rest st0 : List Value} {D : va_G} {G : ev_G} {A : Nat → Prop} {ws wf : va_W} {tys : List (ClassId × FieldType)} {h hf : ev_H} {mc ms : Nat} {post : Option Value → ev_H → Prop} {av : Array Value}
    (hPf : va_P D classes wf H) (hDf : va_D A wf) (hRf : ev_hr tys hf wf) (hdf : ∀ (i j : Nat) (p q : Nat × va_E), ws[i]? = some p → wf[j]? = some q → p.1 ≠ q.1) (hK0 : va_K D classes tys s)
    (_hG : ev_GG G A s s.heap) (_hnw : ev_NN s) (_hP : va_P D classes ws H) (_hK : va_K D classes tys s) (hD : va_D A ws) (_hR : ev_hr tys h ws) (hS : va_S A s.heap H locs) (hA : ∀ q, s.heap.size ≤ q → A q)
    (hrun : va_Run p l e R s m args below meth c H locs cells slots mc ms (F0 m pc ls st0) rest (ev_Qc D (va_A ws H.size) (ev_ok post) av) (va_A ws H.size))
    (kk : ∀ (r : Option Value) (h1 : ev_H) (H1 : Heap) (locs1 : List Loc), post r h1 → (∀ a x, hf a = some x → h1 a = none) → ev_rel D A s (ev_jn h1 hf) H1 → va_S A s.heap H1 locs1 → W p l e R s m args below meth c H1 locs1 (cells + mc) (slots + ms) Q (F0 m (pc + 3) ls (r.toList ++ rest))) : W p l e R s m args below meth c H locs cells slots Q (F0 m pc ls st0) := by
  have hs := ev_sub hD hS hA
  have hout : ∀ (k : Nat) (q : Nat × va_E), wf[k]? = some q → q.1 < H.size ∧ ¬ va_A ws H.size q.1 := by
    intro k q hq
    have lt := (hPf k q hq).lt
    refine ⟨lt, fun z => ?_⟩
    rcases z with ⟨i, e2, z⟩ | z
    · exact hdf i k _ _ z hq rfl
    · omega
  intro T hT X
  obtain ⟨v, st₀, t, T', L, h0, X', hL, e1, e2, ⟨⟨r, h1, hv, hp, ws1, tys1, hP1, hK1, hD1, hR1⟩, hz, hk⟩, st⟩ := hrun T hT X
  cases hv
  rw [h0] at hz hk
  have hal : s.vm.Alike t.vm := by rw [← e2]; exact X'.warmed.alike
  have rel : ev_rel D A s (ev_jn h1 hf) T'.heap := by
    refine ⟨ws1 ++ wf, tys1 ++ tys, ?_, va_K.app (va_K.moved hal.symm hK1) hK0, ?_, ?_⟩
    · rw [e1]
      exact va_P.app hP1 (hPf.kept (fun k q hq => hk q.1 (hout k q hq).1 (hout k q hq).2))
    · exact va_D.app (hD1.weaken (fun _ q _ z => hs q.1 z)) hDf (fun i j p q g1 g2 e => (hout j q g2).2 (by rw [← e]; exact hD1.2 i p g1))
    · intro q c hq
      unfold ev_jn at hq
      cases hh : hf q with
      | some x =>
        rw [hh] at hq
        cases hq
        obtain ⟨k, e3, g1, g2⟩ := hRf q _ hh
        exact ⟨ws1.length + k, e3, by rw [List.getElem?_append_right (by omega), Nat.add_sub_cancel_left]; exact g1, ev_monoR g2⟩
      | none =>
        rw [hh] at hq
        obtain ⟨k, e3, g1, g2⟩ := hR1 q c hq
        exact ⟨k, e3, by rw [List.getElem?_append_left (List.getElem?_eq_some_iff.mp g1).1]; exact g1, ev_mono g2⟩
  have apart : ∀ a x, hf a = some x → h1 a = none := by
    intro a x ha
    cases hh : h1 a with
    | none => rfl
    | some y =>
      obtain ⟨k, e3, g1, -⟩ := hR1 a y hh
      obtain ⟨k2, e4, g2, -⟩ := hRf a x ha
      exact absurd (hD1.2 k _ g1) (hout k2 _ g2).2
  obtain ⟨t2, a1, b1⟩ := kk v h1 T'.heap (locs ++ L) hp apart rel
    ⟨Nat.le_trans hS.1 (by rw [e1]; exact hz), fun q g1 g2 => by rw [e1, hk q (Nat.lt_of_lt_of_le g1 hS.1) (fun z => g2 (hs q z))]; exact hS.2.1 q g1 g2, fun q hq => by
      rcases List.mem_append.mp hq with g | g
      · exact hS.2.2 q g
      · exact hs _ (hL q g)⟩ T' rfl X'
  exact ⟨t2, st t2 a1, b1⟩
theorem ev_kend {D : va_G} {A : Nat → Prop} {s t : State} {h : ev_H} {H : Heap} (hr : ev_rel D A s h H) (hW : s.WarmedH t.vm) (ht : t.heap = H) : ev_rel D A t h t.heap := by
  obtain ⟨ws, tys, hP, hK, hD, hR⟩ := hr
  rw [ht]
  exact ⟨ws, tys, hP, va_K.moved hW.alike hK, hD, hR⟩
theorem ev_end {D : va_G} {A : Nat → Prop} {s t : State} {h : ev_H} {H : Heap} {locs : List Loc} {K : ev_K} {r : Option Value} {av : Array Value} (hS : va_S A s.heap H locs) (ht : t.heap = H) (hr : ev_rel D A t h t.heap) (hk : K (.inl r) h) : ev_Qc D A K av s (.returned r) t := ⟨⟨r, h, rfl, hk, hr⟩, hS.F ht⟩
section EVW
variable {p : Program} {l : Launch} {e : Env} {R : Room} {s : State} {m : MethodId} {args : Array Value} {below : List Frame} {meth : Method} {c0 : Code} {Q : State → Prop} {D : va_G} {A : Nat → Prop} {G : ev_G} {C : ev_L} {M : ev_M} {K : ev_K} {d w : Nat}
/-- a configuration, at the machine -/
def ev_W (p : Program) (l : Launch) (e : Env) (R : Room) (s : State) (m : MethodId) (args : Array Value) (below : List Frame) (meth : Method) (c0 : Code) (Q : State → Prop) (D : va_G) (A : Nat → Prop) (M : ev_M) : ev_S → Prop := fun S => ∀ (H : Heap) (locs : List Loc) (cells slots : Nat) (ls : Array Slot), ev_rel D A s S.2.2.2.1 H → va_S A s.heap H locs → ev_lr ls M.2.2.1 S.2.1 → cells + S.2.2.2.2.1 ≤ R.cells → slots + S.2.2.2.2.2 ≤ R.slots → W p l e R s m args below meth c0 H locs cells slots Q (F0 m S.1 ls S.2.2.1)
/-- what holds of a frame while it runs -/
def ev_fr (p : Program) (R : Room) (s : State) (m : MethodId) (args : Array Value) (meth : Method) (c0 : Code) (A : Nat → Prop) (G : ev_G) (M : ev_M) (d w : Nat) : Prop := p.tables.exec = Jvm.exec ∧ c0.code = M.2.1 ∧ c0.maxLocals = M.2.2.1 ∧ s.vm.findClass M.1.cls = some m.cls ∧ (∀ w ∈ ev_ws, w.before args s = true) ∧ ev_GG G A s s.heap ∧ ev_NN s ∧ (∀ q, s.heap.size ≤ q → A q) ∧ d + 1 ≤ R.frames ∧ w ≤ R.locals ∧ meth.sig.returnType = M.2.2.2 ∧ meth.name = M.1.name ∧ meth.locks = false

set_option maxHeartbeats 1000000 in
theorem ew_iconst (F : ev_fr p R s m args meth c0 A G M d w) (hmet : ev_met l G d w C) (hmw : ev_metW l G d w C) : ru_iconst G C w M K (ev_W p l e R s m args below meth c0 Q D A M) := by
  obtain ⟨hx, hb, hml, hown, hts, hG, hnw, hA, hRf, hRl, hret, hnm, hlk⟩ := F
  intro pc L st h c z n v hd hv k H locs cells slots ls hr hS hl hc hz
  dsimp only at hr hl hc hz ⊢
  exact lv_iconst hx hb hd hv (k H locs cells slots ls hr hS hl hc hz)
set_option maxHeartbeats 1000000 in
theorem ew_bipush (F : ev_fr p R s m args meth c0 A G M d w) (hmet : ev_met l G d w C) (hmw : ev_metW l G d w C) : ru_bipush G C w M K (ev_W p l e R s m args below meth c0 Q D A M) := by
  obtain ⟨hx, hb, hml, hown, hts, hG, hnw, hA, hRf, hRl, hret, hnm, hlk⟩ := F
  intro pc L st h c z n v hd hv k H locs cells slots ls hr hS hl hc hz
  dsimp only at hr hl hc hz ⊢
  exact lv_bipush hx hb hd hv (k H locs cells slots ls hr hS hl hc hz)
set_option maxHeartbeats 1000000 in
theorem ew_sipush (F : ev_fr p R s m args meth c0 A G M d w) (hmet : ev_met l G d w C) (hmw : ev_metW l G d w C) : ru_sipush G C w M K (ev_W p l e R s m args below meth c0 Q D A M) := by
  obtain ⟨hx, hb, hml, hown, hts, hG, hnw, hA, hRf, hRl, hret, hnm, hlk⟩ := F
  intro pc L st h c z n v hd hv k H locs cells slots ls hr hS hl hc hz
  dsimp only at hr hl hc hz ⊢
  exact lv_sipush hx hb hd hv (k H locs cells slots ls hr hS hl hc hz)
set_option maxHeartbeats 1000000 in
theorem ew_lconst (F : ev_fr p R s m args meth c0 A G M d w) (hmet : ev_met l G d w C) (hmw : ev_metW l G d w C) : ru_lconst G C w M K (ev_W p l e R s m args below meth c0 Q D A M) := by
  obtain ⟨hx, hb, hml, hown, hts, hG, hnw, hA, hRf, hRl, hret, hnm, hlk⟩ := F
  intro pc L st h c z n v hd hv k H locs cells slots ls hr hS hl hc hz
  dsimp only at hr hl hc hz ⊢
  exact lv_lconst hx hb hd hv (k H locs cells slots ls hr hS hl hc hz)
set_option maxHeartbeats 1000000 in
theorem ew_null (F : ev_fr p R s m args meth c0 A G M d w) (hmet : ev_met l G d w C) (hmw : ev_metW l G d w C) : ru_null G C w M K (ev_W p l e R s m args below meth c0 Q D A M) := by
  obtain ⟨hx, hb, hml, hown, hts, hG, hnw, hA, hRf, hRl, hret, hnm, hlk⟩ := F
  intro pc L st h c z hd k H locs cells slots ls hr hS hl hc hz
  dsimp only at hr hl hc hz ⊢
  exact lv_null hx hb hd  (k H locs cells slots ls hr hS hl hc hz)
set_option maxHeartbeats 1000000 in
theorem ew_ldc (F : ev_fr p R s m args meth c0 A G M d w) (hmet : ev_met l G d w C) (hmw : ev_metW l G d w C) : ru_ldc G C w M K (ev_W p l e R s m args below meth c0 Q D A M) := by
  obtain ⟨hx, hb, hml, hown, hts, hG, hnw, hA, hRf, hRl, hret, hnm, hlk⟩ := F
  intro pc L st h c z i v hd hw k H locs cells slots ls hr hS hl hc hz
  dsimp only at hr hl hc hz ⊢
  exact lv_ldc hx hb hown (hts _ hw) hd (k H locs cells slots ls hr hS hl hc hz)
set_option maxHeartbeats 1000000 in
theorem ew_ldc2 (F : ev_fr p R s m args meth c0 A G M d w) (hmet : ev_met l G d w C) (hmw : ev_metW l G d w C) : ru_ldc2 G C w M K (ev_W p l e R s m args below meth c0 Q D A M) := by
  obtain ⟨hx, hb, hml, hown, hts, hG, hnw, hA, hRf, hRl, hret, hnm, hlk⟩ := F
  intro pc L st h c z i v hd hw k H locs cells slots ls hr hS hl hc hz
  dsimp only at hr hl hc hz ⊢
  exact lv_ldc2 hx hb hown (hts _ hw) hd (k H locs cells slots ls hr hS hl hc hz)
set_option maxHeartbeats 1000000 in
theorem ew_ldcw (F : ev_fr p R s m args meth c0 A G M d w) (hmet : ev_met l G d w C) (hmw : ev_metW l G d w C) : ru_ldcw G C w M K (ev_W p l e R s m args below meth c0 Q D A M) := by
  obtain ⟨hx, hb, hml, hown, hts, hG, hnw, hA, hRf, hRl, hret, hnm, hlk⟩ := F
  intro pc L st h c z i v hd hw k H locs cells slots ls hr hS hl hc hz
  dsimp only at hr hl hc hz ⊢
  exact lv_ldcw hx hb hown (hts _ hw) hd (k H locs cells slots ls hr hS hl hc hz)
set_option maxHeartbeats 1000000 in
theorem ew_iload_n (F : ev_fr p R s m args meth c0 A G M d w) (hmet : ev_met l G d w C) (hmw : ev_metW l G d w C) : ru_iload_n G C w M K (ev_W p l e R s m args below meth c0 Q D A M) := by
  obtain ⟨hx, hb, hml, hown, hts, hG, hnw, hA, hRf, hRl, hret, hnm, hlk⟩ := F
  intro pc L st h c z j x hd hx1 k H locs cells slots ls hr hS hl hc hz
  dsimp only at hr hl hc hz ⊢
  exact lv_iload_n hx hb hd rfl (hl.at hx1) (k H locs cells slots ls hr hS hl hc hz)
set_option maxHeartbeats 1000000 in
theorem ew_iload (F : ev_fr p R s m args meth c0 A G M d w) (hmet : ev_met l G d w C) (hmw : ev_metW l G d w C) : ru_iload G C w M K (ev_W p l e R s m args below meth c0 Q D A M) := by
  obtain ⟨hx, hb, hml, hown, hts, hG, hnw, hA, hRf, hRl, hret, hnm, hlk⟩ := F
  intro pc L st h c z i x hd hx1 k H locs cells slots ls hr hS hl hc hz
  dsimp only at hr hl hc hz ⊢
  exact lv_iload hx hb hd (hl.at hx1) (k H locs cells slots ls hr hS hl hc hz)
set_option maxHeartbeats 1000000 in
theorem ew_istore_n (F : ev_fr p R s m args meth c0 A G M d w) (hmet : ev_met l G d w C) (hmw : ev_metW l G d w C) : ru_istore_n G C w M K (ev_W p l e R s m args below meth c0 Q D A M) := by
  obtain ⟨hx, hb, hml, hown, hts, hG, hnw, hA, hRf, hRl, hret, hnm, hlk⟩ := F
  intro pc L st h c z j x hd hn k H locs cells slots ls hr hS hl hc hz
  dsimp only at hr hl hc hz ⊢
  obtain ⟨lv, hv1, hv2⟩ := hl
  exact lv_istore_n hx hb hd rfl hv1 (Nat.le_of_ble_eq_true hn) rfl (fun ls2 hl2 => k H locs cells slots ls2 hr hS (ev_lt1 hv2 hl2) hc hz)
set_option maxHeartbeats 1000000 in
theorem ew_istore (F : ev_fr p R s m args meth c0 A G M d w) (hmet : ev_met l G d w C) (hmw : ev_metW l G d w C) : ru_istore G C w M K (ev_W p l e R s m args below meth c0 Q D A M) := by
  obtain ⟨hx, hb, hml, hown, hts, hG, hnw, hA, hRf, hRl, hret, hnm, hlk⟩ := F
  intro pc L st h c z i x hd hn k H locs cells slots ls hr hS hl hc hz
  dsimp only at hr hl hc hz ⊢
  obtain ⟨lv, hv1, hv2⟩ := hl
  exact lv_istore hx hb hd hv1 (Nat.le_of_ble_eq_true hn) rfl (fun ls2 hl2 => k H locs cells slots ls2 hr hS (ev_lt1 hv2 hl2) hc hz)
set_option maxHeartbeats 1000000 in
theorem ew_lload_n (F : ev_fr p R s m args meth c0 A G M d w) (hmet : ev_met l G d w C) (hmw : ev_metW l G d w C) : ru_lload_n G C w M K (ev_W p l e R s m args below meth c0 Q D A M) := by
  obtain ⟨hx, hb, hml, hown, hts, hG, hnw, hA, hRf, hRl, hret, hnm, hlk⟩ := F
  intro pc L st h c z j x hd hx1 k H locs cells slots ls hr hS hl hc hz
  dsimp only at hr hl hc hz ⊢
  exact lv_lload_n hx hb hd rfl (hl.at hx1) (k H locs cells slots ls hr hS hl hc hz)
set_option maxHeartbeats 1000000 in
theorem ew_lload (F : ev_fr p R s m args meth c0 A G M d w) (hmet : ev_met l G d w C) (hmw : ev_metW l G d w C) : ru_lload G C w M K (ev_W p l e R s m args below meth c0 Q D A M) := by
  obtain ⟨hx, hb, hml, hown, hts, hG, hnw, hA, hRf, hRl, hret, hnm, hlk⟩ := F
  intro pc L st h c z i x hd hx1 k H locs cells slots ls hr hS hl hc hz
  dsimp only at hr hl hc hz ⊢
  exact lv_lload hx hb hd (hl.at hx1) (k H locs cells slots ls hr hS hl hc hz)
set_option maxHeartbeats 1000000 in
theorem ew_lstore_n (F : ev_fr p R s m args meth c0 A G M d w) (hmet : ev_met l G d w C) (hmw : ev_metW l G d w C) : ru_lstore_n G C w M K (ev_W p l e R s m args below meth c0 Q D A M) := by
  obtain ⟨hx, hb, hml, hown, hts, hG, hnw, hA, hRf, hRl, hret, hnm, hlk⟩ := F
  intro pc L st h c z j x hd hn k H locs cells slots ls hr hS hl hc hz
  dsimp only at hr hl hc hz ⊢
  obtain ⟨lv, hv1, hv2⟩ := hl
  exact lv_lstore_n hx hb hd rfl hv1 (Nat.le_of_ble_eq_true hn) rfl (fun ls2 hl2 => k H locs cells slots ls2 hr hS (ev_lt2 hv2 hl2) hc hz)
set_option maxHeartbeats 1000000 in
theorem ew_lstore (F : ev_fr p R s m args meth c0 A G M d w) (hmet : ev_met l G d w C) (hmw : ev_metW l G d w C) : ru_lstore G C w M K (ev_W p l e R s m args below meth c0 Q D A M) := by
  obtain ⟨hx, hb, hml, hown, hts, hG, hnw, hA, hRf, hRl, hret, hnm, hlk⟩ := F
  intro pc L st h c z i x hd hn k H locs cells slots ls hr hS hl hc hz
  dsimp only at hr hl hc hz ⊢
  obtain ⟨lv, hv1, hv2⟩ := hl
  exact lv_lstore hx hb hd hv1 (Nat.le_of_ble_eq_true hn) rfl (fun ls2 hl2 => k H locs cells slots ls2 hr hS (ev_lt2 hv2 hl2) hc hz)
set_option maxHeartbeats 1000000 in
theorem ew_aload_n (F : ev_fr p R s m args meth c0 A G M d w) (hmet : ev_met l G d w C) (hmw : ev_metW l G d w C) : ru_aload_n G C w M K (ev_W p l e R s m args below meth c0 Q D A M) := by
  obtain ⟨hx, hb, hml, hown, hts, hG, hnw, hA, hRf, hRl, hret, hnm, hlk⟩ := F
  intro pc L st h c z j x hd hx1 k H locs cells slots ls hr hS hl hc hz
  dsimp only at hr hl hc hz ⊢
  exact lv_aload_n hx hb hd rfl (hl.at hx1) (k H locs cells slots ls hr hS hl hc hz)
set_option maxHeartbeats 1000000 in
theorem ew_aload (F : ev_fr p R s m args meth c0 A G M d w) (hmet : ev_met l G d w C) (hmw : ev_metW l G d w C) : ru_aload G C w M K (ev_W p l e R s m args below meth c0 Q D A M) := by
  obtain ⟨hx, hb, hml, hown, hts, hG, hnw, hA, hRf, hRl, hret, hnm, hlk⟩ := F
  intro pc L st h c z i x hd hx1 k H locs cells slots ls hr hS hl hc hz
  dsimp only at hr hl hc hz ⊢
  exact lv_aload hx hb hd (hl.at hx1) (k H locs cells slots ls hr hS hl hc hz)
set_option maxHeartbeats 1000000 in
theorem ew_astore_n (F : ev_fr p R s m args meth c0 A G M d w) (hmet : ev_met l G d w C) (hmw : ev_metW l G d w C) : ru_astore_n G C w M K (ev_W p l e R s m args below meth c0 Q D A M) := by
  obtain ⟨hx, hb, hml, hown, hts, hG, hnw, hA, hRf, hRl, hret, hnm, hlk⟩ := F
  intro pc L st h c z j x hd hn k H locs cells slots ls hr hS hl hc hz
  dsimp only at hr hl hc hz ⊢
  obtain ⟨lv, hv1, hv2⟩ := hl
  exact lv_astore_n hx hb hd rfl hv1 (Nat.le_of_ble_eq_true hn) rfl (fun ls2 hl2 => k H locs cells slots ls2 hr hS (ev_lt1 hv2 hl2) hc hz)
set_option maxHeartbeats 1000000 in
theorem ew_astore (F : ev_fr p R s m args meth c0 A G M d w) (hmet : ev_met l G d w C) (hmw : ev_metW l G d w C) : ru_astore G C w M K (ev_W p l e R s m args below meth c0 Q D A M) := by
  obtain ⟨hx, hb, hml, hown, hts, hG, hnw, hA, hRf, hRl, hret, hnm, hlk⟩ := F
  intro pc L st h c z i x hd hn k H locs cells slots ls hr hS hl hc hz
  dsimp only at hr hl hc hz ⊢
  obtain ⟨lv, hv1, hv2⟩ := hl
  exact lv_astore hx hb hd hv1 (Nat.le_of_ble_eq_true hn) rfl (fun ls2 hl2 => k H locs cells slots ls2 hr hS (ev_lt1 hv2 hl2) hc hz)
set_option maxHeartbeats 1000000 in
theorem ew_iinc (F : ev_fr p R s m args meth c0 A G M d w) (hmet : ev_met l G d w C) (hmw : ev_metW l G d w C) : ru_iinc G C w M K (ev_W p l e R s m args below meth c0 Q D A M) := by
  obtain ⟨hx, hb, hml, hown, hts, hG, hnw, hA, hRf, hRl, hret, hnm, hlk⟩ := F
  intro pc L st h c z i n x hd hx1 hn k H locs cells slots ls hr hS hl hc hz
  dsimp only at hr hl hc hz ⊢
  obtain ⟨lv, hv1, hv2⟩ := hl
  obtain ⟨q, hq⟩ := List.getElem?_of_mem (hv2 _ _ hx1)
  exact lv_iinc hx hb hd hv1 hq rfl (Nat.le_of_ble_eq_true hn) rfl (fun ls2 hl2 => k H locs cells slots ls2 hr hS (ev_lt1 hv2 hl2) hc hz)
set_option maxHeartbeats 1000000 in
theorem ew_iadd (F : ev_fr p R s m args meth c0 A G M d w) (hmet : ev_met l G d w C) (hmw : ev_metW l G d w C) : ru_iadd G C w M K (ev_W p l e R s m args below meth c0 Q D A M) := by
  obtain ⟨hx, hb, hml, hown, hts, hG, hnw, hA, hRf, hRl, hret, hnm, hlk⟩ := F
  intro pc L st h c z x y hd k H locs cells slots ls hr hS hl hc hz
  dsimp only at hr hl hc hz ⊢
  exact lv_iadd hx hb hd  (k H locs cells slots ls hr hS hl hc hz)
set_option maxHeartbeats 1000000 in
theorem ew_isub (F : ev_fr p R s m args meth c0 A G M d w) (hmet : ev_met l G d w C) (hmw : ev_metW l G d w C) : ru_isub G C w M K (ev_W p l e R s m args below meth c0 Q D A M) := by
  obtain ⟨hx, hb, hml, hown, hts, hG, hnw, hA, hRf, hRl, hret, hnm, hlk⟩ := F
  intro pc L st h c z x y hd k H locs cells slots ls hr hS hl hc hz
  dsimp only at hr hl hc hz ⊢
  exact lv_isub hx hb hd  (k H locs cells slots ls hr hS hl hc hz)
set_option maxHeartbeats 1000000 in
theorem ew_imul (F : ev_fr p R s m args meth c0 A G M d w) (hmet : ev_met l G d w C) (hmw : ev_metW l G d w C) : ru_imul G C w M K (ev_W p l e R s m args below meth c0 Q D A M) := by
  obtain ⟨hx, hb, hml, hown, hts, hG, hnw, hA, hRf, hRl, hret, hnm, hlk⟩ := F
  intro pc L st h c z x y hd k H locs cells slots ls hr hS hl hc hz
  dsimp only at hr hl hc hz ⊢
  exact lv_imul hx hb hd  (k H locs cells slots ls hr hS hl hc hz)
set_option maxHeartbeats 1000000 in
theorem ew_iand (F : ev_fr p R s m args meth c0 A G M d w) (hmet : ev_met l G d w C) (hmw : ev_metW l G d w C) : ru_iand G C w M K (ev_W p l e R s m args below meth c0 Q D A M) := by
  obtain ⟨hx, hb, hml, hown, hts, hG, hnw, hA, hRf, hRl, hret, hnm, hlk⟩ := F
  intro pc L st h c z x y hd k H locs cells slots ls hr hS hl hc hz
  dsimp only at hr hl hc hz ⊢
  exact lv_iand hx hb hd  (k H locs cells slots ls hr hS hl hc hz)
set_option maxHeartbeats 1000000 in
theorem ew_ior (F : ev_fr p R s m args meth c0 A G M d w) (hmet : ev_met l G d w C) (hmw : ev_metW l G d w C) : ru_ior G C w M K (ev_W p l e R s m args below meth c0 Q D A M) := by
  obtain ⟨hx, hb, hml, hown, hts, hG, hnw, hA, hRf, hRl, hret, hnm, hlk⟩ := F
  intro pc L st h c z x y hd k H locs cells slots ls hr hS hl hc hz
  dsimp only at hr hl hc hz ⊢
  exact lv_ior hx hb hd  (k H locs cells slots ls hr hS hl hc hz)
set_option maxHeartbeats 1000000 in
theorem ew_ixor (F : ev_fr p R s m args meth c0 A G M d w) (hmet : ev_met l G d w C) (hmw : ev_metW l G d w C) : ru_ixor G C w M K (ev_W p l e R s m args below meth c0 Q D A M) := by
  obtain ⟨hx, hb, hml, hown, hts, hG, hnw, hA, hRf, hRl, hret, hnm, hlk⟩ := F
  intro pc L st h c z x y hd k H locs cells slots ls hr hS hl hc hz
  dsimp only at hr hl hc hz ⊢
  exact lv_ixor hx hb hd  (k H locs cells slots ls hr hS hl hc hz)
set_option maxHeartbeats 1000000 in
theorem ew_ishl (F : ev_fr p R s m args meth c0 A G M d w) (hmet : ev_met l G d w C) (hmw : ev_metW l G d w C) : ru_ishl G C w M K (ev_W p l e R s m args below meth c0 Q D A M) := by
  obtain ⟨hx, hb, hml, hown, hts, hG, hnw, hA, hRf, hRl, hret, hnm, hlk⟩ := F
  intro pc L st h c z x y hd k H locs cells slots ls hr hS hl hc hz
  dsimp only at hr hl hc hz ⊢
  exact lv_ishl hx hb hd  (k H locs cells slots ls hr hS hl hc hz)
set_option maxHeartbeats 1000000 in
theorem ew_ishr (F : ev_fr p R s m args meth c0 A G M d w) (hmet : ev_met l G d w C) (hmw : ev_metW l G d w C) : ru_ishr G C w M K (ev_W p l e R s m args below meth c0 Q D A M) := by
  obtain ⟨hx, hb, hml, hown, hts, hG, hnw, hA, hRf, hRl, hret, hnm, hlk⟩ := F
  intro pc L st h c z x y hd k H locs cells slots ls hr hS hl hc hz
  dsimp only at hr hl hc hz ⊢
  exact lv_ishr hx hb hd  (k H locs cells slots ls hr hS hl hc hz)
set_option maxHeartbeats 1000000 in
theorem ew_iushr (F : ev_fr p R s m args meth c0 A G M d w) (hmet : ev_met l G d w C) (hmw : ev_metW l G d w C) : ru_iushr G C w M K (ev_W p l e R s m args below meth c0 Q D A M) := by
  obtain ⟨hx, hb, hml, hown, hts, hG, hnw, hA, hRf, hRl, hret, hnm, hlk⟩ := F
  intro pc L st h c z x y hd k H locs cells slots ls hr hS hl hc hz
  dsimp only at hr hl hc hz ⊢
  exact lv_iushr hx hb hd rfl (k H locs cells slots ls hr hS hl hc hz)
set_option maxHeartbeats 1000000 in
theorem ew_idiv (F : ev_fr p R s m args meth c0 A G M d w) (hmet : ev_met l G d w C) (hmw : ev_metW l G d w C) : ru_idiv G C w M K (ev_W p l e R s m args below meth c0 Q D A M) := by
  obtain ⟨hx, hb, hml, hown, hts, hG, hnw, hA, hRf, hRl, hret, hnm, hlk⟩ := F
  intro pc L st h c z x y hd hne k H locs cells slots ls hr hS hl hc hz
  dsimp only at hr hl hc hz ⊢
  exact lv_idiv hx hb hd hne (k H locs cells slots ls hr hS hl hc hz)
set_option maxHeartbeats 1000000 in
theorem ew_irem (F : ev_fr p R s m args meth c0 A G M d w) (hmet : ev_met l G d w C) (hmw : ev_metW l G d w C) : ru_irem G C w M K (ev_W p l e R s m args below meth c0 Q D A M) := by
  obtain ⟨hx, hb, hml, hown, hts, hG, hnw, hA, hRf, hRl, hret, hnm, hlk⟩ := F
  intro pc L st h c z x y hd hne k H locs cells slots ls hr hS hl hc hz
  dsimp only at hr hl hc hz ⊢
  exact lv_irem hx hb hd hne (k H locs cells slots ls hr hS hl hc hz)
set_option maxHeartbeats 1000000 in
theorem ew_ineg (F : ev_fr p R s m args meth c0 A G M d w) (hmet : ev_met l G d w C) (hmw : ev_metW l G d w C) : ru_ineg G C w M K (ev_W p l e R s m args below meth c0 Q D A M) := by
  obtain ⟨hx, hb, hml, hown, hts, hG, hnw, hA, hRf, hRl, hret, hnm, hlk⟩ := F
  intro pc L st h c z x hd k H locs cells slots ls hr hS hl hc hz
  dsimp only at hr hl hc hz ⊢
  exact lv_ineg hx hb hd  (k H locs cells slots ls hr hS hl hc hz)
set_option maxHeartbeats 1000000 in
theorem ew_ladd (F : ev_fr p R s m args meth c0 A G M d w) (hmet : ev_met l G d w C) (hmw : ev_metW l G d w C) : ru_ladd G C w M K (ev_W p l e R s m args below meth c0 Q D A M) := by
  obtain ⟨hx, hb, hml, hown, hts, hG, hnw, hA, hRf, hRl, hret, hnm, hlk⟩ := F
  intro pc L st h c z x y hd k H locs cells slots ls hr hS hl hc hz
  dsimp only at hr hl hc hz ⊢
  exact lv_ladd hx hb hd  (k H locs cells slots ls hr hS hl hc hz)
set_option maxHeartbeats 1000000 in
theorem ew_lsub (F : ev_fr p R s m args meth c0 A G M d w) (hmet : ev_met l G d w C) (hmw : ev_metW l G d w C) : ru_lsub G C w M K (ev_W p l e R s m args below meth c0 Q D A M) := by
  obtain ⟨hx, hb, hml, hown, hts, hG, hnw, hA, hRf, hRl, hret, hnm, hlk⟩ := F
  intro pc L st h c z x y hd k H locs cells slots ls hr hS hl hc hz
  dsimp only at hr hl hc hz ⊢
  exact lv_lsub hx hb hd  (k H locs cells slots ls hr hS hl hc hz)
set_option maxHeartbeats 1000000 in
theorem ew_lmul (F : ev_fr p R s m args meth c0 A G M d w) (hmet : ev_met l G d w C) (hmw : ev_metW l G d w C) : ru_lmul G C w M K (ev_W p l e R s m args below meth c0 Q D A M) := by
  obtain ⟨hx, hb, hml, hown, hts, hG, hnw, hA, hRf, hRl, hret, hnm, hlk⟩ := F
  intro pc L st h c z x y hd k H locs cells slots ls hr hS hl hc hz
  dsimp only at hr hl hc hz ⊢
  exact lv_lmul hx hb hd  (k H locs cells slots ls hr hS hl hc hz)
set_option maxHeartbeats 1000000 in
theorem ew_land (F : ev_fr p R s m args meth c0 A G M d w) (hmet : ev_met l G d w C) (hmw : ev_metW l G d w C) : ru_land G C w M K (ev_W p l e R s m args below meth c0 Q D A M) := by
  obtain ⟨hx, hb, hml, hown, hts, hG, hnw, hA, hRf, hRl, hret, hnm, hlk⟩ := F
  intro pc L st h c z x y hd k H locs cells slots ls hr hS hl hc hz
  dsimp only at hr hl hc hz ⊢
  exact lv_land hx hb hd  (k H locs cells slots ls hr hS hl hc hz)
set_option maxHeartbeats 1000000 in
theorem ew_lor (F : ev_fr p R s m args meth c0 A G M d w) (hmet : ev_met l G d w C) (hmw : ev_metW l G d w C) : ru_lor G C w M K (ev_W p l e R s m args below meth c0 Q D A M) := by
  obtain ⟨hx, hb, hml, hown, hts, hG, hnw, hA, hRf, hRl, hret, hnm, hlk⟩ := F
  intro pc L st h c z x y hd k H locs cells slots ls hr hS hl hc hz
  dsimp only at hr hl hc hz ⊢
  exact lv_lor hx hb hd  (k H locs cells slots ls hr hS hl hc hz)
set_option maxHeartbeats 1000000 in
theorem ew_lxor (F : ev_fr p R s m args meth c0 A G M d w) (hmet : ev_met l G d w C) (hmw : ev_metW l G d w C) : ru_lxor G C w M K (ev_W p l e R s m args below meth c0 Q D A M) := by
  obtain ⟨hx, hb, hml, hown, hts, hG, hnw, hA, hRf, hRl, hret, hnm, hlk⟩ := F
  intro pc L st h c z x y hd k H locs cells slots ls hr hS hl hc hz
  dsimp only at hr hl hc hz ⊢
  exact lv_lxor hx hb hd  (k H locs cells slots ls hr hS hl hc hz)
set_option maxHeartbeats 1000000 in
theorem ew_ldiv (F : ev_fr p R s m args meth c0 A G M d w) (hmet : ev_met l G d w C) (hmw : ev_metW l G d w C) : ru_ldiv G C w M K (ev_W p l e R s m args below meth c0 Q D A M) := by
  obtain ⟨hx, hb, hml, hown, hts, hG, hnw, hA, hRf, hRl, hret, hnm, hlk⟩ := F
  intro pc L st h c z x y hd hne k H locs cells slots ls hr hS hl hc hz
  dsimp only at hr hl hc hz ⊢
  exact lv_ldiv hx hb hd hne (k H locs cells slots ls hr hS hl hc hz)
set_option maxHeartbeats 1000000 in
theorem ew_lrem (F : ev_fr p R s m args meth c0 A G M d w) (hmet : ev_met l G d w C) (hmw : ev_metW l G d w C) : ru_lrem G C w M K (ev_W p l e R s m args below meth c0 Q D A M) := by
  obtain ⟨hx, hb, hml, hown, hts, hG, hnw, hA, hRf, hRl, hret, hnm, hlk⟩ := F
  intro pc L st h c z x y hd hne k H locs cells slots ls hr hS hl hc hz
  dsimp only at hr hl hc hz ⊢
  exact lv_lrem hx hb hd hne (k H locs cells slots ls hr hS hl hc hz)
set_option maxHeartbeats 1000000 in
theorem ew_lshl (F : ev_fr p R s m args meth c0 A G M d w) (hmet : ev_met l G d w C) (hmw : ev_metW l G d w C) : ru_lshl G C w M K (ev_W p l e R s m args below meth c0 Q D A M) := by
  obtain ⟨hx, hb, hml, hown, hts, hG, hnw, hA, hRf, hRl, hret, hnm, hlk⟩ := F
  intro pc L st h c z x y hd k H locs cells slots ls hr hS hl hc hz
  dsimp only at hr hl hc hz ⊢
  exact lv_lshl hx hb hd rfl (k H locs cells slots ls hr hS hl hc hz)
set_option maxHeartbeats 1000000 in
theorem ew_lshr (F : ev_fr p R s m args meth c0 A G M d w) (hmet : ev_met l G d w C) (hmw : ev_metW l G d w C) : ru_lshr G C w M K (ev_W p l e R s m args below meth c0 Q D A M) := by
  obtain ⟨hx, hb, hml, hown, hts, hG, hnw, hA, hRf, hRl, hret, hnm, hlk⟩ := F
  intro pc L st h c z x y hd k H locs cells slots ls hr hS hl hc hz
  dsimp only at hr hl hc hz ⊢
  exact lv_lshr hx hb hd rfl (k H locs cells slots ls hr hS hl hc hz)
set_option maxHeartbeats 1000000 in
theorem ew_lushr (F : ev_fr p R s m args meth c0 A G M d w) (hmet : ev_met l G d w C) (hmw : ev_metW l G d w C) : ru_lushr G C w M K (ev_W p l e R s m args below meth c0 Q D A M) := by
  obtain ⟨hx, hb, hml, hown, hts, hG, hnw, hA, hRf, hRl, hret, hnm, hlk⟩ := F
  intro pc L st h c z x y hd k H locs cells slots ls hr hS hl hc hz
  dsimp only at hr hl hc hz ⊢
  exact lv_lushr hx hb hd rfl (k H locs cells slots ls hr hS hl hc hz)
set_option maxHeartbeats 1000000 in
theorem ew_lneg (F : ev_fr p R s m args meth c0 A G M d w) (hmet : ev_met l G d w C) (hmw : ev_metW l G d w C) : ru_lneg G C w M K (ev_W p l e R s m args below meth c0 Q D A M) := by
  obtain ⟨hx, hb, hml, hown, hts, hG, hnw, hA, hRf, hRl, hret, hnm, hlk⟩ := F
  intro pc L st h c z x hd k H locs cells slots ls hr hS hl hc hz
  dsimp only at hr hl hc hz ⊢
  exact lv_lneg hx hb hd  (k H locs cells slots ls hr hS hl hc hz)
set_option maxHeartbeats 1000000 in
theorem ew_i2l (F : ev_fr p R s m args meth c0 A G M d w) (hmet : ev_met l G d w C) (hmw : ev_metW l G d w C) : ru_i2l G C w M K (ev_W p l e R s m args below meth c0 Q D A M) := by
  obtain ⟨hx, hb, hml, hown, hts, hG, hnw, hA, hRf, hRl, hret, hnm, hlk⟩ := F
  intro pc L st h c z x hd k H locs cells slots ls hr hS hl hc hz
  dsimp only at hr hl hc hz ⊢
  exact lv_i2l hx hb hd rfl (k H locs cells slots ls hr hS hl hc hz)
set_option maxHeartbeats 1000000 in
theorem ew_l2i (F : ev_fr p R s m args meth c0 A G M d w) (hmet : ev_met l G d w C) (hmw : ev_metW l G d w C) : ru_l2i G C w M K (ev_W p l e R s m args below meth c0 Q D A M) := by
  obtain ⟨hx, hb, hml, hown, hts, hG, hnw, hA, hRf, hRl, hret, hnm, hlk⟩ := F
  intro pc L st h c z x hd k H locs cells slots ls hr hS hl hc hz
  dsimp only at hr hl hc hz ⊢
  exact lv_l2i hx hb hd rfl (k H locs cells slots ls hr hS hl hc hz)
set_option maxHeartbeats 1000000 in
theorem ew_i2c (F : ev_fr p R s m args meth c0 A G M d w) (hmet : ev_met l G d w C) (hmw : ev_metW l G d w C) : ru_i2c G C w M K (ev_W p l e R s m args below meth c0 Q D A M) := by
  obtain ⟨hx, hb, hml, hown, hts, hG, hnw, hA, hRf, hRl, hret, hnm, hlk⟩ := F
  intro pc L st h c z x hd k H locs cells slots ls hr hS hl hc hz
  dsimp only at hr hl hc hz ⊢
  exact lv_i2c hx hb hd rfl (k H locs cells slots ls hr hS hl hc hz)
set_option maxHeartbeats 1000000 in
theorem ew_i2b (F : ev_fr p R s m args meth c0 A G M d w) (hmet : ev_met l G d w C) (hmw : ev_metW l G d w C) : ru_i2b G C w M K (ev_W p l e R s m args below meth c0 Q D A M) := by
  obtain ⟨hx, hb, hml, hown, hts, hG, hnw, hA, hRf, hRl, hret, hnm, hlk⟩ := F
  intro pc L st h c z x hd k H locs cells slots ls hr hS hl hc hz
  dsimp only at hr hl hc hz ⊢
  exact lv_i2b hx hb hd rfl (k H locs cells slots ls hr hS hl hc hz)
set_option maxHeartbeats 1000000 in
theorem ew_lcmp (F : ev_fr p R s m args meth c0 A G M d w) (hmet : ev_met l G d w C) (hmw : ev_metW l G d w C) : ru_lcmp G C w M K (ev_W p l e R s m args below meth c0 Q D A M) := by
  obtain ⟨hx, hb, hml, hown, hts, hG, hnw, hA, hRf, hRl, hret, hnm, hlk⟩ := F
  intro pc L st h c z x y hd k H locs cells slots ls hr hS hl hc hz
  dsimp only at hr hl hc hz ⊢
  exact W.lcmp hx hb hd  (k H locs cells slots ls hr hS hl hc hz)
set_option maxHeartbeats 1000000 in
theorem ew_dup (F : ev_fr p R s m args meth c0 A G M d w) (hmet : ev_met l G d w C) (hmw : ev_metW l G d w C) : ru_dup G C w M K (ev_W p l e R s m args below meth c0 Q D A M) := by
  obtain ⟨hx, hb, hml, hown, hts, hG, hnw, hA, hRf, hRl, hret, hnm, hlk⟩ := F
  intro pc L st h c z va hd hva k H locs cells slots ls hr hS hl hc hz
  dsimp only at hr hl hc hz ⊢
  exact lv_dup hx hb hd hva (k H locs cells slots ls hr hS hl hc hz)
set_option maxHeartbeats 1000000 in
theorem ew_pop (F : ev_fr p R s m args meth c0 A G M d w) (hmet : ev_met l G d w C) (hmw : ev_metW l G d w C) : ru_pop G C w M K (ev_W p l e R s m args below meth c0 Q D A M) := by
  obtain ⟨hx, hb, hml, hown, hts, hG, hnw, hA, hRf, hRl, hret, hnm, hlk⟩ := F
  intro pc L st h c z va hd hva k H locs cells slots ls hr hS hl hc hz
  dsimp only at hr hl hc hz ⊢
  exact lv_pop hx hb hd hva (k H locs cells slots ls hr hS hl hc hz)
set_option maxHeartbeats 1000000 in
theorem ew_dup_x1 (F : ev_fr p R s m args meth c0 A G M d w) (hmet : ev_met l G d w C) (hmw : ev_metW l G d w C) : ru_dup_x1 G C w M K (ev_W p l e R s m args below meth c0 Q D A M) := by
  obtain ⟨hx, hb, hml, hown, hts, hG, hnw, hA, hRf, hRl, hret, hnm, hlk⟩ := F
  intro pc L st h c z va vb hd hva hvb k H locs cells slots ls hr hS hl hc hz
  dsimp only at hr hl hc hz ⊢
  exact lv_dup_x1 hx hb hd hva hvb (k H locs cells slots ls hr hS hl hc hz)
set_option maxHeartbeats 1000000 in
theorem ew_dup_x2 (F : ev_fr p R s m args meth c0 A G M d w) (hmet : ev_met l G d w C) (hmw : ev_metW l G d w C) : ru_dup_x2 G C w M K (ev_W p l e R s m args below meth c0 Q D A M) := by
  obtain ⟨hx, hb, hml, hown, hts, hG, hnw, hA, hRf, hRl, hret, hnm, hlk⟩ := F
  intro pc L st h c z va vb vd hd hva hvb hvd k H locs cells slots ls hr hS hl hc hz
  dsimp only at hr hl hc hz ⊢
  exact lv_dup_x2 hx hb hd hva hvb hvd (k H locs cells slots ls hr hS hl hc hz)
set_option maxHeartbeats 1000000 in
theorem ew_dup2_11 (F : ev_fr p R s m args meth c0 A G M d w) (hmet : ev_met l G d w C) (hmw : ev_metW l G d w C) : ru_dup2_11 G C w M K (ev_W p l e R s m args below meth c0 Q D A M) := by
  obtain ⟨hx, hb, hml, hown, hts, hG, hnw, hA, hRf, hRl, hret, hnm, hlk⟩ := F
  intro pc L st h c z va vb hd hva hvb k H locs cells slots ls hr hS hl hc hz
  dsimp only at hr hl hc hz ⊢
  exact lv_dup2_11 hx hb hd hva hvb (k H locs cells slots ls hr hS hl hc hz)
set_option maxHeartbeats 1000000 in
theorem ew_dup2_2 (F : ev_fr p R s m args meth c0 A G M d w) (hmet : ev_met l G d w C) (hmw : ev_metW l G d w C) : ru_dup2_2 G C w M K (ev_W p l e R s m args below meth c0 Q D A M) := by
  obtain ⟨hx, hb, hml, hown, hts, hG, hnw, hA, hRf, hRl, hret, hnm, hlk⟩ := F
  intro pc L st h c z va hd hva k H locs cells slots ls hr hS hl hc hz
  dsimp only at hr hl hc hz ⊢
  exact lv_dup2_2 hx hb hd hva (k H locs cells slots ls hr hS hl hc hz)
set_option maxHeartbeats 1000000 in
theorem ew_pop2_2 (F : ev_fr p R s m args meth c0 A G M d w) (hmet : ev_met l G d w C) (hmw : ev_metW l G d w C) : ru_pop2_2 G C w M K (ev_W p l e R s m args below meth c0 Q D A M) := by
  obtain ⟨hx, hb, hml, hown, hts, hG, hnw, hA, hRf, hRl, hret, hnm, hlk⟩ := F
  intro pc L st h c z va hd hva k H locs cells slots ls hr hS hl hc hz
  dsimp only at hr hl hc hz ⊢
  exact lv_pop2_2 hx hb hd hva (k H locs cells slots ls hr hS hl hc hz)
set_option maxHeartbeats 1000000 in
theorem ew_dup2_x1_2 (F : ev_fr p R s m args meth c0 A G M d w) (hmet : ev_met l G d w C) (hmw : ev_metW l G d w C) : ru_dup2_x1_2 G C w M K (ev_W p l e R s m args below meth c0 Q D A M) := by
  obtain ⟨hx, hb, hml, hown, hts, hG, hnw, hA, hRf, hRl, hret, hnm, hlk⟩ := F
  intro pc L st h c z va vb hd hva hvb k H locs cells slots ls hr hS hl hc hz
  dsimp only at hr hl hc hz ⊢
  exact lv_dup2_x1_2 hx hb hd hva hvb (k H locs cells slots ls hr hS hl hc hz)
set_option maxHeartbeats 1000000 in
theorem ew_dup2_x2_2 (F : ev_fr p R s m args meth c0 A G M d w) (hmet : ev_met l G d w C) (hmw : ev_metW l G d w C) : ru_dup2_x2_2 G C w M K (ev_W p l e R s m args below meth c0 Q D A M) := by
  obtain ⟨hx, hb, hml, hown, hts, hG, hnw, hA, hRf, hRl, hret, hnm, hlk⟩ := F
  intro pc L st h c z va vb vd hd hva hvb hvd k H locs cells slots ls hr hS hl hc hz
  dsimp only at hr hl hc hz ⊢
  exact lv_dup2_x2_2 hx hb hd hva hvb hvd (k H locs cells slots ls hr hS hl hc hz)
set_option maxHeartbeats 1000000 in
theorem ew_if_eq (F : ev_fr p R s m args meth c0 A G M d w) (hmet : ev_met l G d w C) (hmw : ev_metW l G d w C) : ru_if_eq G C w M K (ev_W p l e R s m args below meth c0 Q D A M) := by
  obtain ⟨hx, hb, hml, hown, hts, hG, hnw, hA, hRf, hRl, hret, hnm, hlk⟩ := F
  intro pc L st h c z off tgt x hd ht kt kf H locs cells slots ls hr hS hl hc hz
  dsimp only at hr hl hc hz ⊢
  exact lv_if_eq hx hb hd ht (fun q => kt q H locs cells slots ls hr hS hl hc hz) (fun q => kf q H locs cells slots ls hr hS hl hc hz)
set_option maxHeartbeats 1000000 in
theorem ew_icmp_eq (F : ev_fr p R s m args meth c0 A G M d w) (hmet : ev_met l G d w C) (hmw : ev_metW l G d w C) : ru_icmp_eq G C w M K (ev_W p l e R s m args below meth c0 Q D A M) := by
  obtain ⟨hx, hb, hml, hown, hts, hG, hnw, hA, hRf, hRl, hret, hnm, hlk⟩ := F
  intro pc L st h c z off tgt x y hd ht kt kf H locs cells slots ls hr hS hl hc hz
  dsimp only at hr hl hc hz ⊢
  exact lv_icmp_eq hx hb hd ht (fun q => kt q H locs cells slots ls hr hS hl hc hz) (fun q => kf q H locs cells slots ls hr hS hl hc hz)
set_option maxHeartbeats 1000000 in
theorem ew_if_ne (F : ev_fr p R s m args meth c0 A G M d w) (hmet : ev_met l G d w C) (hmw : ev_metW l G d w C) : ru_if_ne G C w M K (ev_W p l e R s m args below meth c0 Q D A M) := by
  obtain ⟨hx, hb, hml, hown, hts, hG, hnw, hA, hRf, hRl, hret, hnm, hlk⟩ := F
  intro pc L st h c z off tgt x hd ht kt kf H locs cells slots ls hr hS hl hc hz
  dsimp only at hr hl hc hz ⊢
  exact lv_if_ne hx hb hd ht (fun q => kt q H locs cells slots ls hr hS hl hc hz) (fun q => kf q H locs cells slots ls hr hS hl hc hz)
set_option maxHeartbeats 1000000 in
theorem ew_icmp_ne (F : ev_fr p R s m args meth c0 A G M d w) (hmet : ev_met l G d w C) (hmw : ev_metW l G d w C) : ru_icmp_ne G C w M K (ev_W p l e R s m args below meth c0 Q D A M) := by
  obtain ⟨hx, hb, hml, hown, hts, hG, hnw, hA, hRf, hRl, hret, hnm, hlk⟩ := F
  intro pc L st h c z off tgt x y hd ht kt kf H locs cells slots ls hr hS hl hc hz
  dsimp only at hr hl hc hz ⊢
  exact lv_icmp_ne hx hb hd ht (fun q => kt q H locs cells slots ls hr hS hl hc hz) (fun q => kf q H locs cells slots ls hr hS hl hc hz)
set_option maxHeartbeats 1000000 in
theorem ew_if_lt (F : ev_fr p R s m args meth c0 A G M d w) (hmet : ev_met l G d w C) (hmw : ev_metW l G d w C) : ru_if_lt G C w M K (ev_W p l e R s m args below meth c0 Q D A M) := by
  obtain ⟨hx, hb, hml, hown, hts, hG, hnw, hA, hRf, hRl, hret, hnm, hlk⟩ := F
  intro pc L st h c z off tgt x hd ht kt kf H locs cells slots ls hr hS hl hc hz
  dsimp only at hr hl hc hz ⊢
  exact lv_if_lt hx hb hd ht (fun q => kt q H locs cells slots ls hr hS hl hc hz) (fun q => kf q H locs cells slots ls hr hS hl hc hz)
set_option maxHeartbeats 1000000 in
theorem ew_icmp_lt (F : ev_fr p R s m args meth c0 A G M d w) (hmet : ev_met l G d w C) (hmw : ev_metW l G d w C) : ru_icmp_lt G C w M K (ev_W p l e R s m args below meth c0 Q D A M) := by
  obtain ⟨hx, hb, hml, hown, hts, hG, hnw, hA, hRf, hRl, hret, hnm, hlk⟩ := F
  intro pc L st h c z off tgt x y hd ht kt kf H locs cells slots ls hr hS hl hc hz
  dsimp only at hr hl hc hz ⊢
  exact lv_icmp_lt hx hb hd ht (fun q => kt q H locs cells slots ls hr hS hl hc hz) (fun q => kf q H locs cells slots ls hr hS hl hc hz)
set_option maxHeartbeats 1000000 in
theorem ew_if_ge (F : ev_fr p R s m args meth c0 A G M d w) (hmet : ev_met l G d w C) (hmw : ev_metW l G d w C) : ru_if_ge G C w M K (ev_W p l e R s m args below meth c0 Q D A M) := by
  obtain ⟨hx, hb, hml, hown, hts, hG, hnw, hA, hRf, hRl, hret, hnm, hlk⟩ := F
  intro pc L st h c z off tgt x hd ht kt kf H locs cells slots ls hr hS hl hc hz
  dsimp only at hr hl hc hz ⊢
  exact lv_if_ge hx hb hd ht (fun q => kt q H locs cells slots ls hr hS hl hc hz) (fun q => kf q H locs cells slots ls hr hS hl hc hz)
set_option maxHeartbeats 1000000 in
theorem ew_icmp_ge (F : ev_fr p R s m args meth c0 A G M d w) (hmet : ev_met l G d w C) (hmw : ev_metW l G d w C) : ru_icmp_ge G C w M K (ev_W p l e R s m args below meth c0 Q D A M) := by
  obtain ⟨hx, hb, hml, hown, hts, hG, hnw, hA, hRf, hRl, hret, hnm, hlk⟩ := F
  intro pc L st h c z off tgt x y hd ht kt kf H locs cells slots ls hr hS hl hc hz
  dsimp only at hr hl hc hz ⊢
  exact lv_icmp_ge hx hb hd ht (fun q => kt q H locs cells slots ls hr hS hl hc hz) (fun q => kf q H locs cells slots ls hr hS hl hc hz)
set_option maxHeartbeats 1000000 in
theorem ew_if_gt (F : ev_fr p R s m args meth c0 A G M d w) (hmet : ev_met l G d w C) (hmw : ev_metW l G d w C) : ru_if_gt G C w M K (ev_W p l e R s m args below meth c0 Q D A M) := by
  obtain ⟨hx, hb, hml, hown, hts, hG, hnw, hA, hRf, hRl, hret, hnm, hlk⟩ := F
  intro pc L st h c z off tgt x hd ht kt kf H locs cells slots ls hr hS hl hc hz
  dsimp only at hr hl hc hz ⊢
  exact lv_if_gt hx hb hd ht (fun q => kt q H locs cells slots ls hr hS hl hc hz) (fun q => kf q H locs cells slots ls hr hS hl hc hz)
set_option maxHeartbeats 1000000 in
theorem ew_icmp_gt (F : ev_fr p R s m args meth c0 A G M d w) (hmet : ev_met l G d w C) (hmw : ev_metW l G d w C) : ru_icmp_gt G C w M K (ev_W p l e R s m args below meth c0 Q D A M) := by
  obtain ⟨hx, hb, hml, hown, hts, hG, hnw, hA, hRf, hRl, hret, hnm, hlk⟩ := F
  intro pc L st h c z off tgt x y hd ht kt kf H locs cells slots ls hr hS hl hc hz
  dsimp only at hr hl hc hz ⊢
  exact lv_icmp_gt hx hb hd ht (fun q => kt q H locs cells slots ls hr hS hl hc hz) (fun q => kf q H locs cells slots ls hr hS hl hc hz)
set_option maxHeartbeats 1000000 in
theorem ew_if_le (F : ev_fr p R s m args meth c0 A G M d w) (hmet : ev_met l G d w C) (hmw : ev_metW l G d w C) : ru_if_le G C w M K (ev_W p l e R s m args below meth c0 Q D A M) := by
  obtain ⟨hx, hb, hml, hown, hts, hG, hnw, hA, hRf, hRl, hret, hnm, hlk⟩ := F
  intro pc L st h c z off tgt x hd ht kt kf H locs cells slots ls hr hS hl hc hz
  dsimp only at hr hl hc hz ⊢
  exact lv_if_le hx hb hd ht (fun q => kt q H locs cells slots ls hr hS hl hc hz) (fun q => kf q H locs cells slots ls hr hS hl hc hz)
set_option maxHeartbeats 1000000 in
theorem ew_icmp_le (F : ev_fr p R s m args meth c0 A G M d w) (hmet : ev_met l G d w C) (hmw : ev_metW l G d w C) : ru_icmp_le G C w M K (ev_W p l e R s m args below meth c0 Q D A M) := by
  obtain ⟨hx, hb, hml, hown, hts, hG, hnw, hA, hRf, hRl, hret, hnm, hlk⟩ := F
  intro pc L st h c z off tgt x y hd ht kt kf H locs cells slots ls hr hS hl hc hz
  dsimp only at hr hl hc hz ⊢
  exact lv_icmp_le hx hb hd ht (fun q => kt q H locs cells slots ls hr hS hl hc hz) (fun q => kf q H locs cells slots ls hr hS hl hc hz)
set_option maxHeartbeats 1000000 in
theorem ew_goto (F : ev_fr p R s m args meth c0 A G M d w) (hmet : ev_met l G d w C) (hmw : ev_metW l G d w C) : ru_goto G C w M K (ev_W p l e R s m args below meth c0 Q D A M) := by
  obtain ⟨hx, hb, hml, hown, hts, hG, hnw, hA, hRf, hRl, hret, hnm, hlk⟩ := F
  intro pc L st h c z off tgt hd ht k H locs cells slots ls hr hS hl hc hz
  dsimp only at hr hl hc hz ⊢
  exact lv_goto hx hb hd ht (k H locs cells slots ls hr hS hl hc hz)
set_option maxHeartbeats 1000000 in
theorem ew_tableIn (F : ev_fr p R s m args meth c0 A G M d w) (hmet : ev_met l G d w C) (hmw : ev_metW l G d w C) : ru_tableIn G C w M K (ev_W p l e R s m args below meth c0 Q D A M) := by
  obtain ⟨hx, hb, hml, hown, hts, hG, hnw, hA, hRf, hRl, hret, hnm, hlk⟩ := F
  intro pc L st h c z dflt lo hi offs len x off tgt hd h1 h2 ho ht k H locs cells slots ls hr hS hl hc hz
  dsimp only at hr hl hc hz ⊢
  exact lv_tableIn hx hb hd h1 h2 ho ht (k H locs cells slots ls hr hS hl hc hz)
set_option maxHeartbeats 1000000 in
theorem ew_tableOut (F : ev_fr p R s m args meth c0 A G M d w) (hmet : ev_met l G d w C) (hmw : ev_metW l G d w C) : ru_tableOut G C w M K (ev_W p l e R s m args below meth c0 Q D A M) := by
  obtain ⟨hx, hb, hml, hown, hts, hG, hnw, hA, hRf, hRl, hret, hnm, hlk⟩ := F
  intro pc L st h c z dflt lo hi offs len x tgt hd h1 ht k H locs cells slots ls hr hS hl hc hz
  dsimp only at hr hl hc hz ⊢
  exact lv_tableOut hx hb hd h1 ht (k H locs cells slots ls hr hS hl hc hz)
set_option maxHeartbeats 1000000 in
theorem ew_iald (F : ev_fr p R s m args meth c0 A G M d w) (hmet : ev_met l G d w C) (hmw : ev_metW l G d w C) : ru_iald G C w M K (ev_W p l e R s m args below meth c0 Q D A M) := by
  obtain ⟨hx, hb, hml, hown, hts, hG, hnw, hA, hRf, hRl, hret, hnm, hlk⟩ := F
  intro pc L st h c z a n f i hd ha hi k H locs cells slots ls hr hS hl hc hz
  dsimp only at hr hl hc hz ⊢
  obtain ⟨ws, tys, hP, hK, hD, hR⟩ := id hr
  obtain ⟨q0, cA, t0, h1, h2⟩ := ev_arr hR ha
  exact va_iald hx hb hK hP q0 t0 h1 h2 hi hd (k H locs cells slots ls hr hS hl hc hz)
set_option maxHeartbeats 1000000 in
theorem ew_cald (F : ev_fr p R s m args meth c0 A G M d w) (hmet : ev_met l G d w C) (hmw : ev_metW l G d w C) : ru_cald G C w M K (ev_W p l e R s m args below meth c0 Q D A M) := by
  obtain ⟨hx, hb, hml, hown, hts, hG, hnw, hA, hRf, hRl, hret, hnm, hlk⟩ := F
  intro pc L st h c z a n f i hd ha hi k H locs cells slots ls hr hS hl hc hz
  dsimp only at hr hl hc hz ⊢
  obtain ⟨ws, tys, hP, hK, hD, hR⟩ := id hr
  obtain ⟨q0, cA, t0, h1, h2⟩ := ev_arr hR ha
  exact va_cald hx hb hK hP q0 t0 h1 h2 hi hd (k H locs cells slots ls hr hS hl hc hz)
set_option maxHeartbeats 1000000 in
theorem ew_bald (F : ev_fr p R s m args meth c0 A G M d w) (hmet : ev_met l G d w C) (hmw : ev_metW l G d w C) : ru_bald G C w M K (ev_W p l e R s m args below meth c0 Q D A M) := by
  obtain ⟨hx, hb, hml, hown, hts, hG, hnw, hA, hRf, hRl, hret, hnm, hlk⟩ := F
  intro pc L st h c z a n f i hd ha hi k H locs cells slots ls hr hS hl hc hz
  dsimp only at hr hl hc hz ⊢
  obtain ⟨ws, tys, hP, hK, hD, hR⟩ := id hr
  obtain ⟨q0, cA, t0, h1, h2⟩ := ev_arr hR ha
  exact va_bald hx hb hK hP q0 t0 h1 h2 hi hd (k H locs cells slots ls hr hS hl hc hz)
set_option maxHeartbeats 1000000 in
theorem ew_zald (F : ev_fr p R s m args meth c0 A G M d w) (hmet : ev_met l G d w C) (hmw : ev_metW l G d w C) : ru_zald G C w M K (ev_W p l e R s m args below meth c0 Q D A M) := by
  obtain ⟨hx, hb, hml, hown, hts, hG, hnw, hA, hRf, hRl, hret, hnm, hlk⟩ := F
  intro pc L st h c z a n f i hd ha hi k H locs cells slots ls hr hS hl hc hz
  dsimp only at hr hl hc hz ⊢
  obtain ⟨ws, tys, hP, hK, hD, hR⟩ := id hr
  obtain ⟨q0, cA, t0, h1, h2⟩ := ev_arr hR ha
  exact va_zald hx hb hK hP q0 t0 h1 h2 hi hd (k H locs cells slots ls hr hS hl hc hz)
set_option maxHeartbeats 1000000 in
theorem ew_lald (F : ev_fr p R s m args meth c0 A G M d w) (hmet : ev_met l G d w C) (hmw : ev_metW l G d w C) : ru_lald G C w M K (ev_W p l e R s m args below meth c0 Q D A M) := by
  obtain ⟨hx, hb, hml, hown, hts, hG, hnw, hA, hRf, hRl, hret, hnm, hlk⟩ := F
  intro pc L st h c z a n f i hd ha hi k H locs cells slots ls hr hS hl hc hz
  dsimp only at hr hl hc hz ⊢
  obtain ⟨ws, tys, hP, hK, hD, hR⟩ := id hr
  obtain ⟨q0, cA, t0, h1, h2⟩ := ev_arr hR ha
  exact va_lald hx hb hK hP q0 t0 h1 h2 hi hd (k H locs cells slots ls hr hS hl hc hz)
set_option maxHeartbeats 1000000 in
theorem ew_aald (F : ev_fr p R s m args meth c0 A G M d w) (hmet : ev_met l G d w C) (hmw : ev_metW l G d w C) : ru_aald G C w M K (ev_W p l e R s m args below meth c0 Q D A M) := by
  obtain ⟨hx, hb, hml, hown, hts, hG, hnw, hA, hRf, hRl, hret, hnm, hlk⟩ := F
  intro pc L st h c z a n q f i hd ha hi hf k H locs cells slots ls hr hS hl hc hz
  dsimp only at hr hl hc hz ⊢
  obtain ⟨ws, tys, hP, hK, hD, hR⟩ := id hr
  obtain ⟨q0, cA, t0, h1, h2⟩ := ev_arr hR ha
  have hlt : i.toNatClampNeg < n := Nat.not_le.mp (fun z => hi (Or.inr z))
  exact W.aald hx hb (hP q0 _ h1) ((hK.2 t0 _ h2).1 n (fun j => va_rf (f j))) rfl (fun z => by cases z) (by show ¬ (i < 0 ∨ (arrV _ _ _).slots.size ≤ _); rw [arrV_size]; exact hi) (by show (arrV _ _ _).slots[_]? = _; rw [arrV_read _ _ hlt, hf]; rfl) rfl rfl hd (k H locs cells slots ls hr hS hl hc hz)
set_option maxHeartbeats 1000000 in
theorem ew_iast (F : ev_fr p R s m args meth c0 A G M d w) (hmet : ev_met l G d w C) (hmw : ev_metW l G d w C) : ru_iast G C w M K (ev_W p l e R s m args below meth c0 Q D A M) := by
  obtain ⟨hx, hb, hml, hown, hts, hG, hnw, hA, hRf, hRl, hret, hnm, hlk⟩ := F
  intro pc L st h c z a n f i x hd ha hi k H locs cells slots ls hr hS hl hc hz
  dsimp only at hr hl hc hz ⊢
  obtain ⟨ws, tys, hP, hK, hD, hR⟩ := id hr
  obtain ⟨q0, cA, t0, h1, h2⟩ := ev_arr hR ha
  exact va_iast hx hb hK hP hD hS q0 t0 h1 h2 hi hd (fun H1 locs1 hP1 hD1 hS1 => k H1 locs1 cells slots ls ⟨_, tys, hP1, hK, hD1, ev_set hD hR h1 ⟨rfl, t0, h2⟩⟩ hS1 hl hc hz)
set_option maxHeartbeats 1000000 in
theorem ew_cast (F : ev_fr p R s m args meth c0 A G M d w) (hmet : ev_met l G d w C) (hmw : ev_metW l G d w C) : ru_cast G C w M K (ev_W p l e R s m args below meth c0 Q D A M) := by
  obtain ⟨hx, hb, hml, hown, hts, hG, hnw, hA, hRf, hRl, hret, hnm, hlk⟩ := F
  intro pc L st h c z a n f i x hd ha hi k H locs cells slots ls hr hS hl hc hz
  dsimp only at hr hl hc hz ⊢
  obtain ⟨ws, tys, hP, hK, hD, hR⟩ := id hr
  obtain ⟨q0, cA, t0, h1, h2⟩ := ev_arr hR ha
  exact va_cast hx hb hK hP hD hS q0 t0 h1 h2 hi hd (fun H1 locs1 hP1 hD1 hS1 => k H1 locs1 cells slots ls ⟨_, tys, hP1, hK, hD1, ev_set hD hR h1 ⟨rfl, t0, h2⟩⟩ hS1 hl hc hz)
set_option maxHeartbeats 1000000 in
theorem ew_zast (F : ev_fr p R s m args meth c0 A G M d w) (hmet : ev_met l G d w C) (hmw : ev_metW l G d w C) : ru_zast G C w M K (ev_W p l e R s m args below meth c0 Q D A M) := by
  obtain ⟨hx, hb, hml, hown, hts, hG, hnw, hA, hRf, hRl, hret, hnm, hlk⟩ := F
  intro pc L st h c z a n f i x hd ha hi k H locs cells slots ls hr hS hl hc hz
  dsimp only at hr hl hc hz ⊢
  obtain ⟨ws, tys, hP, hK, hD, hR⟩ := id hr
  obtain ⟨q0, cA, t0, h1, h2⟩ := ev_arr hR ha
  exact va_zast hx hb hK hP hD hS q0 t0 h1 h2 hi hd (fun H1 locs1 hP1 hD1 hS1 => k H1 locs1 cells slots ls ⟨_, tys, hP1, hK, hD1, ev_set hD hR h1 ⟨rfl, t0, h2⟩⟩ hS1 hl hc hz)
set_option maxHeartbeats 1000000 in
theorem ew_bast (F : ev_fr p R s m args meth c0 A G M d w) (hmet : ev_met l G d w C) (hmw : ev_metW l G d w C) : ru_bast G C w M K (ev_W p l e R s m args below meth c0 Q D A M) := by
  obtain ⟨hx, hb, hml, hown, hts, hG, hnw, hA, hRf, hRl, hret, hnm, hlk⟩ := F
  intro pc L st h c z a n f i x hd ha hi k H locs cells slots ls hr hS hl hc hz
  dsimp only at hr hl hc hz ⊢
  obtain ⟨ws, tys, hP, hK, hD, hR⟩ := id hr
  obtain ⟨q0, cA, t0, h1, h2⟩ := ev_arr hR ha
  exact va_bast hx hb hK hP hD hS q0 t0 h1 h2 hi hd (fun H1 locs1 hP1 hD1 hS1 => k H1 locs1 cells slots ls ⟨_, tys, hP1, hK, hD1, ev_set hD hR h1 ⟨rfl, t0, h2⟩⟩ hS1 hl hc hz)
set_option maxHeartbeats 1000000 in
theorem ew_last (F : ev_fr p R s m args meth c0 A G M d w) (hmet : ev_met l G d w C) (hmw : ev_metW l G d w C) : ru_last G C w M K (ev_W p l e R s m args below meth c0 Q D A M) := by
  obtain ⟨hx, hb, hml, hown, hts, hG, hnw, hA, hRf, hRl, hret, hnm, hlk⟩ := F
  intro pc L st h c z a n f i x hd ha hi k H locs cells slots ls hr hS hl hc hz
  dsimp only at hr hl hc hz ⊢
  obtain ⟨ws, tys, hP, hK, hD, hR⟩ := id hr
  obtain ⟨q0, cA, t0, h1, h2⟩ := ev_arr hR ha
  exact va_last hx hb hK hP hD hS q0 t0 h1 h2 hi hd (fun H1 locs1 hP1 hD1 hS1 => k H1 locs1 cells slots ls ⟨_, tys, hP1, hK, hD1, ev_set hD hR h1 ⟨rfl, t0, h2⟩⟩ hS1 hl hc hz)
set_option maxHeartbeats 1000000 in
theorem ew_alen (F : ev_fr p R s m args meth c0 A G M d w) (hmet : ev_met l G d w C) (hmw : ev_metW l G d w C) : ru_alen G C w M K (ev_W p l e R s m args below meth c0 Q D A M) := by
  obtain ⟨hx, hb, hml, hown, hts, hG, hnw, hA, hRf, hRl, hret, hnm, hlk⟩ := F
  intro pc L st h c z a ft x hd ha k H locs cells slots ls hr hS hl hc hz
  dsimp only at hr hl hc hz ⊢
  obtain ⟨ws, tys, hP, hK, hD, hR⟩ := id hr
  obtain ⟨q0, cA, t0, h1, h2⟩ := ev_arr hR ha
  exact va_alen hx hb hK hP q0 t0 h1 h2 rfl hd (k H locs cells slots ls hr hS hl hc hz)
set_option maxHeartbeats 1000000 in
theorem ew_riald (F : ev_fr p R s m args meth c0 A G M d w) (hmet : ev_met l G d w C) (hmw : ev_metW l G d w C) : ru_riald G C w M K (ev_W p l e R s m args below meth c0 Q D A M) := by
  obtain ⟨hx, hb, hml, hown, hts, hG, hnw, hA, hRf, hRl, hret, hnm, hlk⟩ := F
  intro pc L st h c z a n f i hd ha hi k H locs cells slots ls hr hS hl hc hz
  dsimp only at hr hl hc hz ⊢
  exact va_ti hx hb (hG.1 _ _ _ ha) hS hi rfl hd (k H locs cells slots ls hr hS hl hc hz)
set_option maxHeartbeats 1000000 in
theorem ew_ralen (F : ev_fr p R s m args meth c0 A G M d w) (hmet : ev_met l G d w C) (hmw : ev_metW l G d w C) : ru_ralen G C w M K (ev_W p l e R s m args below meth c0 Q D A M) := by
  obtain ⟨hx, hb, hml, hown, hts, hG, hnw, hA, hRf, hRl, hret, hnm, hlk⟩ := F
  intro pc L st h c z a n f hd ha k H locs cells slots ls hr hS hl hc hz
  dsimp only at hr hl hc hz ⊢
  exact va_tlen hx hb (hG.1 _ _ _ ha) hS rfl hd (k H locs cells slots ls hr hS hl hc hz)
set_option maxHeartbeats 1000000 in
theorem ew_gets (F : ev_fr p R s m args meth c0 A G M d w) (hmet : ev_met l G d w C) (hmw : ev_metW l G d w C) : ru_gets G C w M K (ev_W p l e R s m args below meth c0 Q D A M) := by
  obtain ⟨hx, hb, hml, hown, hts, hG, hnw, hA, hRf, hRl, hret, hnm, hlk⟩ := F
  intro pc L st h c z i Cn n d a hd hw ha k H locs cells slots ls hr hS hl hc hz
  dsimp only at hr hl hc hz ⊢
  exact va_gets hx hb (hG.2 _ _ _ _ ha) hS hown (hts _ hw) (fun _ q => q) hd (k H locs cells slots ls hr hS hl hc hz)
set_option maxHeartbeats 1000000 in
theorem ew_getf (F : ev_fr p R s m args meth c0 A G M d w) (hmet : ev_met l G d w C) (hmw : ev_metW l G d w C) : ru_getf G C w M K (ev_W p l e R s m args below meth c0 Q D A M) := by
  obtain ⟨hx, hb, hml, hown, hts, hG, hnw, hA, hRf, hRl, hret, hnm, hlk⟩ := F
  intro pc L st h c z i a ci kf fs v hd hw ha hv k H locs cells slots ls hr hS hl hc hz
  dsimp only at hr hl hc hz ⊢
  obtain ⟨C, T, N, w1, w2, w3⟩ := hw
  obtain ⟨ws, tys, hP, hK, hD, hR⟩ := id hr
  obtain ⟨q0, h1⟩ := ev_obj hR ha
  exact va_get hx hb hts (ev_cl w1).1 hown hK hP q0 h1 w1 kf w2 (hts _ w3) (fun _ q => q) hv hd (k H locs cells slots ls hr hS hl hc hz)
set_option maxHeartbeats 1000000 in
theorem ew_putf (F : ev_fr p R s m args meth c0 A G M d w) (hmet : ev_met l G d w C) (hmw : ev_metW l G d w C) : ru_putf G C w M K (ev_W p l e R s m args below meth c0 Q D A M) := by
  obtain ⟨hx, hb, hml, hown, hts, hG, hnw, hA, hRf, hRl, hret, hnm, hlk⟩ := F
  intro pc L st h c z i a ci kf ty fs v hd hw ha hl1 hn hf k H locs cells slots ls hr hS hl hc hz
  dsimp only at hr hl hc hz ⊢
  obtain ⟨C, T, N, w1, w2, w3, w4, w5⟩ := hw
  obtain ⟨ws, tys, hP, hK, hD, hR⟩ := id hr
  obtain ⟨q0, h1⟩ := ev_obj hR ha
  obtain ⟨g1, g2, tt, g3⟩ := ev_cl w1
  exact va_put hx hb hts g1 tt g3 g2 hown hK hP hD hS q0 h1 w1 kf w2 (hts _ w3) (fun _ q => q) w4 w5 hn hf (Nat.le_of_ble_eq_true hl1) hd (fun H1 locs1 hP1 hD1 hS1 => k H1 locs1 cells slots ls ⟨_, tys, hP1, hK, hD1, ev_set hD hR h1 rfl⟩ hS1 hl hc hz)
set_option maxHeartbeats 1000000 in
theorem ew_putF (F : ev_fr p R s m args meth c0 A G M d w) (hmet : ev_met l G d w C) (hmw : ev_metW l G d w C) : ru_putF G C w M K (ev_W p l e R s m args below meth c0 Q D A M) := by
  obtain ⟨hx, hb, hml, hown, hts, hG, hnw, hA, hRf, hRl, hret, hnm, hlk⟩ := F
  intro pc L st h c z i a ci kf ty fs v hd hw hi ha hl1 hn hf k H locs cells slots ls hr hS hl hc hz
  dsimp only at hr hl hc hz ⊢
  obtain ⟨C, T, N, w1, w2, w3, w4, w5, w6⟩ := hw
  obtain ⟨ws, tys, hP, hK, hD, hR⟩ := id hr
  obtain ⟨q0, h1⟩ := ev_obj hR ha
  obtain ⟨g1, g2, tt, g3⟩ := ev_cl w1
  exact va_putF hx hb hts g1 tt g3 g2 hown hK hP hD hS q0 h1 w1 kf w2 (hts _ w3) (fun _ q => q) w4 (hnm.trans hi) w6 w5 hn hf (Nat.le_of_ble_eq_true hl1) hd (fun H1 locs1 hP1 hD1 hS1 => k H1 locs1 cells slots ls ⟨_, tys, hP1, hK, hD1, ev_set hD hR h1 rfl⟩ hS1 hl hc hz)
set_option maxHeartbeats 1000000 in
theorem ew_newi (F : ev_fr p R s m args meth c0 A G M d w) (hmet : ev_met l G d w C) (hmw : ev_metW l G d w C) : ru_newi G C w M K (ev_W p l e R s m args below meth c0 Q D A M) := by
  obtain ⟨hx, hb, hml, hown, hts, hG, hnw, hA, hRf, hRl, hret, hnm, hlk⟩ := F
  intro pc L st h c z n N hd hw hn hN hB k H locs cells slots ls hr hS hl hc hz
  dsimp only at hr hl hc hz ⊢
  obtain ⟨ws, tys, hP, hK, hD, hR⟩ := id hr
  refine va_newa (atype := .int) (a0 := (N, .inl (fun _ => 0))) hx hb (hts _ hw) rfl hK hP hD hS hA (fun cA => rfl) hn hN (by show N * componentBytes .int ≤ 536870912; have := Nat.mul_le_mul_left N (show componentBytes .int ≤ 8 by decide); omega) (by omega) (by omega) hd (fun q cA H1 hK1 hP1 hD1 hS1 => ?_)
  obtain ⟨f1, f2⟩ := ev_push hP hD hD1 hR (c := .inl (.int, N, .inl (fun _ => 0))) (tys2 := [(cA, .int)]) ⟨rfl, ev_lastty⟩
  exact k q f1 H1 locs _ _ ls ⟨_, _, hP1, hK1, hD1, f2⟩ hS1 hl (by dsimp only; omega) (by dsimp only; omega)
set_option maxHeartbeats 1000000 in
theorem ew_newc (F : ev_fr p R s m args meth c0 A G M d w) (hmet : ev_met l G d w C) (hmw : ev_metW l G d w C) : ru_newc G C w M K (ev_W p l e R s m args below meth c0 Q D A M) := by
  obtain ⟨hx, hb, hml, hown, hts, hG, hnw, hA, hRf, hRl, hret, hnm, hlk⟩ := F
  intro pc L st h c z n N hd hw hn hN hB k H locs cells slots ls hr hS hl hc hz
  dsimp only at hr hl hc hz ⊢
  obtain ⟨ws, tys, hP, hK, hD, hR⟩ := id hr
  refine va_newa (atype := .char) (a0 := (N, .inl (fun _ => 0))) hx hb (hts _ hw) rfl hK hP hD hS hA (fun cA => rfl) hn hN (by show N * componentBytes .char ≤ 536870912; have := Nat.mul_le_mul_left N (show componentBytes .char ≤ 8 by decide); omega) (by omega) (by omega) hd (fun q cA H1 hK1 hP1 hD1 hS1 => ?_)
  obtain ⟨f1, f2⟩ := ev_push hP hD hD1 hR (c := .inl (.char, N, .inl (fun _ => 0))) (tys2 := [(cA, .char)]) ⟨rfl, ev_lastty⟩
  exact k q f1 H1 locs _ _ ls ⟨_, _, hP1, hK1, hD1, f2⟩ hS1 hl (by dsimp only; omega) (by dsimp only; omega)
set_option maxHeartbeats 1000000 in
theorem ew_newl (F : ev_fr p R s m args meth c0 A G M d w) (hmet : ev_met l G d w C) (hmw : ev_metW l G d w C) : ru_newl G C w M K (ev_W p l e R s m args below meth c0 Q D A M) := by
  obtain ⟨hx, hb, hml, hown, hts, hG, hnw, hA, hRf, hRl, hret, hnm, hlk⟩ := F
  intro pc L st h c z n N hd hw hn hN hB k H locs cells slots ls hr hS hl hc hz
  dsimp only at hr hl hc hz ⊢
  obtain ⟨ws, tys, hP, hK, hD, hR⟩ := id hr
  refine va_newa (atype := .long) (a0 := (N, .inr (.inl (fun _ => 0)))) hx hb (hts _ hw) rfl hK hP hD hS hA (fun cA => rfl) hn hN (by show N * componentBytes .long ≤ 536870912; have := Nat.mul_le_mul_left N (show componentBytes .long ≤ 8 by decide); omega) (by omega) (by omega) hd (fun q cA H1 hK1 hP1 hD1 hS1 => ?_)
  obtain ⟨f1, f2⟩ := ev_push hP hD hD1 hR (c := .inl (.long, N, .inr (.inl (fun _ => 0)))) (tys2 := [(cA, .long)]) ⟨rfl, ev_lastty⟩
  exact k q f1 H1 locs _ _ ls ⟨_, _, hP1, hK1, hD1, f2⟩ hS1 hl (by dsimp only; omega) (by dsimp only; omega)
set_option maxHeartbeats 1000000 in
theorem ew_newz (F : ev_fr p R s m args meth c0 A G M d w) (hmet : ev_met l G d w C) (hmw : ev_metW l G d w C) : ru_newz G C w M K (ev_W p l e R s m args below meth c0 Q D A M) := by
  obtain ⟨hx, hb, hml, hown, hts, hG, hnw, hA, hRf, hRl, hret, hnm, hlk⟩ := F
  intro pc L st h c z n N hd hw hn hN hB k H locs cells slots ls hr hS hl hc hz
  dsimp only at hr hl hc hz ⊢
  obtain ⟨ws, tys, hP, hK, hD, hR⟩ := id hr
  refine va_newa (atype := .boolean) (a0 := (N, .inl (fun _ => 0))) hx hb (hts _ hw) rfl hK hP hD hS hA (fun cA => rfl) hn hN (by show N * componentBytes .boolean ≤ 536870912; have := Nat.mul_le_mul_left N (show componentBytes .boolean ≤ 8 by decide); omega) (by omega) (by omega) hd (fun q cA H1 hK1 hP1 hD1 hS1 => ?_)
  obtain ⟨f1, f2⟩ := ev_push hP hD hD1 hR (c := .inl (.boolean, N, .inl (fun _ => 0))) (tys2 := [(cA, .boolean)]) ⟨rfl, ev_lastty⟩
  exact k q f1 H1 locs _ _ ls ⟨_, _, hP1, hK1, hD1, f2⟩ hS1 hl (by dsimp only; omega) (by dsimp only; omega)
set_option maxHeartbeats 1000000 in
theorem ew_new (F : ev_fr p R s m args meth c0 A G M d w) (hmet : ev_met l G d w C) (hmw : ev_metW l G d w C) : ru_new G C w M K (ev_W p l e R s m args below meth c0 Q D A M) := by
  obtain ⟨hx, hb, hml, hown, hts, hG, hnw, hA, hRf, hRl, hret, hnm, hlk⟩ := F
  intro pc L st h c z i ci N fs hd hw k H locs cells slots ls hr hS hl hc hz
  dsimp only at hr hl hc hz ⊢
  obtain ⟨C, T, w1, w2, w3, w4, tt, w5, w6⟩ := hw
  obtain ⟨ws, tys, hP, hK, hD, hR⟩ := id hr
  obtain ⟨g1, g2, -, -⟩ := ev_cl w1
  refine va_new hx hb hts g1 tt w5 hown (hts _ w2) (hts _ w3) (hts _ w4) hK hP hD hS hA w1 w6 (by omega) (by omega) hd (fun q H1 hP1 hD1 hS1 => ?_)
  obtain ⟨f1, f2⟩ := ev_push hP hD hD1 hR (c := .inr (ci, fs)) (tys2 := []) rfl
  rw [List.append_nil] at f2
  exact k q f1 H1 locs _ _ ls ⟨_, _, hP1, hK, hD1, f2⟩ hS1 hl (by dsimp only; omega) (by dsimp only; omega)
set_option maxHeartbeats 1000000 in
theorem ew_iret (F : ev_fr p R s m args meth c0 A G M d w) (hmet : ev_met l G d w C) (hmw : ev_metW l G d w C) : ru_iret G C w M K (ev_W p l e R s m args below meth c0 (MQ below (ev_Qc D A K) args s R.cells R.slots A) D A M) := by
  obtain ⟨hx, hb, hml, hown, hts, hG, hnw, hA, hRf, hRl, hret, hnm, hlk⟩ := F
  intro pc L h c z x ty hd hr1 hn hk  H locs cells slots ls hr hS hl hc hz
  dsimp only at hr hl hc hz ⊢
  exact W.widen (k := R.cells) (n := R.slots) (by omega) (by omega) (W.zret hx hb (hret.trans hr1) hn (fun t ht hW => ev_end hS ht (ev_kend hr hW ht) hk) (fun q hq => hS.2.2 q hq) hd hlk)
set_option maxHeartbeats 1000000 in
theorem ew_lret (F : ev_fr p R s m args meth c0 A G M d w) (hmet : ev_met l G d w C) (hmw : ev_metW l G d w C) : ru_lret G C w M K (ev_W p l e R s m args below meth c0 (MQ below (ev_Qc D A K) args s R.cells R.slots A) D A M) := by
  obtain ⟨hx, hb, hml, hown, hts, hG, hnw, hA, hRf, hRl, hret, hnm, hlk⟩ := F
  intro pc L h c z x hd hr1 hk  H locs cells slots ls hr hS hl hc hz
  dsimp only at hr hl hc hz ⊢
  exact W.widen (k := R.cells) (n := R.slots) (by omega) (by omega) (W.lret hx hb (hret.trans hr1) (fun t ht hW => ev_end hS ht (ev_kend hr hW ht) hk) (fun q hq => hS.2.2 q hq) hd hlk)
set_option maxHeartbeats 1000000 in
theorem ew_aret (F : ev_fr p R s m args meth c0 A G M d w) (hmet : ev_met l G d w C) (hmw : ev_metW l G d w C) : ru_aret G C w M K (ev_W p l e R s m args below meth c0 (MQ below (ev_Qc D A K) args s R.cells R.slots A) D A M) := by
  obtain ⟨hx, hb, hml, hown, hts, hG, hnw, hA, hRf, hRl, hret, hnm, hlk⟩ := F
  intro pc L h c z x ty hd hr1 hrt hk  H locs cells slots ls hr hS hl hc hz
  dsimp only at hr hl hc hz ⊢
  exact W.widen (k := R.cells) (n := R.slots) (by omega) (by omega) (W.aret hx hb (hret.trans hr1) hrt (Or.inr ⟨x, rfl⟩) (fun t ht hW => ev_end hS ht (ev_kend hr hW ht) hk) (fun q hq => hS.2.2 q hq) hd hlk)
set_option maxHeartbeats 1000000 in
theorem ew_vret (F : ev_fr p R s m args meth c0 A G M d w) (hmet : ev_met l G d w C) (hmw : ev_metW l G d w C) : ru_vret G C w M K (ev_W p l e R s m args below meth c0 (MQ below (ev_Qc D A K) args s R.cells R.slots A) D A M) := by
  obtain ⟨hx, hb, hml, hown, hts, hG, hnw, hA, hRf, hRl, hret, hnm, hlk⟩ := F
  intro pc L h c z hd hr1 hk  H locs cells slots ls hr hS hl hc hz
  dsimp only at hr hl hc hz ⊢
  exact W.widen (k := R.cells) (n := R.slots) (by omega) (by omega) (W.vret hx hb (hret.trans hr1) (fun t ht hW => ev_end hS ht (ev_kend hr hW ht) hk) (fun q hq => hS.2.2 q hq) hd hlk)
set_option maxHeartbeats 1000000 in
theorem ew_callV (F : ev_fr p R s m args meth c0 A G M d w) (hmet : ev_met l G d w C) (hmw : ev_metW l G d w C) : ru_callV G C w M K (ev_W p l e R s m args below meth c0 Q D A M) := by
  obtain ⟨hx, hb, hml, hown, hts, hG, hnw, hA, hRf, hRl, hret, hnm, hlk⟩ := F
  intro pc L st h c z i c1 z1 b ci fs N As stk post hd hw hs hq hb1 hci hC hc1 hz1 k H locs cells slots ls hr hS hl hc hz
  dsimp only at hr hl hc hz ⊢
  obtain ⟨w2, hw2, hM⟩ := hmet _ _ _ _ _ _ hC (fun _ _ z => z)
  obtain ⟨ws, tys, hP, hK, hD, hR⟩ := id hr
  subst hs
  replace hc1 := Nat.le_of_ble_eq_true hc1
  replace hz1 := Nat.le_of_ble_eq_true hz1
  obtain ⟨q0, h1⟩ := ev_obj hR hb1
  obtain ⟨w1, w2, w3, w4, w5, w6⟩ := hw
  obtain ⟨qc, hq1, hq2⟩ := Option.map_eq_some_iff.mp hci
  exact ev_back hG hnw hP hK hD hR hS hA (va_runV (As := As) (rest := st) ⟨hx, hb, hml, hown, hts⟩ (hM D ws tys H.size hR) (cwV As.length hts (ev_gV w1 w2 w3 w4 w5) rfl rfl rfl ⟨rfl, w6.1, w6.2.1, w6.2.2⟩ (ev_rmok hRf hRl hw2)) ⟨ev_blind, by have q := va_recv hK hP hq1 h1; rw [hq2] at q; exact q, ev_pre hP hK hD hR hS hA hG hnw⟩ rfl rfl hl.size rfl (lv_room (Nat.le_of_ble_eq_true hq)) hd ⟨by omega, by omega⟩) (fun r h1 H1 locs1 hp hr1 hS1 => k r h1 hp H1 locs1 _ _ ls hr1 hS1 hl (by dsimp only; omega) (by dsimp only; omega))
set_option maxHeartbeats 1000000 in
theorem ew_callS (F : ev_fr p R s m args meth c0 A G M d w) (hmet : ev_met l G d w C) (hmw : ev_metW l G d w C) : ru_callS G C w M K (ev_W p l e R s m args below meth c0 Q D A M) := by
  obtain ⟨hx, hb, hml, hown, hts, hG, hnw, hA, hRf, hRl, hret, hnm, hlk⟩ := F
  intro pc L st h c z i c1 z1 N As stk post hd hw hs hq hC hc1 hz1 k H locs cells slots ls hr hS hl hc hz
  dsimp only at hr hl hc hz ⊢
  obtain ⟨w2, hw2, hM⟩ := hmet _ _ _ _ _ _ hC (fun _ _ z => z)
  obtain ⟨ws, tys, hP, hK, hD, hR⟩ := id hr
  subst hs
  replace hc1 := Nat.le_of_ble_eq_true hc1
  replace hz1 := Nat.le_of_ble_eq_true hz1
  obtain ⟨w1, w2, w4, w5, w6⟩ := hw
  exact ev_back hG hnw hP hK hD hR hS hA (va_runS (As := As) (rest := st) ⟨hx, hb, hml, hown, hts⟩ (hM D ws tys H.size hR) (va_cwS As.length hts (ev_gS w1 w2 w4 w5) rfl rfl rfl ⟨w6.1, w6.2.1, w6.2.2⟩ (ev_rmok hRf hRl hw2)) ⟨ev_blind, ev_pre hP hK hD hR hS hA hG hnw⟩ rfl rfl hl.size rfl (lv_room (Nat.le_of_ble_eq_true hq)) hd ⟨by omega, by omega⟩) (fun r h1 H1 locs1 hp hr1 hS1 => k r h1 hp H1 locs1 _ _ ls hr1 hS1 hl (by dsimp only; omega) (by dsimp only; omega))
set_option maxHeartbeats 1000000 in
theorem ew_callI (F : ev_fr p R s m args meth c0 A G M d w) (hmet : ev_met l G d w C) (hmw : ev_metW l G d w C) : ru_callI G C w M K (ev_W p l e R s m args below meth c0 Q D A M) := by
  obtain ⟨hx, hb, hml, hown, hts, hG, hnw, hA, hRf, hRl, hret, hnm, hlk⟩ := F
  intro pc L st h c z i c1 z1 b N As stk post hd hw hs hq hC hc1 hz1 k H locs cells slots ls hr hS hl hc hz
  dsimp only at hr hl hc hz ⊢
  obtain ⟨w2, hw2, hM⟩ := hmet _ _ _ _ _ _ hC (fun _ _ z => z)
  obtain ⟨ws, tys, hP, hK, hD, hR⟩ := id hr
  subst hs
  replace hc1 := Nat.le_of_ble_eq_true hc1
  replace hz1 := Nat.le_of_ble_eq_true hz1
  obtain ⟨w1, w2, w4, w5, w7, w8, w6⟩ := hw
  obtain ⟨Ny, Nb, Nl, Nr⟩ := N
  cases (show Nr = none from w8)
  exact ev_back hG hnw hP hK hD hR hS hA (va_runI (As := As) (rest := st) ⟨hx, hb, hml, hown, hts⟩ (hM D ws tys H.size hR) (cwI As.length hts (ev_gI w5) rfl rfl rfl (hts _ w4) (hts _ w1) (hts _ w2) w7 ⟨w6.1, w6.2.1, w6.2.2⟩ (ev_rmok hRf hRl hw2)) ⟨ev_blind, ev_pre hP hK hD hR hS hA hG hnw⟩ rfl rfl hl.size rfl (lv_room (Nat.le_of_ble_eq_true hq)) hd ⟨by omega, by omega⟩) (fun r h1 H1 locs1 hp hr1 hS1 => k r h1 hp H1 locs1 _ _ ls hr1 hS1 hl (by dsimp only; omega) (by dsimp only; omega))
set_option maxHeartbeats 1000000 in
theorem ew_callIN (F : ev_fr p R s m args meth c0 A G M d w) (hmet : ev_met l G d w C) (hmw : ev_metW l G d w C) : ru_callIN G C w M K (ev_W p l e R s m args below meth c0 Q D A M) := by
  obtain ⟨hx, hb, hml, hown, hts, hG, hnw, hA, hRf, hRl, hret, hnm, hlk⟩ := F
  intro pc L st h c z i c1 z1 b N As stk post hd hw hs hq hC hc1 hz1 k H locs cells slots ls hr hS hl hc hz
  dsimp only at hr hl hc hz ⊢
  obtain ⟨w2, hw2, hM⟩ := hmet _ _ _ _ _ _ hC (fun _ _ z => z)
  obtain ⟨ws, tys, hP, hK, hD, hR⟩ := id hr
  subst hs
  replace hc1 := Nat.le_of_ble_eq_true hc1
  replace hz1 := Nat.le_of_ble_eq_true hz1
  obtain ⟨host, w1, w2, w4, w5, w7, w8, w6⟩ := hw
  obtain ⟨Ny, Nb, Nl, Nr⟩ := N
  cases (show Nr = none from w8)
  exact ev_back hG hnw hP hK hD hR hS hA (va_runIN (As := As) (rest := st) ⟨hx, hb, hml, hown, hts⟩ (hM D ws tys H.size hR) ⟨va_cnB As.length hts (ev_gI w5) rfl rfl rfl (hnw _ w1) (hts _ w4) ⟨w6.1, w6.2.1, w6.2.2⟩ (ev_rmok hRf hRl hw2), w7, hts _ w2⟩ ⟨ev_blind, ev_pre hP hK hD hR hS hA hG hnw⟩ rfl rfl hl.size rfl (lv_room (Nat.le_of_ble_eq_true hq)) hd ⟨by omega, by omega⟩) (fun r h1 H1 locs1 hp hr1 hS1 => k r h1 hp H1 locs1 _ _ ls hr1 hS1 hl (by dsimp only; omega) (by dsimp only; omega))
set_option maxHeartbeats 1000000 in
theorem ew_callVf (F : ev_fr p R s m args meth c0 A G M d w) (hmet : ev_met l G d w C) (hmw : ev_metW l G d w C) : ru_callVf G C w M K (ev_W p l e R s m args below meth c0 Q D A M) := by
  obtain ⟨hx, hb, hml, hown, hts, hG, hnw, hA, hRf, hRl, hret, hnm, hlk⟩ := F
  intro pc L st h c z i c1 z1 b ci fs N As stk post hs hf hd hw hsk hq hb1 hci hC hc1 hz1 hj hdj k H locs cells slots ls hr hS hl hc hz
  dsimp only at hr hl hc hz ⊢
  obtain ⟨w2, hw2, hM⟩ := hmet _ _ _ _ _ _ hC (fun _ _ z => z)
  obtain ⟨ws0, tys, hP0, hK, hD0, hR0⟩ := id hr
  obtain ⟨ws, wf, hP, hD, hR, hPf, hDf, hRg, hdf⟩ := ev_frame hP0 hD0 hR0 hj hdj
  subst hsk
  replace hc1 := Nat.le_of_ble_eq_true hc1
  replace hz1 := Nat.le_of_ble_eq_true hz1
  obtain ⟨q0, h1⟩ := ev_obj hR hb1
  obtain ⟨w1, w2, w3, w4, w5, w6⟩ := hw
  obtain ⟨qc, hq1, hq2⟩ := Option.map_eq_some_iff.mp hci
  exact ev_backF hPf hDf hRg hdf hK hG hnw hP hK hD hR hS hA (va_runV (As := As) (rest := st) ⟨hx, hb, hml, hown, hts⟩ (hM D ws tys H.size hR) (cwV As.length hts (ev_gV w1 w2 w3 w4 w5) rfl rfl rfl ⟨rfl, w6.1, w6.2.1, w6.2.2⟩ (ev_rmok hRf hRl hw2)) ⟨ev_blind, by have q := va_recv hK hP hq1 h1; rw [hq2] at q; exact q, ev_pre hP hK hD hR hS hA hG hnw⟩ rfl rfl hl.size rfl (lv_room (Nat.le_of_ble_eq_true hq)) hd ⟨by omega, by omega⟩) (fun r h1 H1 locs1 hp hpq hr1 hS1 => k r h1 hp hpq H1 locs1 _ _ ls hr1 hS1 hl (by dsimp only; omega) (by dsimp only; omega))
set_option maxHeartbeats 1000000 in
theorem ew_callIf (F : ev_fr p R s m args meth c0 A G M d w) (hmet : ev_met l G d w C) (hmw : ev_metW l G d w C) : ru_callIf G C w M K (ev_W p l e R s m args below meth c0 Q D A M) := by
  obtain ⟨hx, hb, hml, hown, hts, hG, hnw, hA, hRf, hRl, hret, hnm, hlk⟩ := F
  intro pc L st h c z i c1 z1 b N As stk post hs hf hd hw hsk hq hC hc1 hz1 hj hdj k H locs cells slots ls hr hS hl hc hz
  dsimp only at hr hl hc hz ⊢
  obtain ⟨w2, hw2, hM⟩ := hmet _ _ _ _ _ _ hC (fun _ _ z => z)
  obtain ⟨ws0, tys, hP0, hK, hD0, hR0⟩ := id hr
  obtain ⟨ws, wf, hP, hD, hR, hPf, hDf, hRg, hdf⟩ := ev_frame hP0 hD0 hR0 hj hdj
  subst hsk
  replace hc1 := Nat.le_of_ble_eq_true hc1
  replace hz1 := Nat.le_of_ble_eq_true hz1
  obtain ⟨w1, w2, w4, w5, w7, w8, w6⟩ := hw
  obtain ⟨Ny, Nb, Nl, Nr⟩ := N
  cases (show Nr = none from w8)
  exact ev_backF hPf hDf hRg hdf hK hG hnw hP hK hD hR hS hA (va_runI (As := As) (rest := st) ⟨hx, hb, hml, hown, hts⟩ (hM D ws tys H.size hR) (cwI As.length hts (ev_gI w5) rfl rfl rfl (hts _ w4) (hts _ w1) (hts _ w2) w7 ⟨w6.1, w6.2.1, w6.2.2⟩ (ev_rmok hRf hRl hw2)) ⟨ev_blind, ev_pre hP hK hD hR hS hA hG hnw⟩ rfl rfl hl.size rfl (lv_room (Nat.le_of_ble_eq_true hq)) hd ⟨by omega, by omega⟩) (fun r h1 H1 locs1 hp hpq hr1 hS1 => k r h1 hp hpq H1 locs1 _ _ ls hr1 hS1 hl (by dsimp only; omega) (by dsimp only; omega))
set_option maxHeartbeats 1000000 in
theorem ew_callSW (F : ev_fr p R s m args meth c0 A G M d w) (hmet : ev_met l G d w C) (hmw : ev_metW l G d w C) : ru_callSW G C w M K (ev_W p l e R s m args below meth c0 Q D A M) := by
  obtain ⟨hx, hb, hml, hown, hts, hG, hnw, hA, hRf, hRl, hret, hnm, hlk⟩ := F
  intro pc L st h c z i c1 z1 N As stk post hh hd hw hs hq hC hc1 hz1 k H locs cells slots ls hr hS hl hc hz
  dsimp only at hr hl hc hz ⊢
  obtain ⟨ws, tys, hP, hK, hD, hR⟩ := id hr
  subst hs
  replace hc1 := Nat.le_of_ble_eq_true hc1
  replace hz1 := Nat.le_of_ble_eq_true hz1
  obtain ⟨w1, w2, w4, w5, w6⟩ := hw
  obtain ⟨w2x, hw2x, hMx⟩ := hmw _ hh _ _ _ _ _ hC (fun _ _ z => z) w5
  exact ev_back hG hnw hP hK hD hR hS hA (vx_runSW (As := As) (rest := st) ⟨hx, hb, hml, hown, hts⟩ (hMx D ws tys H.size hR) (vx_cwSW As.length hts (ev_gSW w1 w2 w4 w5) rfl rfl rfl ⟨w6.1, w6.2.1, w6.2.2⟩ (ev_rmok hRf hRl hw2x)) ⟨ev_blind, ev_pre hP hK hD hR hS hA hG hnw⟩ rfl rfl hl.size rfl (lv_room (Nat.le_of_ble_eq_true hq)) hd ⟨by omega, by omega⟩) (fun r h1 H1 locs1 hp hr1 hS1 => k r h1 hp H1 locs1 _ _ ls hr1 hS1 hl (by dsimp only; omega) (by dsimp only; omega))
set_option maxHeartbeats 1000000 in
theorem ew_callSWf (F : ev_fr p R s m args meth c0 A G M d w) (hmet : ev_met l G d w C) (hmw : ev_metW l G d w C) : ru_callSWf G C w M K (ev_W p l e R s m args below meth c0 Q D A M) := by
  obtain ⟨hx, hb, hml, hown, hts, hG, hnw, hA, hRf, hRl, hret, hnm, hlk⟩ := F
  intro pc L st h c z i c1 z1 N As stk post hh hs hf hd hw hsk hq hC hc1 hz1 hj hdj k H locs cells slots ls hr hS hl hc hz
  dsimp only at hr hl hc hz ⊢
  obtain ⟨ws0, tys, hP0, hK, hD0, hR0⟩ := id hr
  obtain ⟨ws, wf, hP, hD, hR, hPf, hDf, hRg, hdf⟩ := ev_frame hP0 hD0 hR0 hj hdj
  subst hsk
  replace hc1 := Nat.le_of_ble_eq_true hc1
  replace hz1 := Nat.le_of_ble_eq_true hz1
  obtain ⟨w1, w2, w4, w5, w6⟩ := hw
  obtain ⟨w2x, hw2x, hMx⟩ := hmw _ hh _ _ _ _ _ hC (fun _ _ z => z) w5
  exact ev_backF hPf hDf hRg hdf hK hG hnw hP hK hD hR hS hA (vx_runSW (As := As) (rest := st) ⟨hx, hb, hml, hown, hts⟩ (hMx D ws tys H.size hR) (vx_cwSW As.length hts (ev_gSW w1 w2 w4 w5) rfl rfl rfl ⟨w6.1, w6.2.1, w6.2.2⟩ (ev_rmok hRf hRl hw2x)) ⟨ev_blind, ev_pre hP hK hD hR hS hA hG hnw⟩ rfl rfl hl.size rfl (lv_room (Nat.le_of_ble_eq_true hq)) hd ⟨by omega, by omega⟩) (fun r h1 H1 locs1 hp hpq hr1 hS1 => k r h1 hp hpq H1 locs1 _ _ ls hr1 hS1 hl (by dsimp only; omega) (by dsimp only; omega))
set_option maxHeartbeats 1000000 in
theorem ew_objInit (F : ev_fr p R s m args meth c0 A G M d w) (hmet : ev_met l G d w C) (hmw : ev_metW l G d w C) : ru_objInit G C w M K (ev_W p l e R s m args below meth c0 Q D A M) := by
  obtain ⟨hx, hb, hml, hown, hts, hG, hnw, hA, hRf, hRl, hret, hnm, hlk⟩ := F
  intro pc L st h c z i a hd hw hq hw9 k H locs cells slots ls hr hS hl hc hz
  dsimp only at hr hl hc hz ⊢
  exact W.objInit hx hb hown (hts _ hw.1) (hts _ hw.2.1) (hts _ hw.2.2) rfl (hl.size.trans hml.symm) rfl hd (by omega) (by have := Nat.le_of_ble_eq_true hq; show 2 * 0 + _ + 12 ≤ _; omega) (k H locs cells slots ls hr hS hl hc hz)
set_option maxHeartbeats 1000000 in
theorem ew_mmax (F : ev_fr p R s m args meth c0 A G M d w) (hmet : ev_met l G d w C) (hmw : ev_metW l G d w C) : ru_mmax G C w M K (ev_W p l e R s m args below meth c0 Q D A M) := by
  obtain ⟨hx, hb, hml, hown, hts, hG, hnw, hA, hRf, hRl, hret, hnm, hlk⟩ := F
  intro pc L st h c z i x y hd hw hq hw9 k H locs cells slots ls hr hS hl hc hz
  dsimp only at hr hl hc hz ⊢
  exact va_mmax hx hb (hml.trans hl.size.symm) hown (hts _ hw.1) (hts _ hw.2.1) (hts _ hw.2.2.1) (hts _ hw.2.2.2) (by omega) (by have := Nat.le_of_ble_eq_true hq; omega) (by omega) (by omega) hd (k H locs cells slots ls hr hS hl hc hz)
set_option maxHeartbeats 1000000 in
theorem ew_mmin (F : ev_fr p R s m args meth c0 A G M d w) (hmet : ev_met l G d w C) (hmw : ev_metW l G d w C) : ru_mmin G C w M K (ev_W p l e R s m args below meth c0 Q D A M) := by
  obtain ⟨hx, hb, hml, hown, hts, hG, hnw, hA, hRf, hRl, hret, hnm, hlk⟩ := F
  intro pc L st h c z i x y hd hw hq hw9 k H locs cells slots ls hr hS hl hc hz
  dsimp only at hr hl hc hz ⊢
  exact va_mmin hx hb (hml.trans hl.size.symm) hown (hts _ hw.1) (hts _ hw.2.1) (hts _ hw.2.2.1) (hts _ hw.2.2.2) (by omega) (by have := Nat.le_of_ble_eq_true hq; omega) (by omega) (by omega) hd (k H locs cells slots ls hr hS hl hc hz)
set_option maxHeartbeats 1000000 in
theorem ew_mmaxl (F : ev_fr p R s m args meth c0 A G M d w) (hmet : ev_met l G d w C) (hmw : ev_metW l G d w C) : ru_mmaxl G C w M K (ev_W p l e R s m args below meth c0 Q D A M) := by
  obtain ⟨hx, hb, hml, hown, hts, hG, hnw, hA, hRf, hRl, hret, hnm, hlk⟩ := F
  intro pc L st h c z i x y hd hw hq hw9 k H locs cells slots ls hr hS hl hc hz
  dsimp only at hr hl hc hz ⊢
  exact va_mmax_long hx hb (hml.trans hl.size.symm) hown (hts _ hw.1) (hts _ hw.2.1) (hts _ hw.2.2.1) (hts _ hw.2.2.2) (by omega) (by have := Nat.le_of_ble_eq_true hq; omega) (by omega) (by omega) hd (k H locs cells slots ls hr hS hl hc hz)
set_option maxHeartbeats 1000000 in
theorem ew_mminl (F : ev_fr p R s m args meth c0 A G M d w) (hmet : ev_met l G d w C) (hmw : ev_metW l G d w C) : ru_mminl G C w M K (ev_W p l e R s m args below meth c0 Q D A M) := by
  obtain ⟨hx, hb, hml, hown, hts, hG, hnw, hA, hRf, hRl, hret, hnm, hlk⟩ := F
  intro pc L st h c z i x y hd hw hq hw9 k H locs cells slots ls hr hS hl hc hz
  dsimp only at hr hl hc hz ⊢
  exact va_mmin_long hx hb (hml.trans hl.size.symm) hown (hts _ hw.1) (hts _ hw.2.1) (hts _ hw.2.2.1) (hts _ hw.2.2.2) (by omega) (by have := Nat.le_of_ble_eq_true hq; omega) (by omega) (by omega) hd (k H locs cells slots ls hr hS hl hc hz)
set_option maxHeartbeats 1000000 in
theorem ew_copyi (F : ev_fr p R s m args meth c0 A G M d w) (hmet : ev_met l G d w C) (hmw : ev_metW l G d w C) : ru_copyi G C w M K (ev_W p l e R s m args below meth c0 Q D A M) := by
  obtain ⟨hx, hb, hml, hown, hts, hG, hnw, hA, hRf, hRl, hret, hnm, hlk⟩ := F
  intro pc L st h c z i a0 a n0 n1 f g sp dp n hd hw hq hw9 ha0 ha h1 h2 h3 h4 h5 k H locs cells slots ls hr hS hl hc hz
  dsimp only at hr hl hc hz ⊢
  obtain ⟨ws, tys, hP, hK, hD, hR⟩ := id hr
  obtain ⟨q0, cA0, t0, g1, g2⟩ := ev_arr hR ha0
  obtain ⟨q1, cA1, t1, g3, g4⟩ := ev_arr hR ha
  exact va_copyi hx hb (hml.trans hl.size.symm) hown (hts _ hw.1) (hts _ hw.2.1) (hts _ hw.2.2.1) (hts _ hw.2.2.2) hK hP hD hS q0 q1 t0 t1 g1 g3 g2 g4 rfl h1 h2 h3 h4 h5 (fun _ _ => rfl) (by omega) (by have := Nat.le_of_ble_eq_true hq; have e5 : nativeFrameWords "java/lang/System" "arraycopy" 5 + 11 = 18 := (by decide +kernel); omega) hd (fun H1 locs1 hP1 hD1 hS1 => k H1 locs1 cells slots ls ⟨_, tys, hP1, hK, hD1, ev_set hD hR g3 ⟨rfl, t1, g4⟩⟩ hS1 hl hc hz)
set_option maxHeartbeats 1000000 in
theorem ew_copyl (F : ev_fr p R s m args meth c0 A G M d w) (hmet : ev_met l G d w C) (hmw : ev_metW l G d w C) : ru_copyl G C w M K (ev_W p l e R s m args below meth c0 Q D A M) := by
  obtain ⟨hx, hb, hml, hown, hts, hG, hnw, hA, hRf, hRl, hret, hnm, hlk⟩ := F
  intro pc L st h c z i a0 a n0 n1 f g sp dp n hd hw hq hw9 ha0 ha h1 h2 h3 h4 h5 k H locs cells slots ls hr hS hl hc hz
  dsimp only at hr hl hc hz ⊢
  obtain ⟨ws, tys, hP, hK, hD, hR⟩ := id hr
  obtain ⟨q0, cA0, t0, g1, g2⟩ := ev_arr hR ha0
  obtain ⟨q1, cA1, t1, g3, g4⟩ := ev_arr hR ha
  exact va_copyl hx hb (hml.trans hl.size.symm) hown (hts _ hw.1) (hts _ hw.2.1) (hts _ hw.2.2.1) (hts _ hw.2.2.2) hK hP hD hS q0 q1 t0 t1 g1 g3 g2 g4 rfl h1 h2 h3 h4 h5 (fun _ _ => rfl) (by omega) (by have := Nat.le_of_ble_eq_true hq; have e5 : nativeFrameWords "java/lang/System" "arraycopy" 5 + 11 = 18 := (by decide +kernel); omega) hd (fun H1 locs1 hP1 hD1 hS1 => k H1 locs1 cells slots ls ⟨_, tys, hP1, hK, hD1, ev_set hD hR g3 ⟨rfl, t1, g4⟩⟩ hS1 hl hc hz)
set_option maxHeartbeats 1000000 in
theorem ew_wk (F : ev_fr p R s m args meth c0 A G M d w) (hmet : ev_met l G d w C) (hmw : ev_metW l G d w C) : ru_wk G C w M K (ev_W p l e R s m args below meth c0 Q D A M) := by
  obtain ⟨hx, hb, hml, hown, hts, hG, hnw, hA, hRf, hRl, hret, hnm, hlk⟩ := F
  intro pc L st h c z L2 hw k H locs cells slots ls hr hS hl hc hz
  dsimp only at hr hl hc hz ⊢
  obtain ⟨lv, hv1, hv2⟩ := hl
  exact k H locs cells slots ls hr hS ⟨lv, hv1, fun i v q => hv2 i v (hw i v q)⟩ hc hz
set_option maxHeartbeats 1000000 in
theorem ew_hw (F : ev_fr p R s m args meth c0 A G M d w) (hmet : ev_met l G d w C) (hmw : ev_metW l G d w C) : ru_hw G C w M K (ev_W p l e R s m args below meth c0 Q D A M) := by
  obtain ⟨hx, hb, hml, hown, hts, hG, hnw, hA, hRf, hRl, hret, hnm, hlk⟩ := F
  intro pc L st h c z h2 hw k H locs cells slots ls hr hS hl hc hz
  dsimp only at hr hl hc hz ⊢
  obtain ⟨ws, tys, hP, hK, hD, hR⟩ := id hr
  exact k H locs cells slots ls ⟨ws, tys, hP, hK, hD, fun q x e => hR q x (hw q x e)⟩ hS hl hc hz
set_option maxHeartbeats 1000000 in
theorem ew_cw (F : ev_fr p R s m args meth c0 A G M d w) (hmet : ev_met l G d w C) (hmw : ev_metW l G d w C) : ru_cw G C w M K (ev_W p l e R s m args below meth c0 Q D A M) := by
  obtain ⟨hx, hb, hml, hown, hts, hG, hnw, hA, hRf, hRl, hret, hnm, hlk⟩ := F
  intro pc L st h c z c2 z2 h1 h2 k H locs cells slots ls hr hS hl hc hz
  dsimp only at hr hl hc hz ⊢
  exact k H locs cells slots ls hr hS hl (by dsimp only; omega) (by dsimp only; omega)
/-- all rules but the ends -/
theorem ew_all (F : ev_fr p R s m args meth c0 A G M d w) (hmet : ev_met l G d w C) (hmw : ev_metW l G d w C) (h_iret : ru_iret G C w M K (ev_W p l e R s m args below meth c0 Q D A M)) (h_lret : ru_lret G C w M K (ev_W p l e R s m args below meth c0 Q D A M)) (h_aret : ru_aret G C w M K (ev_W p l e R s m args below meth c0 Q D A M)) (h_vret : ru_vret G C w M K (ev_W p l e R s m args below meth c0 Q D A M)) (h_stop : ru_stop G C w M K (ev_W p l e R s m args below meth c0 Q D A M)) : ∀ n, ev_ru G C w M K (ev_W p l e R s m args below meth c0 Q D A M) n
  | 0 => ew_iconst (K := K) F hmet hmw
  | 1 => ew_bipush (K := K) F hmet hmw
  | 2 => ew_sipush (K := K) F hmet hmw
  | 3 => ew_lconst (K := K) F hmet hmw
  | 4 => ew_null (K := K) F hmet hmw
  | 5 => ew_ldc (K := K) F hmet hmw
  | 6 => ew_ldc2 (K := K) F hmet hmw
  | 7 => ew_ldcw (K := K) F hmet hmw
  | 8 => ew_iload_n (K := K) F hmet hmw
  | 9 => ew_iload (K := K) F hmet hmw
  | 10 => ew_istore_n (K := K) F hmet hmw
  | 11 => ew_istore (K := K) F hmet hmw
  | 12 => ew_lload_n (K := K) F hmet hmw
  | 13 => ew_lload (K := K) F hmet hmw
  | 14 => ew_lstore_n (K := K) F hmet hmw
  | 15 => ew_lstore (K := K) F hmet hmw
  | 16 => ew_aload_n (K := K) F hmet hmw
  | 17 => ew_aload (K := K) F hmet hmw
  | 18 => ew_astore_n (K := K) F hmet hmw
  | 19 => ew_astore (K := K) F hmet hmw
  | 20 => ew_iinc (K := K) F hmet hmw
  | 21 => ew_iadd (K := K) F hmet hmw
  | 22 => ew_isub (K := K) F hmet hmw
  | 23 => ew_imul (K := K) F hmet hmw
  | 24 => ew_iand (K := K) F hmet hmw
  | 25 => ew_ior (K := K) F hmet hmw
  | 26 => ew_ixor (K := K) F hmet hmw
  | 27 => ew_ishl (K := K) F hmet hmw
  | 28 => ew_ishr (K := K) F hmet hmw
  | 29 => ew_iushr (K := K) F hmet hmw
  | 30 => ew_idiv (K := K) F hmet hmw
  | 31 => ew_irem (K := K) F hmet hmw
  | 32 => ew_ineg (K := K) F hmet hmw
  | 33 => ew_ladd (K := K) F hmet hmw
  | 34 => ew_lsub (K := K) F hmet hmw
  | 35 => ew_lmul (K := K) F hmet hmw
  | 36 => ew_land (K := K) F hmet hmw
  | 37 => ew_lor (K := K) F hmet hmw
  | 38 => ew_lxor (K := K) F hmet hmw
  | 39 => ew_ldiv (K := K) F hmet hmw
  | 40 => ew_lrem (K := K) F hmet hmw
  | 41 => ew_lshl (K := K) F hmet hmw
  | 42 => ew_lshr (K := K) F hmet hmw
  | 43 => ew_lushr (K := K) F hmet hmw
  | 44 => ew_lneg (K := K) F hmet hmw
  | 45 => ew_i2l (K := K) F hmet hmw
  | 46 => ew_l2i (K := K) F hmet hmw
  | 47 => ew_i2c (K := K) F hmet hmw
  | 48 => ew_i2b (K := K) F hmet hmw
  | 49 => ew_lcmp (K := K) F hmet hmw
  | 50 => ew_dup (K := K) F hmet hmw
  | 51 => ew_pop (K := K) F hmet hmw
  | 52 => ew_dup_x1 (K := K) F hmet hmw
  | 53 => ew_dup_x2 (K := K) F hmet hmw
  | 54 => ew_dup2_11 (K := K) F hmet hmw
  | 55 => ew_dup2_2 (K := K) F hmet hmw
  | 56 => ew_pop2_2 (K := K) F hmet hmw
  | 57 => ew_dup2_x1_2 (K := K) F hmet hmw
  | 58 => ew_dup2_x2_2 (K := K) F hmet hmw
  | 59 => ew_if_eq (K := K) F hmet hmw
  | 60 => ew_icmp_eq (K := K) F hmet hmw
  | 61 => ew_if_ne (K := K) F hmet hmw
  | 62 => ew_icmp_ne (K := K) F hmet hmw
  | 63 => ew_if_lt (K := K) F hmet hmw
  | 64 => ew_icmp_lt (K := K) F hmet hmw
  | 65 => ew_if_ge (K := K) F hmet hmw
  | 66 => ew_icmp_ge (K := K) F hmet hmw
  | 67 => ew_if_gt (K := K) F hmet hmw
  | 68 => ew_icmp_gt (K := K) F hmet hmw
  | 69 => ew_if_le (K := K) F hmet hmw
  | 70 => ew_icmp_le (K := K) F hmet hmw
  | 71 => ew_goto (K := K) F hmet hmw
  | 72 => ew_tableIn (K := K) F hmet hmw
  | 73 => ew_tableOut (K := K) F hmet hmw
  | 74 => ew_iald (K := K) F hmet hmw
  | 75 => ew_cald (K := K) F hmet hmw
  | 76 => ew_bald (K := K) F hmet hmw
  | 77 => ew_zald (K := K) F hmet hmw
  | 78 => ew_lald (K := K) F hmet hmw
  | 79 => ew_aald (K := K) F hmet hmw
  | 80 => ew_iast (K := K) F hmet hmw
  | 81 => ew_cast (K := K) F hmet hmw
  | 82 => ew_zast (K := K) F hmet hmw
  | 83 => ew_bast (K := K) F hmet hmw
  | 84 => ew_last (K := K) F hmet hmw
  | 85 => ew_alen (K := K) F hmet hmw
  | 86 => ew_riald (K := K) F hmet hmw
  | 87 => ew_ralen (K := K) F hmet hmw
  | 88 => ew_gets (K := K) F hmet hmw
  | 89 => ew_getf (K := K) F hmet hmw
  | 90 => ew_putf (K := K) F hmet hmw
  | 91 => ew_putF (K := K) F hmet hmw
  | 92 => ew_newi (K := K) F hmet hmw
  | 93 => ew_newc (K := K) F hmet hmw
  | 94 => ew_newl (K := K) F hmet hmw
  | 95 => ew_newz (K := K) F hmet hmw
  | 96 => ew_new (K := K) F hmet hmw
  | 97 => h_iret
  | 98 => h_lret
  | 99 => h_aret
  | 100 => h_vret
  | 101 => h_stop
  | 102 => ew_callV (K := K) F hmet hmw
  | 103 => ew_callS (K := K) F hmet hmw
  | 104 => ew_callI (K := K) F hmet hmw
  | 105 => ew_callIN (K := K) F hmet hmw
  | 106 => ew_callVf (K := K) F hmet hmw
  | 107 => ew_callIf (K := K) F hmet hmw
  | 108 => ew_callSW (K := K) F hmet hmw
  | 109 => ew_callSWf (K := K) F hmet hmw
  | 110 => ew_objInit (K := K) F hmet hmw
  | 111 => ew_mmax (K := K) F hmet hmw
  | 112 => ew_mmin (K := K) F hmet hmw
  | 113 => ew_mmaxl (K := K) F hmet hmw
  | 114 => ew_mminl (K := K) F hmet hmw
  | 115 => ew_copyi (K := K) F hmet hmw
  | 116 => ew_copyl (K := K) F hmet hmw
  | 117 => ew_wk (K := K) F hmet hmw
  | 118 => ew_hw (K := K) F hmet hmw
  | 119 => ew_cw (K := K) F hmet hmw
  | _ + 120 => trivial
end EVW
set_option maxHeartbeats 1000000 in
/-- a call that the rules allow is a contract -/
theorem ev_meets (l : Launch) (G : ev_G) : ∀ d w N args h c z K, ev_Ca G d w N args h c z K → (∀ x y, ¬ K (.inr x) y) → ∀ (D : va_G) (ws : va_W) (tys : List (ClassId × FieldType)) (sz : Nat), ev_hr tys h ws → Met l N.1 (ev_code N :: ev_ws) (ev_rm d w c z) (ev_Pc D G ws tys sz args) (ev_Qc D (va_A ws sz) K) c z (va_A ws sz) ∧ ∀ hh, Met l N.1 (Cond.codeWith N.1 N.2.1 N.2.2.1 N.2.2.2 hh :: ev_ws) (ev_rm d w c z) (ev_Pc D G ws tys sz args) (ev_Qc D (va_A ws sz) K) c z (va_A ws sz)
  | 0, w => fun N args h c z K hC => hC.elim
  | d + 1, w => by
    intro N args h c z K hC hns D ws tys sz hR
    obtain ⟨hpl, hle, hE⟩ := hC
    have hm : ev_met l G d w (fun N a2 h2 c2 z2 K2 => 19 + N.2.2.1 ≤ w ∧ ev_Ca G d (w - (19 + N.2.2.1)) N a2 h2 c2 z2 K2) := fun N2 a2 h2 c2 z2 K2 q n => ⟨w - (19 + N2.2.2.1), by have := q.1; omega, fun D ws tys sz r => (ev_meets l G d (w - (19 + N2.2.2.1)) N2 a2 h2 c2 z2 K2 q.2 n D ws tys sz r).1⟩
    have hmw : ev_metW l G d w (fun N a2 h2 c2 z2 K2 => 19 + N.2.2.1 ≤ w ∧ ev_Ca G d (w - (19 + N.2.2.1)) N a2 h2 c2 z2 K2) := fun N2 hh a2 h2 c2 z2 K2 q n _ => ⟨w - (19 + N2.2.2.1), by have := q.1; omega, fun D ws tys sz r => (ev_meets l G d (w - (19 + N2.2.2.1)) N2 a2 h2 c2 z2 K2 q.2 n D ws tys sz r).2 hh⟩
    have key : ∀ (hw : Cond) (p : Program) (e : Env) (s : State) (m : MethodId) (args0 : Array Value) (below : List Frame) (meth : Method) (c0 : Code) (s₁ : State), BodyLoose p l N.1 (headSpec (hw :: ev_ws) (ev_rm (d + 1) w c z)) N.2.1 N.2.2.1 N.2.2.2 e s m args0 below meth c0 s₁ → c0.maxLocals = N.2.2.1 → ev_Pc D G ws tys sz args args0 s → W p l e (headSpec (hw :: ev_ws) (ev_rm (d + 1) w c z)).room s m args0 below meth c0 s.heap [] 0 0 (MQ below (ev_Qc D (va_A ws sz) K) args0 s c z (va_A ws sz)) (entryFrame m args0 N.2.2.1) := by
      intro hw p e s m args0 below meth c0 s₁ B hml hv
      obtain ⟨rfl, hsz, hP, hK, hD0, hG, hN⟩ := hv
      have hts := atoms_spec (ws := hw :: ev_ws) B.pre
      subst hsz
      have F : ev_fr p (headSpec (hw :: ev_ws) (ev_rm (d + 1) w c z)).room s m args.toArray meth c0 (va_A ws s.heap.size) G N d w := ⟨B.exec, B.bytes, hml, findClass_of_methodNamed B.named, fun w hw => hts w (List.mem_cons_of_mem _ hw), hG, hN, fun q hq => Or.inr hq, Nat.le_refl _, Nat.le_refl _, B.returns, (name_of_methodNamed B.named B.method).1, B.notSynchronized⟩
      have h1 := hE (ev_W p l e (headSpec (hw :: ev_ws) (ev_rm (d + 1) w c z)).room s m args.toArray below meth c0 (MQ below (ev_Qc D (va_A ws s.heap.size) K) args.toArray s c z (va_A ws s.heap.size)) D (va_A ws s.heap.size) N)
        (ew_all F hm hmw (ew_iret (K := K) F hm hmw) (ew_lret (K := K) F hm hmw) (ew_aret (K := K) F hm hmw) (ew_vret (K := K) F hm hmw) (fun hk => absurd hk (hns _ _)))
      have hl := lv_entry args (n := N.2.2.1) (Nat.le_of_ble_eq_true hle)
      rw [lg_entry_eq]
      exact h1 s.heap [] 0 0 _ ⟨ws, tys, hP, hK, hD0.self, hR⟩ va_S.rf ⟨_, hl, fun i v q => ev_lfm q⟩ (by show 0 + c ≤ c; omega) (by show 0 + z ≤ z; omega)
    exact ⟨Met.ofW (cc := N.2.1) (maxL := N.2.2.1) (ret := N.2.2.2) hpl rfl (key _), fun hh => va_MetW (cc := N.2.1) (maxL := N.2.2.1) (ret := N.2.2.2) (hh := hh) hpl rfl (key _)⟩
end
